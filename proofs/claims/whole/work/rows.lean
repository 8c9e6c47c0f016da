section
-- ===== PART A: goes FIRST, ahead of the names: the tables' words, and 'selects' of the private methods out of them =====
/-- a private method of a class that the tables say can be made, by its rows of tables_1 -/
def lw_okq (q : MethodName × Nat) : Prop := (q.1.cls ≠ "java/lang/invoke/MethodHandle" ∧ q.1.cls ≠ "java/lang/invoke/VarHandle") ∧ Cond.instantiable q.1.cls q.2 ∈ tables_1 ∧ Cond.privateMethod q.1 ∈ tables_1 ∧ Cond.instanceMethod q.1 ∈ tables_1
theorem lw_p0 : lw_okq (⟨"OddUmbrellas", "keepState", "()V"⟩, 10) := ⟨⟨by decide +kernel, by decide +kernel⟩, List.mem_of_getElem? (i := 15) (by decide +kernel), List.mem_of_getElem? (i := 174) (by decide +kernel), List.mem_of_getElem? (i := 175) (by decide +kernel)⟩
theorem lw_p1 : lw_okq (⟨"OddUmbrellas$Office", "addTo", "(II)V"⟩, 5) := ⟨⟨by decide +kernel, by decide +kernel⟩, List.mem_of_getElem? (i := 23) (by decide +kernel), List.mem_of_getElem? (i := 196) (by decide +kernel), List.mem_of_getElem? (i := 197) (by decide +kernel)⟩
theorem lw_p2 : lw_okq (⟨"OddUmbrellas", "recorded", "(I)I"⟩, 10) := ⟨⟨by decide +kernel, by decide +kernel⟩, List.mem_of_getElem? (i := 15) (by decide +kernel), List.mem_of_getElem? (i := 204) (by decide +kernel), List.mem_of_getElem? (i := 205) (by decide +kernel)⟩
theorem lw_p3 : lw_okq (⟨"OddUmbrellas", "forgetOldestState", "()V"⟩, 10) := ⟨⟨by decide +kernel, by decide +kernel⟩, List.mem_of_getElem? (i := 15) (by decide +kernel), List.mem_of_getElem? (i := 208) (by decide +kernel), List.mem_of_getElem? (i := 209) (by decide +kernel)⟩
theorem lw_p4 : lw_okq (⟨"OddUmbrellas$Office", "growOlder", "(LOddUmbrellas$Rows;)V"⟩, 5) := ⟨⟨by decide +kernel, by decide +kernel⟩, List.mem_of_getElem? (i := 23) (by decide +kernel), List.mem_of_getElem? (i := 275) (by decide +kernel), List.mem_of_getElem? (i := 276) (by decide +kernel)⟩
theorem lw_p5 : lw_okq (⟨"OddUmbrellas$Office", "endOld", "(LOddUmbrellas$Rows;III)V"⟩, 5) := ⟨⟨by decide +kernel, by decide +kernel⟩, List.mem_of_getElem? (i := 23) (by decide +kernel), List.mem_of_getElem? (i := 283) (by decide +kernel), List.mem_of_getElem? (i := 284) (by decide +kernel)⟩
theorem lw_p6 : lw_okq (⟨"OddUmbrellas$Office", "enter", "(III)V"⟩, 5) := ⟨⟨by decide +kernel, by decide +kernel⟩, List.mem_of_getElem? (i := 23) (by decide +kernel), List.mem_of_getElem? (i := 287) (by decide +kernel), List.mem_of_getElem? (i := 288) (by decide +kernel)⟩
theorem lw_p7 : lw_okq (⟨"OddUmbrellas$Matching", "noteOddness", "(LOddUmbrellas$Office;)V"⟩, 10) := ⟨⟨by decide +kernel, by decide +kernel⟩, List.mem_of_getElem? (i := 72) (by decide +kernel), List.mem_of_getElem? (i := 306) (by decide +kernel), List.mem_of_getElem? (i := 307) (by decide +kernel)⟩
theorem lw_p8 : lw_okq (⟨"OddUmbrellas$Matching", "weigh", "(IILOddUmbrellas$Office;)V"⟩, 10) := ⟨⟨by decide +kernel, by decide +kernel⟩, List.mem_of_getElem? (i := 72) (by decide +kernel), List.mem_of_getElem? (i := 311) (by decide +kernel), List.mem_of_getElem? (i := 312) (by decide +kernel)⟩
theorem lw_p9 : lw_okq (⟨"OddUmbrellas$Matching", "pairOf", "(II)I"⟩, 10) := ⟨⟨by decide +kernel, by decide +kernel⟩, List.mem_of_getElem? (i := 72) (by decide +kernel), List.mem_of_getElem? (i := 319) (by decide +kernel), List.mem_of_getElem? (i := 320) (by decide +kernel)⟩
theorem lw_p10 : lw_okq (⟨"OddUmbrellas$Matching", "matchNone", "()V"⟩, 10) := ⟨⟨by decide +kernel, by decide +kernel⟩, List.mem_of_getElem? (i := 72) (by decide +kernel), List.mem_of_getElem? (i := 323) (by decide +kernel), List.mem_of_getElem? (i := 324) (by decide +kernel)⟩
theorem lw_p11 : lw_okq (⟨"OddUmbrellas$Matching", "bestFreePair", "()I"⟩, 10) := ⟨⟨by decide +kernel, by decide +kernel⟩, List.mem_of_getElem? (i := 72) (by decide +kernel), List.mem_of_getElem? (i := 327) (by decide +kernel), List.mem_of_getElem? (i := 328) (by decide +kernel)⟩
theorem lw_p12 : lw_okq (⟨"OddUmbrellas$Matching", "suits", "(II)Z"⟩, 10) := ⟨⟨by decide +kernel, by decide +kernel⟩, List.mem_of_getElem? (i := 72) (by decide +kernel), List.mem_of_getElem? (i := 339) (by decide +kernel), List.mem_of_getElem? (i := 340) (by decide +kernel)⟩
theorem lw_p13 : lw_okq (⟨"OddUmbrellas$Matching", "aheadOf", "(II)I"⟩, 10) := ⟨⟨by decide +kernel, by decide +kernel⟩, List.mem_of_getElem? (i := 72) (by decide +kernel), List.mem_of_getElem? (i := 343) (by decide +kernel), List.mem_of_getElem? (i := 344) (by decide +kernel)⟩
theorem lw_p14 : lw_okq (⟨"OddUmbrellas$Matching", "join", "(II)V"⟩, 10) := ⟨⟨by decide +kernel, by decide +kernel⟩, List.mem_of_getElem? (i := 72) (by decide +kernel), List.mem_of_getElem? (i := 347) (by decide +kernel), List.mem_of_getElem? (i := 348) (by decide +kernel)⟩
theorem lw_p15 : lw_okq (⟨"OddUmbrellas", "isPair", "(II)Z"⟩, 10) := ⟨⟨by decide +kernel, by decide +kernel⟩, List.mem_of_getElem? (i := 15) (by decide +kernel), List.mem_of_getElem? (i := 411) (by decide +kernel), List.mem_of_getElem? (i := 412) (by decide +kernel)⟩
def lw_privs_1 : List (MethodName × Nat) := [(⟨"OddUmbrellas", "keepState", "()V"⟩, 10), (⟨"OddUmbrellas$Office", "addTo", "(II)V"⟩, 5), (⟨"OddUmbrellas", "recorded", "(I)I"⟩, 10), (⟨"OddUmbrellas", "forgetOldestState", "()V"⟩, 10), (⟨"OddUmbrellas$Office", "growOlder", "(LOddUmbrellas$Rows;)V"⟩, 5), (⟨"OddUmbrellas$Office", "endOld", "(LOddUmbrellas$Rows;III)V"⟩, 5), (⟨"OddUmbrellas$Office", "enter", "(III)V"⟩, 5), (⟨"OddUmbrellas$Matching", "noteOddness", "(LOddUmbrellas$Office;)V"⟩, 10), (⟨"OddUmbrellas$Matching", "weigh", "(IILOddUmbrellas$Office;)V"⟩, 10), (⟨"OddUmbrellas$Matching", "pairOf", "(II)I"⟩, 10), (⟨"OddUmbrellas$Matching", "matchNone", "()V"⟩, 10), (⟨"OddUmbrellas$Matching", "bestFreePair", "()I"⟩, 10), (⟨"OddUmbrellas$Matching", "suits", "(II)Z"⟩, 10), (⟨"OddUmbrellas$Matching", "aheadOf", "(II)I"⟩, 10), (⟨"OddUmbrellas$Matching", "join", "(II)V"⟩, 10), (⟨"OddUmbrellas", "isPair", "(II)Z"⟩, 10)]
theorem lw_r1 : ∀ q ∈ lw_privs_1, lw_okq q := List.forall_mem_cons.mpr ⟨lw_p0, List.forall_mem_cons.mpr ⟨lw_p1, List.forall_mem_cons.mpr ⟨lw_p2, List.forall_mem_cons.mpr ⟨lw_p3, List.forall_mem_cons.mpr ⟨lw_p4, List.forall_mem_cons.mpr ⟨lw_p5, List.forall_mem_cons.mpr ⟨lw_p6, List.forall_mem_cons.mpr ⟨lw_p7, List.forall_mem_cons.mpr ⟨lw_p8, List.forall_mem_cons.mpr ⟨lw_p9, List.forall_mem_cons.mpr ⟨lw_p10, List.forall_mem_cons.mpr ⟨lw_p11, List.forall_mem_cons.mpr ⟨lw_p12, List.forall_mem_cons.mpr ⟨lw_p13, List.forall_mem_cons.mpr ⟨lw_p14, List.forall_mem_cons.mpr ⟨lw_p15, fun _ h => absurd h List.not_mem_nil⟩⟩⟩⟩⟩⟩⟩⟩⟩⟩⟩⟩⟩⟩⟩⟩
theorem lw_p16 : lw_okq (⟨"OddUmbrellas$Matching", "nextAsk", "()I"⟩, 10) := ⟨⟨by decide +kernel, by decide +kernel⟩, List.mem_of_getElem? (i := 72) (by decide +kernel), List.mem_of_getElem? (i := 470) (by decide +kernel), List.mem_of_getElem? (i := 471) (by decide +kernel)⟩
theorem lw_p17 : lw_okq (⟨"OddUmbrellas$Matching", "nextPairOf", "(I)I"⟩, 10) := ⟨⟨by decide +kernel, by decide +kernel⟩, List.mem_of_getElem? (i := 72) (by decide +kernel), List.mem_of_getElem? (i := 474) (by decide +kernel), List.mem_of_getElem? (i := 475) (by decide +kernel)⟩
theorem lw_p18 : lw_okq (⟨"OddUmbrellas$Matching", "askFor", "(I)V"⟩, 10) := ⟨⟨by decide +kernel, by decide +kernel⟩, List.mem_of_getElem? (i := 72) (by decide +kernel), List.mem_of_getElem? (i := 478) (by decide +kernel), List.mem_of_getElem? (i := 479) (by decide +kernel)⟩
theorem lw_p19 : lw_okq (⟨"OddUmbrellas$Matching", "part", "(II)V"⟩, 10) := ⟨⟨by decide +kernel, by decide +kernel⟩, List.mem_of_getElem? (i := 72) (by decide +kernel), List.mem_of_getElem? (i := 482) (by decide +kernel), List.mem_of_getElem? (i := 483) (by decide +kernel)⟩
theorem lw_p20 : lw_okq (⟨"OddUmbrellas", "tryText", "()V"⟩, 10) := ⟨⟨by decide +kernel, by decide +kernel⟩, List.mem_of_getElem? (i := 15) (by decide +kernel), List.mem_of_getElem? (i := 508) (by decide +kernel), List.mem_of_getElem? (i := 509) (by decide +kernel)⟩
theorem lw_p21 : lw_okq (⟨"OddUmbrellas$Text", "signHere", "()C"⟩, 5) := ⟨⟨by decide +kernel, by decide +kernel⟩, List.mem_of_getElem? (i := 113) (by decide +kernel), List.mem_of_getElem? (i := 516) (by decide +kernel), List.mem_of_getElem? (i := 517) (by decide +kernel)⟩
theorem lw_p22 : lw_okq (⟨"OddUmbrellas$Text", "readWord", "(Ljava/lang/String;)Z"⟩, 5) := ⟨⟨by decide +kernel, by decide +kernel⟩, List.mem_of_getElem? (i := 113) (by decide +kernel), List.mem_of_getElem? (i := 521) (by decide +kernel), List.mem_of_getElem? (i := 522) (by decide +kernel)⟩
theorem lw_p23 : lw_okq (⟨"OddUmbrellas$Text", "readSign", "(C)Z"⟩, 5) := ⟨⟨by decide +kernel, by decide +kernel⟩, List.mem_of_getElem? (i := 113) (by decide +kernel), List.mem_of_getElem? (i := 573) (by decide +kernel), List.mem_of_getElem? (i := 574) (by decide +kernel)⟩
theorem lw_p24 : lw_okq (⟨"OddUmbrellas$Text", "readNumbers", "(IZ)Z"⟩, 5) := ⟨⟨by decide +kernel, by decide +kernel⟩, List.mem_of_getElem? (i := 113) (by decide +kernel), List.mem_of_getElem? (i := 577) (by decide +kernel), List.mem_of_getElem? (i := 578) (by decide +kernel)⟩
theorem lw_p25 : lw_okq (⟨"OddUmbrellas$Text", "digitHere", "()I"⟩, 5) := ⟨⟨by decide +kernel, by decide +kernel⟩, List.mem_of_getElem? (i := 113) (by decide +kernel), List.mem_of_getElem? (i := 581) (by decide +kernel), List.mem_of_getElem? (i := 582) (by decide +kernel)⟩
theorem lw_p26 : lw_okq (⟨"OddUmbrellas$Text", "readNumber", "()I"⟩, 5) := ⟨⟨by decide +kernel, by decide +kernel⟩, List.mem_of_getElem? (i := 113) (by decide +kernel), List.mem_of_getElem? (i := 585) (by decide +kernel), List.mem_of_getElem? (i := 586) (by decide +kernel)⟩
theorem lw_p27 : lw_okq (⟨"OddUmbrellas", "tellFault", "(III)V"⟩, 10) := ⟨⟨by decide +kernel, by decide +kernel⟩, List.mem_of_getElem? (i := 15) (by decide +kernel), List.mem_of_getElem? (i := 593) (by decide +kernel), List.mem_of_getElem? (i := 594) (by decide +kernel)⟩
theorem lw_p28 : lw_okq (⟨"OddUmbrellas", "doOrder", "(LOddUmbrellas$Office;)I"⟩, 10) := ⟨⟨by decide +kernel, by decide +kernel⟩, List.mem_of_getElem? (i := 15) (by decide +kernel), List.mem_of_getElem? (i := 597) (by decide +kernel), List.mem_of_getElem? (i := 598) (by decide +kernel)⟩
theorem lw_p29 : lw_okq (⟨"OddUmbrellasModel", "tried", "()I"⟩, 14) := ⟨⟨by decide +kernel, by decide +kernel⟩, List.mem_of_getElem? (i := 611) (by decide +kernel), List.mem_of_getElem? (i := 664) (by decide +kernel), List.mem_of_getElem? (i := 665) (by decide +kernel)⟩
theorem lw_p30 : lw_okq (⟨"OddUmbrellasModel", "copies", "(II)V"⟩, 14) := ⟨⟨by decide +kernel, by decide +kernel⟩, List.mem_of_getElem? (i := 611) (by decide +kernel), List.mem_of_getElem? (i := 668) (by decide +kernel), List.mem_of_getElem? (i := 669) (by decide +kernel)⟩
theorem lw_p31 : lw_okq (⟨"OddUmbrellasModel", "finds", "(IIIII)I"⟩, 14) := ⟨⟨by decide +kernel, by decide +kernel⟩, List.mem_of_getElem? (i := 611) (by decide +kernel), List.mem_of_getElem? (i := 672) (by decide +kernel), List.mem_of_getElem? (i := 673) (by decide +kernel)⟩
def lw_privs_2 : List (MethodName × Nat) := [(⟨"OddUmbrellas$Matching", "nextAsk", "()I"⟩, 10), (⟨"OddUmbrellas$Matching", "nextPairOf", "(I)I"⟩, 10), (⟨"OddUmbrellas$Matching", "askFor", "(I)V"⟩, 10), (⟨"OddUmbrellas$Matching", "part", "(II)V"⟩, 10), (⟨"OddUmbrellas", "tryText", "()V"⟩, 10), (⟨"OddUmbrellas$Text", "signHere", "()C"⟩, 5), (⟨"OddUmbrellas$Text", "readWord", "(Ljava/lang/String;)Z"⟩, 5), (⟨"OddUmbrellas$Text", "readSign", "(C)Z"⟩, 5), (⟨"OddUmbrellas$Text", "readNumbers", "(IZ)Z"⟩, 5), (⟨"OddUmbrellas$Text", "digitHere", "()I"⟩, 5), (⟨"OddUmbrellas$Text", "readNumber", "()I"⟩, 5), (⟨"OddUmbrellas", "tellFault", "(III)V"⟩, 10), (⟨"OddUmbrellas", "doOrder", "(LOddUmbrellas$Office;)I"⟩, 10), (⟨"OddUmbrellasModel", "tried", "()I"⟩, 14), (⟨"OddUmbrellasModel", "copies", "(II)V"⟩, 14), (⟨"OddUmbrellasModel", "finds", "(IIIII)I"⟩, 14)]
theorem lw_r2 : ∀ q ∈ lw_privs_2, lw_okq q := List.forall_mem_cons.mpr ⟨lw_p16, List.forall_mem_cons.mpr ⟨lw_p17, List.forall_mem_cons.mpr ⟨lw_p18, List.forall_mem_cons.mpr ⟨lw_p19, List.forall_mem_cons.mpr ⟨lw_p20, List.forall_mem_cons.mpr ⟨lw_p21, List.forall_mem_cons.mpr ⟨lw_p22, List.forall_mem_cons.mpr ⟨lw_p23, List.forall_mem_cons.mpr ⟨lw_p24, List.forall_mem_cons.mpr ⟨lw_p25, List.forall_mem_cons.mpr ⟨lw_p26, List.forall_mem_cons.mpr ⟨lw_p27, List.forall_mem_cons.mpr ⟨lw_p28, List.forall_mem_cons.mpr ⟨lw_p29, List.forall_mem_cons.mpr ⟨lw_p30, List.forall_mem_cons.mpr ⟨lw_p31, fun _ h => absurd h List.not_mem_nil⟩⟩⟩⟩⟩⟩⟩⟩⟩⟩⟩⟩⟩⟩⟩⟩
theorem lw_p32 : lw_okq (⟨"OddUmbrellasModel", "lays", "(IIIII)V"⟩, 14) := ⟨⟨by decide +kernel, by decide +kernel⟩, List.mem_of_getElem? (i := 611) (by decide +kernel), List.mem_of_getElem? (i := 687) (by decide +kernel), List.mem_of_getElem? (i := 688) (by decide +kernel)⟩
theorem lw_p33 : lw_okq (⟨"OddUmbrellasModel", "done", "(I)I"⟩, 14) := ⟨⟨by decide +kernel, by decide +kernel⟩, List.mem_of_getElem? (i := 611) (by decide +kernel), List.mem_of_getElem? (i := 691) (by decide +kernel), List.mem_of_getElem? (i := 692) (by decide +kernel)⟩
theorem lw_p34 : lw_okq (⟨"OddUmbrellasModel", "records", "()V"⟩, 14) := ⟨⟨by decide +kernel, by decide +kernel⟩, List.mem_of_getElem? (i := 611) (by decide +kernel), List.mem_of_getElem? (i := 695) (by decide +kernel), List.mem_of_getElem? (i := 696) (by decide +kernel)⟩
theorem lw_p35 : lw_okq (⟨"OddUmbrellasModel", "claims", "(IIIII)I"⟩, 14) := ⟨⟨by decide +kernel, by decide +kernel⟩, List.mem_of_getElem? (i := 611) (by decide +kernel), List.mem_of_getElem? (i := 703) (by decide +kernel), List.mem_of_getElem? (i := 704) (by decide +kernel)⟩
theorem lw_p36 : lw_okq (⟨"OddUmbrellasModel", "tells", "(IIII)I"⟩, 14) := ⟨⟨by decide +kernel, by decide +kernel⟩, List.mem_of_getElem? (i := 611) (by decide +kernel), List.mem_of_getElem? (i := 715) (by decide +kernel), List.mem_of_getElem? (i := 716) (by decide +kernel)⟩
theorem lw_p37 : lw_okq (⟨"OddUmbrellasModel", "isClaim", "(II)Z"⟩, 14) := ⟨⟨by decide +kernel, by decide +kernel⟩, List.mem_of_getElem? (i := 611) (by decide +kernel), List.mem_of_getElem? (i := 719) (by decide +kernel), List.mem_of_getElem? (i := 720) (by decide +kernel)⟩
theorem lw_p38 : lw_okq (⟨"OddUmbrellasModel", "claimGoes", "(II)V"⟩, 14) := ⟨⟨by decide +kernel, by decide +kernel⟩, List.mem_of_getElem? (i := 611) (by decide +kernel), List.mem_of_getElem? (i := 730) (by decide +kernel), List.mem_of_getElem? (i := 731) (by decide +kernel)⟩
theorem lw_p39 : lw_okq (⟨"OddUmbrellasModel", "weeksIn", "(II)I"⟩, 14) := ⟨⟨by decide +kernel, by decide +kernel⟩, List.mem_of_getElem? (i := 611) (by decide +kernel), List.mem_of_getElem? (i := 738) (by decide +kernel), List.mem_of_getElem? (i := 739) (by decide +kernel)⟩
theorem lw_p40 : lw_okq (⟨"OddUmbrellasModel", "goBy", "(II)I"⟩, 14) := ⟨⟨by decide +kernel, by decide +kernel⟩, List.mem_of_getElem? (i := 611) (by decide +kernel), List.mem_of_getElem? (i := 742) (by decide +kernel), List.mem_of_getElem? (i := 743) (by decide +kernel)⟩
theorem lw_p41 : lw_okq (⟨"OddUmbrellasModel", "sells", "(I)V"⟩, 14) := ⟨⟨by decide +kernel, by decide +kernel⟩, List.mem_of_getElem? (i := 611) (by decide +kernel), List.mem_of_getElem? (i := 746) (by decide +kernel), List.mem_of_getElem? (i := 747) (by decide +kernel)⟩
theorem lw_p42 : lw_okq (⟨"OddUmbrellasModel", "writes", "(IIII)V"⟩, 14) := ⟨⟨by decide +kernel, by decide +kernel⟩, List.mem_of_getElem? (i := 611) (by decide +kernel), List.mem_of_getElem? (i := 750) (by decide +kernel), List.mem_of_getElem? (i := 751) (by decide +kernel)⟩
theorem lw_p43 : lw_okq (⟨"OddUmbrellasModel", "umbrellaGoes", "(II)V"⟩, 14) := ⟨⟨by decide +kernel, by decide +kernel⟩, List.mem_of_getElem? (i := 611) (by decide +kernel), List.mem_of_getElem? (i := 754) (by decide +kernel), List.mem_of_getElem? (i := 755) (by decide +kernel)⟩
theorem lw_p44 : lw_okq (⟨"OddUmbrellasModel", "lapses", "(I)V"⟩, 14) := ⟨⟨by decide +kernel, by decide +kernel⟩, List.mem_of_getElem? (i := 611) (by decide +kernel), List.mem_of_getElem? (i := 758) (by decide +kernel), List.mem_of_getElem? (i := 759) (by decide +kernel)⟩
theorem lw_p45 : lw_okq (⟨"OddUmbrellasModel", "handsOut", "(I)I"⟩, 14) := ⟨⟨by decide +kernel, by decide +kernel⟩, List.mem_of_getElem? (i := 611) (by decide +kernel), List.mem_of_getElem? (i := 766) (by decide +kernel), List.mem_of_getElem? (i := 767) (by decide +kernel)⟩
theorem lw_p46 : lw_okq (⟨"OddUmbrellasModel", "matches", "(I)I"⟩, 14) := ⟨⟨by decide +kernel, by decide +kernel⟩, List.mem_of_getElem? (i := 611) (by decide +kernel), List.mem_of_getElem? (i := 770) (by decide +kernel), List.mem_of_getElem? (i := 771) (by decide +kernel)⟩
theorem lw_p47 : lw_okq (⟨"OddUmbrellasModel", "clears", "(I)V"⟩, 14) := ⟨⟨by decide +kernel, by decide +kernel⟩, List.mem_of_getElem? (i := 611) (by decide +kernel), List.mem_of_getElem? (i := 774) (by decide +kernel), List.mem_of_getElem? (i := 775) (by decide +kernel)⟩
def lw_privs_3 : List (MethodName × Nat) := [(⟨"OddUmbrellasModel", "lays", "(IIIII)V"⟩, 14), (⟨"OddUmbrellasModel", "done", "(I)I"⟩, 14), (⟨"OddUmbrellasModel", "records", "()V"⟩, 14), (⟨"OddUmbrellasModel", "claims", "(IIIII)I"⟩, 14), (⟨"OddUmbrellasModel", "tells", "(IIII)I"⟩, 14), (⟨"OddUmbrellasModel", "isClaim", "(II)Z"⟩, 14), (⟨"OddUmbrellasModel", "claimGoes", "(II)V"⟩, 14), (⟨"OddUmbrellasModel", "weeksIn", "(II)I"⟩, 14), (⟨"OddUmbrellasModel", "goBy", "(II)I"⟩, 14), (⟨"OddUmbrellasModel", "sells", "(I)V"⟩, 14), (⟨"OddUmbrellasModel", "writes", "(IIII)V"⟩, 14), (⟨"OddUmbrellasModel", "umbrellaGoes", "(II)V"⟩, 14), (⟨"OddUmbrellasModel", "lapses", "(I)V"⟩, 14), (⟨"OddUmbrellasModel", "handsOut", "(I)I"⟩, 14), (⟨"OddUmbrellasModel", "matches", "(I)I"⟩, 14), (⟨"OddUmbrellasModel", "clears", "(I)V"⟩, 14)]
theorem lw_r3 : ∀ q ∈ lw_privs_3, lw_okq q := List.forall_mem_cons.mpr ⟨lw_p32, List.forall_mem_cons.mpr ⟨lw_p33, List.forall_mem_cons.mpr ⟨lw_p34, List.forall_mem_cons.mpr ⟨lw_p35, List.forall_mem_cons.mpr ⟨lw_p36, List.forall_mem_cons.mpr ⟨lw_p37, List.forall_mem_cons.mpr ⟨lw_p38, List.forall_mem_cons.mpr ⟨lw_p39, List.forall_mem_cons.mpr ⟨lw_p40, List.forall_mem_cons.mpr ⟨lw_p41, List.forall_mem_cons.mpr ⟨lw_p42, List.forall_mem_cons.mpr ⟨lw_p43, List.forall_mem_cons.mpr ⟨lw_p44, List.forall_mem_cons.mpr ⟨lw_p45, List.forall_mem_cons.mpr ⟨lw_p46, List.forall_mem_cons.mpr ⟨lw_p47, fun _ h => absurd h List.not_mem_nil⟩⟩⟩⟩⟩⟩⟩⟩⟩⟩⟩⟩⟩⟩⟩⟩
theorem lw_p48 : lw_okq (⟨"OddUmbrellasModel", "suits", "(III)Z"⟩, 14) := ⟨⟨by decide +kernel, by decide +kernel⟩, List.mem_of_getElem? (i := 611) (by decide +kernel), List.mem_of_getElem? (i := 778) (by decide +kernel), List.mem_of_getElem? (i := 779) (by decide +kernel)⟩
theorem lw_p49 : lw_okq (⟨"OddUmbrellasModel", "misses", "(III)I"⟩, 14) := ⟨⟨by decide +kernel, by decide +kernel⟩, List.mem_of_getElem? (i := 611) (by decide +kernel), List.mem_of_getElem? (i := 782) (by decide +kernel), List.mem_of_getElem? (i := 783) (by decide +kernel)⟩
theorem lw_p50 : lw_okq (⟨"OddUmbrellasModel", "pointsOf", "(III)I"⟩, 14) := ⟨⟨by decide +kernel, by decide +kernel⟩, List.mem_of_getElem? (i := 611) (by decide +kernel), List.mem_of_getElem? (i := 786) (by decide +kernel), List.mem_of_getElem? (i := 787) (by decide +kernel)⟩
theorem lw_p51 : lw_okq (⟨"OddUmbrellasModel", "many", "(III)I"⟩, 14) := ⟨⟨by decide +kernel, by decide +kernel⟩, List.mem_of_getElem? (i := 611) (by decide +kernel), List.mem_of_getElem? (i := 790) (by decide +kernel), List.mem_of_getElem? (i := 791) (by decide +kernel)⟩
theorem lw_p52 : lw_okq (⟨"OddUmbrellasModel", "isUmbrella", "(I)Z"⟩, 14) := ⟨⟨by decide +kernel, by decide +kernel⟩, List.mem_of_getElem? (i := 611) (by decide +kernel), List.mem_of_getElem? (i := 805) (by decide +kernel), List.mem_of_getElem? (i := 806) (by decide +kernel)⟩
theorem lw_p53 : lw_okq (⟨"OddUmbrellasModel", "mateOf", "(IZ)I"⟩, 14) := ⟨⟨by decide +kernel, by decide +kernel⟩, List.mem_of_getElem? (i := 611) (by decide +kernel), List.mem_of_getElem? (i := 809) (by decide +kernel), List.mem_of_getElem? (i := 810) (by decide +kernel)⟩
theorem lw_p54 : lw_okq (⟨"OddUmbrellasModel", "suiting", "(II)I"⟩, 14) := ⟨⟨by decide +kernel, by decide +kernel⟩, List.mem_of_getElem? (i := 611) (by decide +kernel), List.mem_of_getElem? (i := 814) (by decide +kernel), List.mem_of_getElem? (i := 815) (by decide +kernel)⟩
theorem lw_p55 : lw_okq (⟨"OddUmbrellasModel", "oddness", "(I)I"⟩, 14) := ⟨⟨by decide +kernel, by decide +kernel⟩, List.mem_of_getElem? (i := 611) (by decide +kernel), List.mem_of_getElem? (i := 818) (by decide +kernel), List.mem_of_getElem? (i := 819) (by decide +kernel)⟩
theorem lw_p56 : lw_okq (⟨"OddUmbrellasModel", "matchOf", "(II)I"⟩, 14) := ⟨⟨by decide +kernel, by decide +kernel⟩, List.mem_of_getElem? (i := 611) (by decide +kernel), List.mem_of_getElem? (i := 826) (by decide +kernel), List.mem_of_getElem? (i := 827) (by decide +kernel)⟩
theorem lw_p57 : lw_okq (⟨"OddUmbrellasModel", "byAsking", "(I)I"⟩, 14) := ⟨⟨by decide +kernel, by decide +kernel⟩, List.mem_of_getElem? (i := 611) (by decide +kernel), List.mem_of_getElem? (i := 876) (by decide +kernel), List.mem_of_getElem? (i := 877) (by decide +kernel)⟩
theorem lw_p58 : lw_okq (⟨"OddUmbrellasModel", "asksOn", "(I)I"⟩, 14) := ⟨⟨by decide +kernel, by decide +kernel⟩, List.mem_of_getElem? (i := 611) (by decide +kernel), List.mem_of_getElem? (i := 880) (by decide +kernel), List.mem_of_getElem? (i := 881) (by decide +kernel)⟩
theorem lw_p59 : lw_okq (⟨"OddUmbrellasModel", "asks", "(I)I"⟩, 14) := ⟨⟨by decide +kernel, by decide +kernel⟩, List.mem_of_getElem? (i := 611) (by decide +kernel), List.mem_of_getElem? (i := 884) (by decide +kernel), List.mem_of_getElem? (i := 885) (by decide +kernel)⟩
theorem lw_p60 : lw_okq (⟨"OddUmbrellasModel", "looks", "()I"⟩, 14) := ⟨⟨by decide +kernel, by decide +kernel⟩, List.mem_of_getElem? (i := 611) (by decide +kernel), List.mem_of_getElem? (i := 904) (by decide +kernel), List.mem_of_getElem? (i := 905) (by decide +kernel)⟩
theorem lw_p61 : lw_okq (⟨"OddUmbrellasModel", "readsOrder", "()Z"⟩, 14) := ⟨⟨by decide +kernel, by decide +kernel⟩, List.mem_of_getElem? (i := 611) (by decide +kernel), List.mem_of_getElem? (i := 908) (by decide +kernel), List.mem_of_getElem? (i := 909) (by decide +kernel)⟩
theorem lw_p62 : lw_okq (⟨"OddUmbrellasModel", "takesWord", "(J)Z"⟩, 14) := ⟨⟨by decide +kernel, by decide +kernel⟩, List.mem_of_getElem? (i := 611) (by decide +kernel), List.mem_of_getElem? (i := 913) (by decide +kernel), List.mem_of_getElem? (i := 914) (by decide +kernel)⟩
theorem lw_p63 : lw_okq (⟨"OddUmbrellasModel", "takes", "(I)Z"⟩, 14) := ⟨⟨by decide +kernel, by decide +kernel⟩, List.mem_of_getElem? (i := 611) (by decide +kernel), List.mem_of_getElem? (i := 918) (by decide +kernel), List.mem_of_getElem? (i := 919) (by decide +kernel)⟩
def lw_privs_4 : List (MethodName × Nat) := [(⟨"OddUmbrellasModel", "suits", "(III)Z"⟩, 14), (⟨"OddUmbrellasModel", "misses", "(III)I"⟩, 14), (⟨"OddUmbrellasModel", "pointsOf", "(III)I"⟩, 14), (⟨"OddUmbrellasModel", "many", "(III)I"⟩, 14), (⟨"OddUmbrellasModel", "isUmbrella", "(I)Z"⟩, 14), (⟨"OddUmbrellasModel", "mateOf", "(IZ)I"⟩, 14), (⟨"OddUmbrellasModel", "suiting", "(II)I"⟩, 14), (⟨"OddUmbrellasModel", "oddness", "(I)I"⟩, 14), (⟨"OddUmbrellasModel", "matchOf", "(II)I"⟩, 14), (⟨"OddUmbrellasModel", "byAsking", "(I)I"⟩, 14), (⟨"OddUmbrellasModel", "asksOn", "(I)I"⟩, 14), (⟨"OddUmbrellasModel", "asks", "(I)I"⟩, 14), (⟨"OddUmbrellasModel", "looks", "()I"⟩, 14), (⟨"OddUmbrellasModel", "readsOrder", "()Z"⟩, 14), (⟨"OddUmbrellasModel", "takesWord", "(J)Z"⟩, 14), (⟨"OddUmbrellasModel", "takes", "(I)Z"⟩, 14)]
theorem lw_r4 : ∀ q ∈ lw_privs_4, lw_okq q := List.forall_mem_cons.mpr ⟨lw_p48, List.forall_mem_cons.mpr ⟨lw_p49, List.forall_mem_cons.mpr ⟨lw_p50, List.forall_mem_cons.mpr ⟨lw_p51, List.forall_mem_cons.mpr ⟨lw_p52, List.forall_mem_cons.mpr ⟨lw_p53, List.forall_mem_cons.mpr ⟨lw_p54, List.forall_mem_cons.mpr ⟨lw_p55, List.forall_mem_cons.mpr ⟨lw_p56, List.forall_mem_cons.mpr ⟨lw_p57, List.forall_mem_cons.mpr ⟨lw_p58, List.forall_mem_cons.mpr ⟨lw_p59, List.forall_mem_cons.mpr ⟨lw_p60, List.forall_mem_cons.mpr ⟨lw_p61, List.forall_mem_cons.mpr ⟨lw_p62, List.forall_mem_cons.mpr ⟨lw_p63, fun _ h => absurd h List.not_mem_nil⟩⟩⟩⟩⟩⟩⟩⟩⟩⟩⟩⟩⟩⟩⟩⟩
theorem lw_p64 : lw_okq (⟨"OddUmbrellasModel", "readsRow", "(IZ)Z"⟩, 14) := ⟨⟨by decide +kernel, by decide +kernel⟩, List.mem_of_getElem? (i := 611) (by decide +kernel), List.mem_of_getElem? (i := 922) (by decide +kernel), List.mem_of_getElem? (i := 923) (by decide +kernel)⟩
theorem lw_p65 : lw_okq (⟨"OddUmbrellasModel", "readsValue", "(IZ)Z"⟩, 14) := ⟨⟨by decide +kernel, by decide +kernel⟩, List.mem_of_getElem? (i := 611) (by decide +kernel), List.mem_of_getElem? (i := 926) (by decide +kernel), List.mem_of_getElem? (i := 927) (by decide +kernel)⟩
theorem lw_p66 : lw_okq (⟨"OddUmbrellasModel", "readsNumber", "(I)Z"⟩, 14) := ⟨⟨by decide +kernel, by decide +kernel⟩, List.mem_of_getElem? (i := 611) (by decide +kernel), List.mem_of_getElem? (i := 930) (by decide +kernel), List.mem_of_getElem? (i := 931) (by decide +kernel)⟩
theorem lw_p67 : lw_okq (⟨"OddUmbrellasModel", "isDigit", "()Z"⟩, 14) := ⟨⟨by decide +kernel, by decide +kernel⟩, List.mem_of_getElem? (i := 611) (by decide +kernel), List.mem_of_getElem? (i := 934) (by decide +kernel), List.mem_of_getElem? (i := 935) (by decide +kernel)⟩
theorem lw_p68 : lw_okq (⟨"OddUmbrellasModel", "does", "(I)I"⟩, 14) := ⟨⟨by decide +kernel, by decide +kernel⟩, List.mem_of_getElem? (i := 611) (by decide +kernel), List.mem_of_getElem? (i := 942) (by decide +kernel), List.mem_of_getElem? (i := 943) (by decide +kernel)⟩
def lw_privs_5 : List (MethodName × Nat) := [(⟨"OddUmbrellasModel", "readsRow", "(IZ)Z"⟩, 14), (⟨"OddUmbrellasModel", "readsValue", "(IZ)Z"⟩, 14), (⟨"OddUmbrellasModel", "readsNumber", "(I)Z"⟩, 14), (⟨"OddUmbrellasModel", "isDigit", "()Z"⟩, 14), (⟨"OddUmbrellasModel", "does", "(I)I"⟩, 14)]
theorem lw_r5 : ∀ q ∈ lw_privs_5, lw_okq q := List.forall_mem_cons.mpr ⟨lw_p64, List.forall_mem_cons.mpr ⟨lw_p65, List.forall_mem_cons.mpr ⟨lw_p66, List.forall_mem_cons.mpr ⟨lw_p67, List.forall_mem_cons.mpr ⟨lw_p68, fun _ h => absurd h List.not_mem_nil⟩⟩⟩⟩⟩
def lw_privs : List (MethodName × Nat) := lw_privs_1 ++ (lw_privs_2 ++ (lw_privs_3 ++ (lw_privs_4 ++ (lw_privs_5))))
def lw_tbl : List Cond := k2_sels lw_privs ++ tables_1
theorem lw_privs_ok : ∀ q ∈ lw_privs, lw_okq q := by
  show ∀ q ∈ lw_privs_1 ++ (lw_privs_2 ++ (lw_privs_3 ++ (lw_privs_4 ++ (lw_privs_5)))), lw_okq q
  exact List.forall_mem_append.mpr ⟨lw_r1, List.forall_mem_append.mpr ⟨lw_r2, List.forall_mem_append.mpr ⟨lw_r3, List.forall_mem_append.mpr ⟨lw_r4, lw_r5⟩⟩⟩⟩
/-- the streams that the claim lets the run draw from -/
abbrev lw_cs : List Choice := [Jvm.Choice.named "NaN.bits"]
theorem lw_bits : nanBits ∈ lw_cs := by first | decide | exact List.mem_cons_self | simp [lw_cs, nanBits]

def RX0 : String := "OddUmbrellas$Matching"
def TX0 : u_T := fun k => match k with
  | 0 => ("OddUmbrellas$Matching", "misses", "[I", true)
  | 1 => ("OddUmbrellas$Matching", "worth", "[I", true)
  | 2 => ("OddUmbrellas$Matching", "suiting", "[Z", true)
  | 3 => ("OddUmbrellas$Matching", "asked", "[Z", true)
  | 4 => ("OddUmbrellas$Matching", "oddness", "[I", true)
  | 5 => ("OddUmbrellas$Matching", "claimOfUmbrella", "[I", true)
  | 6 => ("OddUmbrellas$Matching", "umbrellaOfClaim", "[I", true)
  | 7 => ("OddUmbrellas$Matching", "umbrellas", "I", false)
  | 8 => ("OddUmbrellas$Matching", "claims", "I", false)
  | _ => ("OddUmbrellas$Matching", "pairs", "I", false)
def tyX0 : Nat → FieldType := fun k => match k with
  | 0 => .array .int
  | 1 => .array .int
  | 2 => .array .boolean
  | 3 => .array .boolean
  | 4 => .array .int
  | 5 => .array .int
  | 6 => .array .int
  | 7 => .int
  | 8 => .int
  | _ => .int
abbrev wsX00 : List Cond := u_ws RX0 TX0 10
theorem nmX0 : ∀ a, a < 10 → ∀ b, b < 10 → a ≠ b → (TX0 a).2.1 ≠ (TX0 b).2.1 := by decide +kernel
theorem tyX0_ok : ∀ k, k < 10 → parseFieldDescriptor (TX0 k).2.2.1 = some (tyX0 k) := by decide +kernel
abbrev cX0_init : ByteArray := prog_2_method_1_code
def yX0_init : MethodName := ⟨RX0, "<init>", "()V"⟩
abbrev cX0_weighAll : ByteArray := prog_2_method_2_code
def yX0_weighAll : MethodName := ⟨RX0, "weighAll", "(LOddUmbrellas$Office;)V"⟩
abbrev cX0_noteOddness : ByteArray := prog_2_method_3_code
def yX0_noteOddness : MethodName := ⟨RX0, "noteOddness", "(LOddUmbrellas$Office;)V"⟩
abbrev cX0_weigh : ByteArray := prog_2_method_4_code
def yX0_weigh : MethodName := ⟨RX0, "weigh", "(IILOddUmbrellas$Office;)V"⟩
abbrev cX0_pairOf : ByteArray := prog_2_method_5_code
def yX0_pairOf : MethodName := ⟨RX0, "pairOf", "(II)I"⟩
abbrev cX0_worthOf : ByteArray := prog_2_method_6_code
def yX0_worthOf : MethodName := ⟨RX0, "worthOf", "(II)I"⟩
abbrev cX0_suits : ByteArray := prog_2_method_7_code
def yX0_suits : MethodName := ⟨RX0, "suits", "(II)Z"⟩
abbrev cX0_claimsSuiting : ByteArray := prog_2_method_8_code
def yX0_claimsSuiting : MethodName := ⟨RX0, "claimsSuiting", "(I)I"⟩
abbrev cX0_umbrellasSuiting : ByteArray := prog_2_method_9_code
def yX0_umbrellasSuiting : MethodName := ⟨RX0, "umbrellasSuiting", "(I)I"⟩
abbrev cX0_matchAll : ByteArray := prog_2_method_10_code
def yX0_matchAll : MethodName := ⟨RX0, "matchAll", "(LOddUmbrellas$Office;)V"⟩
abbrev cX0_matchNone : ByteArray := prog_2_method_11_code
def yX0_matchNone : MethodName := ⟨RX0, "matchNone", "()V"⟩
abbrev cX0_bestFreePair : ByteArray := prog_2_method_12_code
def yX0_bestFreePair : MethodName := ⟨RX0, "bestFreePair", "()I"⟩
abbrev cX0_aheadOf : ByteArray := prog_2_method_13_code
def yX0_aheadOf : MethodName := ⟨RX0, "aheadOf", "(II)I"⟩
abbrev cX0_join : ByteArray := prog_2_method_14_code
def yX0_join : MethodName := ⟨RX0, "join", "(II)V"⟩
abbrev cX0_part : ByteArray := prog_2_method_15_code
def yX0_part : MethodName := ⟨RX0, "part", "(II)V"⟩
abbrev cX0_claimMatched : ByteArray := prog_2_method_16_code
def yX0_claimMatched : MethodName := ⟨RX0, "claimMatched", "(I)I"⟩
abbrev cX0_umbrellaMatched : ByteArray := prog_2_method_17_code
def yX0_umbrellaMatched : MethodName := ⟨RX0, "umbrellaMatched", "(I)I"⟩
abbrev cX0_worthOfMatched : ByteArray := prog_2_method_18_code
def yX0_worthOfMatched : MethodName := ⟨RX0, "worthOfMatched", "()I"⟩
abbrev cX0_reasonAgainst : ByteArray := prog_2_method_19_code
def yX0_reasonAgainst : MethodName := ⟨RX0, "reasonAgainst", "(IILOddUmbrellas$Office;)I"⟩
abbrev cX0_matchByAsking : ByteArray := prog_2_method_20_code
def yX0_matchByAsking : MethodName := ⟨RX0, "matchByAsking", "(LOddUmbrellas$Office;)V"⟩
abbrev cX0_nextAsk : ByteArray := prog_2_method_21_code
def yX0_nextAsk : MethodName := ⟨RX0, "nextAsk", "()I"⟩
abbrev cX0_nextPairOf : ByteArray := prog_2_method_22_code
def yX0_nextPairOf : MethodName := ⟨RX0, "nextPairOf", "(I)I"⟩
abbrev cX0_askFor : ByteArray := prog_2_method_23_code
def yX0_askFor : MethodName := ⟨RX0, "askFor", "(I)V"⟩
def RX1 : String := "OddUmbrellas$Office"
def TX1 : u_T := fun k => match k with
  | 0 => ("OddUmbrellas$Office", "umbrellas", "LOddUmbrellas$Rows;", true)
  | 1 => ("OddUmbrellas$Office", "claims", "LOddUmbrellas$Rows;", true)
  | 2 => ("OddUmbrellas$Office", "entries", "LOddUmbrellas$Rows;", true)
  | 3 => ("OddUmbrellas$Office", "settings", "[I", true)
  | _ => ("OddUmbrellas$Office", "sums", "[I", true)
def tyX1 : Nat → FieldType := fun k => match k with
  | 0 => .object "OddUmbrellas$Rows"
  | 1 => .object "OddUmbrellas$Rows"
  | 2 => .object "OddUmbrellas$Rows"
  | 3 => .array .int
  | _ => .array .int
abbrev wsX10 : List Cond := u_ws RX1 TX1 5
theorem nmX1 : ∀ a, a < 5 → ∀ b, b < 5 → a ≠ b → (TX1 a).2.1 ≠ (TX1 b).2.1 := by decide +kernel
theorem tyX1_ok : ∀ k, k < 5 → parseFieldDescriptor (TX1 k).2.2.1 = some (tyX1 k) := by decide +kernel
abbrev cX1_init : ByteArray := prog_3_method_1_code
def yX1_init : MethodName := ⟨RX1, "<init>", "()V"⟩
abbrev cX1_become : ByteArray := prog_3_method_2_code
def yX1_become : MethodName := ⟨RX1, "become", "(LOddUmbrellas$Office;)V"⟩
abbrev cX1_setting : ByteArray := prog_3_method_3_code
def yX1_setting : MethodName := ⟨RX1, "setting", "(I)I"⟩
abbrev cX1_sum : ByteArray := prog_3_method_4_code
def yX1_sum : MethodName := ⟨RX1, "sum", "(I)I"⟩
abbrev cX1_addTo : ByteArray := prog_3_method_5_code
def yX1_addTo : MethodName := ⟨RX1, "addTo", "(II)V"⟩
abbrev cX1_umbrellasWith : ByteArray := prog_3_method_6_code
def yX1_umbrellasWith : MethodName := ⟨RX1, "umbrellasWith", "(II)I"⟩
abbrev cX1_oddnessTogether : ByteArray := prog_3_method_7_code
def yX1_oddnessTogether : MethodName := ⟨RX1, "oddnessTogether", "(I)I"⟩
abbrev cX1_takeUmbrella : ByteArray := prog_3_method_8_code
def yX1_takeUmbrella : MethodName := ⟨RX1, "takeUmbrella", "(IIII)I"⟩
abbrev cX1_takeClaim : ByteArray := prog_3_method_9_code
def yX1_takeClaim : MethodName := ⟨RX1, "takeClaim", "(IIII)I"⟩
abbrev cX1_noteDetail : ByteArray := prog_3_method_10_code
def yX1_noteDetail : MethodName := ⟨RX1, "noteDetail", "(III)I"⟩
abbrev cX1_dropClaim : ByteArray := prog_3_method_11_code
def yX1_dropClaim : MethodName := ⟨RX1, "dropClaim", "(I)I"⟩
abbrev cX1_changeSetting : ByteArray := prog_3_method_12_code
def yX1_changeSetting : MethodName := ⟨RX1, "changeSetting", "(II)I"⟩
abbrev cX1_passWeeks : ByteArray := prog_3_method_13_code
def yX1_passWeeks : MethodName := ⟨RX1, "passWeeks", "(II)I"⟩
abbrev cX1_growOlder : ByteArray := prog_3_method_14_code
def yX1_growOlder : MethodName := ⟨RX1, "growOlder", "(LOddUmbrellas$Rows;)V"⟩
abbrev cX1_endOld : ByteArray := prog_3_method_15_code
def yX1_endOld : MethodName := ⟨RX1, "endOld", "(LOddUmbrellas$Rows;III)V"⟩
abbrev cX1_handOut : ByteArray := prog_3_method_16_code
def yX1_handOut : MethodName := ⟨RX1, "handOut", "(LOddUmbrellas$Matching;)I"⟩
abbrev cX1_enter : ByteArray := prog_3_method_17_code
def yX1_enter : MethodName := ⟨RX1, "enter", "(III)V"⟩
def RX2 : String := "OddUmbrellas$Rows"
def TX2 : u_T := fun k => match k with
  | 0 => ("OddUmbrellas$Rows", "cells", "[I", true)
  | _ => ("OddUmbrellas$Rows", "size", "I", false)
def tyX2 : Nat → FieldType := fun k => match k with
  | 0 => .array .int
  | _ => .int
abbrev wsX20 : List Cond := u_ws RX2 TX2 2
theorem nmX2 : ∀ a, a < 2 → ∀ b, b < 2 → a ≠ b → (TX2 a).2.1 ≠ (TX2 b).2.1 := by decide +kernel
theorem tyX2_ok : ∀ k, k < 2 → parseFieldDescriptor (TX2 k).2.2.1 = some (tyX2 k) := by decide +kernel
abbrev cX2_init : ByteArray := prog_4_method_1_code
def yX2_init : MethodName := ⟨RX2, "<init>", "()V"⟩
abbrev cX2_has : ByteArray := prog_4_method_2_code
def yX2_has : MethodName := ⟨RX2, "has", "(I)Z"⟩
abbrev cX2_cell : ByteArray := prog_4_method_3_code
def yX2_cell : MethodName := ⟨RX2, "cell", "(II)I"⟩
abbrev cX2_put : ByteArray := prog_4_method_4_code
def yX2_put : MethodName := ⟨RX2, "put", "(III)V"⟩
abbrev cX2_append : ByteArray := prog_4_method_5_code
def yX2_append : MethodName := ⟨RX2, "append", "(IIII)I"⟩
abbrev cX2_remove : ByteArray := prog_4_method_6_code
def yX2_remove : MethodName := ⟨RX2, "remove", "(I)V"⟩
abbrev cX2_become : ByteArray := prog_4_method_7_code
def yX2_become : MethodName := ⟨RX2, "become", "(LOddUmbrellas$Rows;)V"⟩
def RX3 : String := "OddUmbrellas$Text"
def TX3 : u_T := fun k => match k with
  | 0 => ("OddUmbrellas$Text", "signs", "[C", true)
  | 1 => ("OddUmbrellas$Text", "length", "I", false)
  | 2 => ("OddUmbrellas$Text", "place", "I", false)
  | 3 => ("OddUmbrellas$Text", "kind", "I", false)
  | _ => ("OddUmbrellas$Text", "numbers", "[I", true)
def tyX3 : Nat → FieldType := fun k => match k with
  | 0 => .array .char
  | 1 => .int
  | 2 => .int
  | 3 => .int
  | _ => .array .int
abbrev wsX30 : List Cond := u_ws RX3 TX3 5
theorem nmX3 : ∀ a, a < 5 → ∀ b, b < 5 → a ≠ b → (TX3 a).2.1 ≠ (TX3 b).2.1 := by decide +kernel
theorem tyX3_ok : ∀ k, k < 5 → parseFieldDescriptor (TX3 k).2.2.1 = some (tyX3 k) := by decide +kernel
abbrev cX3_init : ByteArray := prog_5_method_1_code
def yX3_init : MethodName := ⟨RX3, "<init>", "()V"⟩
abbrev cX3_append : ByteArray := prog_5_method_2_code
def yX3_append : MethodName := ⟨RX3, "append", "(C)Z"⟩
abbrev cX3_number : ByteArray := prog_5_method_3_code
def yX3_number : MethodName := ⟨RX3, "number", "(I)I"⟩
abbrev cX3_readOrder : ByteArray := prog_5_method_4_code
def yX3_readOrder : MethodName := ⟨RX3, "readOrder", "(I)Z"⟩
abbrev cX3_signHere : ByteArray := prog_5_method_5_code
def yX3_signHere : MethodName := ⟨RX3, "signHere", "()C"⟩
abbrev cX3_readSign : ByteArray := prog_5_method_6_code
def yX3_readSign : MethodName := ⟨RX3, "readSign", "(C)Z"⟩
abbrev cX3_readWord : ByteArray := prog_5_method_7_code
def yX3_readWord : MethodName := ⟨RX3, "readWord", "(Ljava/lang/String;)Z"⟩
abbrev cX3_readNumbers : ByteArray := prog_5_method_8_code
def yX3_readNumbers : MethodName := ⟨RX3, "readNumbers", "(IZ)Z"⟩
abbrev cX3_digitHere : ByteArray := prog_5_method_9_code
def yX3_digitHere : MethodName := ⟨RX3, "digitHere", "()I"⟩
abbrev cX3_readNumber : ByteArray := prog_5_method_10_code
def yX3_readNumber : MethodName := ⟨RX3, "readNumber", "()I"⟩
def RX4 : String := "OddUmbrellas"
def TX4 : u_T := fun k => match k with
  | 0 => ("OddUmbrellas", "office", "LOddUmbrellas$Office;", true)
  | 1 => ("OddUmbrellas", "trial", "LOddUmbrellas$Office;", true)
  | 2 => ("OddUmbrellas", "matching", "LOddUmbrellas$Matching;", true)
  | 3 => ("OddUmbrellas", "history", "[LOddUmbrellas$Office;", true)
  | 4 => ("OddUmbrellas", "states", "I", false)
  | 5 => ("OddUmbrellas", "text", "LOddUmbrellas$Text;", true)
  | 6 => ("OddUmbrellas", "ordersTried", "I", false)
  | 7 => ("OddUmbrellas", "faultPlace", "I", false)
  | 8 => ("OddUmbrellas", "faultReason", "I", false)
  | _ => ("OddUmbrellas", "faultCause", "I", false)
def tyX4 : Nat → FieldType := fun k => match k with
  | 0 => .object "OddUmbrellas$Office"
  | 1 => .object "OddUmbrellas$Office"
  | 2 => .object "OddUmbrellas$Matching"
  | 3 => .array (.object "OddUmbrellas$Office")
  | 4 => .int
  | 5 => .object "OddUmbrellas$Text"
  | 6 => .int
  | 7 => .int
  | 8 => .int
  | _ => .int
abbrev wsX40 : List Cond := u_ws RX4 TX4 10
theorem nmX4 : ∀ a, a < 10 → ∀ b, b < 10 → a ≠ b → (TX4 a).2.1 ≠ (TX4 b).2.1 := by decide +kernel
theorem tyX4_ok : ∀ k, k < 10 → parseFieldDescriptor (TX4 k).2.2.1 = some (tyX4 k) := by decide +kernel
abbrev cX4_init : ByteArray := prog_1_method_1_code
def yX4_init : MethodName := ⟨RX4, "<init>", "()V"⟩
abbrev cX4_find : ByteArray := prog_1_method_2_code
def yX4_find : MethodName := ⟨RX4, "find", "(IIII)I"⟩
abbrev cX4_claim : ByteArray := prog_1_method_3_code
def yX4_claim : MethodName := ⟨RX4, "claim", "(IIII)I"⟩
abbrev cX4_tell : ByteArray := prog_1_method_4_code
def yX4_tell : MethodName := ⟨RX4, "tell", "(III)I"⟩
abbrev cX4_drop : ByteArray := prog_1_method_5_code
def yX4_drop : MethodName := ⟨RX4, "drop", "(I)I"⟩
abbrev cX4_weeks : ByteArray := prog_1_method_6_code
def yX4_weeks : MethodName := ⟨RX4, "weeks", "(I)I"⟩
abbrev cX4_hand : ByteArray := prog_1_method_7_code
def yX4_hand : MethodName := ⟨RX4, "hand", "()I"⟩
abbrev cX4_set : ByteArray := prog_1_method_8_code
def yX4_set : MethodName := ⟨RX4, "set", "(II)I"⟩
abbrev cX4_umbrella : ByteArray := prog_1_method_9_code
def yX4_umbrella : MethodName := ⟨RX4, "umbrella", "(II)I"⟩
abbrev cX4_claimOf : ByteArray := prog_1_method_10_code
def yX4_claimOf : MethodName := ⟨RX4, "claimOf", "(II)I"⟩
abbrev cX4_points : ByteArray := prog_1_method_11_code
def yX4_points : MethodName := ⟨RX4, "points", "(II)I"⟩
abbrev cX4_having : ByteArray := prog_1_method_12_code
def yX4_having : MethodName := ⟨RX4, "having", "(II)I"⟩
abbrev cX4_book : ByteArray := prog_1_method_13_code
def yX4_book : MethodName := ⟨RX4, "book", "(II)I"⟩
abbrev cX4_why : ByteArray := prog_1_method_14_code
def yX4_why : MethodName := ⟨RX4, "why", "(II)I"⟩
abbrev cX4_ifTold : ByteArray := prog_1_method_15_code
def yX4_ifTold : MethodName := ⟨RX4, "ifTold", "(III)I"⟩
abbrev cX4_oddest : ByteArray := prog_1_method_16_code
def yX4_oddest : MethodName := ⟨RX4, "oddest", "()I"⟩
abbrev cX4_ifWeeks : ByteArray := prog_1_method_17_code
def yX4_ifWeeks : MethodName := ⟨RX4, "ifWeeks", "(II)I"⟩
abbrev cX4_mean : ByteArray := prog_1_method_18_code
def yX4_mean : MethodName := ⟨RX4, "mean", "()I"⟩
abbrev cX4_count : ByteArray := prog_1_method_19_code
def yX4_count : MethodName := ⟨RX4, "count", "(I)I"⟩
abbrev cX4_undo : ByteArray := prog_1_method_20_code
def yX4_undo : MethodName := ⟨RX4, "undo", "()I"⟩
abbrev cX4_type : ByteArray := prog_1_method_21_code
def yX4_type : MethodName := ⟨RX4, "type", "(I)I"⟩
abbrev cX4_clearText : ByteArray := prog_1_method_22_code
def yX4_clearText : MethodName := ⟨RX4, "clearText", "()I"⟩
abbrev cX4_fault : ByteArray := prog_1_method_23_code
def yX4_fault : MethodName := ⟨RX4, "fault", "(I)I"⟩
abbrev cX4_play : ByteArray := prog_1_method_24_code
def yX4_play : MethodName := ⟨RX4, "play", "()I"⟩
abbrev cX4_keepState : ByteArray := prog_1_method_25_code
def yX4_keepState : MethodName := ⟨RX4, "keepState", "()V"⟩
abbrev cX4_recorded : ByteArray := prog_1_method_26_code
def yX4_recorded : MethodName := ⟨RX4, "recorded", "(I)I"⟩
abbrev cX4_forgetOldestState : ByteArray := prog_1_method_27_code
def yX4_forgetOldestState : MethodName := ⟨RX4, "forgetOldestState", "()V"⟩
abbrev cX4_tryText : ByteArray := prog_1_method_28_code
def yX4_tryText : MethodName := ⟨RX4, "tryText", "()V"⟩
abbrev cX4_tellFault : ByteArray := prog_1_method_29_code
def yX4_tellFault : MethodName := ⟨RX4, "tellFault", "(III)V"⟩
abbrev cX4_doOrder : ByteArray := prog_1_method_30_code
def yX4_doOrder : MethodName := ⟨RX4, "doOrder", "(LOddUmbrellas$Office;)I"⟩
abbrev cX4_isPair : ByteArray := prog_1_method_31_code
def yX4_isPair : MethodName := ⟨RX4, "isPair", "(II)Z"⟩
abbrev cX4_isDetail : ByteArray := prog_1_method_32_code
def yX4_isDetail : MethodName := ⟨RX4, "isDetail", "(I)Z"⟩
abbrev cX4_isValue : ByteArray := prog_1_method_33_code
def yX4_isValue : MethodName := ⟨RX4, "isValue", "(I)Z"⟩
abbrev cX4_isValueOrNotTold : ByteArray := prog_1_method_34_code
def yX4_isValueOrNotTold : MethodName := ⟨RX4, "isValueOrNotTold", "(I)Z"⟩
abbrev cX4_isWeeksAtOnce : ByteArray := prog_1_method_35_code
def yX4_isWeeksAtOnce : MethodName := ⟨RX4, "isWeeksAtOnce", "(I)Z"⟩
abbrev cX4_orNotFound : ByteArray := prog_1_method_36_code
def yX4_orNotFound : MethodName := ⟨RX4, "orNotFound", "(I)I"⟩
abbrev cX4_numberAt : ByteArray := prog_1_method_37_code
def yX4_numberAt : MethodName := ⟨RX4, "numberAt", "([II)I"⟩
abbrev cX4_bitsOf : ByteArray := prog_1_method_38_code
def yX4_bitsOf : MethodName := ⟨RX4, "bitsOf", "(F)I"⟩
def RX5 : String := "OddUmbrellasModel"
def TX5 : u_T := fun k => match k with
  | 0 => ("OddUmbrellasModel", "s", "[I", true)
  | 1 => ("OddUmbrellasModel", "states", "I", false)
  | 2 => ("OddUmbrellasModel", "text", "[I", true)
  | 3 => ("OddUmbrellasModel", "typed", "I", false)
  | 4 => ("OddUmbrellasModel", "claimFor", "[I", true)
  | 5 => ("OddUmbrellasModel", "umbrellaFor", "[I", true)
  | 6 => ("OddUmbrellasModel", "points", "[I", true)
  | 7 => ("OddUmbrellasModel", "asked", "[I", true)
  | 8 => ("OddUmbrellasModel", "spot", "I", false)
  | 9 => ("OddUmbrellasModel", "letter", "I", false)
  | 10 => ("OddUmbrellasModel", "read", "[I", true)
  | 11 => ("OddUmbrellasModel", "faultAt", "I", false)
  | 12 => ("OddUmbrellasModel", "faultReason", "I", false)
  | _ => ("OddUmbrellasModel", "faultCause", "I", false)
def tyX5 : Nat → FieldType := fun k => match k with
  | 0 => .array .int
  | 1 => .int
  | 2 => .array .int
  | 3 => .int
  | 4 => .array .int
  | 5 => .array .int
  | 6 => .array .int
  | 7 => .array .int
  | 8 => .int
  | 9 => .int
  | 10 => .array .int
  | 11 => .int
  | 12 => .int
  | _ => .int
abbrev wsX50 : List Cond := u_ws RX5 TX5 14
theorem nmX5 : ∀ a, a < 14 → ∀ b, b < 14 → a ≠ b → (TX5 a).2.1 ≠ (TX5 b).2.1 := by decide +kernel
theorem tyX5_ok : ∀ k, k < 14 → parseFieldDescriptor (TX5 k).2.2.1 = some (tyX5 k) := by decide +kernel
abbrev cX5_init : ByteArray := prog_7_method_1_code
def yX5_init : MethodName := ⟨RX5, "<init>", "()V"⟩
abbrev cX5_in : ByteArray := prog_7_method_3_code
def yX5_in : MethodName := ⟨RX5, "in", "(III)Z"⟩
abbrev cX5_copies : ByteArray := prog_7_method_4_code
def yX5_copies : MethodName := ⟨RX5, "copies", "(II)V"⟩
abbrev cX5_records : ByteArray := prog_7_method_5_code
def yX5_records : MethodName := ⟨RX5, "records", "()V"⟩
abbrev cX5_umbrellaAt : ByteArray := prog_7_method_6_code
def yX5_umbrellaAt : MethodName := ⟨RX5, "umbrellaAt", "(II)I"⟩
abbrev cX5_claimAt : ByteArray := prog_7_method_7_code
def yX5_claimAt : MethodName := ⟨RX5, "claimAt", "(II)I"⟩
abbrev cX5_many : ByteArray := prog_7_method_8_code
def yX5_many : MethodName := ⟨RX5, "many", "(III)I"⟩
abbrev cX5_misses : ByteArray := prog_7_method_9_code
def yX5_misses : MethodName := ⟨RX5, "misses", "(III)I"⟩
abbrev cX5_pointsOf : ByteArray := prog_7_method_10_code
def yX5_pointsOf : MethodName := ⟨RX5, "pointsOf", "(III)I"⟩
abbrev cX5_suits : ByteArray := prog_7_method_11_code
def yX5_suits : MethodName := ⟨RX5, "suits", "(III)Z"⟩
abbrev cX5_clears : ByteArray := prog_7_method_12_code
def yX5_clears : MethodName := ⟨RX5, "clears", "(I)V"⟩
abbrev cX5_matches : ByteArray := prog_7_method_13_code
def yX5_matches : MethodName := ⟨RX5, "matches", "(I)I"⟩
abbrev cX5_asks : ByteArray := prog_7_method_14_code
def yX5_asks : MethodName := ⟨RX5, "asks", "(I)I"⟩
abbrev cX5_asksOn : ByteArray := prog_7_method_15_code
def yX5_asksOn : MethodName := ⟨RX5, "asksOn", "(I)I"⟩
abbrev cX5_byAsking : ByteArray := prog_7_method_16_code
def yX5_byAsking : MethodName := ⟨RX5, "byAsking", "(I)I"⟩
abbrev cX5_writes : ByteArray := prog_7_method_17_code
def yX5_writes : MethodName := ⟨RX5, "writes", "(IIII)V"⟩
abbrev cX5_umbrellaGoes : ByteArray := prog_7_method_18_code
def yX5_umbrellaGoes : MethodName := ⟨RX5, "umbrellaGoes", "(II)V"⟩
abbrev cX5_claimGoes : ByteArray := prog_7_method_19_code
def yX5_claimGoes : MethodName := ⟨RX5, "claimGoes", "(II)V"⟩
abbrev cX5_sells : ByteArray := prog_7_method_20_code
def yX5_sells : MethodName := ⟨RX5, "sells", "(I)V"⟩
abbrev cX5_lapses : ByteArray := prog_7_method_21_code
def yX5_lapses : MethodName := ⟨RX5, "lapses", "(I)V"⟩
abbrev cX5_goBy : ByteArray := prog_7_method_22_code
def yX5_goBy : MethodName := ⟨RX5, "goBy", "(II)I"⟩
abbrev cX5_handsOut : ByteArray := prog_7_method_23_code
def yX5_handsOut : MethodName := ⟨RX5, "handsOut", "(I)I"⟩
abbrev cX5_areValues : ByteArray := prog_7_method_24_code
def yX5_areValues : MethodName := ⟨RX5, "areValues", "(IIIII)Z"⟩
abbrev cX5_lays : ByteArray := prog_7_method_25_code
def yX5_lays : MethodName := ⟨RX5, "lays", "(IIIII)V"⟩
abbrev cX5_finds : ByteArray := prog_7_method_26_code
def yX5_finds : MethodName := ⟨RX5, "finds", "(IIIII)I"⟩
abbrev cX5_claims : ByteArray := prog_7_method_27_code
def yX5_claims : MethodName := ⟨RX5, "claims", "(IIIII)I"⟩
abbrev cX5_isClaim : ByteArray := prog_7_method_28_code
def yX5_isClaim : MethodName := ⟨RX5, "isClaim", "(II)Z"⟩
abbrev cX5_isDetail : ByteArray := prog_7_method_29_code
def yX5_isDetail : MethodName := ⟨RX5, "isDetail", "(II)Z"⟩
abbrev cX5_tells : ByteArray := prog_7_method_30_code
def yX5_tells : MethodName := ⟨RX5, "tells", "(IIII)I"⟩
abbrev cX5_weeksIn : ByteArray := prog_7_method_31_code
def yX5_weeksIn : MethodName := ⟨RX5, "weeksIn", "(II)I"⟩
abbrev cX5_done : ByteArray := prog_7_method_32_code
def yX5_done : MethodName := ⟨RX5, "done", "(I)I"⟩
abbrev cX5_tried : ByteArray := prog_7_method_33_code
def yX5_tried : MethodName := ⟨RX5, "tried", "()I"⟩
abbrev cX5_find : ByteArray := prog_7_method_34_code
def yX5_find : MethodName := ⟨RX5, "find", "(IIII)I"⟩
abbrev cX5_claim : ByteArray := prog_7_method_35_code
def yX5_claim : MethodName := ⟨RX5, "claim", "(IIII)I"⟩
abbrev cX5_tell : ByteArray := prog_7_method_36_code
def yX5_tell : MethodName := ⟨RX5, "tell", "(III)I"⟩
abbrev cX5_drop : ByteArray := prog_7_method_37_code
def yX5_drop : MethodName := ⟨RX5, "drop", "(I)I"⟩
abbrev cX5_weeks : ByteArray := prog_7_method_38_code
def yX5_weeks : MethodName := ⟨RX5, "weeks", "(I)I"⟩
abbrev cX5_hand : ByteArray := prog_7_method_39_code
def yX5_hand : MethodName := ⟨RX5, "hand", "()I"⟩
abbrev cX5_isSetting : ByteArray := prog_7_method_40_code
def yX5_isSetting : MethodName := ⟨RX5, "isSetting", "(II)Z"⟩
abbrev cX5_set : ByteArray := prog_7_method_41_code
def yX5_set : MethodName := ⟨RX5, "set", "(II)I"⟩
abbrev cX5_isUmbrella : ByteArray := prog_7_method_42_code
def yX5_isUmbrella : MethodName := ⟨RX5, "isUmbrella", "(I)Z"⟩
abbrev cX5_suiting : ByteArray := prog_7_method_43_code
def yX5_suiting : MethodName := ⟨RX5, "suiting", "(II)I"⟩
abbrev cX5_oddness : ByteArray := prog_7_method_44_code
def yX5_oddness : MethodName := ⟨RX5, "oddness", "(I)I"⟩
abbrev cX5_mateOf : ByteArray := prog_7_method_45_code
def yX5_mateOf : MethodName := ⟨RX5, "mateOf", "(IZ)I"⟩
abbrev cX5_umbrella : ByteArray := prog_7_method_46_code
def yX5_umbrella : MethodName := ⟨RX5, "umbrella", "(II)I"⟩
abbrev cX5_matchOf : ByteArray := prog_7_method_47_code
def yX5_matchOf : MethodName := ⟨RX5, "matchOf", "(II)I"⟩
abbrev cX5_claimOf : ByteArray := prog_7_method_48_code
def yX5_claimOf : MethodName := ⟨RX5, "claimOf", "(II)I"⟩
abbrev cX5_points : ByteArray := prog_7_method_49_code
def yX5_points : MethodName := ⟨RX5, "points", "(II)I"⟩
abbrev cX5_having : ByteArray := prog_7_method_50_code
def yX5_having : MethodName := ⟨RX5, "having", "(II)I"⟩
abbrev cX5_book : ByteArray := prog_7_method_51_code
def yX5_book : MethodName := ⟨RX5, "book", "(II)I"⟩
abbrev cX5_why : ByteArray := prog_7_method_52_code
def yX5_why : MethodName := ⟨RX5, "why", "(II)I"⟩
abbrev cX5_ifTold : ByteArray := prog_7_method_53_code
def yX5_ifTold : MethodName := ⟨RX5, "ifTold", "(III)I"⟩
abbrev cX5_oddest : ByteArray := prog_7_method_54_code
def yX5_oddest : MethodName := ⟨RX5, "oddest", "()I"⟩
abbrev cX5_ifWeeks : ByteArray := prog_7_method_55_code
def yX5_ifWeeks : MethodName := ⟨RX5, "ifWeeks", "(II)I"⟩
abbrev cX5_mean : ByteArray := prog_7_method_56_code
def yX5_mean : MethodName := ⟨RX5, "mean", "()I"⟩
abbrev cX5_count : ByteArray := prog_7_method_57_code
def yX5_count : MethodName := ⟨RX5, "count", "(I)I"⟩
abbrev cX5_undo : ByteArray := prog_7_method_58_code
def yX5_undo : MethodName := ⟨RX5, "undo", "()I"⟩
abbrev cX5_type : ByteArray := prog_7_method_59_code
def yX5_type : MethodName := ⟨RX5, "type", "(I)I"⟩
abbrev cX5_clearText : ByteArray := prog_7_method_60_code
def yX5_clearText : MethodName := ⟨RX5, "clearText", "()I"⟩
abbrev cX5_takes : ByteArray := prog_7_method_61_code
def yX5_takes : MethodName := ⟨RX5, "takes", "(I)Z"⟩
abbrev cX5_takesWord : ByteArray := prog_7_method_62_code
def yX5_takesWord : MethodName := ⟨RX5, "takesWord", "(J)Z"⟩
abbrev cX5_isDigit : ByteArray := prog_7_method_63_code
def yX5_isDigit : MethodName := ⟨RX5, "isDigit", "()Z"⟩
abbrev cX5_readsNumber : ByteArray := prog_7_method_64_code
def yX5_readsNumber : MethodName := ⟨RX5, "readsNumber", "(I)Z"⟩
abbrev cX5_readsValue : ByteArray := prog_7_method_65_code
def yX5_readsValue : MethodName := ⟨RX5, "readsValue", "(IZ)Z"⟩
abbrev cX5_readsRow : ByteArray := prog_7_method_66_code
def yX5_readsRow : MethodName := ⟨RX5, "readsRow", "(IZ)Z"⟩
abbrev cX5_readsOrder : ByteArray := prog_7_method_67_code
def yX5_readsOrder : MethodName := ⟨RX5, "readsOrder", "()Z"⟩
abbrev cX5_does : ByteArray := prog_7_method_68_code
def yX5_does : MethodName := ⟨RX5, "does", "(I)I"⟩
abbrev cX5_looks : ByteArray := prog_7_method_69_code
def yX5_looks : MethodName := ⟨RX5, "looks", "()I"⟩
abbrev cX5_fault : ByteArray := prog_7_method_70_code
def yX5_fault : MethodName := ⟨RX5, "fault", "(I)I"⟩
abbrev cX5_play : ByteArray := prog_7_method_71_code
def yX5_play : MethodName := ⟨RX5, "play", "()I"⟩
def RL : String := "OddUmbrellasLaw"
abbrev vwCl : List vw_C := [(RX0, TX0, 10), (RX1, TX1, 5), (RX2, TX2, 2), (RX3, TX3, 5), (RX4, TX4, 10), (RX5, TX5, 14)]
set_option maxRecDepth 100000 in
theorem inX0 : ∀ w ∈ u_ws RX0 TX0 10, w ∈ lw_tbl := by decide +kernel
set_option maxRecDepth 100000 in
theorem inX1 : ∀ w ∈ u_ws RX1 TX1 5, w ∈ lw_tbl := by decide +kernel
set_option maxRecDepth 100000 in
theorem inX2 : ∀ w ∈ u_ws RX2 TX2 2, w ∈ lw_tbl := by decide +kernel
set_option maxRecDepth 100000 in
theorem inX3 : ∀ w ∈ u_ws RX3 TX3 5, w ∈ lw_tbl := by decide +kernel
set_option maxRecDepth 100000 in
theorem inX4 : ∀ w ∈ u_ws RX4 TX4 10, w ∈ lw_tbl := by decide +kernel
set_option maxRecDepth 100000 in
theorem inX5 : ∀ w ∈ u_ws RX5 TX5 14, w ∈ lw_tbl := by decide +kernel
end
section
/-! the ground: numbers, abstract values, the heap as numbers, the layout of the cells, the judgement Z -/
section Ground
/-- the words that travel into any call, and those of nest mates, which travel beside -/
def lwT : List Cond := lw_tbl.filter goodWord
theorem lwT_of {w : Cond} (i : Nat) (h : lw_tbl[i]? = some w) (hg : goodWord w = true) : w ∈ lwT := List.mem_filter.mpr ⟨List.mem_of_getElem? h, hg⟩
theorem lwT_G : GoodIn lwT lwT := fun w hw => ⟨hw, good_of_word (List.mem_filter.mp hw).2⟩
def lwNest (w : Cond) : Bool := match w with
  | .methodLinkNest .. => true
  | .fieldLinkNest .. => true
  | _ => false
def lwN (s : State) : Prop := ∀ w ∈ lw_tbl, lwNest w = true → va_Nw w s
theorem lwN.warm {s U : State} (hW : s.WarmedH U.vm) (h : lwN s) : lwN U := by
  intro w hw hn
  have h1 := h w hw hn
  cases w with
  | methodLinkNest a i x b => exact h1.warmM hW
  | fieldLinkNest a i b n d x => exact h1.warmF hW
  | _ => cases hn
abbrev AV : Type := Int ⊕ Nat ⊕ Value
abbrev vi (z : Int) : AV := Sum.inl z
abbrev vr (i : Nat) : AV := Sum.inr (Sum.inl i)
abbrev vx (v : Value) : AV := Sum.inr (Sum.inr v)
def mv (ad : Nat → Nat) (v : AV) : Value := match v with
  | .inl z => .int (Int32.ofInt z)
  | .inr (.inl i) => .ref (ad i)
  | .inr (.inr v) => v
def iR (z : Int) : Prop := -2147483648 ≤ z ∧ z < 2147483648
def avR (v : AV) : Prop := match v with
  | .inl z => iR z
  | _ => True
def acat (v : AV) : Nat := match v with
  | .inl _ => 1
  | .inr (.inl _) => 1
  | .inr (.inr v) => v.category
theorem acat_mv (ad : Nat → Nat) (v : AV) : (mv ad v).category = acat v := by
  rcases v with z | i | v <;> rfl
abbrev Hp : Type := Nat → Nat → Int
def hR (h : Hp) : Prop := ∀ i k, iR (h i k)
def hup (h : Hp) (i k : Nat) (x : Int) : Hp := fun a b => if a = i ∧ b = k then x else h a b
/-- a number as the machine keeps it; hidden behind a choice, so that nothing computes with it -/
theorem wr_ex (z : Int) : ∃ y : Int, y = (z + 2147483648) % 4294967296 - 2147483648 := ⟨_, rfl⟩
noncomputable def wr (z : Int) : Int := Classical.choose (wr_ex z)
theorem wr_def (z : Int) : wr z = (z + 2147483648) % 4294967296 - 2147483648 := Classical.choose_spec (wr_ex z)
theorem wr_R (z : Int) : iR (wr z) := by rw [wr_def]; unfold iR; omega
theorem wr_e {z : Int} (h : iR z) : wr z = z := by rw [wr_def]; unfold iR at h; omega
theorem ofI_T {z : Int} (h : iR z) : (Int32.ofInt z).toInt = z := Int32.toInt_ofInt_of_le h.1 h.2
theorem ofI_eq {a b : Int} (h : a % 4294967296 = b % 4294967296) : Int32.ofInt a = Int32.ofInt b := by
  apply Int32.toInt.inj
  rw [Int32.toInt_ofInt, Int32.toInt_ofInt]
  show a.bmod 4294967296 = b.bmod 4294967296
  rw [Int.bmod_def, Int.bmod_def]
  have : ((4294967296 : Nat) : Int) = 4294967296 := rfl
  rw [this, h]
theorem ofI_wr (z : Int) : Int32.ofInt (wr z) = Int32.ofInt z := ofI_eq (by rw [wr_def]; omega)
theorem ofI_le {a b : Int} (ha : iR a) (hb : iR b) : Int32.ofInt a ≤ Int32.ofInt b ↔ a ≤ b := by rw [Int32.le_iff_toInt_le, ofI_T ha, ofI_T hb]
theorem ofI_lt {a b : Int} (ha : iR a) (hb : iR b) : Int32.ofInt a < Int32.ofInt b ↔ a < b := by rw [Int32.lt_iff_toInt_lt, ofI_T ha, ofI_T hb]
theorem ofI_inj {a b : Int} (ha : iR a) (hb : iR b) : Int32.ofInt a = Int32.ofInt b ↔ a = b := by
  constructor
  · intro h
    rw [← ofI_T ha, ← ofI_T hb, h]
  · intro h
    rw [h]
theorem iR_0 : iR 0 := by unfold iR; omega
theorem ofI_0 : Int32.ofInt 0 = 0 := rfl
abbrev inb (x : Int) (n : Nat) : Prop := 0 ≤ x ∧ x < n
theorem ofI_in {x : Int} {n : Nat} (hx : iR x) (h : 0 ≤ x ∧ x < n) : vp_in (Int32.ofInt x) n := vp_in_iff.mpr (by rw [ofI_T hx]; exact h)
theorem ofI_cl {x : Int} (hx : iR x) : (Int32.ofInt x).toNatClampNeg = x.toNat := by
  show (Int32.ofInt x).toInt.toNat = x.toNat
  rw [ofI_T hx]
theorem hR_hup {h : Hp} {i k : Nat} {x : Int} (hh : hR h) (hx : iR x) : hR (hup h i k x) := by
  intro a b
  unfold hup
  split
  · exact hx
  · exact hh a b
/-- the cells in the order in which they come: what each is, and of arrays how long; behind them the statics and the texts -/
def lay : List (Nat × Nat) :=
  [(4, 0)] ++ [(1, 0), (2, 0), (10, 72), (2, 0), (10, 72), (2, 0), (10, 72), (10, 7), (10, 12)] ++ [(1, 0), (2, 0), (10, 72), (2, 0), (10, 72), (2, 0), (10, 72), (10, 7), (10, 12)] ++
  [(0, 0), (10, 144), (10, 144), (11, 144), (11, 144), (10, 40), (10, 12), (10, 12)] ++ [(13, 5)] ++ [(3, 0), (12, 60), (10, 4)] ++
  [(1, 0), (2, 0), (10, 72), (2, 0), (10, 72), (2, 0), (10, 72), (10, 7), (10, 12)] ++ [(1, 0), (2, 0), (10, 72), (2, 0), (10, 72), (2, 0), (10, 72), (10, 7), (10, 12)] ++
  [(1, 0), (2, 0), (10, 72), (2, 0), (10, 72), (2, 0), (10, 72), (10, 7), (10, 12)] ++ [(1, 0), (2, 0), (10, 72), (2, 0), (10, 72), (2, 0), (10, 72), (10, 7), (10, 12)] ++
  [(1, 0), (2, 0), (10, 72), (2, 0), (10, 72), (2, 0), (10, 72), (10, 7), (10, 12)] ++
  [(5, 0), (10, 1330), (10, 60), (10, 12), (10, 12), (10, 144), (10, 12), (10, 4)] ++
  [(30, 7), (30, 7), (30, 7)] ++ [(31, 5), (31, 6), (31, 5), (31, 5), (31, 4)] ++ [(32, 5), (32, 6), (32, 5), (32, 5), (32, 4)]
def kd (i : Nat) : Nat × Nat := lay.getD i (99, 0)
/-- the places of the references in an object: how far behind it the cell lies that it holds -/
def off (c k : Nat) : Option Nat := match c with
  | 0 => if k < 7 then some (k + 1) else none
  | 1 => [1, 3, 5, 7, 8][k]?
  | 2 => [1][k]?
  | 3 => [some 1, none, none, none, some 2].getD k none
  | 4 => [some 1, some 10, some 19, some 27, none, some 28].getD k none
  | 5 => [some 1, none, some 2, none, some 3, some 4, some 5, some 6, none, none, some 7].getD k none
  | _ => none
/-- the numbers of the static rows -/
def sA (i k : Nat) : Int := match i with
  | 84 => [1, 4, 2, 8, 1, 6, 5].getD k 0
  | 85 => [0, 0, 0, 1, 0, 1, 1].getD k 0
  | 86 => [3, 20, 20, 48, 9, 20, 20].getD k 0
  | _ => 0
def sN (i : Nat) : String := match i with
  | 84 => "FIRST_SETTINGS"
  | 85 => "LEAST_SETTINGS"
  | _ => "GREATEST_SETTINGS"
def sTx (i : Nat) : String := match i with
  | 0 => "find "
  | 1 => "claim "
  | 2 => "tell "
  | 3 => "week "
  | _ => "hand"
def sLen : List Nat := [5, 6, 5, 5, 4]
def sBy : List (List Int32) := [[102, 105, 110, 100, 32], [99, 108, 97, 105, 109, 32], [116, 101, 108, 108, 32], [119, 101, 101, 107, 32], [104, 97, 110, 100]]
def LI (h : Hp) : Prop := (∀ i k o, off (kd i).1 k = some o → h i k = ((i + o : Nat) : Int)) ∧ ∀ i k, 84 ≤ i → i < 87 → h i k = sA i k
theorem kd_lt {i c : Nat} (h : (kd i).1 = c) (hc : c < 20) : i < 84 := by
  subst h
  have key : ∀ i, i < 97 → (kd i).1 < 20 → i < 84 := by decide +kernel
  rcases Nat.lt_or_ge i 97 with h | h
  · exact key i h hc
  · have : kd i = (99, 0) := by
      unfold kd
      rw [List.getD_eq_getElem?_getD, List.getElem?_eq_none (by exact h)]
      rfl
    rw [this] at hc
    exact absurd hc (by decide)
def rfo (ad : Nat → Nat) (z : Int) : Option Nat := if z < 0 then none else some (ad z.toNat)
def vw_N (c : Nat) : Nat := [10, 5, 2, 5, 10, 14].getD c 0
def fvl (c k : Nat) (ad : Nat → Nat) (z : Int) : Value := match off c k with
  | some _ => va_rf (rfo ad z)
  | none => .int (Int32.ofInt z)
def ofl (c : Nat) (ad : Nat → Nat) (f : Nat → Int) : List Value := (List.range (vw_N c)).map (fun k => fvl c k ad (f k))
def wcell (ad : Nat → Nat) (ca : Nat → ClassId) (f : Nat → Int) (i : Nat) : va_E :=
  if (kd i).1 = 13 then .inl (ca 3, (kd i).2, .inr (.inr (.inr (.inr (fun k => rfo ad (f k))))))
  else if 10 ≤ (kd i).1 then .inl (ca ((kd i).1 - 10), (kd i).2, .inl (fun k => Int32.ofInt (f k)))
  else .inr ((kd i).1, ofl (kd i).1 ad f)
def tysOf (ca : Nat → ClassId) : List (ClassId × FieldType) := [(ca 0, .int), (ca 1, .boolean), (ca 2, .char), (ca 3, .object "OddUmbrellas$Office")]
def wsN (N : Nat) (ad : Nat → Nat) (ca : Nat → ClassId) (h : Hp) : va_W := (List.range N).map (fun i => (ad i, wcell ad ca (h i) i))
theorem wsN_get {N : Nat} {ad : Nat → Nat} {ca : Nat → ClassId} {h : Hp} {i : Nat} (hi : i < N) : (wsN N ad ca h)[i]? = some (ad i, wcell ad ca (h i) i) := by
  simp [wsN, hi]
theorem wsN_set {N : Nat} {ad : Nat → Nat} {ca : Nat → ClassId} {h h' : Hp} {i : Nat} (ho : ∀ j, j ≠ i → h' j = h j) {e : va_E} (he : e = wcell ad ca (h' i) i) : (wsN N ad ca h).set i (ad i, e) = wsN N ad ca h' := by
  subst he
  apply List.ext_getElem?
  intro j
  by_cases hj : j < N
  · by_cases hji : j = i
    · subst hji
      rw [List.getElem?_set_self (by simp [wsN, hj]), wsN_get hj]
    · rw [List.getElem?_set_ne (fun q => hji q.symm), wsN_get hj, wsN_get hj, ho j hji]
  · rw [List.getElem?_eq_none (by simp [wsN]; omega), List.getElem?_eq_none (by simp [wsN]; omega)]
/-- the methods: owner, name, bytes, locals, what it returns, its rows, its height -/
abbrev MI : Type := String × MethodName × ByteArray × Nat × Option FieldType × List (Nat × Instr × Nat × Nat) × Nat
def mO (M : MI) : String := M.1
def mY (M : MI) : MethodName := M.2.1
def mC (M : MI) : ByteArray := M.2.2.1
def mN (M : MI) : Nat := M.2.2.2.1
def mR (M : MI) : Option FieldType := M.2.2.2.2.1
def mT (M : MI) : List (Nat × Instr × Nat × Nat) := M.2.2.2.2.2.1
def mD (M : MI) : Nat := M.2.2.2.2.2.2
def pcO (M : MI) (k : Nat) : Nat := ((mT M).getD k (0, .nop, 0, 0)).1
def okJ (i : Instr) (pc t : Int) : Bool := match i with
  | .if_icmp _ o => decide (pc + o = t)
  | .ifCond _ o => decide (pc + o = t)
  | .goto o => decide (pc + o = t)
  | .ifnull o => decide (pc + o = t)
  | .ifnonnull o => decide (pc + o = t)
  | _ => true
def nxJ (i : Instr) : Bool := match i with
  | .goto _ => true
  | .ireturn => true
  | .return_ => true
  | .tableswitch .. => true
  | .lookupswitch .. => true
  | _ => false
def okE (M : MI) (k : Nat) (q : Nat × Instr × Nat × Nat) : Bool := decide (decode (mC M) q.1 = .ok (q.2.1, q.2.2.1)) && okJ q.2.1 (q.1 : Int) (pcO M q.2.2.2 : Int) && (nxJ q.2.1 || decide (pcO M (k + 1) = q.1 + q.2.2.1))
def okM (M : MI) : Bool := decide (pcO M 0 = 0) && (List.range (mT M).length).all (fun k => okE M k ((mT M).getD k (0, .nop, 0, 0)))
theorem okM_at {M : MI} (h : okM M = true) {k pc n t : Nat} {i : Instr} (hk : (mT M)[k]? = some (pc, i, n, t)) : decode (mC M) pc = .ok (i, n) ∧ okJ i pc (pcO M t) = true ∧ (nxJ i = false → pcO M (k + 1) = pc + n) ∧ pcO M k = pc := by
  have hl := (List.getElem?_eq_some_iff.mp hk).1
  have hg : (mT M).getD k (0, .nop, 0, 0) = (pc, i, n, t) := by rw [List.getD_eq_getElem?_getD, hk]; rfl
  unfold okM at h
  simp only [Bool.and_eq_true] at h
  have h1 := List.all_eq_true.mp h.2 k (List.mem_range.mpr hl)
  rw [hg] at h1
  unfold okE at h1
  simp only [Bool.and_eq_true, Bool.or_eq_true, decide_eq_true_eq] at h1
  refine ⟨h1.1.1, h1.1.2, fun hn => ?_, ?_⟩
  · rcases h1.2 with h2 | h2
    · rw [hn] at h2; cases h2
    · exact h2
  · show ((mT M).getD k (0, .nop, 0, 0)).1 = pc
    rw [hg]
def wsM (M : MI) : List Cond := Cond.code (mY M) (mC M) (mN M) (mR M) :: lwT
def rmM (M : MI) : Room := { frames := mD M, cells := 0, slots := 0, locals := 27 * mD M }
/-- what stands ready ahead of all: the texts and the static rows -/
def SF (base : Nat) (ad : Nat → Nat) (s : State) : Prop :=
  (∀ i, 84 ≤ i → i < 87 → va_T .int (ad i) 7 (fun k => .int (Int32.ofInt (sA i k))) (fun q => base ≤ q) s s.heap ∧ va_Z "OddUmbrellas" (sN i) "[I" (.ref (ad i)) (fun q => base ≤ q) s s.heap) ∧
  vk_S 5 sLen sBy (fun i => ad (87 + i)) (fun i => ad (92 + i)) (fun q => base ≤ q) s s.heap ∧
  (vk_R "OddUmbrellas$Text" 37 "find " (ad 87) s ∧ vk_R "OddUmbrellas$Text" 51 "claim " (ad 88) s ∧ vk_R "OddUmbrellas$Text" 53 "tell " (ad 89) s ∧ vk_R "OddUmbrellas$Text" 55 "week " (ad 90) s ∧ vk_R "OddUmbrellas$Text" 57 "hand" (ad 91) s) ∧
  va_Z "java/lang/String" "COMPACT_STRINGS" "Z" (.int 1) (fun q => base ≤ q) s s.heap ∧
  va_Zq "jdk/internal/util/Preconditions" "SIOOBE_FORMATTER" "Ljava/util/function/BiFunction;" (fun q => base ≤ q) s s.heap
def CX (base : Nat) (D : va_G) (ca : Nat → ClassId) (ad : Nat → Nat) (s : State) : Prop := va_K D vwCl (tysOf ca) s ∧ lwN s ∧ SF base ad s
def WD (base : Nat) (D : va_G) (ca : Nat → ClassId) (ad : Nat → Nat) (h : Hp) (H : Heap) : Prop := va_P D vwCl (wsN 84 ad ca h) H ∧ va_D (fun q => base ≤ q) (wsN 84 ad ca h)
theorem CX.at {base : Nat} {D : va_G} {ca : Nat → ClassId} {ad : Nat → Nat} {s U : State} (h : CX base D ca ad s) (hv : s.WarmedH U.vm) (hq : ∀ a : Nat, a < s.heap.size → ¬ base ≤ a → U.heap[a]? = s.heap[a]?) : CX base D ca ad U := by
  obtain ⟨hK, hN, h1, h2, h3, h4, h5⟩ := h
  have ha := hv.alike
  refine ⟨hK.moved ha, hN.warm hv, fun i a b => ?_, ?_, ?_, ?_, ?_⟩
  · obtain ⟨q1, q2⟩ := h1 i a b
    exact ⟨(q1.moved ha).kept hq, (q2.moved ha).kept hq⟩
  · exact (h2.moved ha).kept hq
  · obtain ⟨a1, a2, a3, a4, a5⟩ := h3
    exact ⟨a1.warm hv, a2.warm hv, a3.warm hv, a4.warm hv, a5.warm hv⟩
  · exact (h4.moved ha).kept hq
  · exact (h5.moved ha).kept hq
def PcO (M : MI) (base : Nat) (D : va_G) (ca : Nat → ClassId) (ad : Nat → Nat) (av : List AV) (h : Hp) : Array Value → State → Prop := va_Pc (av.map (mv ad)) (fun U => CX base D ca ad U ∧ WD base D ca ad h U.heap)
def QcO (M : MI) (base : Nat) (D : va_G) (ca : Nat → ClassId) (ad : Nat → Nat) (r : Int) (h' : Hp) : Array Value → State → Outcome → State → Prop := match mR M with
  | none => va_Qv (S := Unit) (fun _ => True) (fun _ t => WD base D ca ad h' t.heap) (fun q => base ≤ q)
  | some _ => va_Qi (S := Unit) (fun x _ => x = Int32.ofInt r) (fun _ t => WD base D ca ad h' t.heap) (fun q => base ≤ q)
/-- a method's contract: if e is an answer and a heap, the method ends so -/
def Ct (M : MI) (av : List AV) (h : Hp) (e : Option (Int × Hp)) : Prop := LI h → hR h → (∀ v ∈ av, avR v) → ∀ r h', e = some (r, h') →
  (iR r ∧ LI h' ∧ hR h') ∧ ∀ (l : Launch) (base : Nat) (D : va_G) (ca : Nat → ClassId) (ad : Nat → Nat), Met l (mY M) (wsM M) (rmM M) (PcO M base D ca ad av h) (QcO M base D ca ad r h') 0 0 (fun q => base ≤ q)
def ZC (M : MI) (p : Program) (s : State) (m : MethodId) (args : Array Value) (meth : Method) (c : Code) (base : Nat) (D : va_G) (ca : Nat → ClassId) (ad : Nat → Nat) : Prop :=
  okM M = true ∧ p.tables.exec = Jvm.exec ∧ c.code = mC M ∧ c.maxLocals = mN M ∧ meth.sig.returnType = mR M ∧ meth.locks = false ∧ s.vm.findClass (mO M) = some m.cls ∧ (∀ w ∈ lwT, w.before args s = true) ∧ CX base D ca ad s
/-- the locals -/
def LH (ad : Nat → Nat) (la : Array Slot) (n : Nat) (ls : List (Option AV)) : Prop := la.size = n ∧ lv_wf la ∧ ∀ (i : Nat) (v : AV), ls[i]? = some (some v) → la[i]? = some (.val (mv ad v))
def ZW (M : MI) (k : Nat) (ls : List (Option AV)) (st : List AV) (h : Hp) (r : Int) (h' : Hp) : Prop :=
  ∀ (p : Program) (l : Launch) (e : Env) (s : State) (m : MethodId) (args : Array Value) (below : List Frame) (meth : Method) (c : Code) (base : Nat) (D : va_G) (ca : Nat → ClassId) (ad : Nat → Nat) (H : Heap) (locs : List Loc) (la : Array Slot),
    ZC M p s m args meth c base D ca ad → LH ad la (mN M) ls → WD base D ca ad h H → va_S (fun q => base ≤ q) s.heap H locs →
    W p l e (rmM M) s m args below meth c H locs 0 0 (MQ below (QcO M base D ca ad r h') args s 0 0 (fun q => base ≤ q)) (F0 m (pcO M k) la (st.map (mv ad)))
def Z (M : MI) (k : Nat) (ls : List (Option AV)) (st : List AV) (h : Hp) (e : Option (Int × Hp)) : Prop :=
  LI h → hR h → (∀ v ∈ st, avR v) → (∀ (i : Nat) (v : AV), ls[i]? = some (some v) → avR v) → ∀ r h', e = some (r, h') → (iR r ∧ LI h' ∧ hR h') ∧ ZW M k ls st h r h'
def bd (e : Option (Int × Hp)) (K : Int → Hp → Option (Int × Hp)) : Option (Int × Hp) := match e with
  | none => none
  | some q => K q.1 q.2
theorem bd_s (r : Int) (h : Hp) (K : Int → Hp → Option (Int × Hp)) : bd (some (r, h)) K = K r h := rfl
theorem bd_n (K : Int → Hp → Option (Int × Hp)) : bd none K = none := rfl
theorem Z.nix {M : MI} {k : Nat} {ls : List (Option AV)} {st : List AV} {h : Hp} : Z M k ls st h none := fun _ _ _ _ _ _ he => by cases he
/-- fewer locals known -/
def wkL (ls ls' : List (Option AV)) : Prop := ∀ (i : Nat) (v : AV), ls'[i]? = some (some v) → ls[i]? = some (some v)
theorem Z.weak {M : MI} {k : Nat} {ls ls' : List (Option AV)} {st : List AV} {h : Hp} {e : Option (Int × Hp)} (hw : wkL ls ls') (z : Z M k ls' st h e) : Z M k ls st h e := by
  intro a b c d r h' he
  obtain ⟨z1, z2⟩ := z a b c (fun i v hi => d i v (hw i v hi)) r h' he
  exact ⟨z1, fun p l e s m args below meth c base D ca ad H locs la C L W0 S => z2 p l e s m args below meth c base D ca ad H locs la C ⟨L.1, L.2.1, fun i v hi => L.2.2 i v (hw i v hi)⟩ W0 S⟩
theorem wkL_nil (ls : List (Option AV)) : wkL ls [] := fun i v h => by simp at h
theorem wkL_n {a : Option AV} {ls ls' : List (Option AV)} (h : wkL ls ls') : wkL (a :: ls) (none :: ls') := by
  intro i v hi
  cases i with
  | zero => simp at hi
  | succ i => exact h i v hi
theorem wkL_c {a : Option AV} {ls ls' : List (Option AV)} (h : wkL ls ls') : wkL (a :: ls) (a :: ls') := by
  intro i v hi
  cases i with
  | zero => exact hi
  | succ i => exact h i v hi
end Ground
end
section
/-! the judgement Z, instruction by instruction: what moves no cell -/
section Steps1
theorem lh_at {ad : Nat → Nat} {la : Array Slot} {n : Nat} {ls : List (Option AV)} (h : LH ad la n ls) {i : Nat} {v : AV} (hi : ls[i]? = some (some v)) : la[i]? = some (.val (mv ad v)) := h.2.2 i v hi
/-- is the value ahead of a place one of two slots -/
def c2 (ls : List (Option AV)) (i : Nat) : Bool := match ls.getD (i - 1) none with
  | some v => decide (acat v = 2)
  | none => false
theorem lh_list {ad : Nat → Nat} {la : Array Slot} {n : Nat} {ls : List (Option AV)} (h : LH ad la n ls) : lv_has la n ((List.range ls.length).filterMap (fun i => match ls[i]? with
  | some (some v) => some (i, mv ad v)
  | _ => none)) := by
  refine ⟨h.1, h.2.1, fun q hq => ?_⟩
  obtain ⟨i, hi, hv⟩ := List.mem_filterMap.mp hq
  split at hv
  · rename_i v hv2
    cases hv
    exact h.2.2 i v hv2
  · cases hv
theorem lh_set {ad : Nat → Nat} {la' : Array Slot} {n i : Nat} {ls : List (Option AV)} {x : Value} {v : AV} (hx : x = mv ad v) (hc : c2 ls i = false)
    (h : lv_has la' n ((i, x) :: ((List.range ls.length).filterMap (fun i => match ls[i]? with
  | some (some v) => some (i, mv ad v)
  | _ => none)).filter (fun q => !(q.1 == i) && !(q.1 + 1 == i && q.2.category == 2)))) : LH ad la' n (ls.set i (some v)) := by
  refine ⟨h.1, h.2.1, fun j w hj => ?_⟩
  by_cases e : j = i
  · subst e
    by_cases hl : j < ls.length
    · rw [List.getElem?_set_self hl] at hj
      cases hj
      have h1 := h.2.2 (j, x) List.mem_cons_self
      rw [hx] at h1
      exact h1
    · rw [List.getElem?_eq_none (by simp; omega)] at hj
      cases hj
  · rw [List.getElem?_set_ne (fun q => e q.symm)] at hj
    have hjl := (List.getElem?_eq_some_iff.mp hj).1
    have h1 : (j, mv ad w) ∈ ((List.range ls.length).filterMap (fun i => match ls[i]? with
  | some (some v) => some (i, mv ad v)
  | _ => none)) := List.mem_filterMap.mpr ⟨j, List.mem_range.mpr hjl, by rw [hj]⟩
    refine h.2.2 (j, mv ad w) (List.mem_cons_of_mem _ (List.mem_filter.mpr ⟨h1, ?_⟩))
    simp only [Bool.and_eq_true, Bool.not_eq_true', beq_eq_false_iff_ne, ne_eq, Bool.and_eq_false_iff]
    refine ⟨e, ?_⟩
    by_cases e2 : j + 1 = i
    · right
      intro h2
      rw [acat_mv] at h2
      subst e2
      unfold c2 at hc
      rw [List.getD_eq_getElem?_getD, Nat.add_sub_cancel, hj] at hc
      simp [h2] at hc
    · left
      exact e2
/-- a step that moves no cell and no local -/
theorem Z.pure {M : MI} {k k2 : Nat} {ls : List (Option AV)} {st st2 : List AV} {h : Hp} {e : Option (Int × Hp)} (hr : (∀ v ∈ st, avR v) → (∀ (i : Nat) (v : AV), ls[i]? = some (some v) → avR v) → ∀ v ∈ st2, avR v)
    (hw : ∀ (p : Program) (l : Launch) (e : Env) (s : State) (m : MethodId) (args : Array Value) (below : List Frame) (meth : Method) (c : Code) (base : Nat) (D : va_G) (ca : Nat → ClassId) (ad : Nat → Nat) (H : Heap) (locs : List Loc) (la : Array Slot) (Q : State → Prop), (∀ v ∈ st, avR v) → (∀ (i : Nat) (v : AV), ls[i]? = some (some v) → avR v) →
      ZC M p s m args meth c base D ca ad → LH ad la (mN M) ls → WD base D ca ad h H → va_S (fun q => base ≤ q) s.heap H locs → LI h → hR h →
      W p l e (rmM M) s m args below meth c H locs 0 0 Q (F0 m (pcO M k2) la (st2.map (mv ad))) → W p l e (rmM M) s m args below meth c H locs 0 0 Q (F0 m (pcO M k) la (st.map (mv ad))))
    (kk : Z M k2 ls st2 h e) : Z M k ls st h e := by
  intro a b c d r h' he
  obtain ⟨z1, z2⟩ := kk a b (hr c d) d r h' he
  refine ⟨z1, ?_⟩
  intro p l e s m args below meth cc base D ca ad H locs la C L W0 S
  exact hw p l e s m args below meth cc base D ca ad H locs la _ c d C L W0 S a b (z2 p l e s m args below meth cc base D ca ad H locs la C L W0 S)
theorem avR_c {v : AV} {st : List AV} (h1 : avR v) (h2 : ∀ w ∈ st, avR w) : ∀ w ∈ v :: st, avR w := List.forall_mem_cons.mpr ⟨h1, h2⟩
theorem avR_i {x : Int} {st : List AV} (h1 : iR x) (h2 : ∀ w ∈ st, avR w) : ∀ w ∈ vi x :: st, avR w := avR_c (v := vi x) h1 h2
theorem avR_t {v : AV} {st : List AV} (h : ∀ w ∈ v :: st, avR w) : ∀ w ∈ st, avR w := (List.forall_mem_cons.mp h).2
theorem avR_h {v : AV} {st : List AV} (h : ∀ w ∈ v :: st, avR w) : avR v := (List.forall_mem_cons.mp h).1
variable {M : MI} {k pc t : Nat} {ls : List (Option AV)} {st : List AV} {h : Hp} {e e1 e2 : Option (Int × Hp)}
theorem z_iload_n {j : Fin 4} {x : Int} (hd : (mT M)[k]? = some (pc, .iload_n j, 1, t)) (hl : ls[(j : Nat)]? = some (some (vi x))) (kk : Z M (k + 1) ls (vi x :: st) h e) : Z M k ls st h e := by
  refine Z.pure (fun a b => avR_c (b _ _ hl) a) ?_ kk
  intro p l e s m args below meth c base D ca ad H locs la Q _ _ C L _ _ _ _ kk
  obtain ⟨o1, -, o3, o4⟩ := okM_at C.1 hd
  rw [o4]
  rw [o3 rfl] at kk
  exact lv_iload_n C.2.1 C.2.2.1 o1 rfl (lh_at L hl) kk
theorem z_iload {j : Nat} {x : Int} (hd : (mT M)[k]? = some (pc, .iload j, 2, t)) (hl : ls[j]? = some (some (vi x))) (kk : Z M (k + 1) ls (vi x :: st) h e) : Z M k ls st h e := by
  refine Z.pure (fun a b => avR_c (b _ _ hl) a) ?_ kk
  intro p l e s m args below meth c base D ca ad H locs la Q _ _ C L _ _ _ _ kk
  obtain ⟨o1, -, o3, o4⟩ := okM_at C.1 hd
  rw [o4]
  rw [o3 rfl] at kk
  exact lv_iload C.2.1 C.2.2.1 o1 (lh_at L hl) kk
theorem z_aload_n {j : Fin 4} {x : Nat} (hd : (mT M)[k]? = some (pc, .aload_n j, 1, t)) (hl : ls[(j : Nat)]? = some (some (vr x))) (kk : Z M (k + 1) ls (vr x :: st) h e) : Z M k ls st h e := by
  refine Z.pure (fun a b => avR_c (b _ _ hl) a) ?_ kk
  intro p l e s m args below meth c base D ca ad H locs la Q _ _ C L _ _ _ _ kk
  obtain ⟨o1, -, o3, o4⟩ := okM_at C.1 hd
  rw [o4]
  rw [o3 rfl] at kk
  exact lv_aload_n C.2.1 C.2.2.1 o1 rfl (lh_at L hl) kk
theorem z_aload {j : Nat} {x : Nat} (hd : (mT M)[k]? = some (pc, .aload j, 2, t)) (hl : ls[j]? = some (some (vr x))) (kk : Z M (k + 1) ls (vr x :: st) h e) : Z M k ls st h e := by
  refine Z.pure (fun a b => avR_c (b _ _ hl) a) ?_ kk
  intro p l e s m args below meth c base D ca ad H locs la Q _ _ C L _ _ _ _ kk
  obtain ⟨o1, -, o3, o4⟩ := okM_at C.1 hd
  rw [o4]
  rw [o3 rfl] at kk
  exact lv_aload C.2.1 C.2.2.1 o1 (lh_at L hl) kk
theorem z_iconst {x : Int} (hd : (mT M)[k]? = some (pc, .iconst x, 1, t)) (hx : (decide (-128 ≤ x) && decide (x < 128)) = true) (kk : Z M (k + 1) ls (vi x :: st) h e) : Z M k ls st h e := by
  simp only [Bool.and_eq_true, decide_eq_true_eq] at hx
  refine Z.pure (fun a b => avR_i (show iR x from ⟨by omega, by omega⟩) a) ?_ kk
  intro p l e s m args below meth c base D ca ad H locs la Q _ _ C L _ _ _ _ kk
  obtain ⟨o1, -, o3, o4⟩ := okM_at C.1 hd
  rw [o4]
  rw [o3 rfl] at kk
  exact lv_iconst C.2.1 C.2.2.1 o1 rfl kk
theorem i8_of {x : Int} (h1 : -128 ≤ x) (h2 : x < 128) : (Int8.ofInt x).toInt32 = Int32.ofInt x := by
  apply Int32.toInt.inj
  rw [Int8.toInt_toInt32, Int8.toInt_ofInt_of_le (by omega) (by omega), Int32.toInt_ofInt_of_le (by omega) (by omega)]
theorem i16_of {x : Int} (h1 : -32768 ≤ x) (h2 : x < 32768) : (Int16.ofInt x).toInt32 = Int32.ofInt x := by
  apply Int32.toInt.inj
  rw [Int16.toInt_toInt32, Int16.toInt_ofInt_of_le (by omega) (by omega), Int32.toInt_ofInt_of_le (by omega) (by omega)]
theorem z_bipush {x : Int} (hd : (mT M)[k]? = some (pc, .bipush x, 2, t)) (hx : (decide (-128 ≤ x) && decide (x < 128)) = true) (kk : Z M (k + 1) ls (vi x :: st) h e) : Z M k ls st h e := by
  simp only [Bool.and_eq_true, decide_eq_true_eq] at hx
  refine Z.pure (fun a b => avR_i (show iR x from ⟨by omega, by omega⟩) a) ?_ kk
  intro p l e s m args below meth c base D ca ad H locs la Q _ _ C L _ _ _ _ kk
  obtain ⟨o1, -, o3, o4⟩ := okM_at C.1 hd
  rw [o4]
  rw [o3 rfl] at kk
  exact lv_bipush C.2.1 C.2.2.1 o1 (i8_of hx.1 hx.2) kk
theorem z_sipush {x : Int} (hd : (mT M)[k]? = some (pc, .sipush x, 3, t)) (hx : (decide (-32768 ≤ x) && decide (x < 32768)) = true) (kk : Z M (k + 1) ls (vi x :: st) h e) : Z M k ls st h e := by
  simp only [Bool.and_eq_true, decide_eq_true_eq] at hx
  refine Z.pure (fun a b => avR_i (show iR x from ⟨by omega, by omega⟩) a) ?_ kk
  intro p l e s m args below meth c base D ca ad H locs la Q _ _ C L _ _ _ _ kk
  obtain ⟨o1, -, o3, o4⟩ := okM_at C.1 hd
  rw [o4]
  rw [o3 rfl] at kk
  exact lv_sipush C.2.1 C.2.2.1 o1 (i16_of hx.1 hx.2) kk
theorem z_ldc {x : Int} {ix : Nat} (hd : (mT M)[k]? = some (pc, .ldc ix, 2, t)) (hc : Cond.constant (mO M) ix (Int32.ofInt x) ∈ lwT) (hx : (decide (-2147483648 ≤ x) && decide (x < 2147483648)) = true) (kk : Z M (k + 1) ls (vi x :: st) h e) : Z M k ls st h e := by
  simp only [Bool.and_eq_true, decide_eq_true_eq] at hx
  refine Z.pure (fun a b => avR_i (show iR x from hx) a) ?_ kk
  intro p l e s m args below meth c base D ca ad H locs la Q _ _ C L _ _ _ _ kk
  obtain ⟨o1, -, o3, o4⟩ := okM_at C.1 hd
  rw [o4]
  rw [o3 rfl] at kk
  exact lv_ldc C.2.1 C.2.2.1 C.2.2.2.2.2.2.1 (C.2.2.2.2.2.2.2.1 _ hc) o1 kk
theorem z_iadd {x y : Int} (hd : (mT M)[k]? = some (pc, .iadd, 1, t)) (kk : Z M (k + 1) ls (vi (wr (x + y)) :: st) h e) : Z M k ls (vi y :: vi x :: st) h e := by
  refine Z.pure (fun a b => avR_i (wr_R _) (avR_t (avR_t a))) ?_ kk
  intro p l e s m args below meth c base D ca ad H locs la Q _ _ C L _ _ _ _ kk
  obtain ⟨o1, -, o3, o4⟩ := okM_at C.1 hd
  rw [o4]
  rw [o3 rfl] at kk
  refine lv_iadd C.2.1 C.2.2.1 o1 ?_
  rw [← Int32.ofInt_add, ← ofI_wr]
  exact kk
theorem z_isub {x y : Int} (hd : (mT M)[k]? = some (pc, .isub, 1, t)) (kk : Z M (k + 1) ls (vi (wr (x - y)) :: st) h e) : Z M k ls (vi y :: vi x :: st) h e := by
  refine Z.pure (fun a b => avR_i (wr_R _) (avR_t (avR_t a))) ?_ kk
  intro p l e s m args below meth c base D ca ad H locs la Q _ _ C L _ _ _ _ kk
  obtain ⟨o1, -, o3, o4⟩ := okM_at C.1 hd
  rw [o4]
  rw [o3 rfl] at kk
  refine lv_isub C.2.1 C.2.2.1 o1 ?_
  rw [← Int32.ofInt_sub, ← ofI_wr]
  exact kk
theorem z_imul {x y : Int} (hd : (mT M)[k]? = some (pc, .imul, 1, t)) (kk : Z M (k + 1) ls (vi (wr (x * y)) :: st) h e) : Z M k ls (vi y :: vi x :: st) h e := by
  refine Z.pure (fun a b => avR_i (wr_R _) (avR_t (avR_t a))) ?_ kk
  intro p l e s m args below meth c base D ca ad H locs la Q _ _ C L _ _ _ _ kk
  obtain ⟨o1, -, o3, o4⟩ := okM_at C.1 hd
  rw [o4]
  rw [o3 rfl] at kk
  refine lv_imul C.2.1 C.2.2.1 o1 ?_
  rw [← Int32.ofInt_mul, ← ofI_wr]
  exact kk
theorem z_ineg {x : Int} (hd : (mT M)[k]? = some (pc, .ineg, 1, t)) (kk : Z M (k + 1) ls (vi (wr (-x)) :: st) h e) : Z M k ls (vi x :: st) h e := by
  refine Z.pure (fun a b => avR_i (wr_R _) (avR_t a)) ?_ kk
  intro p l e s m args below meth c base D ca ad H locs la Q _ _ C L _ _ _ _ kk
  obtain ⟨o1, -, o3, o4⟩ := okM_at C.1 hd
  rw [o4]
  rw [o3 rfl] at kk
  refine lv_ineg C.2.1 C.2.2.1 o1 ?_
  rw [← Int32.ofInt_neg, ← ofI_wr]
  exact kk
theorem ofI_div {x y : Int} (hx : iR x) (hy : iR y) (h1 : y ≠ -1) : Int32.ofInt x / Int32.ofInt y = Int32.ofInt (wr (x.tdiv y)) := by
  rw [ofI_wr]
  apply Int32.toInt.inj
  rw [Int32.toInt_div, ofI_T hx, ofI_T hy, Int32.toInt_ofInt]
theorem z_idiv {x y : Int} (hd : (mT M)[k]? = some (pc, .idiv, 1, t)) (hy : (decide (0 < y)) = true) (kk : Z M (k + 1) ls (vi (wr (x.tdiv y)) :: st) h e) : Z M k ls (vi y :: vi x :: st) h e := by
  simp only [decide_eq_true_eq] at hy
  refine Z.pure (fun a b => avR_i (wr_R _) (avR_t (avR_t a))) ?_ kk
  intro p l e s m args below meth c base D ca ad H locs la Q a _ C L _ _ _ _ kk
  obtain ⟨o1, -, o3, o4⟩ := okM_at C.1 hd
  have ry : iR y := avR_h a
  have rx : iR x := avR_h (avR_t a)
  rw [o4]
  rw [o3 rfl] at kk
  refine lv_idiv C.2.1 C.2.2.1 o1 (fun z => ?_) ?_
  · rw [← ofI_0, ofI_inj ry iR_0] at z
    omega
  · rw [ofI_div rx ry (by omega)]
    exact kk
theorem z_irem {x y : Int} (hd : (mT M)[k]? = some (pc, .irem, 1, t)) (hy : (decide (0 < y)) = true) (kk : Z M (k + 1) ls (vi (wr (x - x.tdiv y * y)) :: st) h e) : Z M k ls (vi y :: vi x :: st) h e := by
  simp only [decide_eq_true_eq] at hy
  refine Z.pure (fun a b => avR_i (wr_R _) (avR_t (avR_t a))) ?_ kk
  intro p l e s m args below meth c base D ca ad H locs la Q a _ C L _ _ _ _ kk
  obtain ⟨o1, -, o3, o4⟩ := okM_at C.1 hd
  have ry : iR y := avR_h a
  have rx : iR x := avR_h (avR_t a)
  rw [o4]
  rw [o3 rfl] at kk
  refine lv_irem C.2.1 C.2.2.1 o1 (fun z => ?_) ?_
  · rw [← ofI_0, ofI_inj ry iR_0] at z
    omega
  · rw [ofI_div rx ry (by omega), ofI_wr, ← Int32.ofInt_mul, ← Int32.ofInt_sub, ← ofI_wr]
    exact kk
theorem z_pop {v : AV} (hd : (mT M)[k]? = some (pc, .pop, 1, t)) (hv : acat v = 1) (kk : Z M (k + 1) ls st h e) : Z M k ls (v :: st) h e := by
  refine Z.pure (fun a b => avR_t a) ?_ kk
  intro p l e s m args below meth c base D ca ad H locs la Q a _ C L _ _ _ _ kk
  obtain ⟨o1, -, o3, o4⟩ := okM_at C.1 hd
  rw [o4]
  rw [o3 rfl] at kk
  exact lv_pop C.2.1 C.2.2.1 o1 (by rw [acat_mv]; exact hv) kk
theorem z_dup {v : AV} (hd : (mT M)[k]? = some (pc, .dup, 1, t)) (hv : acat v = 1) (kk : Z M (k + 1) ls (v :: v :: st) h e) : Z M k ls (v :: st) h e := by
  refine Z.pure (fun a b => avR_c (avR_h a) a) ?_ kk
  intro p l e s m args below meth c base D ca ad H locs la Q a _ C L _ _ _ _ kk
  obtain ⟨o1, -, o3, o4⟩ := okM_at C.1 hd
  rw [o4]
  rw [o3 rfl] at kk
  exact lv_dup C.2.1 C.2.2.1 o1 (by rw [acat_mv]; exact hv) kk
theorem z_dup2 {v w : AV} (hd : (mT M)[k]? = some (pc, .dup2, 1, t)) (hv : acat v = 1) (hw : acat w = 1) (kk : Z M (k + 1) ls (v :: w :: v :: w :: st) h e) : Z M k ls (v :: w :: st) h e := by
  refine Z.pure (fun a b => avR_c (avR_h a) (avR_c (avR_h (avR_t a)) a)) ?_ kk
  intro p l e s m args below meth c base D ca ad H locs la Q a _ C L _ _ _ _ kk
  obtain ⟨o1, -, o3, o4⟩ := okM_at C.1 hd
  rw [o4]
  rw [o3 rfl] at kk
  exact lv_dup2_11 C.2.1 C.2.2.1 o1 (by rw [acat_mv]; exact hv) (by rw [acat_mv]; exact hw) kk
theorem z_goto {o : Int} (hd : (mT M)[k]? = some (pc, .goto o, 3, t)) (kk : Z M t ls st h e) : Z M k ls st h e := by
  refine Z.pure (fun a b => a) ?_ kk
  intro p l e s m args below meth c base D ca ad H locs la Q a _ C L _ _ _ _ kk
  obtain ⟨o1, o2, o3, o4⟩ := okM_at C.1 hd
  rw [o4]
  exact lv_goto C.2.1 C.2.2.1 o1 (of_decide_eq_true o2) kk
theorem z_ifnull {o : Int} {x : Nat} (hd : (mT M)[k]? = some (pc, .ifnull o, 3, t)) (kk : Z M (k + 1) ls st h e) : Z M k ls (vr x :: st) h e := by
  refine Z.pure (fun a b => avR_t a) ?_ kk
  intro p l e s m args below meth c base D ca ad H locs la Q a _ C L _ _ _ _ kk
  obtain ⟨o1, o2, o3, o4⟩ := okM_at C.1 hd
  rw [o4]
  rw [o3 rfl] at kk
  exact lv_ifnull C.2.1 C.2.2.1 o1 kk
/-- a branch -/
theorem Z.branch {t f : Nat} {st2 : List AV} {P : Prop} [Decidable P] (hr : (∀ v ∈ st, avR v) → ∀ v ∈ st2, avR v)
    (hw : ∀ (p : Program) (l : Launch) (e : Env) (s : State) (m : MethodId) (args : Array Value) (below : List Frame) (meth : Method) (c : Code) (base : Nat) (D : va_G) (ca : Nat → ClassId) (ad : Nat → Nat) (H : Heap) (locs : List Loc) (la : Array Slot) (Q : State → Prop), (∀ v ∈ st, avR v) →
      ZC M p s m args meth c base D ca ad →
      (P → W p l e (rmM M) s m args below meth c H locs 0 0 Q (F0 m (pcO M t) la (st2.map (mv ad)))) → (¬ P → W p l e (rmM M) s m args below meth c H locs 0 0 Q (F0 m (pcO M f) la (st2.map (mv ad)))) → W p l e (rmM M) s m args below meth c H locs 0 0 Q (F0 m (pcO M k) la (st.map (mv ad))))
    (kt : Z M t ls st2 h e1) (kf : Z M f ls st2 h e2) : Z M k ls st h (if P then e1 else e2) := by
  intro a b c d r h' he
  by_cases hP : P
  · rw [if_pos hP] at he
    obtain ⟨z1, z2⟩ := kt a b (hr c) d r h' he
    refine ⟨z1, ?_⟩
    intro p l e s m args below meth cc base D ca ad H locs la C L W0 S
    exact hw p l e s m args below meth cc base D ca ad H locs la _ c C (fun _ => z2 p l e s m args below meth cc base D ca ad H locs la C L W0 S) (fun hn => absurd hP hn)
  · rw [if_neg hP] at he
    obtain ⟨z1, z2⟩ := kf a b (hr c) d r h' he
    refine ⟨z1, ?_⟩
    intro p l e s m args below meth cc base D ca ad H locs la C L W0 S
    exact hw p l e s m args below meth cc base D ca ad H locs la _ c C (fun hp => absurd hp hP) (fun _ => z2 p l e s m args below meth cc base D ca ad H locs la C L W0 S)
theorem z_icmp_eq {o : Int} {x y : Int} (hd : (mT M)[k]? = some (pc, .if_icmp .eq o, 3, t)) (kt : Z M t ls st h e1) (kf : Z M (k + 1) ls st h e2) : Z M k ls (vi y :: vi x :: st) h (if x = y then e1 else e2) := by
  refine Z.branch (fun a => avR_t (avR_t a)) ?_ kt kf
  intro p l e s m args below meth c base D ca ad H locs la Q a C kt kf
  obtain ⟨o1, o2, o3, o4⟩ := okM_at C.1 hd
  have ry : iR y := avR_h a
  have rx : iR x := avR_h (avR_t a)
  rw [o4]
  rw [o3 rfl] at kf
  exact lv_icmp_eq C.2.1 C.2.2.1 o1 (of_decide_eq_true o2) (fun q => kt (by first | exact (ofI_inj rx ry).mp q | exact (ofI_lt rx ry).mp q | exact (ofI_le rx ry).mp q | exact (ofI_lt ry rx).mp q | exact (ofI_le ry rx).mp q | exact fun z => q ((ofI_inj rx ry).mpr z))) (fun q => kf (by first | exact fun z => z ((ofI_inj rx ry).mp q) | exact fun z => q ((ofI_inj rx ry).mpr z) | exact fun z => q ((ofI_lt rx ry).mpr z) | exact fun z => q ((ofI_le rx ry).mpr z) | exact fun z => q ((ofI_lt ry rx).mpr z) | exact fun z => q ((ofI_le ry rx).mpr z)))
theorem z_icmp_ne {o : Int} {x y : Int} (hd : (mT M)[k]? = some (pc, .if_icmp .ne o, 3, t)) (kt : Z M t ls st h e1) (kf : Z M (k + 1) ls st h e2) : Z M k ls (vi y :: vi x :: st) h (if ¬ x = y then e1 else e2) := by
  refine Z.branch (fun a => avR_t (avR_t a)) ?_ kt kf
  intro p l e s m args below meth c base D ca ad H locs la Q a C kt kf
  obtain ⟨o1, o2, o3, o4⟩ := okM_at C.1 hd
  have ry : iR y := avR_h a
  have rx : iR x := avR_h (avR_t a)
  rw [o4]
  rw [o3 rfl] at kf
  exact lv_icmp_ne C.2.1 C.2.2.1 o1 (of_decide_eq_true o2) (fun q => kt (by first | exact (ofI_inj rx ry).mp q | exact (ofI_lt rx ry).mp q | exact (ofI_le rx ry).mp q | exact (ofI_lt ry rx).mp q | exact (ofI_le ry rx).mp q | exact fun z => q ((ofI_inj rx ry).mpr z))) (fun q => kf (by first | exact fun z => z ((ofI_inj rx ry).mp q) | exact fun z => q ((ofI_inj rx ry).mpr z) | exact fun z => q ((ofI_lt rx ry).mpr z) | exact fun z => q ((ofI_le rx ry).mpr z) | exact fun z => q ((ofI_lt ry rx).mpr z) | exact fun z => q ((ofI_le ry rx).mpr z)))
theorem z_icmp_lt {o : Int} {x y : Int} (hd : (mT M)[k]? = some (pc, .if_icmp .lt o, 3, t)) (kt : Z M t ls st h e1) (kf : Z M (k + 1) ls st h e2) : Z M k ls (vi y :: vi x :: st) h (if x < y then e1 else e2) := by
  refine Z.branch (fun a => avR_t (avR_t a)) ?_ kt kf
  intro p l e s m args below meth c base D ca ad H locs la Q a C kt kf
  obtain ⟨o1, o2, o3, o4⟩ := okM_at C.1 hd
  have ry : iR y := avR_h a
  have rx : iR x := avR_h (avR_t a)
  rw [o4]
  rw [o3 rfl] at kf
  exact lv_icmp_lt C.2.1 C.2.2.1 o1 (of_decide_eq_true o2) (fun q => kt (by first | exact (ofI_inj rx ry).mp q | exact (ofI_lt rx ry).mp q | exact (ofI_le rx ry).mp q | exact (ofI_lt ry rx).mp q | exact (ofI_le ry rx).mp q | exact fun z => q ((ofI_inj rx ry).mpr z))) (fun q => kf (by first | exact fun z => z ((ofI_inj rx ry).mp q) | exact fun z => q ((ofI_inj rx ry).mpr z) | exact fun z => q ((ofI_lt rx ry).mpr z) | exact fun z => q ((ofI_le rx ry).mpr z) | exact fun z => q ((ofI_lt ry rx).mpr z) | exact fun z => q ((ofI_le ry rx).mpr z)))
theorem z_icmp_ge {o : Int} {x y : Int} (hd : (mT M)[k]? = some (pc, .if_icmp .ge o, 3, t)) (kt : Z M t ls st h e1) (kf : Z M (k + 1) ls st h e2) : Z M k ls (vi y :: vi x :: st) h (if y ≤ x then e1 else e2) := by
  refine Z.branch (fun a => avR_t (avR_t a)) ?_ kt kf
  intro p l e s m args below meth c base D ca ad H locs la Q a C kt kf
  obtain ⟨o1, o2, o3, o4⟩ := okM_at C.1 hd
  have ry : iR y := avR_h a
  have rx : iR x := avR_h (avR_t a)
  rw [o4]
  rw [o3 rfl] at kf
  exact lv_icmp_ge C.2.1 C.2.2.1 o1 (of_decide_eq_true o2) (fun q => kt (by first | exact (ofI_inj rx ry).mp q | exact (ofI_lt rx ry).mp q | exact (ofI_le rx ry).mp q | exact (ofI_lt ry rx).mp q | exact (ofI_le ry rx).mp q | exact fun z => q ((ofI_inj rx ry).mpr z))) (fun q => kf (by first | exact fun z => z ((ofI_inj rx ry).mp q) | exact fun z => q ((ofI_inj rx ry).mpr z) | exact fun z => q ((ofI_lt rx ry).mpr z) | exact fun z => q ((ofI_le rx ry).mpr z) | exact fun z => q ((ofI_lt ry rx).mpr z) | exact fun z => q ((ofI_le ry rx).mpr z)))
theorem z_icmp_gt {o : Int} {x y : Int} (hd : (mT M)[k]? = some (pc, .if_icmp .gt o, 3, t)) (kt : Z M t ls st h e1) (kf : Z M (k + 1) ls st h e2) : Z M k ls (vi y :: vi x :: st) h (if y < x then e1 else e2) := by
  refine Z.branch (fun a => avR_t (avR_t a)) ?_ kt kf
  intro p l e s m args below meth c base D ca ad H locs la Q a C kt kf
  obtain ⟨o1, o2, o3, o4⟩ := okM_at C.1 hd
  have ry : iR y := avR_h a
  have rx : iR x := avR_h (avR_t a)
  rw [o4]
  rw [o3 rfl] at kf
  exact lv_icmp_gt C.2.1 C.2.2.1 o1 (of_decide_eq_true o2) (fun q => kt (by first | exact (ofI_inj rx ry).mp q | exact (ofI_lt rx ry).mp q | exact (ofI_le rx ry).mp q | exact (ofI_lt ry rx).mp q | exact (ofI_le ry rx).mp q | exact fun z => q ((ofI_inj rx ry).mpr z))) (fun q => kf (by first | exact fun z => z ((ofI_inj rx ry).mp q) | exact fun z => q ((ofI_inj rx ry).mpr z) | exact fun z => q ((ofI_lt rx ry).mpr z) | exact fun z => q ((ofI_le rx ry).mpr z) | exact fun z => q ((ofI_lt ry rx).mpr z) | exact fun z => q ((ofI_le ry rx).mpr z)))
theorem z_icmp_le {o : Int} {x y : Int} (hd : (mT M)[k]? = some (pc, .if_icmp .le o, 3, t)) (kt : Z M t ls st h e1) (kf : Z M (k + 1) ls st h e2) : Z M k ls (vi y :: vi x :: st) h (if x ≤ y then e1 else e2) := by
  refine Z.branch (fun a => avR_t (avR_t a)) ?_ kt kf
  intro p l e s m args below meth c base D ca ad H locs la Q a C kt kf
  obtain ⟨o1, o2, o3, o4⟩ := okM_at C.1 hd
  have ry : iR y := avR_h a
  have rx : iR x := avR_h (avR_t a)
  rw [o4]
  rw [o3 rfl] at kf
  exact lv_icmp_le C.2.1 C.2.2.1 o1 (of_decide_eq_true o2) (fun q => kt (by first | exact (ofI_inj rx ry).mp q | exact (ofI_lt rx ry).mp q | exact (ofI_le rx ry).mp q | exact (ofI_lt ry rx).mp q | exact (ofI_le ry rx).mp q | exact fun z => q ((ofI_inj rx ry).mpr z))) (fun q => kf (by first | exact fun z => z ((ofI_inj rx ry).mp q) | exact fun z => q ((ofI_inj rx ry).mpr z) | exact fun z => q ((ofI_lt rx ry).mpr z) | exact fun z => q ((ofI_le rx ry).mpr z) | exact fun z => q ((ofI_lt ry rx).mpr z) | exact fun z => q ((ofI_le ry rx).mpr z)))
theorem z_if_eq {o : Int} {x : Int} (hd : (mT M)[k]? = some (pc, .ifCond .eq o, 3, t)) (kt : Z M t ls st h e1) (kf : Z M (k + 1) ls st h e2) : Z M k ls (vi x :: st) h (if x = 0 then e1 else e2) := by
  refine Z.branch (fun a => avR_t a) ?_ kt kf
  intro p l e s m args below meth c base D ca ad H locs la Q a C kt kf
  obtain ⟨o1, o2, o3, o4⟩ := okM_at C.1 hd
  have rx : iR x := avR_h a
  have ry := iR_0
  rw [o4]
  rw [o3 rfl] at kf
  exact lv_if_eq C.2.1 C.2.2.1 o1 (of_decide_eq_true o2) (fun q => kt (by first | exact (ofI_inj rx ry).mp q | exact (ofI_lt rx ry).mp q | exact (ofI_le rx ry).mp q | exact (ofI_lt ry rx).mp q | exact (ofI_le ry rx).mp q | exact fun z => q ((ofI_inj rx ry).mpr z))) (fun q => kf (by first | exact fun z => z ((ofI_inj rx ry).mp q) | exact fun z => q ((ofI_inj rx ry).mpr z) | exact fun z => q ((ofI_lt rx ry).mpr z) | exact fun z => q ((ofI_le rx ry).mpr z) | exact fun z => q ((ofI_lt ry rx).mpr z) | exact fun z => q ((ofI_le ry rx).mpr z)))
theorem z_if_ne {o : Int} {x : Int} (hd : (mT M)[k]? = some (pc, .ifCond .ne o, 3, t)) (kt : Z M t ls st h e1) (kf : Z M (k + 1) ls st h e2) : Z M k ls (vi x :: st) h (if ¬ x = 0 then e1 else e2) := by
  refine Z.branch (fun a => avR_t a) ?_ kt kf
  intro p l e s m args below meth c base D ca ad H locs la Q a C kt kf
  obtain ⟨o1, o2, o3, o4⟩ := okM_at C.1 hd
  have rx : iR x := avR_h a
  have ry := iR_0
  rw [o4]
  rw [o3 rfl] at kf
  exact lv_if_ne C.2.1 C.2.2.1 o1 (of_decide_eq_true o2) (fun q => kt (by first | exact (ofI_inj rx ry).mp q | exact (ofI_lt rx ry).mp q | exact (ofI_le rx ry).mp q | exact (ofI_lt ry rx).mp q | exact (ofI_le ry rx).mp q | exact fun z => q ((ofI_inj rx ry).mpr z))) (fun q => kf (by first | exact fun z => z ((ofI_inj rx ry).mp q) | exact fun z => q ((ofI_inj rx ry).mpr z) | exact fun z => q ((ofI_lt rx ry).mpr z) | exact fun z => q ((ofI_le rx ry).mpr z) | exact fun z => q ((ofI_lt ry rx).mpr z) | exact fun z => q ((ofI_le ry rx).mpr z)))
theorem z_if_lt {o : Int} {x : Int} (hd : (mT M)[k]? = some (pc, .ifCond .lt o, 3, t)) (kt : Z M t ls st h e1) (kf : Z M (k + 1) ls st h e2) : Z M k ls (vi x :: st) h (if x < 0 then e1 else e2) := by
  refine Z.branch (fun a => avR_t a) ?_ kt kf
  intro p l e s m args below meth c base D ca ad H locs la Q a C kt kf
  obtain ⟨o1, o2, o3, o4⟩ := okM_at C.1 hd
  have rx : iR x := avR_h a
  have ry := iR_0
  rw [o4]
  rw [o3 rfl] at kf
  exact lv_if_lt C.2.1 C.2.2.1 o1 (of_decide_eq_true o2) (fun q => kt (by first | exact (ofI_inj rx ry).mp q | exact (ofI_lt rx ry).mp q | exact (ofI_le rx ry).mp q | exact (ofI_lt ry rx).mp q | exact (ofI_le ry rx).mp q | exact fun z => q ((ofI_inj rx ry).mpr z))) (fun q => kf (by first | exact fun z => z ((ofI_inj rx ry).mp q) | exact fun z => q ((ofI_inj rx ry).mpr z) | exact fun z => q ((ofI_lt rx ry).mpr z) | exact fun z => q ((ofI_le rx ry).mpr z) | exact fun z => q ((ofI_lt ry rx).mpr z) | exact fun z => q ((ofI_le ry rx).mpr z)))
theorem z_if_ge {o : Int} {x : Int} (hd : (mT M)[k]? = some (pc, .ifCond .ge o, 3, t)) (kt : Z M t ls st h e1) (kf : Z M (k + 1) ls st h e2) : Z M k ls (vi x :: st) h (if 0 ≤ x then e1 else e2) := by
  refine Z.branch (fun a => avR_t a) ?_ kt kf
  intro p l e s m args below meth c base D ca ad H locs la Q a C kt kf
  obtain ⟨o1, o2, o3, o4⟩ := okM_at C.1 hd
  have rx : iR x := avR_h a
  have ry := iR_0
  rw [o4]
  rw [o3 rfl] at kf
  exact lv_if_ge C.2.1 C.2.2.1 o1 (of_decide_eq_true o2) (fun q => kt (by first | exact (ofI_inj rx ry).mp q | exact (ofI_lt rx ry).mp q | exact (ofI_le rx ry).mp q | exact (ofI_lt ry rx).mp q | exact (ofI_le ry rx).mp q | exact fun z => q ((ofI_inj rx ry).mpr z))) (fun q => kf (by first | exact fun z => z ((ofI_inj rx ry).mp q) | exact fun z => q ((ofI_inj rx ry).mpr z) | exact fun z => q ((ofI_lt rx ry).mpr z) | exact fun z => q ((ofI_le rx ry).mpr z) | exact fun z => q ((ofI_lt ry rx).mpr z) | exact fun z => q ((ofI_le ry rx).mpr z)))
theorem z_if_gt {o : Int} {x : Int} (hd : (mT M)[k]? = some (pc, .ifCond .gt o, 3, t)) (kt : Z M t ls st h e1) (kf : Z M (k + 1) ls st h e2) : Z M k ls (vi x :: st) h (if 0 < x then e1 else e2) := by
  refine Z.branch (fun a => avR_t a) ?_ kt kf
  intro p l e s m args below meth c base D ca ad H locs la Q a C kt kf
  obtain ⟨o1, o2, o3, o4⟩ := okM_at C.1 hd
  have rx : iR x := avR_h a
  have ry := iR_0
  rw [o4]
  rw [o3 rfl] at kf
  exact lv_if_gt C.2.1 C.2.2.1 o1 (of_decide_eq_true o2) (fun q => kt (by first | exact (ofI_inj rx ry).mp q | exact (ofI_lt rx ry).mp q | exact (ofI_le rx ry).mp q | exact (ofI_lt ry rx).mp q | exact (ofI_le ry rx).mp q | exact fun z => q ((ofI_inj rx ry).mpr z))) (fun q => kf (by first | exact fun z => z ((ofI_inj rx ry).mp q) | exact fun z => q ((ofI_inj rx ry).mpr z) | exact fun z => q ((ofI_lt rx ry).mpr z) | exact fun z => q ((ofI_le rx ry).mpr z) | exact fun z => q ((ofI_lt ry rx).mpr z) | exact fun z => q ((ofI_le ry rx).mpr z)))
theorem z_if_le {o : Int} {x : Int} (hd : (mT M)[k]? = some (pc, .ifCond .le o, 3, t)) (kt : Z M t ls st h e1) (kf : Z M (k + 1) ls st h e2) : Z M k ls (vi x :: st) h (if x ≤ 0 then e1 else e2) := by
  refine Z.branch (fun a => avR_t a) ?_ kt kf
  intro p l e s m args below meth c base D ca ad H locs la Q a C kt kf
  obtain ⟨o1, o2, o3, o4⟩ := okM_at C.1 hd
  have rx : iR x := avR_h a
  have ry := iR_0
  rw [o4]
  rw [o3 rfl] at kf
  exact lv_if_le C.2.1 C.2.2.1 o1 (of_decide_eq_true o2) (fun q => kt (by first | exact (ofI_inj rx ry).mp q | exact (ofI_lt rx ry).mp q | exact (ofI_le rx ry).mp q | exact (ofI_lt ry rx).mp q | exact (ofI_le ry rx).mp q | exact fun z => q ((ofI_inj rx ry).mpr z))) (fun q => kf (by first | exact fun z => z ((ofI_inj rx ry).mp q) | exact fun z => q ((ofI_inj rx ry).mpr z) | exact fun z => q ((ofI_lt rx ry).mpr z) | exact fun z => q ((ofI_le rx ry).mpr z) | exact fun z => q ((ofI_lt ry rx).mpr z) | exact fun z => q ((ofI_le ry rx).mpr z)))
end Steps1
end
section
/-! the judgement Z, instruction by instruction: locals, cells, ends, calls -/
section Steps2
variable {M : MI} {k pc t : Nat} {ls : List (Option AV)} {st : List AV} {h : Hp} {e e1 e2 : Option (Int × Hp)}
theorem lsR_set {ls : List (Option AV)} {j : Nat} {v : AV} (hv : avR v) (b : ∀ (i : Nat) (v : AV), ls[i]? = some (some v) → avR v) : ∀ (i : Nat) (w : AV), (ls.set j (some v))[i]? = some (some w) → avR w := by
  intro i w hi
  by_cases e : i = j
  · subst e
    by_cases hl : i < ls.length
    · rw [List.getElem?_set_self hl] at hi
      cases hi
      exact hv
    · rw [List.getElem?_eq_none (by simp; omega)] at hi
      cases hi
  · rw [List.getElem?_set_ne (fun q => e q.symm)] at hi
    exact b i w hi
/-- a step that stores a local -/
theorem Z.store {k2 j : Nat} {v : AV} {st2 : List AV} (hr : (∀ w ∈ st, avR w) → (∀ (i : Nat) (v : AV), ls[i]? = some (some v) → avR v) → avR v ∧ ∀ w ∈ st2, avR w)
    (hw : ∀ (p : Program) (l : Launch) (e : Env) (s : State) (m : MethodId) (args : Array Value) (below : List Frame) (meth : Method) (c : Code) (base : Nat) (D : va_G) (ca : Nat → ClassId) (ad : Nat → Nat) (H : Heap) (locs : List Loc) (la : Array Slot) (Q : State → Prop),
      ZC M p s m args meth c base D ca ad → LH ad la (mN M) ls →
      (∀ la' : Array Slot, LH ad la' (mN M) (ls.set j (some v)) → W p l e (rmM M) s m args below meth c H locs 0 0 Q (F0 m (pcO M k2) la' (st2.map (mv ad)))) → W p l e (rmM M) s m args below meth c H locs 0 0 Q (F0 m (pcO M k) la (st.map (mv ad))))
    (kk : Z M k2 (ls.set j (some v)) st2 h e) : Z M k ls st h e := by
  intro a b c d r h' he
  obtain ⟨r1, r2⟩ := hr c d
  obtain ⟨z1, z2⟩ := kk a b r2 (lsR_set r1 d) r h' he
  refine ⟨z1, ?_⟩
  intro p l e s m args below meth cc base D ca ad H locs la C L W0 S
  exact hw p l e s m args below meth cc base D ca ad H locs la _ C L (fun la' L' => z2 p l e s m args below meth cc base D ca ad H locs la' C L' W0 S)
theorem z_istore_n {j : Fin 4} {x : Int} (hd : (mT M)[k]? = some (pc, .istore_n j, 1, t)) (hc : (decide ((j : Nat) < mN M) && !(c2 ls j)) = true) (kk : Z M (k + 1) (ls.set j (some (vi x))) st h e) : Z M k ls (vi x :: st) h e := by
  simp only [Bool.and_eq_true, decide_eq_true_eq, Bool.not_eq_true'] at hc
  refine Z.store (fun a b => ⟨avR_h a, avR_t a⟩) ?_ kk
  intro p l e s m args below meth c base D ca ad H locs la Q C L kk
  obtain ⟨o1, -, o3, o4⟩ := okM_at C.1 hd
  rw [o4]
  rw [o3 rfl] at kk
  exact lv_istore_n C.2.1 C.2.2.1 o1 rfl (lh_list L) hc.1 rfl (fun ls' hl => kk ls' (lh_set rfl hc.2 hl))
theorem z_istore {j : Nat} {x : Int} (hd : (mT M)[k]? = some (pc, .istore j, 2, t)) (hc : (decide (j < mN M) && !(c2 ls j)) = true) (kk : Z M (k + 1) (ls.set j (some (vi x))) st h e) : Z M k ls (vi x :: st) h e := by
  simp only [Bool.and_eq_true, decide_eq_true_eq, Bool.not_eq_true'] at hc
  refine Z.store (fun a b => ⟨avR_h a, avR_t a⟩) ?_ kk
  intro p l e s m args below meth c base D ca ad H locs la Q C L kk
  obtain ⟨o1, -, o3, o4⟩ := okM_at C.1 hd
  rw [o4]
  rw [o3 rfl] at kk
  exact lv_istore C.2.1 C.2.2.1 o1 (lh_list L) hc.1 rfl (fun ls' hl => kk ls' (lh_set rfl hc.2 hl))
theorem z_astore_n {j : Fin 4} {x : Nat} (hd : (mT M)[k]? = some (pc, .astore_n j, 1, t)) (hc : (decide ((j : Nat) < mN M) && !(c2 ls j)) = true) (kk : Z M (k + 1) (ls.set j (some (vr x))) st h e) : Z M k ls (vr x :: st) h e := by
  simp only [Bool.and_eq_true, decide_eq_true_eq, Bool.not_eq_true'] at hc
  refine Z.store (fun a b => ⟨avR_h a, avR_t a⟩) ?_ kk
  intro p l e s m args below meth c base D ca ad H locs la Q C L kk
  obtain ⟨o1, -, o3, o4⟩ := okM_at C.1 hd
  rw [o4]
  rw [o3 rfl] at kk
  exact lv_astore_n C.2.1 C.2.2.1 o1 rfl (lh_list L) hc.1 rfl (fun ls' hl => kk ls' (lh_set rfl hc.2 hl))
theorem z_iinc {j : Nat} {n x : Int} (hd : (mT M)[k]? = some (pc, .iinc j n, 3, t)) (hl : ls[j]? = some (some (vi x))) (hc : (decide (j < mN M) && !(c2 ls j)) = true) (kk : Z M (k + 1) (ls.set j (some (vi (wr (x + n))))) st h e) : Z M k ls st h e := by
  simp only [Bool.and_eq_true, decide_eq_true_eq, Bool.not_eq_true'] at hc
  refine Z.store (v := vi (wr (x + n))) (fun a b => ⟨wr_R (x + n), a⟩) ?_ kk
  intro p l e s m args below meth c base D ca ad H locs la Q C L kk
  obtain ⟨o1, -, o3, o4⟩ := okM_at C.1 hd
  rw [o4]
  rw [o3 rfl] at kk
  have hm : (j, Value.int (Int32.ofInt x)) ∈ ((List.range ls.length).filterMap (fun i => match ls[i]? with
    | some (some v) => some (i, mv ad v)
    | _ => none)) := List.mem_filterMap.mpr ⟨j, List.mem_range.mpr (List.getElem?_eq_some_iff.mp hl).1, by rw [hl]; rfl⟩
  obtain ⟨q, hq⟩ := List.getElem?_of_mem hm
  exact lv_iinc C.2.1 C.2.2.1 o1 (lh_list L) hq (by rw [← Int32.ofInt_add]) hc.1 rfl (fun ls' hl' => kk ls' (lh_set (by show Value.int _ = Value.int _; rw [ofI_wr]) hc.2 hl'))
/-! cells -/
theorem inT0 : ∀ w ∈ u_ws RX0 TX0 10, w ∈ lwT := fun w hw => List.mem_filter.mpr ⟨inX0 w hw, List.all_eq_true.mp (show (u_ws RX0 TX0 10).all goodWord = true by decide +kernel) w hw⟩
theorem inT1 : ∀ w ∈ u_ws RX1 TX1 5, w ∈ lwT := fun w hw => List.mem_filter.mpr ⟨inX1 w hw, List.all_eq_true.mp (show (u_ws RX1 TX1 5).all goodWord = true by decide +kernel) w hw⟩
theorem inT2 : ∀ w ∈ u_ws RX2 TX2 2, w ∈ lwT := fun w hw => List.mem_filter.mpr ⟨inX2 w hw, List.all_eq_true.mp (show (u_ws RX2 TX2 2).all goodWord = true by decide +kernel) w hw⟩
theorem inT3 : ∀ w ∈ u_ws RX3 TX3 5, w ∈ lwT := fun w hw => List.mem_filter.mpr ⟨inX3 w hw, List.all_eq_true.mp (show (u_ws RX3 TX3 5).all goodWord = true by decide +kernel) w hw⟩
theorem inT4 : ∀ w ∈ u_ws RX4 TX4 10, w ∈ lwT := fun w hw => List.mem_filter.mpr ⟨inX4 w hw, List.all_eq_true.mp (show (u_ws RX4 TX4 10).all goodWord = true by decide +kernel) w hw⟩
theorem inT5 : ∀ w ∈ u_ws RX5 TX5 14, w ∈ lwT := fun w hw => List.mem_filter.mpr ⟨inX5 w hw, List.all_eq_true.mp (show (u_ws RX5 TX5 14).all goodWord = true by decide +kernel) w hw⟩
/-- a kind of object, as the tables have it -/
def KO (ci : Nat) (R : String) (T : u_T) (ty : Nat → FieldType) (N : Nat) : Prop := vwCl[ci]? = some (R, T, N) ∧ N = vw_N ci ∧ ci < 10 ∧ (∀ w ∈ u_ws R T N, w ∈ lwT) ∧ (∀ k, k < N → parseFieldDescriptor (T k).2.2.1 = some (ty k)) ∧ (∀ a, a < N → ∀ b, b < N → a ≠ b → (T a).2.1 ≠ (T b).2.1)
theorem ko0 : KO 0 RX0 TX0 tyX0 10 := ⟨rfl, rfl, by omega, inT0, tyX0_ok, nmX0⟩
theorem ko1 : KO 1 RX1 TX1 tyX1 5 := ⟨rfl, rfl, by omega, inT1, tyX1_ok, nmX1⟩
theorem ko2 : KO 2 RX2 TX2 tyX2 2 := ⟨rfl, rfl, by omega, inT2, tyX2_ok, nmX2⟩
theorem ko3 : KO 3 RX3 TX3 tyX3 5 := ⟨rfl, rfl, by omega, inT3, tyX3_ok, nmX3⟩
theorem ko4 : KO 4 RX4 TX4 tyX4 10 := ⟨rfl, rfl, by omega, inT4, tyX4_ok, nmX4⟩
theorem ko5 : KO 5 RX5 TX5 tyX5 14 := ⟨rfl, rfl, by omega, inT5, tyX5_ok, nmX5⟩
/-- an entry of a pool that is a field of a kind, of the same owner or of a nest mate -/
def FL (own : String) (ix ci f : Nat) : Prop := ∃ R T ty N, KO ci R T ty N ∧ f < N ∧ ((Cond.fieldLink own ix (T f).1 (T f).2.1 (T f).2.2.1 ∈ lwT) ∨ ∃ host, Cond.fieldLinkNest own ix (T f).1 (T f).2.1 (T f).2.2.1 host ∈ lw_tbl)
theorem wcell_o {ad : Nat → Nat} {ca : Nat → ClassId} {f : Nat → Int} {i ci : Nat} (hk : kd i = (ci, 0)) (hc : ci < 10) : wcell ad ca f i = .inr (ci, ofl ci ad f) := by
  unfold wcell
  rw [hk, if_neg (by show ¬ ci = 13; omega), if_neg (by show ¬ 10 ≤ ci; omega)]
theorem ofl_get {c k : Nat} {ad : Nat → Nat} {f : Nat → Int} (hk : k < vw_N c) : (ofl c ad f)[k]? = some (fvl c k ad (f k)) := by
  unfold ofl
  rw [List.getElem?_map, List.getElem?_range hk]
  rfl
theorem ofl_len {c : Nat} {ad : Nat → Nat} {f : Nat → Int} : (ofl c ad f).length = vw_N c := by simp [ofl]
theorem ofl_set {c k : Nat} {ad : Nat → Nat} {f : Nat → Int} {x : Int} {v : Value} (hv : v = fvl c k ad x) : (ofl c ad f).set k v = ofl c ad (fun b => if b = k then x else f b) := by
  subst hv
  apply List.ext_getElem?
  intro j
  by_cases hj : j < vw_N c
  · by_cases e : j = k
    · subst e
      rw [List.getElem?_set_self (by rw [ofl_len]; exact hj), ofl_get hj]
      simp
    · rw [List.getElem?_set_ne (fun q => e q.symm), ofl_get hj, ofl_get hj]
      simp [e]
  · rw [List.getElem?_eq_none (by simp [ofl_len]; omega), List.getElem?_eq_none (by rw [ofl_len]; omega)]
theorem fvl_i {c k : Nat} {ad : Nat → Nat} {z : Int} (ho : off c k = none) : fvl c k ad z = .int (Int32.ofInt z) := by
  unfold fvl
  rw [ho]
theorem fvl_r {c k o i : Nat} {ad : Nat → Nat} (ho : off c k = some o) : fvl c k ad ((i + o : Nat) : Int) = .ref (ad (i + o)) := by
  unfold fvl
  rw [ho]
  show va_rf (rfo ad _) = _
  unfold rfo
  rw [if_neg (by omega), Int.toNat_natCast]
  rfl
theorem hup_o {h : Hp} {i k j : Nat} {x : Int} (hj : j ≠ i) : hup h i k x j = h j := by
  funext b
  simp [hup, hj]
theorem hup_s {h : Hp} {i k : Nat} {x : Int} : hup h i k x i = fun b => if b = k then x else h i b := by
  funext b
  simp [hup]
theorem li_hup {h : Hp} {i k : Nat} {x : Int} (hL : LI h) (hi : i < 84) (ho : off (kd i).1 k = none) : LI (hup h i k x) := by
  refine ⟨fun a b o q => ?_, fun a b q1 q2 => ?_⟩
  · unfold hup
    rw [if_neg]
    · exact hL.1 a b o q
    · rintro ⟨rfl, rfl⟩
      rw [ho] at q
      cases q
  · unfold hup
    rw [if_neg (by omega)]
    exact hL.2 a b q1 q2
theorem z_getI {ix ci f i : Nat} (hd : (mT M)[k]? = some (pc, .getfield ix, 3, t)) (hl : FL (mO M) ix ci f) (ho : off ci f = none) (hk : kd i = (ci, 0)) (kk : Z M (k + 1) ls (vi (h i f) :: st) h e) : Z M k ls (vr i :: st) h e := by
  intro a b c d r h' he
  obtain ⟨z1, z2⟩ := kk a b (avR_i (b i f) (avR_t c)) d r h' he
  refine ⟨z1, ?_⟩
  intro p l e s m args below meth cc base D ca ad H locs la C L W0 S
  have z3 := z2 p l e s m args below meth cc base D ca ad H locs la C L W0 S
  obtain ⟨o1, -, o3, o4⟩ := okM_at C.1 hd
  rw [o4]
  rw [o3 rfl] at z3
  obtain ⟨R, T, ty, N, ⟨k1, k2, k3, k4, k5, k6⟩, hf, hn⟩ := hl
  have hi : i < 84 := kd_lt (c := ci) (by rw [hk]) (by omega)
  have hg := wsN_get (ad := ad) (ca := ca) (h := h) hi
  rw [wcell_o hk k3] at hg
  have hv : (ofl ci ad (h i))[f]? = some (.int (Int32.ofInt (h i f))) := by rw [ofl_get (by omega), fvl_i ho]
  rcases hn with hn | ⟨host, hn⟩
  · exact va_get C.2.1 C.2.2.1 C.2.2.2.2.2.2.2.1 k4 C.2.2.2.2.2.2.1 C.2.2.2.2.2.2.2.2.1 W0.1 i hg k1 f hf (C.2.2.2.2.2.2.2.1 _ hn) (fun _ q => q) hv o1 z3
  · exact va_getN C.2.1 C.2.2.1 C.2.2.2.2.2.2.2.1 k4 C.2.2.2.2.2.2.1 C.2.2.2.2.2.2.2.2.1 W0.1 i hg k1 f hf (va_Nw.use rfl (C.2.2.2.2.2.2.2.2.2.1 _ hn rfl)) (fun _ q => q) hv o1 z3
theorem z_getR {ix ci f i o : Nat} (hd : (mT M)[k]? = some (pc, .getfield ix, 3, t)) (hl : FL (mO M) ix ci f) (ho : off ci f = some o) (hk : kd i = (ci, 0)) (kk : Z M (k + 1) ls (vr (i + o) :: st) h e) : Z M k ls (vr i :: st) h e := by
  intro a b c d r h' he
  obtain ⟨z1, z2⟩ := kk a b (avR_c (v := vr (i + o)) True.intro (avR_t c)) d r h' he
  refine ⟨z1, ?_⟩
  intro p l e s m args below meth cc base D ca ad H locs la C L W0 S
  have z3 := z2 p l e s m args below meth cc base D ca ad H locs la C L W0 S
  obtain ⟨o1, -, o3, o4⟩ := okM_at C.1 hd
  rw [o4]
  rw [o3 rfl] at z3
  obtain ⟨R, T, ty, N, ⟨k1, k2, k3, k4, k5, k6⟩, hf, hn⟩ := hl
  have hi : i < 84 := kd_lt (c := ci) (by rw [hk]) (by omega)
  have hg := wsN_get (ad := ad) (ca := ca) (h := h) hi
  rw [wcell_o hk k3] at hg
  have hv : (ofl ci ad (h i))[f]? = some (.ref (ad (i + o))) := by rw [ofl_get (by omega), a.1 i f o (by rw [hk]; exact ho), fvl_r ho]
  rcases hn with hn | ⟨host, hn⟩
  · exact va_get C.2.1 C.2.2.1 C.2.2.2.2.2.2.2.1 k4 C.2.2.2.2.2.2.1 C.2.2.2.2.2.2.2.2.1 W0.1 i hg k1 f hf (C.2.2.2.2.2.2.2.1 _ hn) (fun _ q => q) hv o1 z3
  · exact va_getN C.2.1 C.2.2.1 C.2.2.2.2.2.2.2.1 k4 C.2.2.2.2.2.2.1 C.2.2.2.2.2.2.2.2.1 W0.1 i hg k1 f hf (va_Nw.use rfl (C.2.2.2.2.2.2.2.2.2.1 _ hn rfl)) (fun _ q => q) hv o1 z3
/-- an entry of a pool that is a field of whole numbers, not final -/
def FI (own : String) (ix ci f : Nat) : Prop := ∃ R T ty N, KO ci R T ty N ∧ f < N ∧ (T f).2.2.2 = false ∧ ty f = .int ∧ ((Cond.fieldLink own ix (T f).1 (T f).2.1 (T f).2.2.1 ∈ lwT) ∨ ∃ host, Cond.fieldLinkNest own ix (T f).1 (T f).2.1 (T f).2.2.1 host ∈ lw_tbl)
theorem z_putI {ix ci f i : Nat} {x : Int} (hd : (mT M)[k]? = some (pc, .putfield ix, 3, t)) (hl : FI (mO M) ix ci f) (ho : off ci f = none) (hk : kd i = (ci, 0)) (kk : Z M (k + 1) ls st (hup h i f x) e) : Z M k ls (vi x :: vr i :: st) h e := by
  intro a b c d r h' he
  obtain ⟨R, T, ty, N, ⟨k1, k2, k3, k4, k5, k6⟩, hf, hfin, hty, hn⟩ := hl
  have hi : i < 84 := kd_lt (c := ci) (by rw [hk]) (by omega)
  obtain ⟨z1, z2⟩ := kk (li_hup a hi (by rw [hk]; exact ho)) (hR_hup b (avR_h c)) (avR_t (avR_t c)) d r h' he
  refine ⟨z1, ?_⟩
  intro p l e s m args below meth cc base D ca ad H locs la C L W0 S
  obtain ⟨o1, -, o3, o4⟩ := okM_at C.1 hd
  rw [o4]
  have hg := wsN_get (ad := ad) (ca := ca) (h := h) hi
  rw [wcell_o hk k3] at hg
  have key : ∀ (H1 : Heap) (locs1 : List Loc), va_P D vwCl ((wsN 84 ad ca h).set i (ad i, .inr (ci, (ofl ci ad (h i)).set f (.int (Int32.ofInt x))))) H1 → va_D (fun q => base ≤ q) ((wsN 84 ad ca h).set i (ad i, .inr (ci, (ofl ci ad (h i)).set f (.int (Int32.ofInt x))))) → va_S (fun q => base ≤ q) s.heap H1 locs1 →
      W p l e (rmM M) s m args below meth cc H1 locs1 0 0 (MQ below (QcO M base D ca ad r h') args s 0 0 (fun q => base ≤ q)) (F0 m (pc + 3) la (st.map (mv ad))) := by
    intro H1 locs1 w1 w2 w3
    have e1 : (wsN 84 ad ca h).set i (ad i, .inr (ci, (ofl ci ad (h i)).set f (.int (Int32.ofInt x)))) = wsN 84 ad ca (hup h i f x) := by
      apply wsN_set (fun j hj => hup_o hj)
      rw [wcell_o hk k3, hup_s, ofl_set (fvl_i ho).symm]
    rw [e1] at w1 w2
    have z3 := z2 p l e s m args below meth cc base D ca ad H1 locs1 la C L ⟨w1, w2⟩ w3
    rw [o3 rfl] at z3
    exact z3
  have hdd : parseFieldDescriptor (T f).2.2.1 = some .int := by rw [k5 f hf, hty]
  rcases hn with hn | ⟨host, hn⟩
  · exact va_put C.2.1 C.2.2.1 C.2.2.2.2.2.2.2.1 k4 ty k5 k6 C.2.2.2.2.2.2.1 C.2.2.2.2.2.2.2.2.1 W0.1 W0.2 S i hg k1 f hf (C.2.2.2.2.2.2.2.1 _ hn) (fun _ q => q) hfin hdd rfl rfl (by rw [ofl_len]; omega) o1 key
  · exact va_putN C.2.1 C.2.2.1 C.2.2.2.2.2.2.2.1 k4 ty k5 k6 C.2.2.2.2.2.2.1 C.2.2.2.2.2.2.2.2.1 W0.1 W0.2 S i hg k1 f hf (va_Nw.use rfl (C.2.2.2.2.2.2.2.2.2.1 _ hn rfl)) (fun _ q => q) hfin hdd rfl rfl (by rw [ofl_len]; omega) o1 key
theorem wcell_a {ad : Nat → Nat} {ca : Nat → ClassId} {f : Nat → Int} {i c n : Nat} (hk : kd i = (10 + c, n)) (hc : c < 3) : wcell ad ca f i = .inl (ca c, n, .inl (fun k => Int32.ofInt (f k))) := by
  unfold wcell
  rw [hk, if_neg (by show ¬ 10 + c = 13; omega), if_pos (by show 10 ≤ 10 + c; omega)]
  show Sum.inl (ca (10 + c - 10), n, _) = _
  rw [Nat.add_sub_cancel_left]
theorem wcell_q {ad : Nat → Nat} {ca : Nat → ClassId} {f : Nat → Int} {i n : Nat} (hk : kd i = (13, n)) : wcell ad ca f i = .inl (ca 3, n, .inr (.inr (.inr (.inr (fun k => rfo ad (f k)))))) := by
  unfold wcell
  rw [hk, if_pos rfl]
theorem Z.guard {P : Prop} [Decidable P] (kk : P → Z M k ls st h e) : Z M k ls st h (if P then e else none) := by
  intro a b c d r h' he
  by_cases hP : P
  · rw [if_pos hP] at he
    exact kk hP a b c d r h' he
  · rw [if_neg hP] at he
    cases he
/-- a step that reads a cell -/
theorem Z.read {v : AV} {st2 : List AV} {k2 : Nat} (hr : LI h → hR h → (∀ w ∈ st, avR w) → ∀ w ∈ st2, avR w)
    (hw : ∀ (p : Program) (l : Launch) (e : Env) (s : State) (m : MethodId) (args : Array Value) (below : List Frame) (meth : Method) (c : Code) (base : Nat) (D : va_G) (ca : Nat → ClassId) (ad : Nat → Nat) (H : Heap) (locs : List Loc) (la : Array Slot) (Q : State → Prop), (∀ v ∈ st, avR v) →
      ZC M p s m args meth c base D ca ad → LH ad la (mN M) ls → WD base D ca ad h H → va_S (fun q => base ≤ q) s.heap H locs → LI h → hR h →
      W p l e (rmM M) s m args below meth c H locs 0 0 Q (F0 m (pcO M k2) la (st2.map (mv ad))) → W p l e (rmM M) s m args below meth c H locs 0 0 Q (F0 m (pcO M k) la (st.map (mv ad))))
    (kk : Z M k2 ls st2 h e) : Z M k ls st h e := by
  intro a b c d r h' he
  obtain ⟨z1, z2⟩ := kk a b (hr a b c) d r h' he
  refine ⟨z1, ?_⟩
  intro p l e s m args below meth cc base D ca ad H locs la C L W0 S
  exact hw p l e s m args below meth cc base D ca ad H locs la _ c C L W0 S a b (z2 p l e s m args below meth cc base D ca ad H locs la C L W0 S)
theorem z_iaload {i n : Nat} {x : Int} (hd : (mT M)[k]? = some (pc, .iaload, 1, t)) (hk : kd i = (10, n)) (kk : Z M (k + 1) ls (vi (h i x.toNat) :: st) h e) : Z M k ls (vi x :: vr i :: st) h (if inb x n then e else none) := by
  refine Z.guard (P := inb x n) (fun hin => ?_)
  refine Z.read (v := vi x) (fun _ b c => avR_i (b _ _) (avR_t (avR_t c))) ?_ kk
  intro p l e s m args below meth c base D ca ad H locs la Q rs C L W0 S _ _ kk
  obtain ⟨o1, -, o3, o4⟩ := okM_at C.1 hd
  rw [o4]
  rw [o3 rfl] at kk
  have rx : iR x := avR_h rs
  have hi : i < 84 := kd_lt (c := 10) (by rw [hk]) (by omega)
  have hg := wsN_get (ad := ad) (ca := ca) (h := h) hi
  rw [wcell_a (c := 0) hk (by omega)] at hg
  refine va_iald C.2.1 C.2.2.1 C.2.2.2.2.2.2.2.2.1 W0.1 i 0 hg rfl (ofI_in rx hin) o1 ?_
  rw [ofI_cl rx]
  exact kk
theorem z_baload {i n : Nat} {x : Int} (hd : (mT M)[k]? = some (pc, .baload, 1, t)) (hk : kd i = (11, n)) (kk : Z M (k + 1) ls (vi (h i x.toNat) :: st) h e) : Z M k ls (vi x :: vr i :: st) h (if inb x n then e else none) := by
  refine Z.guard (P := inb x n) (fun hin => ?_)
  refine Z.read (v := vi x) (fun _ b c => avR_i (b _ _) (avR_t (avR_t c))) ?_ kk
  intro p l e s m args below meth c base D ca ad H locs la Q rs C L W0 S _ _ kk
  obtain ⟨o1, -, o3, o4⟩ := okM_at C.1 hd
  rw [o4]
  rw [o3 rfl] at kk
  have rx : iR x := avR_h rs
  have hi : i < 84 := kd_lt (c := 11) (by rw [hk]) (by omega)
  have hg := wsN_get (ad := ad) (ca := ca) (h := h) hi
  rw [wcell_a (c := 1) hk (by omega)] at hg
  refine va_zald C.2.1 C.2.2.1 C.2.2.2.2.2.2.2.2.1 W0.1 i 1 hg rfl (ofI_in rx hin) o1 ?_
  rw [ofI_cl rx]
  exact kk
theorem z_caload {i n : Nat} {x : Int} (hd : (mT M)[k]? = some (pc, .caload, 1, t)) (hk : kd i = (12, n)) (kk : Z M (k + 1) ls (vi (h i x.toNat) :: st) h e) : Z M k ls (vi x :: vr i :: st) h (if inb x n then e else none) := by
  refine Z.guard (P := inb x n) (fun hin => ?_)
  refine Z.read (v := vi x) (fun _ b c => avR_i (b _ _) (avR_t (avR_t c))) ?_ kk
  intro p l e s m args below meth c base D ca ad H locs la Q rs C L W0 S _ _ kk
  obtain ⟨o1, -, o3, o4⟩ := okM_at C.1 hd
  rw [o4]
  rw [o3 rfl] at kk
  have rx : iR x := avR_h rs
  have hi : i < 84 := kd_lt (c := 12) (by rw [hk]) (by omega)
  have hg := wsN_get (ad := ad) (ca := ca) (h := h) hi
  rw [wcell_a (c := 2) hk (by omega)] at hg
  refine va_cald C.2.1 C.2.2.1 C.2.2.2.2.2.2.2.2.1 W0.1 i 2 hg rfl (ofI_in rx hin) o1 ?_
  rw [ofI_cl rx]
  exact kk
/-- a reference in a row of offices is one of an office -/
abbrev okA (h : Hp) (i : Nat) (x : Int) (n : Nat) : Prop := inb x n ∧ 0 ≤ h i x.toNat ∧ kd (h i x.toNat).toNat = (1, 0)
theorem z_aaload {i n : Nat} {x : Int} (hd : (mT M)[k]? = some (pc, .aaload, 1, t)) (hk : kd i = (13, n)) (kk : kd (h i x.toNat).toNat = (1, 0) → Z M (k + 1) ls (vr (h i x.toNat).toNat :: st) h e) : Z M k ls (vi x :: vr i :: st) h (if okA h i x n then e else none) := by
  refine Z.guard (P := okA h i x n) (fun hin => ?_)
  refine Z.read (v := vi x) (fun _ b c => avR_c (v := vr _) True.intro (avR_t (avR_t c))) ?_ (kk hin.2.2)
  intro p l e s m args below meth c base D ca ad H locs la Q rs C L W0 S _ _ kk
  obtain ⟨o1, -, o3, o4⟩ := okM_at C.1 hd
  rw [o4]
  rw [o3 rfl] at kk
  have rx : iR x := avR_h rs
  have hi : i < 84 := kd_lt (c := 13) (by rw [hk]) (by omega)
  have hg := wsN_get (ad := ad) (ca := ca) (h := h) hi
  rw [wcell_q hk] at hg
  refine va_aldq C.2.1 C.2.2.1 C.2.2.2.2.2.2.2.2.1 W0.1 i 3 hg rfl (ofI_in rx hin.1) o1 ?_
  rw [ofI_cl rx]
  have e1 : va_rf (rfo ad (h i x.toNat)) = .ref (ad (h i x.toNat).toNat) := by
    unfold rfo
    rw [if_neg (by omega)]
    rfl
  rw [e1]
  exact kk
theorem z_alen {i c n : Nat} (hd : (mT M)[k]? = some (pc, .arraylength, 1, t)) (hk : kd i = (10 + c, n)) (hc : c < 4) (kk : Z M (k + 1) ls (vi (n : Int) :: st) h e) : Z M k ls (vr i :: st) h e := by
  have key : ∀ i, i < 84 → (kd i).2 < 2000 := by decide +kernel
  have hi : i < 84 := kd_lt (c := 10 + c) (by rw [hk]) (by omega)
  have hn := key i hi
  rw [hk] at hn
  refine Z.read (v := vi 0) (fun _ b c => avR_i (show iR (n : Int) from ⟨by omega, by omega⟩) (avR_t c)) ?_ kk
  intro p l e s m args below meth cc base D ca ad H locs la Q rs C L W0 S _ _ kk
  obtain ⟨o1, -, o3, o4⟩ := okM_at C.1 hd
  rw [o4]
  rw [o3 rfl] at kk
  have hg := wsN_get (ad := ad) (ca := ca) (h := h) hi
  have h3 : c < 3 ∨ c = 3 := by omega
  rcases h3 with h3 | rfl
  · rw [wcell_a hk h3] at hg
    obtain ⟨ty, hty⟩ : ∃ ty, (tysOf ca)[c]? = some (ca c, ty) := by
      rcases (show c = 0 ∨ c = 1 ∨ c = 2 by omega) with rfl | rfl | rfl <;> exact ⟨_, rfl⟩
    exact va_alen C.2.1 C.2.2.1 C.2.2.2.2.2.2.2.2.1 W0.1 i c hg hty (v := Int32.ofInt (n : Int)) (Int32.ofInt_eq_ofNat).symm o1 kk
  · rw [wcell_q hk] at hg
    exact va_alen C.2.1 C.2.2.1 C.2.2.2.2.2.2.2.2.1 W0.1 i 3 hg (show (tysOf ca)[3]? = some (ca 3, _) from rfl) (v := Int32.ofInt (n : Int)) (Int32.ofInt_eq_ofNat).symm o1 kk
/-- a step that writes a cell -/
theorem Z.write {i k2 : Nat} {x : Int} {j : Nat} {st2 : List AV} {ev : (Nat → Nat) → (Nat → ClassId) → va_E} (hi : i < 84) (ho : off (kd i).1 j = none) (hx : (∀ w ∈ st, avR w) → iR x) (hr : (∀ w ∈ st, avR w) → ∀ w ∈ st2, avR w)
    (hev : ∀ ad ca, ev ad ca = wcell ad ca (hup h i j x i) i)
    (hw : ∀ (p : Program) (l : Launch) (e : Env) (s : State) (m : MethodId) (args : Array Value) (below : List Frame) (meth : Method) (c : Code) (base : Nat) (D : va_G) (ca : Nat → ClassId) (ad : Nat → Nat) (H : Heap) (locs : List Loc) (la : Array Slot) (Q : State → Prop), (∀ v ∈ st, avR v) →
      ZC M p s m args meth c base D ca ad → LH ad la (mN M) ls → WD base D ca ad h H → va_S (fun q => base ≤ q) s.heap H locs → LI h → hR h →
      (∀ (H1 : Heap) (locs1 : List Loc), va_P D vwCl ((wsN 84 ad ca h).set i (ad i, ev ad ca)) H1 → va_D (fun q => base ≤ q) ((wsN 84 ad ca h).set i (ad i, ev ad ca)) → va_S (fun q => base ≤ q) s.heap H1 locs1 →
        W p l e (rmM M) s m args below meth c H1 locs1 0 0 Q (F0 m (pcO M k2) la (st2.map (mv ad)))) → W p l e (rmM M) s m args below meth c H locs 0 0 Q (F0 m (pcO M k) la (st.map (mv ad))))
    (kk : Z M k2 ls st2 (hup h i j x) e) : Z M k ls st h e := by
  intro a b c d r h' he
  obtain ⟨z1, z2⟩ := kk (li_hup a hi ho) (hR_hup b (hx c)) (hr c) d r h' he
  refine ⟨z1, ?_⟩
  intro p l e s m args below meth cc base D ca ad H locs la C L W0 S
  refine hw p l e s m args below meth cc base D ca ad H locs la _ c C L W0 S a b ?_
  intro H1 locs1 w1 w2 w3
  have e1 : (wsN 84 ad ca h).set i (ad i, ev ad ca) = wsN 84 ad ca (hup h i j x) := wsN_set (fun j hj => hup_o hj) (hev ad ca)
  rw [e1] at w1 w2
  exact z2 p l e s m args below meth cc base D ca ad H1 locs1 la C L ⟨w1, w2⟩ w3
theorem off_a {i c n j : Nat} (hk : kd i = (10 + c, n)) : off (kd i).1 j = none := by
  rw [hk]
  show off (10 + c) j = none
  unfold off
  split <;> first | rfl | omega
theorem wcell_up {ad : Nat → Nat} {ca : Nat → ClassId} {h : Hp} {i c n : Nat} {x y : Int} (hk : kd i = (10 + c, n)) (hc : c < 3) : (Sum.inl (ca c, n, Sum.inl (upd (fun k => Int32.ofInt (h i k)) y.toNat (Int32.ofInt x))) : va_E) = wcell ad ca (hup h i y.toNat x i) i := by
  rw [wcell_a hk hc, hup_s]
  congr 4
  funext q
  show (if q = y.toNat then Int32.ofInt x else Int32.ofInt (h i q)) = Int32.ofInt (if q = y.toNat then x else h i q)
  split <;> rfl
theorem z_iastore {i n : Nat} {x y : Int} (hd : (mT M)[k]? = some (pc, .iastore, 1, t)) (hk : kd i = (10, n)) (kk : Z M (k + 1) ls st (hup h i y.toNat x) e) : Z M k ls (vi x :: vi y :: vr i :: st) h (if inb y n then e else none) := by
  refine Z.guard (P := inb y n) (fun hin => ?_)
  have hi : i < 84 := kd_lt (c := 10) (by rw [hk]) (by omega)
  refine Z.write (ev := fun ad ca => .inl (ca 0, n, .inl (upd (fun k => Int32.ofInt (h i k)) y.toNat (Int32.ofInt x)))) hi (off_a (c := 0) hk) (fun a => avR_h a) (fun a => avR_t (avR_t (avR_t a))) (fun ad ca => wcell_up (c := 0) hk (by omega)) ?_ kk
  intro p l e s m args below meth c base D ca ad H locs la Q rs C L W0 S _ _ kk
  obtain ⟨o1, -, o3, o4⟩ := okM_at C.1 hd
  rw [o4]
  rw [o3 rfl] at kk
  have ry : iR y := avR_h (avR_t rs)
  have hg := wsN_get (ad := ad) (ca := ca) (h := h) hi
  rw [wcell_a (c := 0) hk (by omega)] at hg
  refine va_iast C.2.1 C.2.2.1 C.2.2.2.2.2.2.2.2.1 W0.1 W0.2 S i 0 hg rfl (ofI_in ry hin) o1 ?_
  rw [ofI_cl ry]
  exact kk
abbrev isB (x : Int) : Prop := x = 0 ∨ x = 1
theorem nar_B {x : Int} (h : isB x) : vp_nar .boolean (Int32.ofInt x) = Int32.ofInt x := by
  rcases h with rfl | rfl <;> rfl
theorem z_bastore {i n : Nat} {x y : Int} (hd : (mT M)[k]? = some (pc, .bastore, 1, t)) (hk : kd i = (11, n)) (kk : Z M (k + 1) ls st (hup h i y.toNat x) e) : Z M k ls (vi x :: vi y :: vr i :: st) h (if inb y n ∧ isB x then e else none) := by
  refine Z.guard (P := inb y n ∧ isB x) (fun hin => ?_)
  have hi : i < 84 := kd_lt (c := 11) (by rw [hk]) (by omega)
  refine Z.write (ev := fun ad ca => .inl (ca 1, n, .inl (upd (fun k => Int32.ofInt (h i k)) y.toNat (Int32.ofInt x)))) hi (off_a (c := 1) hk) (fun a => avR_h a) (fun a => avR_t (avR_t (avR_t a))) (fun ad ca => wcell_up (c := 1) hk (by omega)) ?_ kk
  intro p l e s m args below meth c base D ca ad H locs la Q rs C L W0 S _ _ kk
  obtain ⟨o1, -, o3, o4⟩ := okM_at C.1 hd
  rw [o4]
  rw [o3 rfl] at kk
  have ry : iR y := avR_h (avR_t rs)
  have hg := wsN_get (ad := ad) (ca := ca) (h := h) hi
  rw [wcell_a (c := 1) hk (by omega)] at hg
  refine va_zast C.2.1 C.2.2.1 C.2.2.2.2.2.2.2.2.1 W0.1 W0.2 S i 1 hg rfl (ofI_in ry hin.1) o1 ?_
  rw [ofI_cl ry, nar_B hin.2]
  exact kk
abbrev isC (x : Int) : Prop := 0 ≤ x ∧ x < 65536
theorem nI_of_Int {x : Int} (h : 0 ≤ x) : Int32.ofInt x = nI x.toNat := by
  obtain ⟨n, rfl⟩ := Int.eq_ofNat_of_zero_le h
  rw [Int.toNat_natCast]
  exact Int32.ofInt_eq_ofNat
theorem nar_C {x : Int} (h : isC x) : narrow .char (.int (Int32.ofInt x)) = .int (Int32.ofInt x) := by
  rw [nI_of_Int h.1]
  exact (pk_charN (by omega)).1
theorem z_castore {i n : Nat} {x y : Int} (hd : (mT M)[k]? = some (pc, .castore, 1, t)) (hk : kd i = (12, n)) (kk : Z M (k + 1) ls st (hup h i y.toNat x) e) : Z M k ls (vi x :: vi y :: vr i :: st) h (if inb y n ∧ isC x then e else none) := by
  refine Z.guard (P := inb y n ∧ isC x) (fun hin => ?_)
  have hi : i < 84 := kd_lt (c := 12) (by rw [hk]) (by omega)
  refine Z.write (ev := fun ad ca => .inl (ca 2, n, .inl (upd (fun k => Int32.ofInt (h i k)) y.toNat (Int32.ofInt x)))) hi (off_a (c := 2) hk) (fun a => avR_h a) (fun a => avR_t (avR_t (avR_t a))) (fun ad ca => wcell_up (c := 2) hk (by omega)) ?_ kk
  intro p l e s m args below meth c base D ca ad H locs la Q rs C L W0 S _ _ kk
  obtain ⟨o1, -, o3, o4⟩ := okM_at C.1 hd
  rw [o4]
  rw [o3 rfl] at kk
  have ry : iR y := avR_h (avR_t rs)
  have hg := wsN_get (ad := ad) (ca := ca) (h := h) hi
  rw [wcell_a (c := 2) hk (by omega)] at hg
  refine va_cast C.2.1 C.2.2.1 C.2.2.2.2.2.2.2.2.1 W0.1 W0.2 S i 2 hg rfl (ofI_in ry hin.1) o1 ?_
  have e2 : vp_nar .char (Int32.ofInt x) = Int32.ofInt x := by unfold vp_nar; rw [nar_C hin.2]
  rw [ofI_cl ry, e2]
  exact kk
theorem z_i2c {x : Int} (hd : (mT M)[k]? = some (pc, .i2c, 1, t)) (kk : Z M (k + 1) ls (vi x :: st) h e) : Z M k ls (vi x :: st) h (if isC x then e else none) := by
  refine Z.guard (P := isC x) (fun hin => ?_)
  refine Z.pure (fun a b => a) ?_ kk
  intro p l e s m args below meth c base D ca ad H locs la Q a _ C L _ _ _ _ kk
  obtain ⟨o1, -, o3, o4⟩ := okM_at C.1 hd
  rw [o4]
  rw [o3 rfl] at kk
  refine lv_i2c C.2.1 C.2.2.1 o1 ?_ kk
  rw [nI_of_Int hin.1, pk_char, pk_tn (by omega), Nat.mod_eq_of_lt (by omega)]
theorem rfo_s {ad : Nat → Nat} {j : Nat} : rfo ad (j : Int) = some (ad j) := by
  unfold rfo
  rw [if_neg (by omega), Int.toNat_natCast]
theorem z_aastore {i n j : Nat} {y : Int} (hd : (mT M)[k]? = some (pc, .aastore, 1, t)) (hk : kd i = (13, n)) (hj : kd j = (1, 0)) (kk : Z M (k + 1) ls st (hup h i y.toNat (j : Int)) e) : Z M k ls (vr j :: vi y :: vr i :: st) h (if inb y n then e else none) := by
  refine Z.guard (P := inb y n) (fun hin => ?_)
  have hi : i < 84 := kd_lt (c := 13) (by rw [hk]) (by omega)
  have hj2 : j < 84 := kd_lt (c := 1) (by rw [hj]) (by omega)
  refine Z.write (ev := fun ad ca => .inl (ca 3, n, .inr (.inr (.inr (.inr (va_up (fun k => rfo ad (h i k)) y.toNat (some (ad j)))))))) hi (off_a (c := 3) hk) (fun a => ⟨by omega, by omega⟩) (fun a => avR_t (avR_t (avR_t a))) (fun ad ca => ?_) ?_ kk
  · rw [wcell_q hk, hup_s]
    congr 7
    funext q
    show (if q = y.toNat then some (ad j) else rfo ad (h i q)) = rfo ad (if q = y.toNat then (j : Int) else h i q)
    split
    · exact rfo_s.symm
    · rfl
  intro p l e s m args below meth c base D ca ad H locs la Q rs C L W0 S _ _ kk
  obtain ⟨o1, -, o3, o4⟩ := okM_at C.1 hd
  rw [o4]
  rw [o3 rfl] at kk
  have ry : iR y := avR_h (avR_t rs)
  have hg := wsN_get (ad := ad) (ca := ca) (h := h) hi
  rw [wcell_q hk] at hg
  have hg2 := wsN_get (ad := ad) (ca := ca) (h := h) hj2
  rw [wcell_o hj (by omega)] at hg2
  refine va_astq C.2.1 C.2.2.1 C.2.2.2.2.2.2.2.2.1 W0.1 W0.2 S i 3 j 1 hg rfl hg2 (r := (RX1, TX1, 5)) rfl (ofI_in ry hin) o1 ?_
  rw [ofI_cl ry]
  exact kk
/-! ends -/
theorem z_ireturn {x : Int} (hd : (mT M)[k]? = some (pc, .ireturn, 1, t)) (hr : mR M = some .int) : Z M k ls [vi x] h (some (x, h)) := by
  intro a b c d r h' he
  cases he
  refine ⟨⟨avR_h c, a, b⟩, ?_⟩
  intro p l e s m args below meth cc base D ca ad H locs la C L W0 S
  obtain ⟨o1, -, -, o4⟩ := okM_at C.1 hd
  rw [o4]
  have hq : QcO M base D ca ad x h = va_Qi (S := Unit) (fun z _ => z = Int32.ofInt x) (fun _ t => WD base D ca ad h t.heap) (fun q => base ≤ q) := by unfold QcO; rw [hr]
  rw [hq]
  exact W.iret (v := Int32.ofInt x) C.2.1 C.2.2.1 (C.2.2.2.2.1.trans hr) (fun t ht hW => ⟨⟨_, (), rfl, rfl, by show WD base D ca ad h t.heap; rw [ht]; exact W0⟩, S.F ht⟩) S.2.2 o1 C.2.2.2.2.2.1
theorem z_ret {x : Int} {ty : FieldType} (hr : mR M = some ty) (hn : narrow ty (.int (Int32.ofInt x)) = .int (Int32.ofInt x)) (hd : (mT M)[k]? = some (pc, .ireturn, 1, t)) : Z M k ls [vi x] h (some (x, h)) := by
  intro a b c d r h' he
  cases he
  refine ⟨⟨avR_h c, a, b⟩, ?_⟩
  intro p l e s m args below meth cc base D ca ad H locs la C L W0 S
  obtain ⟨o1, -, -, o4⟩ := okM_at C.1 hd
  rw [o4]
  have hq : QcO M base D ca ad x h = va_Qi (S := Unit) (fun z _ => z = Int32.ofInt x) (fun _ t => WD base D ca ad h t.heap) (fun q => base ≤ q) := by unfold QcO; rw [hr]
  rw [hq]
  exact W.zret (v := Int32.ofInt x) (ty := ty) C.2.1 C.2.2.1 (C.2.2.2.2.1.trans hr) hn (fun t ht hW => ⟨⟨_, (), rfl, rfl, by show WD base D ca ad h t.heap; rw [ht]; exact W0⟩, S.F ht⟩) S.2.2 o1 C.2.2.2.2.2.1
theorem z_zret {x : Int} (hd : (mT M)[k]? = some (pc, .ireturn, 1, t)) (hr : mR M = some .boolean) : Z M k ls [vi x] h (if isB x then some (x, h) else none) := by
  refine Z.guard (P := isB x) (fun hb => z_ret hr ?_ hd)
  rcases hb with rfl | rfl <;> rfl
theorem z_zret0 (hd : (mT M)[k]? = some (pc, .ireturn, 1, t)) (hr : mR M = some .boolean) : Z M k ls [vi 0] h (some (0, h)) := z_ret hr rfl hd
theorem z_zret1 (hd : (mT M)[k]? = some (pc, .ireturn, 1, t)) (hr : mR M = some .boolean) : Z M k ls [vi 1] h (some (1, h)) := z_ret hr rfl hd
theorem z_cret {x : Int} (hd : (mT M)[k]? = some (pc, .ireturn, 1, t)) (hr : mR M = some .char) : Z M k ls [vi x] h (if isC x then some (x, h) else none) :=
  Z.guard (P := isC x) (fun hb => z_ret hr (nar_C hb) hd)
theorem z_return (hd : (mT M)[k]? = some (pc, .return_, 1, t)) (hr : mR M = none) : Z M k ls [] h (some (0, h)) := by
  intro a b c d r h' he
  cases he
  refine ⟨⟨iR_0, a, b⟩, ?_⟩
  intro p l e s m args below meth cc base D ca ad H locs la C L W0 S
  obtain ⟨o1, -, -, o4⟩ := okM_at C.1 hd
  rw [o4]
  have hq : QcO M base D ca ad 0 h = va_Qv (S := Unit) (fun _ => True) (fun _ t => WD base D ca ad h t.heap) (fun q => base ≤ q) := by unfold QcO; rw [hr]
  rw [hq]
  exact W.vret C.2.1 C.2.2.1 (C.2.2.2.2.1.trans hr) (fun t ht hW => ⟨⟨(), rfl, True.intro, by show WD base D ca ad h t.heap; rw [ht]; exact W0⟩, S.F ht⟩) S.2.2 o1 C.2.2.2.2.2.1
end Steps2
end
section
/-! the judgement Z: a method out of its body, calls -/
section Steps3
/-- the locals with which a method begins -/
def lsA : List AV → List (Option AV)
  | [] => []
  | v :: r => if acat v = 2 then some v :: none :: lsA r else some v :: lsA r
theorem lsA_args (ad : Nat → Nat) : ∀ (av : List AV) (o i : Nat) (v : AV), (lsA av)[i]? = some (some v) → (o + i, mv ad v) ∈ lv_args o (av.map (mv ad)) ∧ v ∈ av
  | [], o, i, v, h => by simp [lsA] at h
  | w :: r, o, i, v, h => by
    unfold lsA at h
    by_cases hc : acat w = 2
    · rw [if_pos hc] at h
      match i, h with
      | 0, h =>
        simp at h
        subst h
        exact ⟨List.mem_cons_self, List.mem_cons_self⟩
      | 1, h => simp at h
      | i + 2, h =>
        have h1 := lsA_args ad r (o + 2) i v (by simpa using h)
        refine ⟨?_, List.mem_cons_of_mem _ h1.2⟩
        show _ ∈ (o, mv ad w) :: lv_args (if (mv ad w).category = 2 then o + 2 else o + 1) (r.map (mv ad))
        rw [acat_mv, if_pos hc]
        rw [show o + (i + 2) = o + 2 + i by omega]
        exact List.mem_cons_of_mem _ h1.1
    · rw [if_neg hc] at h
      match i, h with
      | 0, h =>
        simp at h
        subst h
        exact ⟨List.mem_cons_self, List.mem_cons_self⟩
      | i + 1, h =>
        have h1 := lsA_args ad r (o + 1) i v (by simpa using h)
        refine ⟨?_, List.mem_cons_of_mem _ h1.2⟩
        show _ ∈ (o, mv ad w) :: lv_args (if (mv ad w).category = 2 then o + 2 else o + 1) (r.map (mv ad))
        rw [acat_mv, if_neg hc]
        rw [show o + (i + 1) = o + 1 + i by omega]
        exact List.mem_cons_of_mem _ h1.1
theorem lsA_len : ∀ (ad : Nat → Nat) (av : List AV), (lg_sl (av.map (mv ad))).length = (lsA av).length
  | ad, [] => rfl
  | ad, v :: r => by
    have h1 := lsA_len ad r
    unfold lsA
    show (lg_sl (mv ad v :: r.map (mv ad))).length = _
    unfold lg_sl at h1 ⊢
    rw [List.flatMap_cons, List.length_append, h1, acat_mv]
    by_cases hc : acat v = 2
    · rw [if_pos hc, if_pos hc]
      simp only [List.length_cons, List.length_nil]
      omega
    · rw [if_neg hc, if_neg hc]
      simp only [List.length_cons, List.length_nil]
      omega
theorem Met.ofWF {l : Launch} {y : MethodName} {ws ws' : List Cond} {rm : Room} {Pc : Array Value → State → Prop} {Qc : Array Value → State → Outcome → State → Prop} {mc ms : Nat} {free : Addr → Prop} {cc : ByteArray} {maxL : Nat} {ret : Option FieldType}
    (hy : plainFor y = true) (hw : ws = Cond.code y cc maxL ret :: ws')
    (body : ∀ p e s m args below meth c s₁, BodyLoose p l y (headSpec ws rm) cc maxL ret e s m args below meth c s₁ → c.maxLocals = maxL → Pc args s →
      W p l e (headSpec ws rm).room s m args below meth c s.heap [] 0 0 (MQ below Qc args s mc ms free) (entryFrame m args maxL)) : Met l y ws rm Pc Qc mc ms free := by
  refine MetFree.of_bodySF (code := cc) (maxLocals := maxL) (ret := ret) hy ?_ ?_
  · intro args s m h hn
    obtain ⟨meth, c, h1, h2, h3, h4, h5, h6, -, -⟩ := Cond.code_spec hn (atoms_spec (ws := ws) h _ (by rw [hw]; exact List.mem_cons_self))
    exact ⟨meth, c, h1, h2, h3, h4, h5, h6⟩
  · intro p e s m args below meth c s₁ B hml hP _
    have hh0 : s₁.heap = s.heap := by rw [B.state]; rfl
    obtain ⟨t, a1, o, b1, b2, b3⟩ := body p e s m args below meth c s₁ B hml hP s₁ hh0 (Stand.of_body B)
    exact ⟨t, o, a1, b1, b2, ⟨b3.1, b3.2⟩⟩
theorem Ct.mk {M : MI} {av : List AV} {h : Hp} {e : Option (Int × Hp)} (hok : okM M = true) (hp : plainFor (mY M) = true) (ho : (mY M).cls = mO M) (hl : (decide ((lsA av).length ≤ mN M)) = true) (z : Z M 0 (lsA av ++ List.replicate (mN M - (lsA av).length) none) [] h e) : Ct M av h e := by
  intro a b c r h' he
  simp only [decide_eq_true_eq] at hl
  have hls : ∀ (i : Nat) (v : AV), (lsA av ++ List.replicate (mN M - (lsA av).length) none)[i]? = some (some v) → (lsA av)[i]? = some (some v) := by
    intro i v hi
    by_cases q : i < (lsA av).length
    · rwa [List.getElem?_append_left q] at hi
    · rw [List.getElem?_append_right (by omega), List.getElem?_replicate] at hi
      split at hi
      · cases hi
      · cases hi
  obtain ⟨z1, z2⟩ := z a b (fun _ q => by cases q) (fun i v hi => c v (lsA_args (fun q => q) av 0 i v (hls i v hi)).2) r h' he
  refine ⟨z1, ?_⟩
  intro l base D ca ad
  refine Met.ofWF (cc := mC M) (maxL := mN M) (ret := mR M) hp rfl ?_
  intro p e s m args below meth c s₁ B hml hv
  obtain ⟨rfl, hX, hW⟩ := hv
  have hts := atoms_spec (ws := wsM M) B.pre
  have hown : s.vm.findClass (mO M) = some m.cls := by rw [← ho]; exact findClass_of_methodNamed B.named
  have C : ZC M p s m (av.map (mv ad)).toArray meth c base D ca ad := ⟨hok, B.exec, B.bytes, hml, B.returns, B.notSynchronized, hown, fun w hw => hts w (List.mem_cons_of_mem _ hw), hX⟩
  have hle := lv_entry (av.map (mv ad)) (n := mN M) (by rw [lsA_len]; exact hl)
  rw [lg_entry_eq]
  generalize (lg_sl (av.map (mv ad)) ++ List.replicate (mN M - (lg_sl (av.map (mv ad))).length) Slot.unset).toArray = la at hle ⊢
  have L : LH ad la (mN M) (lsA av ++ List.replicate (mN M - (lsA av).length) none) := by
    refine ⟨hle.1, hle.2.1, fun i v hi => ?_⟩
    have h1 := (lsA_args ad av 0 i v (hls i v hi)).1
    rw [Nat.zero_add] at h1
    exact hle.2.2 (i, mv ad v) h1
  have hpc : pcO M 0 = 0 := by
    unfold okM at hok
    simp only [Bool.and_eq_true, decide_eq_true_eq] at hok
    exact hok.1
  have z3 := z2 p l e s m (av.map (mv ad)).toArray below meth c base D ca ad s.heap [] la C L hW va_S.rf
  rw [hpc] at z3
  exact z3
/-- an entry of a pool that is a method: of a named kind (virtual), of its own owner or of a nest mate -/
def MV (own : String) (ix : Nat) (M : MI) (n : Nat) : Prop := (((Cond.methodLink own ix (mY M)) ∈ lwT) ∧ (Cond.instanceMethod (mY M)) ∈ lwT ∧ (Cond.selects (mY M).cls (mY M) (mY M)) ∈ lwT ∧ (Cond.initialized (mY M).cls) ∈ lwT ∧ Cond.code (mY M) (mC M) (mN M) (mR M) ∈ lwT) ∧ ((mY M).cls ≠ "java/lang/invoke/MethodHandle" ∧ (mY M).cls ≠ "java/lang/invoke/VarHandle" ∧ (parseMethodDescriptor (mY M).desc).map (fun d => d.parameters.length) = some n)
def MS (own : String) (ix : Nat) (M : MI) (n : Nat) : Prop := (((Cond.methodLink own ix (mY M)) ∈ lwT) ∧ (Cond.static (mY M)) ∈ lwT ∧ (Cond.initialized (mY M).cls) ∈ lwT ∧ Cond.code (mY M) (mC M) (mN M) (mR M) ∈ lwT) ∧ ((mY M).cls ≠ "java/lang/invoke/MethodHandle" ∧ (mY M).cls ≠ "java/lang/invoke/VarHandle" ∧ (parseMethodDescriptor (mY M).desc).map (fun d => d.parameters.length) = some n)
def MSN (own : String) (ix : Nat) (M : MI) (n : Nat) : Prop := (∃ host, ((Cond.methodLinkNest own ix (mY M) host) ∈ lw_tbl)) ∧ ((Cond.static (mY M)) ∈ lwT ∧ (Cond.initialized (mY M).cls) ∈ lwT ∧ Cond.code (mY M) (mC M) (mN M) (mR M) ∈ lwT) ∧ ((mY M).cls ≠ "java/lang/invoke/MethodHandle" ∧ (mY M).cls ≠ "java/lang/invoke/VarHandle" ∧ (parseMethodDescriptor (mY M).desc).map (fun d => d.parameters.length) = some n)
/-- the callee is lower, its locals fit -/
def lowM (M M' : MI) : Bool := decide (mD M' + 1 ≤ mD M) && decide (8 + (mN M' + 11) + 27 * mD M' ≤ 27 * mD M)
theorem wsM_G {M : MI} (h : Cond.code (mY M) (mC M) (mN M) (mR M) ∈ lwT) : GoodIn lwT (wsM M) := fun w hw => by
  rcases List.mem_cons.mp hw with rfl | hw
  · exact lwT_G _ h
  · exact lwT_G _ hw
theorem acat_sum (ad : Nat → Nat) : ∀ (st : List AV), ((st.map (mv ad)).map fun v => v.category).sum = (st.map acat).sum
  | [] => rfl
  | v :: r => by
    have h1 := acat_sum ad r
    simp only [List.map_cons, List.sum_cons, acat_mv, h1]
theorem PcO_blind {M : MI} {base : Nat} {D : va_G} {ca : Nat → ClassId} {ad : Nat → Nat} {av : List AV} {h : Hp} : FrameBlind (PcO M base D ca ad av h) := by
  intro a U g mk q
  obtain ⟨q0, q1, q2⟩ := q
  refine ⟨q0, ?_, q2⟩
  exact CX.at (U := U.calling g mk a) q1 (State.WarmedH.refl (s := U)) (fun _ _ _ => rfl)
theorem PcO_at {M : MI} {base : Nat} {D : va_G} {ca : Nat → ClassId} {ad : Nat → Nat} {av : List AV} {h : Hp} {s U : State} {H : Heap} {locs : List Loc} {as : List Value} (has : as = av.map (mv ad)) (hX : CX base D ca ad s) (hW : WD base D ca ad h H) (hS : va_S (fun q => base ≤ q) s.heap H locs) (hU : U.heap = H) (hw : s.WarmedH U.vm) : PcO M base D ca ad av h as.toArray U := by
  refine ⟨by rw [has], hX.at hw (fun a q1 q2 => by rw [hU]; exact hS.2.1 a q1 q2), by rw [hU]; exact hW⟩
variable {M : MI} {k pc t : Nat} {ls : List (Option AV)} {st : List AV} {h : Hp} {e e1 e2 : Option (Int × Hp)}
/-- a call, whatever its kind: what is behind it -/
theorem Z.call {M' : MI} {as stk : List AV} {st2 : Int → List AV} {K : Int → Hp → Option (Int × Hp)} {k2 : Nat} (ct : Ct M' as h e1) (has : (∀ v ∈ stk, avR v) → ∀ v ∈ as, avR v) (hst : (∀ v ∈ stk, avR v) → ∀ r, iR r → ∀ v ∈ st2 r, avR v)
    (hw : ∀ (p : Program) (l : Launch) (e : Env) (s : State) (m : MethodId) (args : Array Value) (below : List Frame) (meth : Method) (c : Code) (base : Nat) (D : va_G) (ca : Nat → ClassId) (ad : Nat → Nat) (H : Heap) (locs : List Loc) (la : Array Slot) (Q : State → Prop) (r1 : Int) (h1 : Hp),
      ZC M p s m args meth c base D ca ad → LH ad la (mN M) ls → WD base D ca ad h H → va_S (fun q => base ≤ q) s.heap H locs →
      Met l (mY M') (wsM M') (rmM M') (PcO M' base D ca ad as h) (QcO M' base D ca ad r1 h1) 0 0 (fun q => base ≤ q) →
      (∀ (H1 : Heap) (locs1 : List Loc), WD base D ca ad h1 H1 → va_S (fun q => base ≤ q) s.heap H1 locs1 → W p l e (rmM M) s m args below meth c H1 locs1 0 0 Q (F0 m (pcO M k2) la ((st2 r1).map (mv ad)))) →
      W p l e (rmM M) s m args below meth c H locs 0 0 Q (F0 m (pcO M k) la (stk.map (mv ad))))
    (kk : ∀ r1 h1, Z M k2 ls (st2 r1) h1 (K r1 h1)) : Z M k ls stk h (bd e1 K) := by
  intro a b c d r h' he
  cases hq : e1 with
  | none =>
    rw [hq] at he
    cases he
  | some q =>
    obtain ⟨r1, h1⟩ := q
    rw [hq] at he
    obtain ⟨⟨c1, c2, c3⟩, c4⟩ := ct a b (has c) r1 h1 hq
    obtain ⟨z1, z2⟩ := kk r1 h1 c2 c3 (hst c r1 c1) d r h' he
    refine ⟨z1, ?_⟩
    intro p l e s m args below meth cc base D ca ad H locs la C L W0 S
    exact hw p l e s m args below meth cc base D ca ad H locs la _ r1 h1 C L W0 S (c4 l base D ca ad) (fun H1 locs1 w1 s1 => z2 p l e s m args below meth cc base D ca ad H1 locs1 la C L w1 s1)
theorem avR_rev {as st : List AV} {v : AV} (h : ∀ w ∈ as.reverse ++ v :: st, avR w) : ∀ w ∈ v :: as, avR w := by
  intro w hw
  apply h
  rcases List.mem_cons.mp hw with rfl | hw
  · exact List.mem_append_right _ List.mem_cons_self
  · exact List.mem_append_left _ (List.mem_reverse.mpr hw)
theorem kdV {ci i : Nat} {R : String} {T : u_T} {ty : Nat → FieldType} {N : Nat} {base : Nat} {D : va_G} {ca : Nat → ClassId} {ad : Nat → Nat} {h : Hp} {H : Heap} {s : State} (ko : KO ci R T ty N) (hk : kd i = (ci, 0)) (hX : CX base D ca ad s) (hW : WD base D ca ad h H) : ∃ cell : Cell, H[ad i]? = some cell ∧ cell.vm.isStatics = false ∧ s.vm.findClass R = some cell.cls := by
  obtain ⟨k1, k2, k3, -⟩ := ko
  have hi : i < 84 := kd_lt (c := ci) (by rw [hk]) (by omega)
  have hg := wsN_get (ad := ad) (ca := ca) (h := h) hi
  rw [wcell_o hk k3] at hg
  exact va_recv hX.1 hW.1 (ci := ci) (q0 := i) k1 hg
theorem z_callVi {M' : MI} {ix ci i n : Nat} {R : String} {T : u_T} {ty : Nat → FieldType} {N : Nat} {rt : FieldType} {as : List AV} {K : Int → Hp → Option (Int × Hp)} (ko : KO ci R T ty N) (hd : (mT M)[k]? = some (pc, .invokevirtual ix, 3, t)) (hm : MV (mO M) ix M' n) (hk : kd i = (ci, 0)) (hc : (mY M').cls = R) (hr : mR M' = some rt) (hn : as.length = n) (hlow : lowM M M' = true) (hst : ((st.map acat).sum).ble 8 = true)
    (ct : Ct M' (vr i :: as) h e1) (kk : ∀ r1 h1, Z M (k + 1) ls (vi r1 :: st) h1 (K r1 h1)) : Z M k ls (as.reverse ++ vr i :: st) h (bd e1 K) := by
  refine Z.call (st2 := fun r => vi r :: st) ct avR_rev (fun q r hr => avR_i hr (fun w hw => q w (List.mem_append_right _ (List.mem_cons_of_mem _ hw)))) ?_ kk
  intro p l e s m args below meth c base D ca ad H locs la Q r1 h1 C L W0 S hM kk
  obtain ⟨o1, -, o3, o4⟩ := okM_at C.1 hd
  rw [o4]
  rw [o3 rfl] at kk
  unfold lowM at hlow
  simp only [Bool.and_eq_true, decide_eq_true_eq] at hlow
  obtain ⟨⟨m1, m2, m3, m4, m5⟩, m6⟩ := hm
  have hq : QcO M' base D ca ad r1 h1 = va_Qi (S := Unit) (fun z _ => z = Int32.ofInt r1) (fun _ t => WD base D ca ad h1 t.heap) (fun q => base ≤ q) := by unfold QcO; rw [hr]
  rw [hq] at hM
  have hG : GoodIn lwT (wsV (mO M) ix R (mY M') (wsM M')) := by
    intro w hw
    rcases List.mem_append.mp hw with hw | hw
    · simp only [List.mem_cons, List.not_mem_nil, or_false] at hw
      rw [hc] at m3 m4
      rcases hw with rfl | rfl | rfl | rfl
      · exact lwT_G _ m1
      · exact lwT_G _ m2
      · exact lwT_G _ m3
      · exact lwT_G _ m4
    · exact wsM_G m5 w hw
  have e5 : (as.reverse ++ vr i :: st).map (mv ad) = (as.map (mv ad)).reverse ++ .ref (ad i) :: st.map (mv ad) := by simp [mv]
  rw [e5]
  refine va_calli (va_runV (As := as.map (mv ad)) (rest := st.map (mv ad)) ⟨C.2.1, C.2.2.1, C.2.2.2.1, C.2.2.2.2.2.2.1, C.2.2.2.2.2.2.2.1⟩ hM (cwV n C.2.2.2.2.2.2.2.1 hG rfl rfl rfl ⟨hc, m6.1, m6.2.1, m6.2.2⟩ hlow) ⟨PcO_blind, kdV ko hk C.2.2.2.2.2.2.2.2 W0, fun U hU hW => PcO_at rfl C.2.2.2.2.2.2.2.2 W0 S hU hW⟩ rfl (by simp [hn]) L.1 rfl (lv_room (by rw [acat_sum]; exact Nat.le_of_ble_eq_true hst)) o1 ⟨Nat.zero_le _, Nat.zero_le _⟩) S (fun q _ h => h) (fun q h => h) (fun r2 u t H1 locs1 ht hvm hpo hB hz1 hk1 hS1 => ?_)
  subst hpo
  have hB : WD base D ca ad h1 t.heap := hB
  rw [ht] at hB
  exact kk H1 locs1 hB hS1
theorem z_callVv {M' : MI} {ix ci i n : Nat} {R : String} {T : u_T} {ty : Nat → FieldType} {N : Nat} {as : List AV} {K : Int → Hp → Option (Int × Hp)} (ko : KO ci R T ty N) (hd : (mT M)[k]? = some (pc, .invokevirtual ix, 3, t)) (hm : MV (mO M) ix M' n) (hk : kd i = (ci, 0)) (hc : (mY M').cls = R) (hr : mR M' = none) (hn : as.length = n) (hlow : lowM M M' = true) (hst : ((st.map acat).sum).ble 8 = true)
    (ct : Ct M' (vr i :: as) h e1) (kk : ∀ r1 h1, Z M (k + 1) ls st h1 (K r1 h1)) : Z M k ls (as.reverse ++ vr i :: st) h (bd e1 K) := by
  refine Z.call (st2 := fun r => st) ct avR_rev (fun q r hr w hw => q w (List.mem_append_right _ (List.mem_cons_of_mem _ hw))) ?_ kk
  intro p l e s m args below meth c base D ca ad H locs la Q r1 h1 C L W0 S hM kk
  obtain ⟨o1, -, o3, o4⟩ := okM_at C.1 hd
  rw [o4]
  rw [o3 rfl] at kk
  unfold lowM at hlow
  simp only [Bool.and_eq_true, decide_eq_true_eq] at hlow
  obtain ⟨⟨m1, m2, m3, m4, m5⟩, m6⟩ := hm
  have hq : QcO M' base D ca ad r1 h1 = va_Qv (S := Unit) (fun _ => True) (fun _ t => WD base D ca ad h1 t.heap) (fun q => base ≤ q) := by unfold QcO; rw [hr]
  rw [hq] at hM
  have hG : GoodIn lwT (wsV (mO M) ix R (mY M') (wsM M')) := by
    intro w hw
    rcases List.mem_append.mp hw with hw | hw
    · simp only [List.mem_cons, List.not_mem_nil, or_false] at hw
      rw [hc] at m3 m4
      rcases hw with rfl | rfl | rfl | rfl
      · exact lwT_G _ m1
      · exact lwT_G _ m2
      · exact lwT_G _ m3
      · exact lwT_G _ m4
    · exact wsM_G m5 w hw
  have e5 : (as.reverse ++ vr i :: st).map (mv ad) = (as.map (mv ad)).reverse ++ .ref (ad i) :: st.map (mv ad) := by simp [mv]
  rw [e5]
  refine va_callv (va_runV (As := as.map (mv ad)) (rest := st.map (mv ad)) ⟨C.2.1, C.2.2.1, C.2.2.2.1, C.2.2.2.2.2.2.1, C.2.2.2.2.2.2.2.1⟩ hM (cwV n C.2.2.2.2.2.2.2.1 hG rfl rfl rfl ⟨hc, m6.1, m6.2.1, m6.2.2⟩ hlow) ⟨PcO_blind, kdV ko hk C.2.2.2.2.2.2.2.2 W0, fun U hU hW => PcO_at rfl C.2.2.2.2.2.2.2.2 W0 S hU hW⟩ rfl (by simp [hn]) L.1 rfl (lv_room (by rw [acat_sum]; exact Nat.le_of_ble_eq_true hst)) o1 ⟨Nat.zero_le _, Nat.zero_le _⟩) S (fun q _ h => h) (fun q h => h) (fun u t H1 locs1 ht hvm hpo hB hz1 hk1 hS1 => ?_)
  have hB : WD base D ca ad h1 t.heap := hB
  rw [ht] at hB
  exact kk H1 locs1 hB hS1
theorem avR_revS {as st : List AV} (h : ∀ w ∈ as.reverse ++ st, avR w) : ∀ w ∈ as, avR w := fun w hw => h w (List.mem_append_left _ (List.mem_reverse.mpr hw))
/-- a static call, all that return a number -/
theorem z_callSi {M' : MI} {ix n : Nat} {rt : FieldType} {as : List AV} {K : Int → Hp → Option (Int × Hp)} (hd : (mT M)[k]? = some (pc, .invokestatic ix, 3, t)) (hm : MS (mO M) ix M' n) (hr : mR M' = some rt) (hn : as.length = n) (hlow : lowM M M' = true) (hst : ((st.map acat).sum).ble 8 = true)
    (ct : Ct M' as h e1) (kk : ∀ r1 h1, Z M (k + 1) ls (vi r1 :: st) h1 (K r1 h1)) : Z M k ls (as.reverse ++ st) h (bd e1 K) := by
  refine Z.call (st2 := fun r => vi r :: st) ct avR_revS (fun q r hr => avR_i hr (fun w hw => q w (List.mem_append_right _ hw))) ?_ kk
  intro p l e s m args below meth c base D ca ad H locs la Q r1 h1 C L W0 S hM kk
  obtain ⟨o1, -, o3, o4⟩ := okM_at C.1 hd
  rw [o4]
  rw [o3 rfl] at kk
  unfold lowM at hlow
  simp only [Bool.and_eq_true, decide_eq_true_eq] at hlow
  obtain ⟨⟨m1, m2, m4, m5⟩, m6⟩ := hm
  have hq : QcO M' base D ca ad r1 h1 = va_Qi (S := Unit) (fun z _ => z = Int32.ofInt r1) (fun _ t => WD base D ca ad h1 t.heap) (fun q => base ≤ q) := by unfold QcO; rw [hr]
  rw [hq] at hM
  have e5 : (as.reverse ++ st).map (mv ad) = (as.map (mv ad)).reverse ++ st.map (mv ad) := by simp
  rw [e5]
  have hts := C.2.2.2.2.2.2.2.1
  refine va_calli (va_runS (As := as.map (mv ad)) (rest := st.map (mv ad)) ⟨C.2.1, C.2.2.1, C.2.2.2.1, C.2.2.2.2.2.2.1, hts⟩ hM ⟨callB_of n hts (wsM_G m5) rfl rfl rfl (hts _ m4) (hts _ m1) m6 hlow, hts _ m2⟩ ⟨PcO_blind, fun U hU hW => PcO_at rfl C.2.2.2.2.2.2.2.2 W0 S hU hW⟩ rfl (by simp [hn]) L.1 rfl (lv_room (by rw [acat_sum]; exact Nat.le_of_ble_eq_true hst)) o1 ⟨Nat.zero_le _, Nat.zero_le _⟩) S (fun q _ h => h) (fun q h => h) (fun r2 u t H1 locs1 ht hvm hpo hB hz1 hk1 hS1 => ?_)
  subst hpo
  have hB : WD base D ca ad h1 t.heap := hB
  rw [ht] at hB
  exact kk H1 locs1 hB hS1
theorem z_callNi {M' : MI} {ix n : Nat} {rt : FieldType} {as : List AV} {K : Int → Hp → Option (Int × Hp)} (hd : (mT M)[k]? = some (pc, .invokestatic ix, 3, t)) (hm : MSN (mO M) ix M' n) (hr : mR M' = some rt) (hn : as.length = n) (hlow : lowM M M' = true) (hst : ((st.map acat).sum).ble 8 = true)
    (ct : Ct M' as h e1) (kk : ∀ r1 h1, Z M (k + 1) ls (vi r1 :: st) h1 (K r1 h1)) : Z M k ls (as.reverse ++ st) h (bd e1 K) := by
  refine Z.call (st2 := fun r => vi r :: st) ct avR_revS (fun q r hr => avR_i hr (fun w hw => q w (List.mem_append_right _ hw))) ?_ kk
  intro p l e s m args below meth c base D ca ad H locs la Q r1 h1 C L W0 S hM kk
  obtain ⟨o1, -, o3, o4⟩ := okM_at C.1 hd
  rw [o4]
  rw [o3 rfl] at kk
  unfold lowM at hlow
  simp only [Bool.and_eq_true, decide_eq_true_eq] at hlow
  obtain ⟨⟨host, m1⟩, ⟨m2, m4, m5⟩, m6⟩ := hm
  have hq : QcO M' base D ca ad r1 h1 = va_Qi (S := Unit) (fun z _ => z = Int32.ofInt r1) (fun _ t => WD base D ca ad h1 t.heap) (fun q => base ≤ q) := by unfold QcO; rw [hr]
  rw [hq] at hM
  have e5 : (as.reverse ++ st).map (mv ad) = (as.map (mv ad)).reverse ++ st.map (mv ad) := by simp
  rw [e5]
  have hts := C.2.2.2.2.2.2.2.1
  refine va_calli (va_runSN (As := as.map (mv ad)) (rest := st.map (mv ad)) ⟨C.2.1, C.2.2.1, C.2.2.2.1, C.2.2.2.2.2.2.1, hts⟩ hM ⟨va_cnB n hts (wsM_G m5) rfl rfl rfl (C.2.2.2.2.2.2.2.2.2.1 _ m1 rfl) (hts _ m4) m6 hlow, hts _ m2, True.intro⟩ ⟨PcO_blind, fun U hU hW => PcO_at rfl C.2.2.2.2.2.2.2.2 W0 S hU hW⟩ rfl (by simp [hn]) L.1 rfl (lv_room (by rw [acat_sum]; exact Nat.le_of_ble_eq_true hst)) o1 ⟨Nat.zero_le _, Nat.zero_le _⟩) S (fun q _ h => h) (fun q h => h) (fun r2 u t H1 locs1 ht hvm hpo hB hz1 hk1 hS1 => ?_)
  subst hpo
  have hB : WD base D ca ad h1 t.heap := hB
  rw [ht] at hB
  exact kk H1 locs1 hB hS1
end Steps3
end
section
/-! the judgement Z: what is named on the way, calls by their number of arguments, switches, rows that are static, copies, floats, longs -/
section Steps4
/-- a heap, a number, under a name -/
def lt (h : Hp) (K : Hp → Option (Int × Hp)) : Option (Int × Hp) := K h
def lv (x : Int) (K : Int → Option (Int × Hp)) : Option (Int × Hp) := K x
variable {M : MI} {k pc t : Nat} {ls : List (Option AV)} {st : List AV} {h : Hp} {e e1 e2 : Option (Int × Hp)}
theorem z_putL {ix ci f i : Nat} {x : Int} {K : Hp → Option (Int × Hp)} (hl : FI (mO M) ix ci f) (ho : off ci f = none) (hk : kd i = (ci, 0)) (hd : (mT M)[k]? = some (pc, .putfield ix, 3, t)) (kk : ∀ h1, Z M (k + 1) ls st h1 (K h1)) : Z M k ls (vi x :: vr i :: st) h (lt (hup h i f x) K) := z_putI hd hl ho hk (kk _)
theorem z_iastoreL {i n : Nat} {x y : Int} {K : Hp → Option (Int × Hp)} (hk : kd i = (10, n)) (hd : (mT M)[k]? = some (pc, .iastore, 1, t)) (kk : ∀ h1, Z M (k + 1) ls st h1 (K h1)) : Z M k ls (vi x :: vi y :: vr i :: st) h (if inb y n then lt (hup h i y.toNat x) K else none) := z_iastore hd hk (kk _)
theorem z_bastoreL {i n : Nat} {x y : Int} {K : Hp → Option (Int × Hp)} (hk : kd i = (11, n)) (hd : (mT M)[k]? = some (pc, .bastore, 1, t)) (kk : ∀ h1, Z M (k + 1) ls st h1 (K h1)) : Z M k ls (vi x :: vi y :: vr i :: st) h (if inb y n ∧ isB x then lt (hup h i y.toNat x) K else none) := z_bastore hd hk (kk _)
theorem z_castoreL {i n : Nat} {x y : Int} {K : Hp → Option (Int × Hp)} (hk : kd i = (12, n)) (hd : (mT M)[k]? = some (pc, .castore, 1, t)) (kk : ∀ h1, Z M (k + 1) ls st h1 (K h1)) : Z M k ls (vi x :: vi y :: vr i :: st) h (if inb y n ∧ isC x then lt (hup h i y.toNat x) K else none) := z_castore hd hk (kk _)
theorem z_aastoreL {i n j : Nat} {y : Int} {K : Hp → Option (Int × Hp)} (hk : kd i = (13, n)) (hj : kd j = (1, 0)) (hd : (mT M)[k]? = some (pc, .aastore, 1, t)) (kk : ∀ h1, Z M (k + 1) ls st h1 (K h1)) : Z M k ls (vr j :: vi y :: vr i :: st) h (if inb y n then lt (hup h i y.toNat (j : Int)) K else none) := z_aastore hd hk hj (kk _)
theorem z_istore_nL {j : Fin 4} {x : Int} {K : Int → Option (Int × Hp)} (hd : (mT M)[k]? = some (pc, .istore_n j, 1, t)) (hc : (decide ((j : Nat) < mN M) && !(c2 ls j)) = true) (kk : ∀ y, Z M (k + 1) (ls.set j (some (vi y))) st h (K y)) : Z M k ls (vi x :: st) h (lv x K) := z_istore_n hd hc (kk _)
theorem z_istoreL {j : Nat} {x : Int} {K : Int → Option (Int × Hp)} (hd : (mT M)[k]? = some (pc, .istore j, 2, t)) (hc : (decide (j < mN M) && !(c2 ls j)) = true) (kk : ∀ y, Z M (k + 1) (ls.set j (some (vi y))) st h (K y)) : Z M k ls (vi x :: st) h (lv x K) := z_istore hd hc (kk _)

theorem z_V0i {M' : MI} {ix ci i : Nat} {R : String} {T : u_T} {ty : Nat → FieldType} {N : Nat} {rt : FieldType} {K : Int → Hp → Option (Int × Hp)} (ko : KO ci R T ty N) (hm : MV (mO M) ix M' 0) (hk : kd i = (ci, 0)) (ct : Ct M' (vr i :: []) h e1) (hd : (mT M)[k]? = some (pc, .invokevirtual ix, 3, t)) (hc : (mY M').cls = R) (hr : mR M' = some rt) (hlow : lowM M M' = true) (hst : ((st.map acat).sum).ble 8 = true)
    (kk : ∀ r1 h1, Z M (k + 1) ls (vi r1 :: st) h1 (K r1 h1)) : Z M k ls (vr i :: st) h (bd e1 K) := z_callVi (as := []) ko hd hm hk hc hr rfl hlow hst ct kk
theorem z_V0v {M' : MI} {ix ci i : Nat} {R : String} {T : u_T} {ty : Nat → FieldType} {N : Nat} {K : Int → Hp → Option (Int × Hp)} (ko : KO ci R T ty N) (hm : MV (mO M) ix M' 0) (hk : kd i = (ci, 0)) (ct : Ct M' (vr i :: []) h e1) (hd : (mT M)[k]? = some (pc, .invokevirtual ix, 3, t)) (hc : (mY M').cls = R) (hr : mR M' = none) (hlow : lowM M M' = true) (hst : ((st.map acat).sum).ble 8 = true)
    (kk : ∀ r1 h1, Z M (k + 1) ls (st) h1 (K r1 h1)) : Z M k ls (vr i :: st) h (bd e1 K) := z_callVv (as := []) ko hd hm hk hc hr rfl hlow hst ct kk
theorem z_S0i {M' : MI} {ix : Nat} {rt : FieldType} {K : Int → Hp → Option (Int × Hp)} (hm : MS (mO M) ix M' 0) (ct : Ct M' [] h e1) (hd : (mT M)[k]? = some (pc, .invokestatic ix, 3, t)) (hr : mR M' = some rt) (hlow : lowM M M' = true) (hst : ((st.map acat).sum).ble 8 = true)
    (kk : ∀ r1 h1, Z M (k + 1) ls (vi r1 :: st) h1 (K r1 h1)) : Z M k ls (st) h (bd e1 K) := z_callSi (as := []) hd hm hr rfl hlow hst ct kk
theorem z_N0i {M' : MI} {ix : Nat} {rt : FieldType} {K : Int → Hp → Option (Int × Hp)} (hm : MSN (mO M) ix M' 0) (ct : Ct M' [] h e1) (hd : (mT M)[k]? = some (pc, .invokestatic ix, 3, t)) (hr : mR M' = some rt) (hlow : lowM M M' = true) (hst : ((st.map acat).sum).ble 8 = true)
    (kk : ∀ r1 h1, Z M (k + 1) ls (vi r1 :: st) h1 (K r1 h1)) : Z M k ls (st) h (bd e1 K) := z_callNi (as := []) hd hm hr rfl hlow hst ct kk
theorem z_V1i {M' : MI} {ix ci i : Nat} {R : String} {T : u_T} {ty : Nat → FieldType} {N : Nat} {rt : FieldType} {v1 : AV} {K : Int → Hp → Option (Int × Hp)} (ko : KO ci R T ty N) (hm : MV (mO M) ix M' 1) (hk : kd i = (ci, 0)) (ct : Ct M' (vr i :: [v1]) h e1) (hd : (mT M)[k]? = some (pc, .invokevirtual ix, 3, t)) (hc : (mY M').cls = R) (hr : mR M' = some rt) (hlow : lowM M M' = true) (hst : ((st.map acat).sum).ble 8 = true)
    (kk : ∀ r1 h1, Z M (k + 1) ls (vi r1 :: st) h1 (K r1 h1)) : Z M k ls (v1 :: vr i :: st) h (bd e1 K) := z_callVi (as := [v1]) ko hd hm hk hc hr rfl hlow hst ct kk
theorem z_V1v {M' : MI} {ix ci i : Nat} {R : String} {T : u_T} {ty : Nat → FieldType} {N : Nat} {v1 : AV} {K : Int → Hp → Option (Int × Hp)} (ko : KO ci R T ty N) (hm : MV (mO M) ix M' 1) (hk : kd i = (ci, 0)) (ct : Ct M' (vr i :: [v1]) h e1) (hd : (mT M)[k]? = some (pc, .invokevirtual ix, 3, t)) (hc : (mY M').cls = R) (hr : mR M' = none) (hlow : lowM M M' = true) (hst : ((st.map acat).sum).ble 8 = true)
    (kk : ∀ r1 h1, Z M (k + 1) ls (st) h1 (K r1 h1)) : Z M k ls (v1 :: vr i :: st) h (bd e1 K) := z_callVv (as := [v1]) ko hd hm hk hc hr rfl hlow hst ct kk
theorem z_S1i {M' : MI} {ix : Nat} {rt : FieldType} {v1 : AV} {K : Int → Hp → Option (Int × Hp)} (hm : MS (mO M) ix M' 1) (ct : Ct M' [v1] h e1) (hd : (mT M)[k]? = some (pc, .invokestatic ix, 3, t)) (hr : mR M' = some rt) (hlow : lowM M M' = true) (hst : ((st.map acat).sum).ble 8 = true)
    (kk : ∀ r1 h1, Z M (k + 1) ls (vi r1 :: st) h1 (K r1 h1)) : Z M k ls (v1 :: st) h (bd e1 K) := z_callSi (as := [v1]) hd hm hr rfl hlow hst ct kk
theorem z_N1i {M' : MI} {ix : Nat} {rt : FieldType} {v1 : AV} {K : Int → Hp → Option (Int × Hp)} (hm : MSN (mO M) ix M' 1) (ct : Ct M' [v1] h e1) (hd : (mT M)[k]? = some (pc, .invokestatic ix, 3, t)) (hr : mR M' = some rt) (hlow : lowM M M' = true) (hst : ((st.map acat).sum).ble 8 = true)
    (kk : ∀ r1 h1, Z M (k + 1) ls (vi r1 :: st) h1 (K r1 h1)) : Z M k ls (v1 :: st) h (bd e1 K) := z_callNi (as := [v1]) hd hm hr rfl hlow hst ct kk
theorem z_V2i {M' : MI} {ix ci i : Nat} {R : String} {T : u_T} {ty : Nat → FieldType} {N : Nat} {rt : FieldType} {v1 v2 : AV} {K : Int → Hp → Option (Int × Hp)} (ko : KO ci R T ty N) (hm : MV (mO M) ix M' 2) (hk : kd i = (ci, 0)) (ct : Ct M' (vr i :: [v1, v2]) h e1) (hd : (mT M)[k]? = some (pc, .invokevirtual ix, 3, t)) (hc : (mY M').cls = R) (hr : mR M' = some rt) (hlow : lowM M M' = true) (hst : ((st.map acat).sum).ble 8 = true)
    (kk : ∀ r1 h1, Z M (k + 1) ls (vi r1 :: st) h1 (K r1 h1)) : Z M k ls (v2 :: v1 :: vr i :: st) h (bd e1 K) := z_callVi (as := [v1, v2]) ko hd hm hk hc hr rfl hlow hst ct kk
theorem z_V2v {M' : MI} {ix ci i : Nat} {R : String} {T : u_T} {ty : Nat → FieldType} {N : Nat} {v1 v2 : AV} {K : Int → Hp → Option (Int × Hp)} (ko : KO ci R T ty N) (hm : MV (mO M) ix M' 2) (hk : kd i = (ci, 0)) (ct : Ct M' (vr i :: [v1, v2]) h e1) (hd : (mT M)[k]? = some (pc, .invokevirtual ix, 3, t)) (hc : (mY M').cls = R) (hr : mR M' = none) (hlow : lowM M M' = true) (hst : ((st.map acat).sum).ble 8 = true)
    (kk : ∀ r1 h1, Z M (k + 1) ls (st) h1 (K r1 h1)) : Z M k ls (v2 :: v1 :: vr i :: st) h (bd e1 K) := z_callVv (as := [v1, v2]) ko hd hm hk hc hr rfl hlow hst ct kk
theorem z_S2i {M' : MI} {ix : Nat} {rt : FieldType} {v1 v2 : AV} {K : Int → Hp → Option (Int × Hp)} (hm : MS (mO M) ix M' 2) (ct : Ct M' [v1, v2] h e1) (hd : (mT M)[k]? = some (pc, .invokestatic ix, 3, t)) (hr : mR M' = some rt) (hlow : lowM M M' = true) (hst : ((st.map acat).sum).ble 8 = true)
    (kk : ∀ r1 h1, Z M (k + 1) ls (vi r1 :: st) h1 (K r1 h1)) : Z M k ls (v2 :: v1 :: st) h (bd e1 K) := z_callSi (as := [v1, v2]) hd hm hr rfl hlow hst ct kk
theorem z_N2i {M' : MI} {ix : Nat} {rt : FieldType} {v1 v2 : AV} {K : Int → Hp → Option (Int × Hp)} (hm : MSN (mO M) ix M' 2) (ct : Ct M' [v1, v2] h e1) (hd : (mT M)[k]? = some (pc, .invokestatic ix, 3, t)) (hr : mR M' = some rt) (hlow : lowM M M' = true) (hst : ((st.map acat).sum).ble 8 = true)
    (kk : ∀ r1 h1, Z M (k + 1) ls (vi r1 :: st) h1 (K r1 h1)) : Z M k ls (v2 :: v1 :: st) h (bd e1 K) := z_callNi (as := [v1, v2]) hd hm hr rfl hlow hst ct kk
theorem z_V3i {M' : MI} {ix ci i : Nat} {R : String} {T : u_T} {ty : Nat → FieldType} {N : Nat} {rt : FieldType} {v1 v2 v3 : AV} {K : Int → Hp → Option (Int × Hp)} (ko : KO ci R T ty N) (hm : MV (mO M) ix M' 3) (hk : kd i = (ci, 0)) (ct : Ct M' (vr i :: [v1, v2, v3]) h e1) (hd : (mT M)[k]? = some (pc, .invokevirtual ix, 3, t)) (hc : (mY M').cls = R) (hr : mR M' = some rt) (hlow : lowM M M' = true) (hst : ((st.map acat).sum).ble 8 = true)
    (kk : ∀ r1 h1, Z M (k + 1) ls (vi r1 :: st) h1 (K r1 h1)) : Z M k ls (v3 :: v2 :: v1 :: vr i :: st) h (bd e1 K) := z_callVi (as := [v1, v2, v3]) ko hd hm hk hc hr rfl hlow hst ct kk
theorem z_V3v {M' : MI} {ix ci i : Nat} {R : String} {T : u_T} {ty : Nat → FieldType} {N : Nat} {v1 v2 v3 : AV} {K : Int → Hp → Option (Int × Hp)} (ko : KO ci R T ty N) (hm : MV (mO M) ix M' 3) (hk : kd i = (ci, 0)) (ct : Ct M' (vr i :: [v1, v2, v3]) h e1) (hd : (mT M)[k]? = some (pc, .invokevirtual ix, 3, t)) (hc : (mY M').cls = R) (hr : mR M' = none) (hlow : lowM M M' = true) (hst : ((st.map acat).sum).ble 8 = true)
    (kk : ∀ r1 h1, Z M (k + 1) ls (st) h1 (K r1 h1)) : Z M k ls (v3 :: v2 :: v1 :: vr i :: st) h (bd e1 K) := z_callVv (as := [v1, v2, v3]) ko hd hm hk hc hr rfl hlow hst ct kk
theorem z_S3i {M' : MI} {ix : Nat} {rt : FieldType} {v1 v2 v3 : AV} {K : Int → Hp → Option (Int × Hp)} (hm : MS (mO M) ix M' 3) (ct : Ct M' [v1, v2, v3] h e1) (hd : (mT M)[k]? = some (pc, .invokestatic ix, 3, t)) (hr : mR M' = some rt) (hlow : lowM M M' = true) (hst : ((st.map acat).sum).ble 8 = true)
    (kk : ∀ r1 h1, Z M (k + 1) ls (vi r1 :: st) h1 (K r1 h1)) : Z M k ls (v3 :: v2 :: v1 :: st) h (bd e1 K) := z_callSi (as := [v1, v2, v3]) hd hm hr rfl hlow hst ct kk
theorem z_N3i {M' : MI} {ix : Nat} {rt : FieldType} {v1 v2 v3 : AV} {K : Int → Hp → Option (Int × Hp)} (hm : MSN (mO M) ix M' 3) (ct : Ct M' [v1, v2, v3] h e1) (hd : (mT M)[k]? = some (pc, .invokestatic ix, 3, t)) (hr : mR M' = some rt) (hlow : lowM M M' = true) (hst : ((st.map acat).sum).ble 8 = true)
    (kk : ∀ r1 h1, Z M (k + 1) ls (vi r1 :: st) h1 (K r1 h1)) : Z M k ls (v3 :: v2 :: v1 :: st) h (bd e1 K) := z_callNi (as := [v1, v2, v3]) hd hm hr rfl hlow hst ct kk
theorem z_V4i {M' : MI} {ix ci i : Nat} {R : String} {T : u_T} {ty : Nat → FieldType} {N : Nat} {rt : FieldType} {v1 v2 v3 v4 : AV} {K : Int → Hp → Option (Int × Hp)} (ko : KO ci R T ty N) (hm : MV (mO M) ix M' 4) (hk : kd i = (ci, 0)) (ct : Ct M' (vr i :: [v1, v2, v3, v4]) h e1) (hd : (mT M)[k]? = some (pc, .invokevirtual ix, 3, t)) (hc : (mY M').cls = R) (hr : mR M' = some rt) (hlow : lowM M M' = true) (hst : ((st.map acat).sum).ble 8 = true)
    (kk : ∀ r1 h1, Z M (k + 1) ls (vi r1 :: st) h1 (K r1 h1)) : Z M k ls (v4 :: v3 :: v2 :: v1 :: vr i :: st) h (bd e1 K) := z_callVi (as := [v1, v2, v3, v4]) ko hd hm hk hc hr rfl hlow hst ct kk
theorem z_V4v {M' : MI} {ix ci i : Nat} {R : String} {T : u_T} {ty : Nat → FieldType} {N : Nat} {v1 v2 v3 v4 : AV} {K : Int → Hp → Option (Int × Hp)} (ko : KO ci R T ty N) (hm : MV (mO M) ix M' 4) (hk : kd i = (ci, 0)) (ct : Ct M' (vr i :: [v1, v2, v3, v4]) h e1) (hd : (mT M)[k]? = some (pc, .invokevirtual ix, 3, t)) (hc : (mY M').cls = R) (hr : mR M' = none) (hlow : lowM M M' = true) (hst : ((st.map acat).sum).ble 8 = true)
    (kk : ∀ r1 h1, Z M (k + 1) ls (st) h1 (K r1 h1)) : Z M k ls (v4 :: v3 :: v2 :: v1 :: vr i :: st) h (bd e1 K) := z_callVv (as := [v1, v2, v3, v4]) ko hd hm hk hc hr rfl hlow hst ct kk
theorem z_S4i {M' : MI} {ix : Nat} {rt : FieldType} {v1 v2 v3 v4 : AV} {K : Int → Hp → Option (Int × Hp)} (hm : MS (mO M) ix M' 4) (ct : Ct M' [v1, v2, v3, v4] h e1) (hd : (mT M)[k]? = some (pc, .invokestatic ix, 3, t)) (hr : mR M' = some rt) (hlow : lowM M M' = true) (hst : ((st.map acat).sum).ble 8 = true)
    (kk : ∀ r1 h1, Z M (k + 1) ls (vi r1 :: st) h1 (K r1 h1)) : Z M k ls (v4 :: v3 :: v2 :: v1 :: st) h (bd e1 K) := z_callSi (as := [v1, v2, v3, v4]) hd hm hr rfl hlow hst ct kk
theorem z_N4i {M' : MI} {ix : Nat} {rt : FieldType} {v1 v2 v3 v4 : AV} {K : Int → Hp → Option (Int × Hp)} (hm : MSN (mO M) ix M' 4) (ct : Ct M' [v1, v2, v3, v4] h e1) (hd : (mT M)[k]? = some (pc, .invokestatic ix, 3, t)) (hr : mR M' = some rt) (hlow : lowM M M' = true) (hst : ((st.map acat).sum).ble 8 = true)
    (kk : ∀ r1 h1, Z M (k + 1) ls (vi r1 :: st) h1 (K r1 h1)) : Z M k ls (v4 :: v3 :: v2 :: v1 :: st) h (bd e1 K) := z_callNi (as := [v1, v2, v3, v4]) hd hm hr rfl hlow hst ct kk
theorem z_V5i {M' : MI} {ix ci i : Nat} {R : String} {T : u_T} {ty : Nat → FieldType} {N : Nat} {rt : FieldType} {v1 v2 v3 v4 v5 : AV} {K : Int → Hp → Option (Int × Hp)} (ko : KO ci R T ty N) (hm : MV (mO M) ix M' 5) (hk : kd i = (ci, 0)) (ct : Ct M' (vr i :: [v1, v2, v3, v4, v5]) h e1) (hd : (mT M)[k]? = some (pc, .invokevirtual ix, 3, t)) (hc : (mY M').cls = R) (hr : mR M' = some rt) (hlow : lowM M M' = true) (hst : ((st.map acat).sum).ble 8 = true)
    (kk : ∀ r1 h1, Z M (k + 1) ls (vi r1 :: st) h1 (K r1 h1)) : Z M k ls (v5 :: v4 :: v3 :: v2 :: v1 :: vr i :: st) h (bd e1 K) := z_callVi (as := [v1, v2, v3, v4, v5]) ko hd hm hk hc hr rfl hlow hst ct kk
theorem z_V5v {M' : MI} {ix ci i : Nat} {R : String} {T : u_T} {ty : Nat → FieldType} {N : Nat} {v1 v2 v3 v4 v5 : AV} {K : Int → Hp → Option (Int × Hp)} (ko : KO ci R T ty N) (hm : MV (mO M) ix M' 5) (hk : kd i = (ci, 0)) (ct : Ct M' (vr i :: [v1, v2, v3, v4, v5]) h e1) (hd : (mT M)[k]? = some (pc, .invokevirtual ix, 3, t)) (hc : (mY M').cls = R) (hr : mR M' = none) (hlow : lowM M M' = true) (hst : ((st.map acat).sum).ble 8 = true)
    (kk : ∀ r1 h1, Z M (k + 1) ls (st) h1 (K r1 h1)) : Z M k ls (v5 :: v4 :: v3 :: v2 :: v1 :: vr i :: st) h (bd e1 K) := z_callVv (as := [v1, v2, v3, v4, v5]) ko hd hm hk hc hr rfl hlow hst ct kk
theorem z_S5i {M' : MI} {ix : Nat} {rt : FieldType} {v1 v2 v3 v4 v5 : AV} {K : Int → Hp → Option (Int × Hp)} (hm : MS (mO M) ix M' 5) (ct : Ct M' [v1, v2, v3, v4, v5] h e1) (hd : (mT M)[k]? = some (pc, .invokestatic ix, 3, t)) (hr : mR M' = some rt) (hlow : lowM M M' = true) (hst : ((st.map acat).sum).ble 8 = true)
    (kk : ∀ r1 h1, Z M (k + 1) ls (vi r1 :: st) h1 (K r1 h1)) : Z M k ls (v5 :: v4 :: v3 :: v2 :: v1 :: st) h (bd e1 K) := z_callSi (as := [v1, v2, v3, v4, v5]) hd hm hr rfl hlow hst ct kk
theorem z_N5i {M' : MI} {ix : Nat} {rt : FieldType} {v1 v2 v3 v4 v5 : AV} {K : Int → Hp → Option (Int × Hp)} (hm : MSN (mO M) ix M' 5) (ct : Ct M' [v1, v2, v3, v4, v5] h e1) (hd : (mT M)[k]? = some (pc, .invokestatic ix, 3, t)) (hr : mR M' = some rt) (hlow : lowM M M' = true) (hst : ((st.map acat).sum).ble 8 = true)
    (kk : ∀ r1 h1, Z M (k + 1) ls (vi r1 :: st) h1 (K r1 h1)) : Z M k ls (v5 :: v4 :: v3 :: v2 :: v1 :: st) h (bd e1 K) := z_callNi (as := [v1, v2, v3, v4, v5]) hd hm hr rfl hlow hst ct kk
theorem z_getRn {ix ci f i o m : Nat} (hm : i + o = m) (hl : FL (mO M) ix ci f) (ho : off ci f = some o) (hk : kd i = (ci, 0)) (hd : (mT M)[k]? = some (pc, .getfield ix, 3, t)) (kk : Z M (k + 1) ls (vr m :: st) h e) : Z M k ls (vr i :: st) h e := by
  subst hm
  exact z_getR hd hl ho hk kk
def lr (x : Nat) (K : Nat → Option (Int × Hp)) : Option (Int × Hp) := K x
theorem z_astore_nQ {j : Fin 4} {x : Nat} {K : Nat → Option (Int × Hp)} (hk : kd x = (1, 0)) (hd : (mT M)[k]? = some (pc, .astore_n j, 1, t)) (hc : (decide ((j : Nat) < mN M) && !(c2 ls j)) = true) (kk : ∀ y, kd y = (1, 0) → Z M (k + 1) (ls.set j (some (vr y))) st h (K y)) : Z M k ls (vr x :: st) h (lr x K) := z_astore_n hd hc (kk _ hk)
/-! switches -/
def swO (i : Instr) (x : Int) : Option Int := match i with
  | .tableswitch d lo hi offs => if x < lo ∨ hi < x then some d else offs[(x - lo).toNat]?
  | .lookupswitch d ps => some (Op.lookupswitch.offset ps.toList d x)
  | _ => none
theorem z_table {x lo hi dd o : Int} {offs : Array Int} {len tg : Nat} (hd : (mT M)[k]? = some (pc, .tableswitch dd lo hi offs, len, t)) (hs : swO (.tableswitch dd lo hi offs) x = some o) (ht : (pc : Int) + o = (pcO M tg : Int)) (kk : Z M tg ls st h e) : Z M k ls (vi x :: st) h e := by
  refine Z.pure (fun a b => avR_t a) ?_ kk
  intro p l e s m args below meth c base D ca ad H locs la Q a _ C L _ _ _ _ kk
  obtain ⟨o1, o2, o3, o4⟩ := okM_at C.1 hd
  rw [o4]
  have rx : iR x := avR_h a
  unfold swO at hs
  dsimp only at hs
  by_cases hx : x < lo ∨ hi < x
  · rw [if_pos hx] at hs
    cases hs
    exact lv_tableOut C.2.1 C.2.2.1 o1 (by rw [ofI_T rx]; exact hx) ht kk
  · rw [if_neg hx] at hs
    exact lv_tableIn C.2.1 C.2.2.1 o1 (by rw [ofI_T rx]; omega) (by rw [ofI_T rx]; omega) (by rw [ofI_T rx]; exact hs) ht kk
theorem z_look {x dd o : Int} {ps : Array (Int × Int)} {len tg : Nat} (hd : (mT M)[k]? = some (pc, .lookupswitch dd ps, len, t)) (hp : (ps.toList.zip (ps.toList.drop 1)).all (fun (a, next) => a.1 < next.1) = true) (hs : Op.lookupswitch.offset ps.toList dd x = o) (ht : (pc : Int) + o = (pcO M tg : Int)) (kk : Z M tg ls st h e) : Z M k ls (vi x :: st) h e := by
  refine Z.pure (fun a b => avR_t a) ?_ kk
  intro p l e s m args below meth c base D ca ad H locs la Q a _ C L _ _ _ _ kk
  obtain ⟨o1, o2, o3, o4⟩ := okM_at C.1 hd
  rw [o4]
  have rx : iR x := avR_h a
  exact lv_lookup C.2.1 C.2.2.1 o1 hp (by rw [ofI_T rx]; exact hs) ht kk
theorem Z.ite {P : Prop} [Decidable P] (kt : P → Z M k ls st h e1) (kf : ¬ P → Z M k ls st h e2) : Z M k ls st h (if P then e1 else e2) := by
  by_cases hP : P
  · rw [if_pos hP]
    exact kt hP
  · rw [if_neg hP]
    exact kf hP
/-! static rows -/
theorem kdS {i n : Nat} (hk : kd i = (30, n)) : 84 ≤ i ∧ i < 87 ∧ n = 7 := by
  have key : ∀ i, i < 97 → (kd i).1 = 30 → 84 ≤ i ∧ i < 87 ∧ (kd i).2 = 7 := by decide +kernel
  rcases Nat.lt_or_ge i 97 with q | q
  · have := key i q (by rw [hk])
    rw [hk] at this
    exact this
  · have : kd i = (99, 0) := by
      unfold kd
      rw [List.getD_eq_getElem?_getD, List.getElem?_eq_none (by exact q)]
      rfl
    rw [this] at hk
    cases hk
theorem z_sget {ix i : Nat} {host : String} (hn : Cond.fieldLinkNest (mO M) ix "OddUmbrellas" (sN i) "[I" host ∈ lw_tbl) (hi : (decide (84 ≤ i) && decide (i < 87)) = true) (hd : (mT M)[k]? = some (pc, .getstatic ix, 3, t)) (kk : Z M (k + 1) ls (vr i :: st) h e) : Z M k ls st h e := by
  simp only [Bool.and_eq_true, decide_eq_true_eq] at hi
  refine Z.read (v := vi 0) (fun _ b c => avR_c (v := vr i) True.intro c) ?_ kk
  intro p l e s m args below meth c base D ca ad H locs la Q rs C L W0 S _ _ kk
  obtain ⟨o1, -, o3, o4⟩ := okM_at C.1 hd
  rw [o4]
  rw [o3 rfl] at kk
  have hSF := C.2.2.2.2.2.2.2.2.2.2
  exact va_getsN C.2.1 C.2.2.1 (hSF.1 i hi.1 hi.2).2 S C.2.2.2.2.2.2.1 (va_Nw.use rfl (C.2.2.2.2.2.2.2.2.2.1 _ hn rfl)) (fun _ q => q) o1 kk
theorem z_ialoadX {i n : Nat} {x : Int} (hk : kd i = (10, n) ∨ kd i = (30, n)) (hd : (mT M)[k]? = some (pc, .iaload, 1, t)) (kk : Z M (k + 1) ls (vi (h i x.toNat) :: st) h e) : Z M k ls (vi x :: vr i :: st) h (if inb x n then e else none) := by
  rcases hk with hk | hk
  · exact z_iaload hd hk kk
  refine Z.guard (P := inb x n) (fun hin => ?_)
  obtain ⟨q1, q2, rfl⟩ := kdS hk
  refine Z.read (v := vi x) (fun _ b c => avR_i (b _ _) (avR_t (avR_t c))) ?_ kk
  intro p l e s m args below meth c base D ca ad H locs la Q rs C L W0 S hLI _ kk
  obtain ⟨o1, -, o3, o4⟩ := okM_at C.1 hd
  rw [o4]
  rw [o3 rfl] at kk
  have rx : iR x := avR_h rs
  have hSF := C.2.2.2.2.2.2.2.2.2.2
  refine va_ti C.2.1 C.2.2.1 (hSF.1 i q1 q2).1 S (ofI_in rx hin) rfl o1 ?_
  rw [ofI_cl rx, ← hLI.2 i x.toNat q1 q2]
  exact kk
theorem z_alenX {i n : Nat} (hk : kd i = (10, n) ∨ kd i = (30, n)) (hd : (mT M)[k]? = some (pc, .arraylength, 1, t)) (kk : Z M (k + 1) ls (vi (n : Int) :: st) h e) : Z M k ls (vr i :: st) h e := by
  rcases hk with hk | hk
  · exact z_alen (c := 0) hd hk (by omega) kk
  obtain ⟨q1, q2, rfl⟩ := kdS hk
  refine Z.read (v := vi 0) (fun _ b c => avR_i (show iR ((7 : Nat) : Int) from ⟨by omega, by omega⟩) (avR_t c)) ?_ kk
  intro p l e s m args below meth c base D ca ad H locs la Q rs C L W0 S hLI _ kk
  obtain ⟨o1, -, o3, o4⟩ := okM_at C.1 hd
  rw [o4]
  rw [o3 rfl] at kk
  have hSF := C.2.2.2.2.2.2.2.2.2.2
  exact va_tlen C.2.1 C.2.2.1 (hSF.1 i q1 q2).1 S rfl o1 kk
/-! a copy of the head of a row of whole numbers into another -/
def hcpy (h : Hp) (i j n : Nat) : Hp := fun a b => if a = j ∧ b < n then h i b else h a b
theorem off_10 {i n : Nat} (hk : kd i = (10, n)) (j : Nat) : off (kd i).1 j = none := off_a (c := 0) hk
theorem li_hcpy {h : Hp} {i j n m : Nat} (hL : LI h) (hk : kd j = (10, m)) : LI (hcpy h i j n) := by
  have hj : j < 84 := kd_lt (c := 10) (by rw [hk]) (by omega)
  refine ⟨fun a b o q => ?_, fun a b q1 q2 => ?_⟩
  · unfold hcpy
    rw [if_neg]
    · exact hL.1 a b o q
    · rintro ⟨rfl, -⟩
      rw [off_10 hk] at q
      cases q
  · unfold hcpy
    rw [if_neg (by omega)]
    exact hL.2 a b q1 q2
theorem z_copy {ix i j n n1 n2 : Nat} {K : Int → Hp → Option (Int × Hp)} (hi : kd i = (10, n1)) (hj : kd j = (10, n2)) (hw : (Cond.methodLink (mO M) ix arraycopyName ∈ lwT) ∧ (Cond.native arraycopyName ∈ lwT) ∧ (Cond.static arraycopyName ∈ lwT) ∧ (Cond.initialized "java/lang/System" ∈ lwT)) (hn : (n.ble n1 && n.ble n2 && (1).ble (mD M)) = true) (hst : (((st.map acat).sum + (nativeFrameWords "java/lang/System" "arraycopy" 5 + 11)).ble 27) = true) (hd : (mT M)[k]? = some (pc, .invokestatic ix, 3, t))
    (kk : ∀ h1, Z M (k + 1) ls st h1 (K 0 h1)) : Z M k ls (vi (n : Int) :: vi 0 :: vr j :: vi 0 :: vr i :: st) h (bd (some (0, hcpy h i j n)) K) := by
  simp only [Bool.and_eq_true, Nat.ble_eq] at hn hst
  have hi2 : i < 84 := kd_lt (c := 10) (by rw [hi]) (by omega)
  have hj2 : j < 84 := kd_lt (c := 10) (by rw [hj]) (by omega)
  intro a b c d r h' he
  have hR1 : hR (hcpy h i j n) := fun q1 q2 => by unfold hcpy; split <;> exact b _ _
  obtain ⟨z1, z2⟩ := kk (hcpy h i j n) (li_hcpy a hj) hR1 (avR_t (avR_t (avR_t (avR_t (avR_t c))))) d r h' he
  refine ⟨z1, ?_⟩
  intro p l e s m args below meth cc base D ca ad H locs la C L W0 S
  obtain ⟨o1, -, o3, o4⟩ := okM_at C.1 hd
  rw [o4]
  have hts := C.2.2.2.2.2.2.2.1
  have hg := wsN_get (ad := ad) (ca := ca) (h := h) hi2
  rw [wcell_a (c := 0) hi (by omega)] at hg
  have hg2 := wsN_get (ad := ad) (ca := ca) (h := h) hj2
  rw [wcell_a (c := 0) hj (by omega)] at hg2
  have rn : iR (n : Int) := avR_h c
  have cn : (Int32.ofInt (n : Int)).toNatClampNeg = n := by rw [ofI_cl rn, Int.toNat_natCast]
  have c0 : (Int32.ofInt 0).toNatClampNeg = 0 := rfl
  have p0 : ¬ Int32.ofInt 0 < 0 := by decide
  refine va_copyi C.2.1 C.2.2.1 (C.2.2.2.1.trans L.1.symm) C.2.2.2.2.2.2.1 (hts _ hw.1) (hts _ hw.2.1) (hts _ hw.2.2.1) (hts _ hw.2.2.2) C.2.2.2.2.2.2.2.2.1 W0.1 W0.2 S i j 0 0 hg hg2 rfl rfl rfl (sp := Int32.ofInt 0) (dp := Int32.ofInt 0) (n := Int32.ofInt (n : Int)) p0 p0 (fun q => ?_) (by rw [cn, c0]; omega) (by rw [cn, c0]; omega) (fun _ _ => rfl) hn.2 (by rw [acat_sum]; show _ ≤ 27 * mD M; omega) o1 ?_
  · rw [← ofI_0, ofI_lt rn iR_0] at q
    omega
  · intro H1 locs1 w1 w2 w3
    have e1 : (wsN 84 ad ca h).set j (ad j, (Sum.inl (ca 0, n2, Sum.inl (va_cpy (fun k => Int32.ofInt (h i k)) (fun k => Int32.ofInt (h j k)) (Int32.ofInt 0).toNatClampNeg (Int32.ofInt 0).toNatClampNeg (Int32.ofInt (n : Int)).toNatClampNeg)) : va_E)) = wsN 84 ad ca (hcpy h i j n) := by
      apply wsN_set
      · intro q hq
        funext b
        simp [hcpy, hq]
      · rw [wcell_a (c := 0) hj (by omega), cn, c0]
        congr 4
        funext q
        show (if 0 ≤ q ∧ q < 0 + n then Int32.ofInt (h i (0 + (q - 0))) else Int32.ofInt (h j q)) = Int32.ofInt (hcpy h i j n j q)
        unfold hcpy
        by_cases hq : q < n
        · rw [if_pos ⟨by omega, by omega⟩, if_pos ⟨rfl, hq⟩]
          simp
        · rw [if_neg (by omega), if_neg (by omega)]
    rw [e1] at w1 w2
    have z3 := z2 p l e s m args below meth cc base D ca ad H1 locs1 la C L ⟨w1, w2⟩ w3
    rw [o3 rfl] at z3
    exact z3
/-! longs, floats, bits -/
theorem z_lload_n {j : Fin 4} {x : Int64} (hd : (mT M)[k]? = some (pc, .lload_n j, 1, t)) (hl : ls[(j : Nat)]? = some (some (vx (.long x)))) (kk : Z M (k + 1) ls (vx (.long x) :: st) h e) : Z M k ls st h e := by
  refine Z.pure (fun a b => avR_c (b _ _ hl) a) ?_ kk
  intro p l e s m args below meth c base D ca ad H locs la Q _ _ C L _ _ _ _ kk
  obtain ⟨o1, -, o3, o4⟩ := okM_at C.1 hd
  rw [o4]
  rw [o3 rfl] at kk
  exact lv_lload_n C.2.1 C.2.2.1 o1 rfl (lh_at L hl) kk
theorem z_ldc2 {x : Int64} {ix : Nat} (hc : Cond.constantLong (mO M) ix x ∈ lwT) (hd : (mT M)[k]? = some (pc, .ldc2_w ix, 3, t)) (kk : Z M (k + 1) ls (vx (.long x) :: st) h e) : Z M k ls st h e := by
  refine Z.pure (fun a b => avR_c (v := vx (.long x)) True.intro a) ?_ kk
  intro p l e s m args below meth c base D ca ad H locs la Q _ _ C L _ _ _ _ kk
  obtain ⟨o1, -, o3, o4⟩ := okM_at C.1 hd
  rw [o4]
  rw [o3 rfl] at kk
  exact lv_ldc2 C.2.1 C.2.2.1 C.2.2.2.2.2.2.1 (C.2.2.2.2.2.2.2.1 _ hc) o1 kk
theorem z_lshr {x : Int64} {y : Int} (hd : (mT M)[k]? = some (pc, .lshr, 1, t)) (kk : Z M (k + 1) ls (vx (.long (x >>> ((Int32.ofInt y).toInt64 &&& 63))) :: st) h e) : Z M k ls (vi y :: vx (.long x) :: st) h e := by
  refine Z.pure (fun a b => avR_c (v := vx (.long _)) True.intro (avR_t (avR_t a))) ?_ kk
  intro p l e s m args below meth c base D ca ad H locs la Q _ _ C L _ _ _ _ kk
  obtain ⟨o1, -, o3, o4⟩ := okM_at C.1 hd
  rw [o4]
  rw [o3 rfl] at kk
  exact lv_lshr C.2.1 C.2.2.1 o1 rfl kk
theorem z_land {x y : Int64} (hd : (mT M)[k]? = some (pc, .land, 1, t)) (kk : Z M (k + 1) ls (vx (.long (x &&& y)) :: st) h e) : Z M k ls (vx (.long y) :: vx (.long x) :: st) h e := by
  refine Z.pure (fun a b => avR_c (v := vx (.long _)) True.intro (avR_t (avR_t a))) ?_ kk
  intro p l e s m args below meth c base D ca ad H locs la Q _ _ C L _ _ _ _ kk
  obtain ⟨o1, -, o3, o4⟩ := okM_at C.1 hd
  rw [o4]
  rw [o3 rfl] at kk
  exact lv_land C.2.1 C.2.2.1 o1 kk
theorem iR_T (x : Int32) : iR x.toInt := ⟨x.le_toInt, x.toInt_lt⟩
theorem z_l2i {x : Int64} (hd : (mT M)[k]? = some (pc, .l2i, 1, t)) (kk : Z M (k + 1) ls (vi x.toInt32.toInt :: st) h e) : Z M k ls (vx (.long x) :: st) h e := by
  refine Z.pure (fun a b => avR_i (iR_T _) (avR_t a)) ?_ kk
  intro p l e s m args below meth c base D ca ad H locs la Q _ _ C L _ _ _ _ kk
  obtain ⟨o1, -, o3, o4⟩ := okM_at C.1 hd
  rw [o4]
  rw [o3 rfl] at kk
  exact lv_l2i C.2.1 C.2.2.1 o1 (Int32.ofInt_toInt _).symm kk
theorem z_ishl {x y : Int} (hd : (mT M)[k]? = some (pc, .ishl, 1, t)) (kk : Z M (k + 1) ls (vi (Int32.ofInt x <<< (Int32.ofInt y &&& 31)).toInt :: st) h e) : Z M k ls (vi y :: vi x :: st) h e := by
  refine Z.pure (fun a b => avR_i (iR_T _) (avR_t (avR_t a))) ?_ kk
  intro p l e s m args below meth c base D ca ad H locs la Q _ _ C L _ _ _ _ kk
  obtain ⟨o1, -, o3, o4⟩ := okM_at C.1 hd
  rw [o4]
  rw [o3 rfl] at kk
  refine lv_ishl C.2.1 C.2.2.1 o1 ?_
  rw [← Int32.ofInt_toInt (Int32.ofInt x <<< (Int32.ofInt y &&& 31))]
  exact kk
theorem z_ior {x y : Int} (hd : (mT M)[k]? = some (pc, .ior, 1, t)) (kk : Z M (k + 1) ls (vi (Int32.ofInt x ||| Int32.ofInt y).toInt :: st) h e) : Z M k ls (vi y :: vi x :: st) h e := by
  refine Z.pure (fun a b => avR_i (iR_T _) (avR_t (avR_t a))) ?_ kk
  intro p l e s m args below meth c base D ca ad H locs la Q _ _ C L _ _ _ _ kk
  obtain ⟨o1, -, o3, o4⟩ := okM_at C.1 hd
  rw [o4]
  rw [o3 rfl] at kk
  refine lv_ior C.2.1 C.2.2.1 o1 ?_
  rw [← Int32.ofInt_toInt (Int32.ofInt x ||| Int32.ofInt y)]
  exact kk
theorem z_i2f {x : Int} (hd : (mT M)[k]? = some (pc, .i2f, 1, t)) (kk : Z M (k + 1) ls (vx (.float (FP.i2f (Int32.ofInt x))) :: st) h e) : Z M k ls (vi x :: st) h e := by
  refine Z.pure (fun a b => avR_c (v := vx (.float _)) True.intro (avR_t a)) ?_ kk
  intro p l e s m args below meth c base D ca ad H locs la Q _ _ C L _ _ _ _ kk
  obtain ⟨o1, -, o3, o4⟩ := okM_at C.1 hd
  rw [o4]
  rw [o3 rfl] at kk
  exact lv_i2f C.2.1 C.2.2.1 o1 kk
abbrev nN (r : UInt32) : Prop := r &&& 0x7fffffff ≤ 0x7f800000

theorem z_fdiv {x y : UInt32} (hd : (mT M)[k]? = some (pc, .fdiv, 1, t)) (kk : Z M (k + 1) ls (vx (.float (FP.fdiv x y)) :: st) h e) : Z M k ls (vx (.float y) :: vx (.float x) :: st) h (if nN (FP.fdiv x y) then e else none) := by
  refine Z.guard (P := nN (FP.fdiv x y)) (fun hn => ?_)
  refine Z.pure (fun a b => avR_c (v := vx (.float _)) True.intro (avR_t (avR_t a))) ?_ kk
  intro p l e s m args below meth c base D ca ad H locs la Q _ _ C L _ _ _ _ kk
  obtain ⟨o1, -, o3, o4⟩ := okM_at C.1 hd
  rw [o4]
  rw [o3 rfl] at kk
  exact lv_fdiv C.2.1 C.2.2.1 o1 hn kk
theorem z_fmul {x y : UInt32} (hd : (mT M)[k]? = some (pc, .fmul, 1, t)) (kk : Z M (k + 1) ls (vx (.float (FP.fmul x y)) :: st) h e) : Z M k ls (vx (.float y) :: vx (.float x) :: st) h (if nN (FP.fmul x y) then e else none) := by
  refine Z.guard (P := nN (FP.fmul x y)) (fun hn => ?_)
  refine Z.pure (fun a b => avR_c (v := vx (.float _)) True.intro (avR_t (avR_t a))) ?_ kk
  intro p l e s m args below meth c base D ca ad H locs la Q _ _ C L _ _ _ _ kk
  obtain ⟨o1, -, o3, o4⟩ := okM_at C.1 hd
  rw [o4]
  rw [o3 rfl] at kk
  exact lv_fmul C.2.1 C.2.2.1 o1 hn kk
theorem z_fsub {x y : UInt32} (hd : (mT M)[k]? = some (pc, .fsub, 1, t)) (kk : Z M (k + 1) ls (vx (.float (FP.fsub x y)) :: st) h e) : Z M k ls (vx (.float y) :: vx (.float x) :: st) h (if nN (FP.fsub x y) then e else none) := by
  refine Z.guard (P := nN (FP.fsub x y)) (fun hn => ?_)
  refine Z.pure (fun a b => avR_c (v := vx (.float _)) True.intro (avR_t (avR_t a))) ?_ kk
  intro p l e s m args below meth c base D ca ad H locs la Q _ _ C L _ _ _ _ kk
  obtain ⟨o1, -, o3, o4⟩ := okM_at C.1 hd
  rw [o4]
  rw [o3 rfl] at kk
  exact lv_fsub C.2.1 C.2.2.1 o1 hn kk
theorem z_fcmp {x y : UInt32} {op : CmpOp} (hd : (mT M)[k]? = some (pc, .fcmp op, 1, t)) (kk : Z M (k + 1) ls (vi (Op.cmpValue (FP.fcmp x y) op).toInt :: st) h e) : Z M k ls (vx (.float y) :: vx (.float x) :: st) h e := by
  refine Z.pure (fun a b => avR_i (iR_T _) (avR_t (avR_t a))) ?_ kk
  intro p l e s m args below meth c base D ca ad H locs la Q _ _ C L _ _ _ _ kk
  obtain ⟨o1, -, o3, o4⟩ := okM_at C.1 hd
  rw [o4]
  rw [o3 rfl] at kk
  refine lv_fcmp C.2.1 C.2.2.1 o1 ?_
  rw [← Int32.ofInt_toInt (Op.cmpValue (FP.fcmp x y) op)]
  exact kk
theorem z_f2i {x : UInt32} (hd : (mT M)[k]? = some (pc, .f2i, 1, t)) (kk : Z M (k + 1) ls (vi (FP.f2i x).toInt :: st) h e) : Z M k ls (vx (.float x) :: st) h e := by
  refine Z.pure (fun a b => avR_i (iR_T _) (avR_t a)) ?_ kk
  intro p l e s m args below meth c base D ca ad H locs la Q _ _ C L _ _ _ _ kk
  obtain ⟨o1, -, o3, o4⟩ := okM_at C.1 hd
  rw [o4]
  rw [o3 rfl] at kk
  refine lv_f2i C.2.1 C.2.2.1 o1 ?_
  rw [← Int32.ofInt_toInt (FP.f2i x)]
  exact kk
theorem z_fload_n {j : Fin 4} {x : UInt32} (hd : (mT M)[k]? = some (pc, .fload_n j, 1, t)) (hl : ls[(j : Nat)]? = some (some (vx (.float x)))) (kk : Z M (k + 1) ls (vx (.float x) :: st) h e) : Z M k ls st h e := by
  refine Z.pure (fun a b => avR_c (b _ _ hl) a) ?_ kk
  intro p l e s m args below meth c base D ca ad H locs la Q _ _ C L _ _ _ _ kk
  obtain ⟨o1, -, o3, o4⟩ := okM_at C.1 hd
  rw [o4]
  rw [o3 rfl] at kk
  exact lv_fload_n C.2.1 C.2.2.1 o1 rfl (lh_at L hl) kk
theorem z_fstore_n {j : Fin 4} {x : UInt32} (hd : (mT M)[k]? = some (pc, .fstore_n j, 1, t)) (hc : (decide ((j : Nat) < mN M) && !(c2 ls j)) = true) (kk : Z M (k + 1) (ls.set j (some (vx (.float x)))) st h e) : Z M k ls (vx (.float x) :: st) h e := by
  simp only [Bool.and_eq_true, decide_eq_true_eq, Bool.not_eq_true'] at hc
  refine Z.store (v := vx (.float x)) (fun a b => ⟨True.intro, avR_t a⟩) ?_ kk
  intro p l e s m args below meth c base D ca ad H locs la Q C L kk
  obtain ⟨o1, -, o3, o4⟩ := okM_at C.1 hd
  rw [o4]
  rw [o3 rfl] at kk
  exact lv_fstore_n C.2.1 C.2.2.1 o1 rfl (lh_list L) hc.1 rfl (fun ls' hl => kk ls' (lh_set rfl hc.2 hl))
theorem z_fconst1 (hd : (mT M)[k]? = some (pc, .fconst 1, 1, t)) (kk : Z M (k + 1) ls (vx (.float 0x3f800000) :: st) h e) : Z M k ls st h e := by
  refine Z.pure (fun a b => avR_c (v := vx (.float _)) True.intro a) ?_ kk
  intro p l e s m args below meth c base D ca ad H locs la Q _ _ C L _ _ _ _ kk
  obtain ⟨o1, -, o3, o4⟩ := okM_at C.1 hd
  rw [o4]
  rw [o3 rfl] at kk
  exact lv_fconst1 C.2.1 C.2.2.1 o1 kk
theorem z_fconst2 (hd : (mT M)[k]? = some (pc, .fconst 2, 1, t)) (kk : Z M (k + 1) ls (vx (.float 0x40000000) :: st) h e) : Z M k ls st h e := by
  refine Z.pure (fun a b => avR_c (v := vx (.float _)) True.intro a) ?_ kk
  intro p l e s m args below meth c base D ca ad H locs la Q _ _ C L _ _ _ _ kk
  obtain ⟨o1, -, o3, o4⟩ := okM_at C.1 hd
  rw [o4]
  rw [o3 rfl] at kk
  exact lv_fconst2 C.2.1 C.2.2.1 o1 kk
theorem z_ldcf {x : UInt32} {ix : Nat} (hc : Cond.constantFloat (mO M) ix x ∈ lwT) (hd : (mT M)[k]? = some (pc, .ldc ix, 2, t)) (kk : Z M (k + 1) ls (vx (.float x) :: st) h e) : Z M k ls st h e := by
  refine Z.pure (fun a b => avR_c (v := vx (.float _)) True.intro a) ?_ kk
  intro p l e s m args below meth c base D ca ad H locs la Q _ _ C L _ _ _ _ kk
  obtain ⟨o1, -, o3, o4⟩ := okM_at C.1 hd
  rw [o4]
  rw [o3 rfl] at kk
  exact lv_ldcf C.2.1 C.2.2.1 C.2.2.2.2.2.2.1 (C.2.2.2.2.2.2.2.1 _ hc) o1 kk
theorem z_rawbits {x : UInt32} {ix : Nat} (hw : (Cond.methodLink (mO M) ix ⟨"java/lang/Float", "floatToRawIntBits", "(F)I"⟩ ∈ lwT) ∧ (Cond.native ⟨"java/lang/Float", "floatToRawIntBits", "(F)I"⟩ ∈ lwT) ∧ (Cond.static ⟨"java/lang/Float", "floatToRawIntBits", "(F)I"⟩ ∈ lwT) ∧ (Cond.initialized "java/lang/Float" ∈ lwT)) (hn : ((1).ble (mD M)) = true) (hst : ((st.map acat).sum + 15).ble 27 = true) (hd : (mT M)[k]? = some (pc, .invokestatic ix, 3, t)) (kk : Z M (k + 1) ls (vi x.toInt32.toInt :: st) h e) : Z M k ls (vx (.float x) :: st) h e := by
  simp only [Nat.ble_eq] at hn hst
  refine Z.pure (fun a b => avR_i (iR_T _) (avR_t a)) ?_ kk
  intro p l e s m args below meth c base D ca ad H locs la Q _ _ C L _ _ _ _ kk
  obtain ⟨o1, -, o3, o4⟩ := okM_at C.1 hd
  rw [o4]
  rw [o3 rfl] at kk
  have hts := C.2.2.2.2.2.2.2.1
  refine vn_f2i C.2.1 C.2.2.1 (C.2.2.2.1.trans L.1.symm) C.2.2.2.2.2.2.1 (hts _ hw.1) (hts _ hw.2.1) (hts _ hw.2.2.1) (hts _ hw.2.2.2) hn (by rw [acat_sum]; show _ ≤ 27 * mD M; omega) o1 ?_
  rw [← Int32.ofInt_toInt x.toInt32]
  exact kk
end Steps4
/-! words by their place in a piece of the tables -/
theorem lw_k1 {w : Cond} (h : w ∈ tables_1_1) : w ∈ lw_tbl := List.mem_append_right _ (List.mem_append_left _ h)
theorem lw_k2 {w : Cond} (h : w ∈ tables_1_2) : w ∈ lw_tbl := List.mem_append_right _ (List.mem_append_right _ (List.mem_append_left _ h))
theorem lw_k3 {w : Cond} (h : w ∈ tables_1_3) : w ∈ lw_tbl := List.mem_append_right _ (List.mem_append_right _ (List.mem_append_right _ (List.mem_append_left _ h)))
theorem lw_k4 {w : Cond} (h : w ∈ tables_1_4) : w ∈ lw_tbl := List.mem_append_right _ (List.mem_append_right _ (List.mem_append_right _ (List.mem_append_right _ h)))
theorem lwT_k1 {w : Cond} (i : Nat) (h : tables_1_1[i]? = some w) (hg : goodWord w = true) : w ∈ lwT := List.mem_filter.mpr ⟨lw_k1 (List.mem_of_getElem? h), hg⟩
theorem lwN_k1 {w : Cond} (i : Nat) (h : tables_1_1[i]? = some w) : w ∈ lw_tbl := lw_k1 (List.mem_of_getElem? h)
theorem lwT_k2 {w : Cond} (i : Nat) (h : tables_1_2[i]? = some w) (hg : goodWord w = true) : w ∈ lwT := List.mem_filter.mpr ⟨lw_k2 (List.mem_of_getElem? h), hg⟩
theorem lwN_k2 {w : Cond} (i : Nat) (h : tables_1_2[i]? = some w) : w ∈ lw_tbl := lw_k2 (List.mem_of_getElem? h)
theorem lwT_k3 {w : Cond} (i : Nat) (h : tables_1_3[i]? = some w) (hg : goodWord w = true) : w ∈ lwT := List.mem_filter.mpr ⟨lw_k3 (List.mem_of_getElem? h), hg⟩
theorem lwN_k3 {w : Cond} (i : Nat) (h : tables_1_3[i]? = some w) : w ∈ lw_tbl := lw_k3 (List.mem_of_getElem? h)
theorem lwT_k4 {w : Cond} (i : Nat) (h : tables_1_4[i]? = some w) (hg : goodWord w = true) : w ∈ lwT := List.mem_filter.mpr ⟨lw_k4 (List.mem_of_getElem? h), hg⟩
theorem lwN_k4 {w : Cond} (i : Nat) (h : tables_1_4[i]? = some w) : w ∈ lw_tbl := lw_k4 (List.mem_of_getElem? h)
theorem lwT_p1 {q : MethodName × Nat} (i : Nat) (h : lw_privs_1[i]? = some q) : Cond.selects q.1.cls q.1 q.1 ∈ lwT := List.mem_filter.mpr ⟨List.mem_append_left _ (List.mem_map.mpr ⟨q, List.mem_append_left _ (List.mem_of_getElem? h), rfl⟩), rfl⟩
theorem lwT_p2 {q : MethodName × Nat} (i : Nat) (h : lw_privs_2[i]? = some q) : Cond.selects q.1.cls q.1 q.1 ∈ lwT := List.mem_filter.mpr ⟨List.mem_append_left _ (List.mem_map.mpr ⟨q, List.mem_append_right _ (List.mem_append_left _ (List.mem_of_getElem? h)), rfl⟩), rfl⟩
theorem lwT_p3 {q : MethodName × Nat} (i : Nat) (h : lw_privs_3[i]? = some q) : Cond.selects q.1.cls q.1 q.1 ∈ lwT := List.mem_filter.mpr ⟨List.mem_append_left _ (List.mem_map.mpr ⟨q, List.mem_append_right _ (List.mem_append_right _ (List.mem_append_left _ (List.mem_of_getElem? h))), rfl⟩), rfl⟩
theorem lwT_p4 {q : MethodName × Nat} (i : Nat) (h : lw_privs_4[i]? = some q) : Cond.selects q.1.cls q.1 q.1 ∈ lwT := List.mem_filter.mpr ⟨List.mem_append_left _ (List.mem_map.mpr ⟨q, List.mem_append_right _ (List.mem_append_right _ (List.mem_append_right _ (List.mem_append_left _ (List.mem_of_getElem? h)))), rfl⟩), rfl⟩
theorem lwT_p5 {q : MethodName × Nat} (i : Nat) (h : lw_privs_5[i]? = some q) : Cond.selects q.1.cls q.1 q.1 ∈ lwT := List.mem_filter.mpr ⟨List.mem_append_left _ (List.mem_map.mpr ⟨q, List.mem_append_right _ (List.mem_append_right _ (List.mem_append_right _ (List.mem_append_right _ (List.mem_of_getElem? h)))), rfl⟩), rfl⟩
end
section
/-! the judgement Z: texts, and the methods of the JDK that read them -/
section Steps5
def sCh (w j : Nat) : Int := ((sBy.getD (w - 92) []).getD j 0).toInt
theorem kdT {i n : Nat} (hk : kd i = (31, n)) : 87 ≤ i ∧ i < 92 ∧ n = sLen.getD (i - 87) 0 ∧ kd (i + 5) = (32, n) := by
  have key : ∀ i, i < 97 → (kd i).1 = 31 → 87 ≤ i ∧ i < 92 ∧ (kd i).2 = sLen.getD (i - 87) 0 ∧ kd (i + 5) = (32, (kd i).2) := by decide +kernel
  rcases Nat.lt_or_ge i 97 with q | q
  · have := key i q (by rw [hk])
    rw [hk] at this
    exact this
  · have : kd i = (99, 0) := by
      unfold kd
      rw [List.getD_eq_getElem?_getD, List.getElem?_eq_none (by exact q)]
      rfl
    rw [this] at hk
    cases hk
theorem kdB {i n : Nat} (hk : kd i = (32, n)) : 92 ≤ i ∧ i < 97 ∧ n = sLen.getD (i - 92) 0 ∧ n < 100 := by
  have key : ∀ i, i < 97 → (kd i).1 = 32 → 92 ≤ i ∧ i < 97 ∧ (kd i).2 = sLen.getD (i - 92) 0 ∧ (kd i).2 < 100 := by decide +kernel
  rcases Nat.lt_or_ge i 97 with q | q
  · have := key i q (by rw [hk])
    rw [hk] at this
    exact this
  · have : kd i = (99, 0) := by
      unfold kd
      rw [List.getD_eq_getElem?_getD, List.getElem?_eq_none (by exact q)]
      rfl
    rw [this] at hk
    cases hk
theorem kT_5 {i n : Nat} (hk : kd i = (31, n)) : kd (i + 5) = (32, n) := (kdT hk).2.2.2
variable {M : MI} {k pc t : Nat} {ls : List (Option AV)} {st : List AV} {h : Hp} {e e1 e2 : Option (Int × Hp)}
theorem z_sval {i n ix : Nat} (hk : kd i = (31, n)) (hl : Cond.fieldLink (mO M) ix "java/lang/String" "value" "[B" ∈ lwT) (hd : (mT M)[k]? = some (pc, .getfield ix, 3, t)) (kk : Z M (k + 1) ls (vr (i + 5) :: st) h e) : Z M k ls (vr i :: st) h e := by
  obtain ⟨q1, q2, q3, -⟩ := kdT hk
  refine Z.read (v := vi 0) (fun _ b c => avR_c (v := vr _) True.intro (avR_t c)) ?_ kk
  intro p l e s m args below meth c base D ca ad H locs la Q rs C L W0 S _ _ kk
  obtain ⟨o1, -, o3, o4⟩ := okM_at C.1 hd
  rw [o4]
  rw [o3 rfl] at kk
  have hS := (C.2.2.2.2.2.2.2.2.2.2.2.1.1 (i - 87) (by omega)).2.2.1
  dsimp only at hS
  rw [show 87 + (i - 87) = i by omega, show 92 + (i - 87) = i + 5 by omega] at hS
  exact vk_getf C.2.1 C.2.2.1 hS S C.2.2.2.2.2.2.1 (C.2.2.2.2.2.2.2.1 _ hl) (fun _ q => q) o1 kk
theorem z_scod {i n ix : Nat} (hk : kd i = (31, n)) (hl : Cond.fieldLink (mO M) ix "java/lang/String" "coder" "B" ∈ lwT) (hd : (mT M)[k]? = some (pc, .getfield ix, 3, t)) (kk : Z M (k + 1) ls (vi 0 :: st) h e) : Z M k ls (vr i :: st) h e := by
  obtain ⟨q1, q2, q3, -⟩ := kdT hk
  refine Z.read (v := vi 0) (fun _ b c => avR_i iR_0 (avR_t c)) ?_ kk
  intro p l e s m args below meth c base D ca ad H locs la Q rs C L W0 S _ _ kk
  obtain ⟨o1, -, o3, o4⟩ := okM_at C.1 hd
  rw [o4]
  rw [o3 rfl] at kk
  have hS := (C.2.2.2.2.2.2.2.2.2.2.2.1.1 (i - 87) (by omega)).2.1
  dsimp only at hS
  rw [show 87 + (i - 87) = i by omega] at hS
  exact vk_getf C.2.1 C.2.2.1 hS S C.2.2.2.2.2.2.1 (C.2.2.2.2.2.2.2.1 _ hl) (fun _ q => q) o1 kk
theorem z_blen {i n : Nat} (hk : kd i = (32, n)) (hd : (mT M)[k]? = some (pc, .arraylength, 1, t)) (kk : Z M (k + 1) ls (vi (n : Int) :: st) h e) : Z M k ls (vr i :: st) h e := by
  obtain ⟨q1, q2, q3, q4⟩ := kdB hk
  refine Z.read (v := vi 0) (fun _ b c => avR_i (show iR (n : Int) from ⟨by omega, by omega⟩) (avR_t c)) ?_ kk
  intro p l e s m args below meth c base D ca ad H locs la Q rs C L W0 S _ _ kk
  obtain ⟨o1, -, o3, o4⟩ := okM_at C.1 hd
  rw [o4]
  rw [o3 rfl] at kk
  have hS := (C.2.2.2.2.2.2.2.2.2.2.2.1.1 (i - 92) (by omega)).2.2.2
  dsimp only at hS
  rw [show 92 + (i - 92) = i by omega, ← q3] at hS
  exact va_tlen C.2.1 C.2.2.1 hS S (v := Int32.ofInt (n : Int)) (Int32.ofInt_eq_ofNat).symm o1 kk
theorem sCh_e (w j : Nat) : Int32.ofInt (sCh w j) = (sBy.getD (w - 92) []).getD j 0 := Int32.ofInt_toInt _
theorem z_bald {i n : Nat} {x : Int} (hk : kd i = (32, n)) (hd : (mT M)[k]? = some (pc, .baload, 1, t)) (kk : Z M (k + 1) ls (vi (sCh i x.toNat) :: st) h e) : Z M k ls (vi x :: vr i :: st) h (if inb x n then e else none) := by
  refine Z.guard (P := inb x n) (fun hin => ?_)
  obtain ⟨q1, q2, q3, q4⟩ := kdB hk
  refine Z.read (v := vi 0) (fun _ b c => avR_i (iR_T _) (avR_t (avR_t c))) ?_ kk
  intro p l e s m args below meth c base D ca ad H locs la Q rs C L W0 S _ _ kk
  obtain ⟨o1, -, o3, o4⟩ := okM_at C.1 hd
  rw [o4]
  rw [o3 rfl] at kk
  have rx : iR x := avR_h rs
  have hS := (C.2.2.2.2.2.2.2.2.2.2.2.1.1 (i - 92) (by omega)).2.2.2
  dsimp only at hS
  rw [show 92 + (i - 92) = i by omega, ← q3] at hS
  refine va_tb C.2.1 C.2.2.1 hS S (ofI_in rx hin) rfl o1 ?_
  rw [ofI_cl rx]
  have e1 : (Value.int ((sBy.getD (i - 92) []).getD x.toNat 0)) = mv ad (vi (sCh i x.toNat)) := by
    show _ = Value.int _
    rw [sCh_e]
  show W p l _ (rmM M) s m args below meth c H locs 0 0 Q (F0 m (pc + 1) la (Value.int ((sBy.getD (i - 92) []).getD x.toNat 0) :: st.map (mv ad)))
  rw [e1]
  exact kk
theorem z_comp {ix : Nat} (hl : Cond.fieldLink (mO M) ix "java/lang/String" "COMPACT_STRINGS" "Z" ∈ lwT) (hd : (mT M)[k]? = some (pc, .getstatic ix, 3, t)) (kk : Z M (k + 1) ls (vi 1 :: st) h e) : Z M k ls st h e := by
  refine Z.read (v := vi 0) (fun _ b c => avR_i (show iR 1 from ⟨by omega, by omega⟩) c) ?_ kk
  intro p l e s m args below meth c base D ca ad H locs la Q rs C L W0 S _ _ kk
  obtain ⟨o1, -, o3, o4⟩ := okM_at C.1 hd
  rw [o4]
  rw [o3 rfl] at kk
  exact va_gets C.2.1 C.2.2.1 C.2.2.2.2.2.2.2.2.2.2.2.2.2.1 S C.2.2.2.2.2.2.1 (C.2.2.2.2.2.2.2.1 _ hl) (fun _ q => q) o1 kk
/-- a static that holds a reference or none, nobody knows which -/
theorem z_sioo {ix : Nat} (hl : Cond.fieldLink (mO M) ix "jdk/internal/util/Preconditions" "SIOOBE_FORMATTER" "Ljava/util/function/BiFunction;" ∈ lwT) (hd : (mT M)[k]? = some (pc, .getstatic ix, 3, t)) (kk : ∀ v : Value, v.category = 1 → Z M (k + 1) ls (vx v :: st) h e) : Z M k ls st h e := by
  intro a b c d r h' he
  refine ⟨(kk .null rfl a b (avR_c (v := vx .null) True.intro c) d r h' he).1, ?_⟩
  intro p l e s m args below meth cc base D ca ad H locs la C L W0 S
  obtain ⟨o1, -, o3, o4⟩ := okM_at C.1 hd
  rw [o4]
  have key : ∀ v : Value, v.category = 1 → W p l e (rmM M) s m args below meth cc H locs 0 0 (MQ below (QcO M base D ca ad r h') args s 0 0 (fun q => base ≤ q)) (F0 m (pc + 3) la (v :: st.map (mv ad))) := by
    intro v hv
    have z2 := (kk v hv a b (avR_c (v := vx v) True.intro c) d r h' he).2 p l e s m args below meth cc base D ca ad H locs la C L W0 S
    rw [o3 rfl] at z2
    exact z2
  rcases C.2.2.2.2.2.2.2.2.2.2.2.2.2.2 with hz | ⟨q, hz⟩
  · exact va_gets C.2.1 C.2.2.1 hz S C.2.2.2.2.2.2.1 (C.2.2.2.2.2.2.2.1 _ hl) (fun _ q => q) o1 (key _ rfl)
  · exact va_gets C.2.1 C.2.2.1 hz S C.2.2.2.2.2.2.1 (C.2.2.2.2.2.2.2.1 _ hl) (fun _ q => q) o1 (key _ rfl)
theorem z_xload {j : Fin 4} {v : Value} (hv : True) (hd : (mT M)[k]? = some (pc, .aload_n j, 1, t)) (hl : ls[(j : Nat)]? = some (some (vx v))) (kk : Z M (k + 1) ls (vx v :: st) h e) (hr : ∃ a, v = .ref a) : Z M k ls st h e := by
  obtain ⟨a, rfl⟩ := hr
  refine Z.pure (fun a b => avR_c (b _ _ hl) a) ?_ kk
  intro p l e s m args below meth c base D ca ad H locs la Q _ _ C L _ _ _ _ kk
  obtain ⟨o1, -, o3, o4⟩ := okM_at C.1 hd
  rw [o4]
  rw [o3 rfl] at kk
  exact lv_aload_n C.2.1 C.2.2.1 o1 rfl (lh_at L hl) kk
/-- a number that is shifted by none -/
theorem z_ishr0 {x : Int} (hd : (mT M)[k]? = some (pc, .ishr, 1, t)) (kk : Z M (k + 1) ls (vi x :: st) h e) : Z M k ls (vi 0 :: vi x :: st) h e := by
  refine Z.pure (fun a b => avR_t a) ?_ kk
  intro p l e s m args below meth c base D ca ad H locs la Q _ _ C L _ _ _ _ kk
  obtain ⟨o1, -, o3, o4⟩ := okM_at C.1 hd
  rw [o4]
  rw [o3 rfl] at kk
  refine lv_ishr C.2.1 C.2.2.1 o1 ?_
  rw [show Int32.ofInt 0 = (0 : Int32) from rfl, sb_shr0]
  exact kk
theorem z_ishrG {x y : Int} (hd : (mT M)[k]? = some (pc, .ishr, 1, t)) (kk : Z M (k + 1) ls (vi x :: st) h e) : Z M k ls (vi y :: vi x :: st) h (if y = 0 then e else none) := by
  refine Z.guard (P := y = 0) (fun hy => ?_)
  subst hy
  exact z_ishr0 hd kk
theorem z_iand255 {x : Int} (hd : (mT M)[k]? = some (pc, .iand, 1, t)) (kk : Z M (k + 1) ls (vi x :: st) h e) : Z M k ls (vi 255 :: vi x :: st) h (if 0 ≤ x ∧ x < 256 then e else none) := by
  refine Z.guard (P := 0 ≤ x ∧ x < 256) (fun hin => ?_)
  refine Z.pure (fun a b => avR_t a) ?_ kk
  intro p l e s m args below meth c base D ca ad H locs la Q _ _ C L _ _ _ _ kk
  obtain ⟨o1, -, o3, o4⟩ := okM_at C.1 hd
  rw [o4]
  rw [o3 rfl] at kk
  refine lv_iand C.2.1 C.2.2.1 o1 ?_
  have e1 : Int32.ofInt x &&& Int32.ofInt 255 = Int32.ofInt x := by
    rw [nI_of_Int hin.1, pk_andN (by omega) 8 (by decide), Nat.mod_eq_of_lt (by omega)]
  rw [e1]
  exact kk
/-- a call of a text's own method -/
theorem z_callTi {M' : MI} {ix i n n2 : Nat} {rt : FieldType} {as : List AV} {K : Int → Hp → Option (Int × Hp)} (hd : (mT M)[k]? = some (pc, .invokevirtual ix, 3, t)) (hm : MV (mO M) ix M' n) (hk : kd i = (31, n2)) (hc : (mY M').cls = "java/lang/String") (hr : mR M' = some rt) (hn : as.length = n) (hlow : lowM M M' = true) (hst : ((st.map acat).sum).ble 8 = true)
    (ct : Ct M' (vr i :: as) h e1) (kk : ∀ r1 h1, Z M (k + 1) ls (vi r1 :: st) h1 (K r1 h1)) : Z M k ls (as.reverse ++ vr i :: st) h (bd e1 K) := by
  obtain ⟨t1, t2, t3, -⟩ := kdT hk
  refine Z.call (st2 := fun r => vi r :: st) ct avR_rev (fun q r hr => avR_i hr (fun w hw => q w (List.mem_append_right _ (List.mem_cons_of_mem _ hw)))) ?_ kk
  intro p l e s m args below meth c base D ca ad H locs la Q r1 h1 C L W0 S hM kk
  obtain ⟨o1, -, o3, o4⟩ := okM_at C.1 hd
  rw [o4]
  rw [o3 rfl] at kk
  unfold lowM at hlow
  simp only [Bool.and_eq_true, decide_eq_true_eq] at hlow
  obtain ⟨⟨m1, m2, m3, m4, m5⟩, m6⟩ := hm
  have hq : QcO M' base D ca ad r1 h1 = va_Qi (S := Unit) (fun z _ => z = Int32.ofInt r1) (fun _ t => WD base D ca ad h1 t.heap) (fun q => base ≤ q) := by unfold QcO; rw [hr]
  rw [hq] at hM
  have hG : GoodIn lwT (wsV (mO M) ix "java/lang/String" (mY M') (wsM M')) := by
    intro w hw
    rcases List.mem_append.mp hw with hw | hw
    · simp only [List.mem_cons, List.not_mem_nil, or_false] at hw
      rw [hc] at m3 m4
      rcases hw with rfl | rfl | rfl | rfl
      · exact lwT_G _ m1
      · exact lwT_G _ m2
      · exact lwT_G _ m3
      · exact lwT_G _ m4
    · exact wsM_G m5 w hw
  have e5 : (as.reverse ++ vr i :: st).map (mv ad) = (as.map (mv ad)).reverse ++ .ref (ad i) :: st.map (mv ad) := by simp [mv]
  rw [e5]
  have hrec := vk_recv C.2.2.2.2.2.2.2.2.2.2.2.1 (i := i - 87) (by omega) S
  rw [show 87 + (i - 87) = i by omega] at hrec
  refine va_calli (va_runV (As := as.map (mv ad)) (rest := st.map (mv ad)) ⟨C.2.1, C.2.2.1, C.2.2.2.1, C.2.2.2.2.2.2.1, C.2.2.2.2.2.2.2.1⟩ hM (cwV n C.2.2.2.2.2.2.2.1 hG rfl rfl rfl ⟨hc, m6.1, m6.2.1, m6.2.2⟩ hlow) ⟨PcO_blind, hrec, fun U hU hW => PcO_at rfl C.2.2.2.2.2.2.2.2 W0 S hU hW⟩ rfl (by simp [hn]) L.1 rfl (lv_room (by rw [acat_sum]; exact Nat.le_of_ble_eq_true hst)) o1 ⟨Nat.zero_le _, Nat.zero_le _⟩) S (fun q _ h => h) (fun q h => h) (fun r2 u t H1 locs1 ht hvm hpo hB hz1 hk1 hS1 => ?_)
  subst hpo
  have hB : WD base D ca ad h1 t.heap := hB
  rw [ht] at hB
  exact kk H1 locs1 hB hS1
theorem z_T0i {M' : MI} {ix i n2 : Nat} {rt : FieldType} {K : Int → Hp → Option (Int × Hp)} (hm : MV (mO M) ix M' 0) (hk : kd i = (31, n2)) (ct : Ct M' [vr i] h e1) (hd : (mT M)[k]? = some (pc, .invokevirtual ix, 3, t)) (hc : (mY M').cls = "java/lang/String") (hr : mR M' = some rt) (hlow : lowM M M' = true) (hst : ((st.map acat).sum).ble 8 = true)
    (kk : ∀ r1 h1, Z M (k + 1) ls (vi r1 :: st) h1 (K r1 h1)) : Z M k ls (vr i :: st) h (bd e1 K) := z_callTi (as := []) hd hm hk hc hr rfl hlow hst ct kk
theorem z_T1i {M' : MI} {ix i n2 : Nat} {v1 : AV} {rt : FieldType} {K : Int → Hp → Option (Int × Hp)} (hm : MV (mO M) ix M' 1) (hk : kd i = (31, n2)) (ct : Ct M' [vr i, v1] h e1) (hd : (mT M)[k]? = some (pc, .invokevirtual ix, 3, t)) (hc : (mY M').cls = "java/lang/String") (hr : mR M' = some rt) (hlow : lowM M M' = true) (hst : ((st.map acat).sum).ble 8 = true)
    (kk : ∀ r1 h1, Z M (k + 1) ls (vi r1 :: st) h1 (K r1 h1)) : Z M k ls (v1 :: vr i :: st) h (bd e1 K) := z_callTi (as := [v1]) hd hm hk hc hr rfl hlow hst ct kk
/-- a static call that returns nothing -/
theorem z_S2v {M' : MI} {ix : Nat} {v1 v2 : AV} {K : Int → Hp → Option (Int × Hp)} (hm : MS (mO M) ix M' 2) (ct : Ct M' [v1, v2] h e1) (hd : (mT M)[k]? = some (pc, .invokestatic ix, 3, t)) (hr : mR M' = none) (hlow : lowM M M' = true) (hst : ((st.map acat).sum).ble 8 = true)
    (kk : ∀ r1 h1, Z M (k + 1) ls st h1 (K r1 h1)) : Z M k ls (v2 :: v1 :: st) h (bd e1 K) := by
  refine Z.call (st2 := fun r => st) ct (avR_revS (as := [v1, v2])) (fun q r hr w hw => q w (List.mem_cons_of_mem _ (List.mem_cons_of_mem _ hw))) ?_ kk
  intro p l e s m args below meth c base D ca ad H locs la Q r1 h1 C L W0 S hM kk
  obtain ⟨o1, -, o3, o4⟩ := okM_at C.1 hd
  rw [o4]
  rw [o3 rfl] at kk
  unfold lowM at hlow
  simp only [Bool.and_eq_true, decide_eq_true_eq] at hlow
  obtain ⟨⟨m1, m2, m4, m5⟩, m6⟩ := hm
  have hq : QcO M' base D ca ad r1 h1 = va_Qv (S := Unit) (fun _ => True) (fun _ t => WD base D ca ad h1 t.heap) (fun q => base ≤ q) := by unfold QcO; rw [hr]
  rw [hq] at hM
  have hts := C.2.2.2.2.2.2.2.1
  refine va_callv (va_runS (As := [v1, v2].map (mv ad)) (rest := st.map (mv ad)) ⟨C.2.1, C.2.2.1, C.2.2.2.1, C.2.2.2.2.2.2.1, hts⟩ hM ⟨callB_of 2 hts (wsM_G m5) rfl rfl rfl (hts _ m4) (hts _ m1) m6 hlow, hts _ m2⟩ ⟨PcO_blind, fun U hU hW => PcO_at rfl C.2.2.2.2.2.2.2.2 W0 S hU hW⟩ rfl rfl L.1 rfl (lv_room (by rw [acat_sum]; exact Nat.le_of_ble_eq_true hst)) o1 ⟨Nat.zero_le _, Nat.zero_le _⟩) S (fun q _ h => h) (fun q h => h) (fun u t H1 locs1 ht hvm hpo hB hz1 hk1 hS1 => ?_)
  have hB : WD base D ca ad h1 t.heap := hB
  rw [ht] at hB
  exact kk H1 locs1 hB hS1
/-- the written texts -/
theorem z_ldcS {i ix : Nat} {tx : String} (hd : (mT M)[k]? = some (pc, .ldc ix, 2, t)) (hz : ∀ (ad : Nat → Nat) (s : State) (base : Nat), SF base ad s → vk_R (mO M) ix tx (ad i) s) (kk : Z M (k + 1) ls (vr i :: st) h e) : Z M k ls st h e := by
  refine Z.read (v := vi 0) (fun _ b c => avR_c (v := vr i) True.intro c) ?_ kk
  intro p l e s m args below meth c base D ca ad H locs la Q rs C L W0 S _ _ kk
  obtain ⟨o1, -, o3, o4⟩ := okM_at C.1 hd
  rw [o4]
  rw [o3 rfl] at kk
  exact va_ldcS C.2.1 C.2.2.1 C.2.2.2.2.2.2.1 (hz ad s base C.2.2.2.2.2.2.2.2.2.2) o1 kk
end Steps5
end
section
/-! printed by wip/gen/gen.py: the methods and the entries of the pools that they use; what each cell is -/
theorem kd_0 : kd 0 = (4, 0) := by decide +kernel
theorem kd_1 : kd 1 = (1, 0) := by decide +kernel
theorem kd_2 : kd 2 = (2, 0) := by decide +kernel
theorem kd_3 : kd 3 = (10, 72) := by decide +kernel
theorem kd_4 : kd 4 = (2, 0) := by decide +kernel
theorem kd_5 : kd 5 = (10, 72) := by decide +kernel
theorem kd_6 : kd 6 = (2, 0) := by decide +kernel
theorem kd_7 : kd 7 = (10, 72) := by decide +kernel
theorem kd_8 : kd 8 = (10, 7) := by decide +kernel
theorem kd_9 : kd 9 = (10, 12) := by decide +kernel
theorem kd_10 : kd 10 = (1, 0) := by decide +kernel
theorem kd_11 : kd 11 = (2, 0) := by decide +kernel
theorem kd_12 : kd 12 = (10, 72) := by decide +kernel
theorem kd_13 : kd 13 = (2, 0) := by decide +kernel
theorem kd_14 : kd 14 = (10, 72) := by decide +kernel
theorem kd_15 : kd 15 = (2, 0) := by decide +kernel
theorem kd_16 : kd 16 = (10, 72) := by decide +kernel
theorem kd_17 : kd 17 = (10, 7) := by decide +kernel
theorem kd_18 : kd 18 = (10, 12) := by decide +kernel
theorem kd_19 : kd 19 = (0, 0) := by decide +kernel
theorem kd_20 : kd 20 = (10, 144) := by decide +kernel
theorem kd_21 : kd 21 = (10, 144) := by decide +kernel
theorem kd_22 : kd 22 = (11, 144) := by decide +kernel
theorem kd_23 : kd 23 = (11, 144) := by decide +kernel
theorem kd_24 : kd 24 = (10, 40) := by decide +kernel
theorem kd_25 : kd 25 = (10, 12) := by decide +kernel
theorem kd_26 : kd 26 = (10, 12) := by decide +kernel
theorem kd_27 : kd 27 = (13, 5) := by decide +kernel
theorem kd_28 : kd 28 = (3, 0) := by decide +kernel
theorem kd_29 : kd 29 = (12, 60) := by decide +kernel
theorem kd_30 : kd 30 = (10, 4) := by decide +kernel
theorem kd_31 : kd 31 = (1, 0) := by decide +kernel
theorem kd_32 : kd 32 = (2, 0) := by decide +kernel
theorem kd_33 : kd 33 = (10, 72) := by decide +kernel
theorem kd_34 : kd 34 = (2, 0) := by decide +kernel
theorem kd_35 : kd 35 = (10, 72) := by decide +kernel
theorem kd_36 : kd 36 = (2, 0) := by decide +kernel
theorem kd_37 : kd 37 = (10, 72) := by decide +kernel
theorem kd_38 : kd 38 = (10, 7) := by decide +kernel
theorem kd_39 : kd 39 = (10, 12) := by decide +kernel
theorem kd_40 : kd 40 = (1, 0) := by decide +kernel
theorem kd_41 : kd 41 = (2, 0) := by decide +kernel
theorem kd_42 : kd 42 = (10, 72) := by decide +kernel
theorem kd_43 : kd 43 = (2, 0) := by decide +kernel
theorem kd_44 : kd 44 = (10, 72) := by decide +kernel
theorem kd_45 : kd 45 = (2, 0) := by decide +kernel
theorem kd_46 : kd 46 = (10, 72) := by decide +kernel
theorem kd_47 : kd 47 = (10, 7) := by decide +kernel
theorem kd_48 : kd 48 = (10, 12) := by decide +kernel
theorem kd_49 : kd 49 = (1, 0) := by decide +kernel
theorem kd_50 : kd 50 = (2, 0) := by decide +kernel
theorem kd_51 : kd 51 = (10, 72) := by decide +kernel
theorem kd_52 : kd 52 = (2, 0) := by decide +kernel
theorem kd_53 : kd 53 = (10, 72) := by decide +kernel
theorem kd_54 : kd 54 = (2, 0) := by decide +kernel
theorem kd_55 : kd 55 = (10, 72) := by decide +kernel
theorem kd_56 : kd 56 = (10, 7) := by decide +kernel
theorem kd_57 : kd 57 = (10, 12) := by decide +kernel
theorem kd_58 : kd 58 = (1, 0) := by decide +kernel
theorem kd_59 : kd 59 = (2, 0) := by decide +kernel
theorem kd_60 : kd 60 = (10, 72) := by decide +kernel
theorem kd_61 : kd 61 = (2, 0) := by decide +kernel
theorem kd_62 : kd 62 = (10, 72) := by decide +kernel
theorem kd_63 : kd 63 = (2, 0) := by decide +kernel
theorem kd_64 : kd 64 = (10, 72) := by decide +kernel
theorem kd_65 : kd 65 = (10, 7) := by decide +kernel
theorem kd_66 : kd 66 = (10, 12) := by decide +kernel
theorem kd_67 : kd 67 = (1, 0) := by decide +kernel
theorem kd_68 : kd 68 = (2, 0) := by decide +kernel
theorem kd_69 : kd 69 = (10, 72) := by decide +kernel
theorem kd_70 : kd 70 = (2, 0) := by decide +kernel
theorem kd_71 : kd 71 = (10, 72) := by decide +kernel
theorem kd_72 : kd 72 = (2, 0) := by decide +kernel
theorem kd_73 : kd 73 = (10, 72) := by decide +kernel
theorem kd_74 : kd 74 = (10, 7) := by decide +kernel
theorem kd_75 : kd 75 = (10, 12) := by decide +kernel
theorem kd_76 : kd 76 = (5, 0) := by decide +kernel
theorem kd_77 : kd 77 = (10, 1330) := by decide +kernel
theorem kd_78 : kd 78 = (10, 60) := by decide +kernel
theorem kd_79 : kd 79 = (10, 12) := by decide +kernel
theorem kd_80 : kd 80 = (10, 12) := by decide +kernel
theorem kd_81 : kd 81 = (10, 144) := by decide +kernel
theorem kd_82 : kd 82 = (10, 12) := by decide +kernel
theorem kd_83 : kd 83 = (10, 4) := by decide +kernel
theorem kd_84 : kd 84 = (30, 7) := by decide +kernel
theorem kd_85 : kd 85 = (30, 7) := by decide +kernel
theorem kd_86 : kd 86 = (30, 7) := by decide +kernel
theorem kd_87 : kd 87 = (31, 5) := by decide +kernel
theorem kd_88 : kd 88 = (31, 6) := by decide +kernel
theorem kd_89 : kd 89 = (31, 5) := by decide +kernel
theorem kd_90 : kd 90 = (31, 5) := by decide +kernel
theorem kd_91 : kd 91 = (31, 4) := by decide +kernel
theorem kd_92 : kd 92 = (32, 5) := by decide +kernel
theorem kd_93 : kd 93 = (32, 6) := by decide +kernel
theorem kd_94 : kd 94 = (32, 5) := by decide +kernel
theorem kd_95 : kd 95 = (32, 5) := by decide +kernel
theorem kd_96 : kd 96 = (32, 4) := by decide +kernel
theorem kd_out {i : Nat} (h : 97 ≤ i) : kd i = (99, 0) := by
  unfold kd
  rw [List.getD_eq_getElem?_getD, List.getElem?_eq_none (by exact h)]
  rfl
theorem kO_0 : True := True.intro
theorem kO_a1 : ∀ i, i < 97 → kd i = (1, 0) → kd (i + 1) = (2, 0) := by decide +kernel
theorem kO_1 {i : Nat} (h : kd i = (1, 0)) : kd (i + 1) = (2, 0) := by
  rcases Nat.lt_or_ge i 97 with q | q
  · exact kO_a1 i q h
  · rw [kd_out q] at h; cases h
theorem kO_a2 : ∀ i, i < 97 → kd i = (1, 0) → kd (i + 2) = (10, 72) := by decide +kernel
theorem kO_2 {i : Nat} (h : kd i = (1, 0)) : kd (i + 2) = (10, 72) := by
  rcases Nat.lt_or_ge i 97 with q | q
  · exact kO_a2 i q h
  · rw [kd_out q] at h; cases h
theorem kO_a3 : ∀ i, i < 97 → kd i = (1, 0) → kd (i + 3) = (2, 0) := by decide +kernel
theorem kO_3 {i : Nat} (h : kd i = (1, 0)) : kd (i + 3) = (2, 0) := by
  rcases Nat.lt_or_ge i 97 with q | q
  · exact kO_a3 i q h
  · rw [kd_out q] at h; cases h
theorem kO_a4 : ∀ i, i < 97 → kd i = (1, 0) → kd (i + 4) = (10, 72) := by decide +kernel
theorem kO_4 {i : Nat} (h : kd i = (1, 0)) : kd (i + 4) = (10, 72) := by
  rcases Nat.lt_or_ge i 97 with q | q
  · exact kO_a4 i q h
  · rw [kd_out q] at h; cases h
theorem kO_a5 : ∀ i, i < 97 → kd i = (1, 0) → kd (i + 5) = (2, 0) := by decide +kernel
theorem kO_5 {i : Nat} (h : kd i = (1, 0)) : kd (i + 5) = (2, 0) := by
  rcases Nat.lt_or_ge i 97 with q | q
  · exact kO_a5 i q h
  · rw [kd_out q] at h; cases h
theorem kO_a6 : ∀ i, i < 97 → kd i = (1, 0) → kd (i + 6) = (10, 72) := by decide +kernel
theorem kO_6 {i : Nat} (h : kd i = (1, 0)) : kd (i + 6) = (10, 72) := by
  rcases Nat.lt_or_ge i 97 with q | q
  · exact kO_a6 i q h
  · rw [kd_out q] at h; cases h
theorem kO_a7 : ∀ i, i < 97 → kd i = (1, 0) → kd (i + 7) = (10, 7) := by decide +kernel
theorem kO_7 {i : Nat} (h : kd i = (1, 0)) : kd (i + 7) = (10, 7) := by
  rcases Nat.lt_or_ge i 97 with q | q
  · exact kO_a7 i q h
  · rw [kd_out q] at h; cases h
theorem kO_a8 : ∀ i, i < 97 → kd i = (1, 0) → kd (i + 8) = (10, 12) := by decide +kernel
theorem kO_8 {i : Nat} (h : kd i = (1, 0)) : kd (i + 8) = (10, 12) := by
  rcases Nat.lt_or_ge i 97 with q | q
  · exact kO_a8 i q h
  · rw [kd_out q] at h; cases h
theorem kR_all : ∀ i, i < 97 → kd i = (2, 0) → kd (i + 1) = (10, 72) := by decide +kernel
theorem kR_1 {i : Nat} (h : kd i = (2, 0)) : kd (i + 1) = (10, 72) := by
  rcases Nat.lt_or_ge i 97 with q | q
  · exact kR_all i q h
  · rw [kd_out q] at h; cases h
theorem pnX0 : plainName RX0 = true := by decide +kernel
theorem pnX1 : plainName RX1 = true := by decide +kernel
theorem pnX2 : plainName RX2 = true := by decide +kernel
theorem pnX3 : plainName RX3 = true := by decide +kernel
theorem pnX4 : plainName RX4 = true := by decide +kernel
theorem pnX5 : plainName RX5 = true := by decide +kernel
def M_J_isLatin1 : MI := ("java/lang/String", ⟨"java/lang/String", "isLatin1", "()Z"⟩, prog_10_method_154_code, 1, (some .boolean), [(0, .getstatic 38, 3, 0), (3, .ifCond .eq 14, 3, 7), (6, .aload_n 0, 1, 0), (7, .getfield 15, 3, 0), (10, .ifCond .ne 7, 3, 7), (13, .iconst 1, 1, 0), (14, .goto 4, 3, 8), (17, .iconst 0, 1, 0), (18, .ireturn, 1, 0)], 0)
theorem ok_J_isLatin1 : okM M_J_isLatin1 = true := by decide +kernel
theorem pl_J_isLatin1 : plainFor (mY M_J_isLatin1) = true := by decide +kernel
def M_J_preCheck : MI := ("jdk/internal/util/Preconditions", ⟨"jdk/internal/util/Preconditions", "checkIndex", "(IILjava/util/function/BiFunction;)I"⟩, prog_14_method_11_code, 3, (some .int), [(0, .iload_n 0, 1, 0), (1, .ifCond .lt 8, 3, 5), (4, .iload_n 0, 1, 0), (5, .iload_n 1, 1, 0), (6, .if_icmp .lt 10, 3, 10), (9, .aload_n 2, 1, 0), (10, .iload_n 0, 1, 0), (11, .iload_n 1, 1, 0), (12, .invokestatic 95, 3, 0), (15, .athrow, 1, 0), (16, .iload_n 0, 1, 0), (17, .ireturn, 1, 0)], 0)
theorem ok_J_preCheck : okM M_J_preCheck = true := by decide +kernel
theorem pl_J_preCheck : plainFor (mY M_J_preCheck) = true := by decide +kernel
def M_J_checkIndex : MI := ("java/lang/String", ⟨"java/lang/String", "checkIndex", "(II)V"⟩, prog_10_method_155_code, 2, none, [(0, .iload_n 0, 1, 0), (1, .iload_n 1, 1, 0), (2, .getstatic 1053, 3, 0), (5, .invokestatic 1059, 3, 0), (8, .pop, 1, 0), (9, .return_, 1, 0)], 1)
theorem ok_J_checkIndex : okM M_J_checkIndex = true := by decide +kernel
theorem pl_J_checkIndex : plainFor (mY M_J_checkIndex) = true := by decide +kernel
def M_J_latinAt : MI := ("java/lang/StringLatin1", ⟨"java/lang/StringLatin1", "charAt", "([BI)C"⟩, prog_11_method_2_code, 2, (some .char), [(0, .iload_n 1, 1, 0), (1, .aload_n 0, 1, 0), (2, .arraylength, 1, 0), (3, .invokestatic 9, 3, 0), (6, .aload_n 0, 1, 0), (7, .iload_n 1, 1, 0), (8, .baload, 1, 0), (9, .sipush 255, 3, 0), (12, .iand, 1, 0), (13, .i2c, 1, 0), (14, .ireturn, 1, 0)], 2)
theorem ok_J_latinAt : okM M_J_latinAt = true := by decide +kernel
theorem pl_J_latinAt : plainFor (mY M_J_latinAt) = true := by decide +kernel
def M_J_charAt : MI := ("java/lang/String", ⟨"java/lang/String", "charAt", "(I)C"⟩, prog_10_method_56_code, 2, (some .char), [(0, .aload_n 0, 1, 0), (1, .invokevirtual 492, 3, 0), (4, .ifCond .eq 12, 3, 8), (7, .aload_n 0, 1, 0), (8, .getfield 9, 3, 0), (11, .iload_n 1, 1, 0), (12, .invokestatic 495, 3, 0), (15, .ireturn, 1, 0), (16, .aload_n 0, 1, 0), (17, .getfield 9, 3, 0), (20, .iload_n 1, 1, 0), (21, .invokestatic 498, 3, 0), (24, .ireturn, 1, 0)], 3)
theorem ok_J_charAt : okM M_J_charAt = true := by decide +kernel
theorem pl_J_charAt : plainFor (mY M_J_charAt) = true := by decide +kernel
def M_J_coder : MI := ("java/lang/String", ⟨"java/lang/String", "coder", "()B"⟩, prog_10_method_152_code, 1, (some .byte), [(0, .getstatic 38, 3, 0), (3, .ifCond .eq 10, 3, 5), (6, .aload_n 0, 1, 0), (7, .getfield 15, 3, 0), (10, .goto 4, 3, 6), (13, .iconst 1, 1, 0), (14, .ireturn, 1, 0)], 0)
theorem ok_J_coder : okM M_J_coder = true := by decide +kernel
theorem pl_J_coder : plainFor (mY M_J_coder) = true := by decide +kernel
def M_J_length : MI := ("java/lang/String", ⟨"java/lang/String", "length", "()I"⟩, prog_10_method_54_code, 1, (some .int), [(0, .aload_n 0, 1, 0), (1, .getfield 9, 3, 0), (4, .arraylength, 1, 0), (5, .aload_n 0, 1, 0), (6, .invokevirtual 335, 3, 0), (9, .ishr, 1, 0), (10, .ireturn, 1, 0)], 1)
theorem ok_J_length : okM M_J_length = true := by decide +kernel
theorem pl_J_length : plainFor (mY M_J_length) = true := by decide +kernel
def M_J_min : MI := ("java/lang/Math", ⟨"java/lang/Math", "min", "(II)I"⟩, prog_9_method_69_code, 2, (some .int), [(0, .iload_n 0, 1, 0), (1, .iload_n 1, 1, 0), (2, .if_icmp .gt 7, 3, 5), (5, .iload_n 0, 1, 0), (6, .goto 4, 3, 6), (9, .iload_n 1, 1, 0), (10, .ireturn, 1, 0)], 0)
theorem ok_J_min : okM M_J_min = true := by decide +kernel
theorem pl_J_min : plainFor (mY M_J_min) = true := by decide +kernel
def M_J_isNaN : MI := ("java/lang/Float", ⟨"java/lang/Float", "isNaN", "(F)Z"⟩, prog_8_method_6_code, 1, (some .boolean), [(0, .fload_n 0, 1, 0), (1, .fload_n 0, 1, 0), (2, .fcmp .l, 1, 0), (3, .ifCond .eq 7, 3, 6), (6, .iconst 1, 1, 0), (7, .goto 4, 3, 7), (10, .iconst 0, 1, 0), (11, .ireturn, 1, 0)], 0)
theorem ok_J_isNaN : okM M_J_isNaN = true := by decide +kernel
theorem pl_J_isNaN : plainFor (mY M_J_isNaN) = true := by decide +kernel
def M_J_floatToIntBits : MI := ("java/lang/Float", ⟨"java/lang/Float", "floatToIntBits", "(F)I"⟩, prog_8_method_24_code, 1, (some .int), [(0, .fload_n 0, 1, 0), (1, .invokestatic 59, 3, 0), (4, .ifCond .ne 8, 3, 6), (7, .fload_n 0, 1, 0), (8, .invokestatic 74, 3, 0), (11, .ireturn, 1, 0), (12, .ldc 77, 2, 0), (14, .ireturn, 1, 0)], 1)
theorem ok_J_floatToIntBits : okM M_J_floatToIntBits = true := by decide +kernel
theorem pl_J_floatToIntBits : plainFor (mY M_J_floatToIntBits) = true := by decide +kernel
def M_X0_aheadOf : MI := (RX0, yX0_aheadOf, cX0_aheadOf, 3, (some .int), [(0, .iload_n 1, 1, 0), (1, .ifCond .lt 10, 3, 5), (4, .iload_n 1, 1, 0), (5, .sipush 144, 3, 0), (8, .if_icmp .lt 5, 3, 7), (11, .iload_n 2, 1, 0), (12, .ireturn, 1, 0), (13, .iload_n 2, 1, 0), (14, .ifCond .lt 10, 3, 12), (17, .iload_n 2, 1, 0), (18, .sipush 144, 3, 0), (21, .if_icmp .lt 5, 3, 14), (24, .iload_n 1, 1, 0), (25, .ireturn, 1, 0), (26, .aload_n 0, 1, 0), (27, .getfield 15, 3, 0), (30, .iload_n 1, 1, 0), (31, .iaload, 1, 0), (32, .aload_n 0, 1, 0), (33, .getfield 15, 3, 0), (36, .iload_n 2, 1, 0), (37, .iaload, 1, 0), (38, .if_icmp .eq 24, 3, 36), (41, .aload_n 0, 1, 0), (42, .getfield 15, 3, 0), (45, .iload_n 1, 1, 0), (46, .iaload, 1, 0), (47, .aload_n 0, 1, 0), (48, .getfield 15, 3, 0), (51, .iload_n 2, 1, 0), (52, .iaload, 1, 0), (53, .if_icmp .le 7, 3, 34), (56, .iload_n 1, 1, 0), (57, .goto 4, 3, 35), (60, .iload_n 2, 1, 0), (61, .ireturn, 1, 0), (62, .iload_n 1, 1, 0), (63, .iload_n 2, 1, 0), (64, .invokestatic 54, 3, 0), (67, .ireturn, 1, 0)], 1)
theorem ok_X0_aheadOf : okM M_X0_aheadOf = true := by decide +kernel
theorem pl_X0_aheadOf : plainFor (mY M_X0_aheadOf) = true := plainFor_of_name pnX0
def M_X0_claimMatched : MI := (RX0, yX0_claimMatched, cX0_claimMatched, 2, (some .int), [(0, .iload_n 1, 1, 0), (1, .ifCond .lt 18, 3, 10), (4, .iload_n 1, 1, 0), (5, .bipush 12, 2, 0), (7, .if_icmp .ge 12, 3, 10), (10, .aload_n 0, 1, 0), (11, .getfield 28, 3, 0), (14, .iload_n 1, 1, 0), (15, .iaload, 1, 0), (16, .goto 4, 3, 11), (19, .iconst (-1), 1, 0), (20, .ireturn, 1, 0)], 0)
theorem ok_X0_claimMatched : okM M_X0_claimMatched = true := by decide +kernel
theorem pl_X0_claimMatched : plainFor (mY M_X0_claimMatched) = true := plainFor_of_name pnX0
def M_X0_join : MI := (RX0, yX0_join, cX0_join, 3, none, [(0, .iload_n 1, 1, 0), (1, .ifCond .lt 43, 3, 26), (4, .iload_n 1, 1, 0), (5, .bipush 12, 2, 0), (7, .if_icmp .ge 37, 3, 26), (10, .iload_n 2, 1, 0), (11, .ifCond .lt 33, 3, 26), (14, .iload_n 2, 1, 0), (15, .bipush 12, 2, 0), (17, .if_icmp .ge 27, 3, 26), (20, .aload_n 0, 1, 0), (21, .getfield 28, 3, 0), (24, .iload_n 1, 1, 0), (25, .iload_n 2, 1, 0), (26, .iastore, 1, 0), (27, .aload_n 0, 1, 0), (28, .getfield 31, 3, 0), (31, .iload_n 2, 1, 0), (32, .iload_n 1, 1, 0), (33, .iastore, 1, 0), (34, .aload_n 0, 1, 0), (35, .dup, 1, 0), (36, .getfield 41, 3, 0), (39, .iconst 1, 1, 0), (40, .iadd, 1, 0), (41, .putfield 41, 3, 0), (44, .return_, 1, 0)], 0)
theorem ok_X0_join : okM M_X0_join = true := by decide +kernel
theorem pl_X0_join : plainFor (mY M_X0_join) = true := plainFor_of_name pnX0
def M_X0_pairOf : MI := (RX0, yX0_pairOf, cX0_pairOf, 4, (some .int), [(0, .iload_n 1, 1, 0), (1, .ifCond .lt 23, 3, 12), (4, .iload_n 1, 1, 0), (5, .aload_n 0, 1, 0), (6, .getfield 34, 3, 0), (9, .if_icmp .ge 15, 3, 12), (12, .iload_n 2, 1, 0), (13, .ifCond .lt 11, 3, 12), (16, .iload_n 2, 1, 0), (17, .aload_n 0, 1, 0), (18, .getfield 38, 3, 0), (21, .if_icmp .lt 5, 3, 14), (24, .iconst (-1), 1, 0), (25, .ireturn, 1, 0), (26, .iload_n 1, 1, 0), (27, .bipush 12, 2, 0), (29, .imul, 1, 0), (30, .iload_n 2, 1, 0), (31, .iadd, 1, 0), (32, .istore_n 3, 1, 0), (33, .iload_n 3, 1, 0), (34, .ifCond .lt 14, 3, 27), (37, .iload_n 3, 1, 0), (38, .sipush 144, 3, 0), (41, .if_icmp .ge 7, 3, 27), (44, .iload_n 3, 1, 0), (45, .goto 4, 3, 28), (48, .iconst (-1), 1, 0), (49, .ireturn, 1, 0)], 0)
theorem ok_X0_pairOf : okM M_X0_pairOf = true := by decide +kernel
theorem pl_X0_pairOf : plainFor (mY M_X0_pairOf) = true := plainFor_of_name pnX0
def M_X0_part : MI := (RX0, yX0_part, cX0_part, 3, none, [(0, .iload_n 1, 1, 0), (1, .ifCond .lt 43, 3, 26), (4, .iload_n 1, 1, 0), (5, .bipush 12, 2, 0), (7, .if_icmp .ge 37, 3, 26), (10, .iload_n 2, 1, 0), (11, .ifCond .lt 33, 3, 26), (14, .iload_n 2, 1, 0), (15, .bipush 12, 2, 0), (17, .if_icmp .ge 27, 3, 26), (20, .aload_n 0, 1, 0), (21, .getfield 28, 3, 0), (24, .iload_n 1, 1, 0), (25, .iconst (-1), 1, 0), (26, .iastore, 1, 0), (27, .aload_n 0, 1, 0), (28, .getfield 31, 3, 0), (31, .iload_n 2, 1, 0), (32, .iconst (-1), 1, 0), (33, .iastore, 1, 0), (34, .aload_n 0, 1, 0), (35, .dup, 1, 0), (36, .getfield 41, 3, 0), (39, .iconst 1, 1, 0), (40, .isub, 1, 0), (41, .putfield 41, 3, 0), (44, .return_, 1, 0)], 0)
theorem ok_X0_part : okM M_X0_part = true := by decide +kernel
theorem pl_X0_part : plainFor (mY M_X0_part) = true := plainFor_of_name pnX0
def M_X0_askFor : MI := (RX0, yX0_askFor, cX0_askFor, 4, none, [(0, .iload_n 1, 1, 0), (1, .ifCond .lt 10, 3, 5), (4, .iload_n 1, 1, 0), (5, .sipush 144, 3, 0), (8, .if_icmp .lt 4, 3, 6), (11, .return_, 1, 0), (12, .aload_n 0, 1, 0), (13, .getfield 22, 3, 0), (16, .iload_n 1, 1, 0), (17, .iconst 1, 1, 0), (18, .bastore, 1, 0), (19, .iload_n 1, 1, 0), (20, .bipush 12, 2, 0), (22, .idiv, 1, 0), (23, .istore_n 2, 1, 0), (24, .aload_n 0, 1, 0), (25, .iload_n 2, 1, 0), (26, .invokevirtual 102, 3, 0), (29, .istore_n 3, 1, 0), (30, .iload_n 3, 1, 0), (31, .iconst (-1), 1, 0), (32, .if_icmp .eq 25, 3, 36), (35, .aload_n 0, 1, 0), (36, .iload_n 1, 1, 0), (37, .aload_n 0, 1, 0), (38, .iload_n 2, 1, 0), (39, .iload_n 3, 1, 0), (40, .invokevirtual 81, 3, 0), (43, .invokevirtual 108, 3, 0), (46, .iload_n 1, 1, 0), (47, .if_icmp .eq 4, 3, 32), (50, .return_, 1, 0), (51, .aload_n 0, 1, 0), (52, .iload_n 2, 1, 0), (53, .iload_n 3, 1, 0), (54, .invokevirtual 124, 3, 0), (57, .aload_n 0, 1, 0), (58, .iload_n 2, 1, 0), (59, .iload_n 1, 1, 0), (60, .bipush 12, 2, 0), (62, .irem, 1, 0), (63, .invokevirtual 98, 3, 0), (66, .return_, 1, 0)], 2)
theorem ok_X0_askFor : okM M_X0_askFor = true := by decide +kernel
theorem pl_X0_askFor : plainFor (mY M_X0_askFor) = true := plainFor_of_name pnX0
def M_X0_suits : MI := (RX0, yX0_suits, cX0_suits, 4, (some .boolean), [(0, .aload_n 0, 1, 0), (1, .iload_n 1, 1, 0), (2, .iload_n 2, 1, 0), (3, .invokevirtual 81, 3, 0), (6, .istore_n 3, 1, 0), (7, .iload_n 3, 1, 0), (8, .ifCond .lt 23, 3, 17), (11, .iload_n 3, 1, 0), (12, .sipush 144, 3, 0), (15, .if_icmp .ge 16, 3, 17), (18, .aload_n 0, 1, 0), (19, .getfield 18, 3, 0), (22, .iload_n 3, 1, 0), (23, .baload, 1, 0), (24, .ifCond .eq 7, 3, 17), (27, .iconst 1, 1, 0), (28, .goto 4, 3, 18), (31, .iconst 0, 1, 0), (32, .ireturn, 1, 0)], 1)
theorem ok_X0_suits : okM M_X0_suits = true := by decide +kernel
theorem pl_X0_suits : plainFor (mY M_X0_suits) = true := plainFor_of_name pnX0
def M_X0_umbrellaMatched : MI := (RX0, yX0_umbrellaMatched, cX0_umbrellaMatched, 2, (some .int), [(0, .iload_n 1, 1, 0), (1, .ifCond .lt 18, 3, 10), (4, .iload_n 1, 1, 0), (5, .bipush 12, 2, 0), (7, .if_icmp .ge 12, 3, 10), (10, .aload_n 0, 1, 0), (11, .getfield 31, 3, 0), (14, .iload_n 1, 1, 0), (15, .iaload, 1, 0), (16, .goto 4, 3, 11), (19, .iconst (-1), 1, 0), (20, .ireturn, 1, 0)], 0)
theorem ok_X0_umbrellaMatched : okM M_X0_umbrellaMatched = true := by decide +kernel
theorem pl_X0_umbrellaMatched : plainFor (mY M_X0_umbrellaMatched) = true := plainFor_of_name pnX0
def M_X0_bestFreePair : MI := (RX0, yX0_bestFreePair, cX0_bestFreePair, 4, (some .int), [(0, .iconst (-1), 1, 0), (1, .istore_n 1, 1, 0), (2, .iconst 0, 1, 0), (3, .istore_n 2, 1, 0), (4, .iload_n 2, 1, 0), (5, .aload_n 0, 1, 0), (6, .getfield 34, 3, 0), (9, .if_icmp .ge 67, 3, 42), (12, .aload_n 0, 1, 0), (13, .iload_n 2, 1, 0), (14, .invokevirtual 102, 3, 0), (17, .iconst (-1), 1, 0), (18, .if_icmp .eq 6, 3, 14), (21, .goto 49, 3, 40), (24, .iconst 0, 1, 0), (25, .istore_n 3, 1, 0), (26, .iload_n 3, 1, 0), (27, .aload_n 0, 1, 0), (28, .getfield 38, 3, 0), (31, .if_icmp .ge 39, 3, 40), (34, .aload_n 0, 1, 0), (35, .iload_n 3, 1, 0), (36, .invokevirtual 105, 3, 0), (39, .iconst (-1), 1, 0), (40, .if_icmp .ne 24, 3, 38), (43, .aload_n 0, 1, 0), (44, .iload_n 2, 1, 0), (45, .iload_n 3, 1, 0), (46, .invokevirtual 84, 3, 0), (49, .ifCond .eq 15, 3, 38), (52, .aload_n 0, 1, 0), (53, .aload_n 0, 1, 0), (54, .iload_n 2, 1, 0), (55, .iload_n 3, 1, 0), (56, .invokevirtual 81, 3, 0), (59, .iload_n 1, 1, 0), (60, .invokevirtual 108, 3, 0), (63, .istore_n 1, 1, 0), (64, .iinc 3 1, 3, 0), (67, .goto (-41), 3, 16), (70, .iinc 2 1, 3, 0), (73, .goto (-69), 3, 4), (76, .iload_n 1, 1, 0), (77, .ireturn, 1, 0)], 2)
theorem ok_X0_bestFreePair : okM M_X0_bestFreePair = true := by decide +kernel
theorem pl_X0_bestFreePair : plainFor (mY M_X0_bestFreePair) = true := plainFor_of_name pnX0
def M_X0_claimsSuiting : MI := (RX0, yX0_claimsSuiting, cX0_claimsSuiting, 4, (some .int), [(0, .iconst 0, 1, 0), (1, .istore_n 2, 1, 0), (2, .iconst 0, 1, 0), (3, .istore_n 3, 1, 0), (4, .iload_n 3, 1, 0), (5, .aload_n 0, 1, 0), (6, .getfield 38, 3, 0), (9, .if_icmp .ge 21, 3, 16), (12, .aload_n 0, 1, 0), (13, .iload_n 1, 1, 0), (14, .iload_n 3, 1, 0), (15, .invokevirtual 84, 3, 0), (18, .ifCond .eq 6, 3, 14), (21, .iinc 2 1, 3, 0), (24, .iinc 3 1, 3, 0), (27, .goto (-23), 3, 4), (30, .iload_n 2, 1, 0), (31, .ireturn, 1, 0)], 2)
theorem ok_X0_claimsSuiting : okM M_X0_claimsSuiting = true := by decide +kernel
theorem pl_X0_claimsSuiting : plainFor (mY M_X0_claimsSuiting) = true := plainFor_of_name pnX0
def M_X0_matchNone : MI := (RX0, yX0_matchNone, cX0_matchNone, 2, none, [(0, .iconst 0, 1, 0), (1, .istore_n 1, 1, 0), (2, .iload_n 1, 1, 0), (3, .aload_n 0, 1, 0), (4, .getfield 28, 3, 0), (7, .arraylength, 1, 0), (8, .if_icmp .ge 16, 3, 14), (11, .aload_n 0, 1, 0), (12, .getfield 28, 3, 0), (15, .iload_n 1, 1, 0), (16, .iconst (-1), 1, 0), (17, .iastore, 1, 0), (18, .iinc 1 1, 3, 0), (21, .goto (-19), 3, 2), (24, .iconst 0, 1, 0), (25, .istore_n 1, 1, 0), (26, .iload_n 1, 1, 0), (27, .aload_n 0, 1, 0), (28, .getfield 31, 3, 0), (31, .arraylength, 1, 0), (32, .if_icmp .ge 16, 3, 28), (35, .aload_n 0, 1, 0), (36, .getfield 31, 3, 0), (39, .iload_n 1, 1, 0), (40, .iconst (-1), 1, 0), (41, .iastore, 1, 0), (42, .iinc 1 1, 3, 0), (45, .goto (-19), 3, 16), (48, .aload_n 0, 1, 0), (49, .iconst 0, 1, 0), (50, .putfield 41, 3, 0), (53, .return_, 1, 0)], 0)
theorem ok_X0_matchNone : okM M_X0_matchNone = true := by decide +kernel
theorem pl_X0_matchNone : plainFor (mY M_X0_matchNone) = true := plainFor_of_name pnX0
def M_X2_cell : MI := (RX2, yX2_cell, cX2_cell, 4, (some .int), [(0, .iload_n 1, 1, 0), (1, .ifCond .lt 21, 3, 11), (4, .iload_n 1, 1, 0), (5, .aload_n 0, 1, 0), (6, .getfield 15, 3, 0), (9, .if_icmp .ge 13, 3, 11), (12, .iload_n 2, 1, 0), (13, .ifCond .lt 9, 3, 11), (16, .iload_n 2, 1, 0), (17, .bipush 6, 2, 0), (19, .if_icmp .lt 5, 3, 13), (22, .iconst 0, 1, 0), (23, .ireturn, 1, 0), (24, .iload_n 1, 1, 0), (25, .bipush 6, 2, 0), (27, .imul, 1, 0), (28, .iload_n 2, 1, 0), (29, .iadd, 1, 0), (30, .istore_n 3, 1, 0), (31, .iload_n 3, 1, 0), (32, .ifCond .lt 21, 3, 31), (35, .iload_n 3, 1, 0), (36, .aload_n 0, 1, 0), (37, .getfield 9, 3, 0), (40, .arraylength, 1, 0), (41, .if_icmp .ge 12, 3, 31), (44, .aload_n 0, 1, 0), (45, .getfield 9, 3, 0), (48, .iload_n 3, 1, 0), (49, .iaload, 1, 0), (50, .goto 4, 3, 32), (53, .iconst 0, 1, 0), (54, .ireturn, 1, 0)], 0)
theorem ok_X2_cell : okM M_X2_cell = true := by decide +kernel
theorem pl_X2_cell : plainFor (mY M_X2_cell) = true := plainFor_of_name pnX2
def M_X0_noteOddness : MI := (RX0, yX0_noteOddness, cX0_noteOddness, 5, none, [(0, .iconst 0, 1, 0), (1, .istore_n 2, 1, 0), (2, .iload_n 2, 1, 0), (3, .aload_n 0, 1, 0), (4, .getfield 25, 3, 0), (7, .arraylength, 1, 0), (8, .if_icmp .ge 17, 3, 14), (11, .aload_n 0, 1, 0), (12, .getfield 25, 3, 0), (15, .iload_n 2, 1, 0), (16, .bipush 13, 2, 0), (18, .iastore, 1, 0), (19, .iinc 2 1, 3, 0), (22, .goto (-20), 3, 2), (25, .iconst 0, 1, 0), (26, .istore_n 2, 1, 0), (27, .iload_n 2, 1, 0), (28, .aload_n 0, 1, 0), (29, .getfield 34, 3, 0), (32, .if_icmp .ge 64, 3, 54), (35, .iconst 0, 1, 0), (36, .istore_n 3, 1, 0), (37, .iload_n 3, 1, 0), (38, .iconst 4, 1, 0), (39, .if_icmp .ge 51, 3, 52), (42, .iload_n 3, 1, 0), (43, .bipush 10, 2, 0), (45, .imul, 1, 0), (46, .aload_n 1, 1, 0), (47, .getfield 44, 3, 0), (50, .iload_n 2, 1, 0), (51, .iload_n 3, 1, 0), (52, .invokevirtual 70, 3, 0), (55, .iadd, 1, 0), (56, .istore 4, 2, 0), (58, .iload 4, 2, 0), (60, .ifCond .lt 24, 3, 50), (63, .iload 4, 2, 0), (65, .aload_n 0, 1, 0), (66, .getfield 25, 3, 0), (69, .arraylength, 1, 0), (70, .if_icmp .ge 14, 3, 50), (73, .aload_n 0, 1, 0), (74, .getfield 25, 3, 0), (77, .iload 4, 2, 0), (79, .dup2, 1, 0), (80, .iaload, 1, 0), (81, .iconst 1, 1, 0), (82, .isub, 1, 0), (83, .iastore, 1, 0), (84, .iinc 3 1, 3, 0), (87, .goto (-50), 3, 22), (90, .iinc 2 1, 3, 0), (93, .goto (-66), 3, 16), (96, .return_, 1, 0)], 1)
theorem ok_X0_noteOddness : okM M_X0_noteOddness = true := by decide +kernel
theorem pl_X0_noteOddness : plainFor (mY M_X0_noteOddness) = true := plainFor_of_name pnX0
def M_X4_numberAt : MI := (RX4, yX4_numberAt, cX4_numberAt, 2, (some .int), [(0, .iload_n 1, 1, 0), (1, .ifCond .lt 15, 3, 10), (4, .iload_n 1, 1, 0), (5, .aload_n 0, 1, 0), (6, .arraylength, 1, 0), (7, .if_icmp .ge 9, 3, 10), (10, .aload_n 0, 1, 0), (11, .iload_n 1, 1, 0), (12, .iaload, 1, 0), (13, .goto 4, 3, 11), (16, .iconst 0, 1, 0), (17, .ireturn, 1, 0)], 0)
theorem ok_X4_numberAt : okM M_X4_numberAt = true := by decide +kernel
theorem pl_X4_numberAt : plainFor (mY M_X4_numberAt) = true := plainFor_of_name pnX4
def M_X1_setting : MI := (RX1, yX1_setting, cX1_setting, 2, (some .int), [(0, .iload_n 1, 1, 0), (1, .ifCond .lt 21, 3, 12), (4, .iload_n 1, 1, 0), (5, .aload_n 0, 1, 0), (6, .getfield 24, 3, 0), (9, .arraylength, 1, 0), (10, .if_icmp .ge 12, 3, 12), (13, .aload_n 0, 1, 0), (14, .getfield 24, 3, 0), (17, .iload_n 1, 1, 0), (18, .iaload, 1, 0), (19, .goto 4, 3, 13), (22, .iconst 0, 1, 0), (23, .ireturn, 1, 0)], 0)
theorem ok_X1_setting : okM M_X1_setting = true := by decide +kernel
theorem pl_X1_setting : plainFor (mY M_X1_setting) = true := plainFor_of_name pnX1
def M_X0_weigh : MI := (RX0, yX0_weigh, cX0_weigh, 8, none, [(0, .iconst 0, 1, 0), (1, .istore 4, 2, 0), (3, .iconst 0, 1, 0), (4, .istore 5, 2, 0), (6, .iconst 0, 1, 0), (7, .istore 6, 2, 0), (9, .iload 6, 2, 0), (11, .iconst 4, 1, 0), (12, .if_icmp .ge 68, 3, 40), (15, .aload_n 3, 1, 0), (16, .getfield 60, 3, 0), (19, .iload_n 2, 1, 0), (20, .iload 6, 2, 0), (22, .invokevirtual 70, 3, 0), (25, .istore 7, 2, 0), (27, .iload 7, 2, 0), (29, .aload_n 3, 1, 0), (30, .getfield 44, 3, 0), (33, .iload_n 1, 1, 0), (34, .iload 6, 2, 0), (36, .invokevirtual 70, 3, 0), (39, .if_icmp .ne 26, 3, 34), (42, .iload 5, 2, 0), (44, .aload_n 0, 1, 0), (45, .getfield 25, 3, 0), (48, .iload 6, 2, 0), (50, .bipush 10, 2, 0), (52, .imul, 1, 0), (53, .iload 7, 2, 0), (55, .iadd, 1, 0), (56, .invokestatic 73, 3, 0), (59, .iadd, 1, 0), (60, .istore 5, 2, 0), (62, .goto 12, 3, 38), (65, .iload 7, 2, 0), (67, .iconst (-1), 1, 0), (68, .if_icmp .eq 6, 3, 38), (71, .iinc 4 1, 3, 0), (74, .iinc 6 1, 3, 0), (77, .goto (-68), 3, 6), (80, .iload 5, 2, 0), (82, .iload 4, 2, 0), (84, .aload_n 3, 1, 0), (85, .iconst 1, 1, 0), (86, .invokevirtual 77, 3, 0), (89, .imul, 1, 0), (90, .isub, 1, 0), (91, .aload_n 3, 1, 0), (92, .getfield 60, 3, 0), (95, .iload_n 2, 1, 0), (96, .iconst 5, 1, 0), (97, .invokevirtual 70, 3, 0), (100, .aload_n 3, 1, 0), (101, .iconst 2, 1, 0), (102, .invokevirtual 77, 3, 0), (105, .imul, 1, 0), (106, .isub, 1, 0), (107, .istore 6, 2, 0), (109, .aload_n 0, 1, 0), (110, .iload_n 1, 1, 0), (111, .iload_n 2, 1, 0), (112, .invokevirtual 81, 3, 0), (115, .istore 7, 2, 0), (117, .iload 7, 2, 0), (119, .ifCond .lt 61, 3, 95), (122, .iload 7, 2, 0), (124, .sipush 144, 3, 0), (127, .if_icmp .ge 53, 3, 95), (130, .aload_n 0, 1, 0), (131, .getfield 9, 3, 0), (134, .iload 7, 2, 0), (136, .iload 4, 2, 0), (138, .iastore, 1, 0), (139, .aload_n 0, 1, 0), (140, .getfield 15, 3, 0), (143, .iload 7, 2, 0), (145, .iload 6, 2, 0), (147, .iastore, 1, 0), (148, .aload_n 0, 1, 0), (149, .getfield 18, 3, 0), (152, .iload 7, 2, 0), (154, .iload 4, 2, 0), (156, .aload_n 3, 1, 0), (157, .iconst 0, 1, 0), (158, .invokevirtual 77, 3, 0), (161, .if_icmp .gt 17, 3, 93), (164, .iload 6, 2, 0), (166, .aload_n 3, 1, 0), (167, .iconst 3, 1, 0), (168, .invokevirtual 77, 3, 0), (171, .if_icmp .lt 7, 3, 93), (174, .iconst 1, 1, 0), (175, .goto 4, 3, 94), (178, .iconst 0, 1, 0), (179, .bastore, 1, 0), (180, .return_, 1, 0)], 1)
theorem ok_X0_weigh : okM M_X0_weigh = true := by decide +kernel
theorem pl_X0_weigh : plainFor (mY M_X0_weigh) = true := plainFor_of_name pnX0
def M_X0_weighAll : MI := (RX0, yX0_weighAll, cX0_weighAll, 4, none, [(0, .aload_n 0, 1, 0), (1, .aload_n 1, 1, 0), (2, .getfield 44, 3, 0), (5, .getfield 49, 3, 0), (8, .bipush 12, 2, 0), (10, .invokestatic 54, 3, 0), (13, .putfield 34, 3, 0), (16, .aload_n 0, 1, 0), (17, .aload_n 1, 1, 0), (18, .getfield 60, 3, 0), (21, .getfield 49, 3, 0), (24, .bipush 12, 2, 0), (26, .invokestatic 54, 3, 0), (29, .putfield 38, 3, 0), (32, .aload_n 0, 1, 0), (33, .aload_n 1, 1, 0), (34, .invokevirtual 62, 3, 0), (37, .iconst 0, 1, 0), (38, .istore_n 2, 1, 0), (39, .iload_n 2, 1, 0), (40, .aload_n 0, 1, 0), (41, .getfield 34, 3, 0), (44, .if_icmp .ge 32, 3, 38), (47, .iconst 0, 1, 0), (48, .istore_n 3, 1, 0), (49, .iload_n 3, 1, 0), (50, .aload_n 0, 1, 0), (51, .getfield 38, 3, 0), (54, .if_icmp .ge 16, 3, 36), (57, .aload_n 0, 1, 0), (58, .iload_n 2, 1, 0), (59, .iload_n 3, 1, 0), (60, .aload_n 1, 1, 0), (61, .invokevirtual 66, 3, 0), (64, .iinc 3 1, 3, 0), (67, .goto (-18), 3, 25), (70, .iinc 2 1, 3, 0), (73, .goto (-34), 3, 19), (76, .return_, 1, 0)], 2)
theorem ok_X0_weighAll : okM M_X0_weighAll = true := by decide +kernel
theorem pl_X0_weighAll : plainFor (mY M_X0_weighAll) = true := plainFor_of_name pnX0
def M_X0_matchAll : MI := (RX0, yX0_matchAll, cX0_matchAll, 4, none, [(0, .aload_n 0, 1, 0), (1, .aload_n 1, 1, 0), (2, .invokevirtual 88, 3, 0), (5, .aload_n 0, 1, 0), (6, .invokevirtual 91, 3, 0), (9, .iconst 0, 1, 0), (10, .istore_n 2, 1, 0), (11, .iload_n 2, 1, 0), (12, .bipush 12, 2, 0), (14, .if_icmp .ge 32, 3, 27), (17, .aload_n 0, 1, 0), (18, .invokevirtual 94, 3, 0), (21, .istore_n 3, 1, 0), (22, .iload_n 3, 1, 0), (23, .iconst (-1), 1, 0), (24, .if_icmp .ne 4, 3, 17), (27, .return_, 1, 0), (28, .aload_n 0, 1, 0), (29, .iload_n 3, 1, 0), (30, .bipush 12, 2, 0), (32, .idiv, 1, 0), (33, .iload_n 3, 1, 0), (34, .bipush 12, 2, 0), (36, .irem, 1, 0), (37, .invokevirtual 98, 3, 0), (40, .iinc 2 1, 3, 0), (43, .goto (-32), 3, 7), (46, .return_, 1, 0)], 3)
theorem ok_X0_matchAll : okM M_X0_matchAll = true := by decide +kernel
theorem pl_X0_matchAll : plainFor (mY M_X0_matchAll) = true := plainFor_of_name pnX0
def M_X0_nextPairOf : MI := (RX0, yX0_nextPairOf, cX0_nextPairOf, 5, (some .int), [(0, .iconst (-1), 1, 0), (1, .istore_n 2, 1, 0), (2, .iconst 0, 1, 0), (3, .istore_n 3, 1, 0), (4, .iload_n 3, 1, 0), (5, .aload_n 0, 1, 0), (6, .getfield 34, 3, 0), (9, .if_icmp .ge 58, 3, 35), (12, .aload_n 0, 1, 0), (13, .iload_n 3, 1, 0), (14, .iload_n 1, 1, 0), (15, .invokevirtual 81, 3, 0), (18, .istore 4, 2, 0), (20, .iload 4, 2, 0), (22, .ifCond .lt 39, 3, 33), (25, .iload 4, 2, 0), (27, .sipush 144, 3, 0), (30, .if_icmp .ge 31, 3, 33), (33, .aload_n 0, 1, 0), (34, .getfield 18, 3, 0), (37, .iload 4, 2, 0), (39, .baload, 1, 0), (40, .ifCond .eq 21, 3, 33), (43, .aload_n 0, 1, 0), (44, .getfield 22, 3, 0), (47, .iload 4, 2, 0), (49, .baload, 1, 0), (50, .ifCond .ne 11, 3, 33), (53, .aload_n 0, 1, 0), (54, .iload 4, 2, 0), (56, .iload_n 2, 1, 0), (57, .invokevirtual 108, 3, 0), (60, .istore_n 2, 1, 0), (61, .iinc 3 1, 3, 0), (64, .goto (-60), 3, 4), (67, .iload_n 2, 1, 0), (68, .ireturn, 1, 0)], 2)
theorem ok_X0_nextPairOf : okM M_X0_nextPairOf = true := by decide +kernel
theorem pl_X0_nextPairOf : plainFor (mY M_X0_nextPairOf) = true := plainFor_of_name pnX0
def M_X0_nextAsk : MI := (RX0, yX0_nextAsk, cX0_nextAsk, 3, (some .int), [(0, .iconst 0, 1, 0), (1, .istore_n 1, 1, 0), (2, .iload_n 1, 1, 0), (3, .aload_n 0, 1, 0), (4, .getfield 38, 3, 0), (7, .if_icmp .ge 31, 3, 22), (10, .aload_n 0, 1, 0), (11, .iload_n 1, 1, 0), (12, .invokevirtual 105, 3, 0), (15, .iconst (-1), 1, 0), (16, .if_icmp .ne 16, 3, 20), (19, .aload_n 0, 1, 0), (20, .iload_n 1, 1, 0), (21, .invokevirtual 121, 3, 0), (24, .istore_n 2, 1, 0), (25, .iload_n 2, 1, 0), (26, .iconst (-1), 1, 0), (27, .if_icmp .eq 5, 3, 20), (30, .iload_n 2, 1, 0), (31, .ireturn, 1, 0), (32, .iinc 1 1, 3, 0), (35, .goto (-33), 3, 2), (38, .iconst (-1), 1, 0), (39, .ireturn, 1, 0)], 3)
theorem ok_X0_nextAsk : okM M_X0_nextAsk = true := by decide +kernel
theorem pl_X0_nextAsk : plainFor (mY M_X0_nextAsk) = true := plainFor_of_name pnX0
def M_X0_matchByAsking : MI := (RX0, yX0_matchByAsking, cX0_matchByAsking, 4, none, [(0, .aload_n 0, 1, 0), (1, .aload_n 1, 1, 0), (2, .invokevirtual 88, 3, 0), (5, .aload_n 0, 1, 0), (6, .invokevirtual 91, 3, 0), (9, .iconst 0, 1, 0), (10, .istore_n 2, 1, 0), (11, .iload_n 2, 1, 0), (12, .aload_n 0, 1, 0), (13, .getfield 22, 3, 0), (16, .arraylength, 1, 0), (17, .if_icmp .ge 16, 3, 19), (20, .aload_n 0, 1, 0), (21, .getfield 22, 3, 0), (24, .iload_n 2, 1, 0), (25, .iconst 0, 1, 0), (26, .bastore, 1, 0), (27, .iinc 2 1, 3, 0), (30, .goto (-19), 3, 7), (33, .iconst 0, 1, 0), (34, .istore_n 2, 1, 0), (35, .iload_n 2, 1, 0), (36, .sipush 144, 3, 0), (39, .if_icmp .ge 25, 3, 36), (42, .aload_n 0, 1, 0), (43, .invokevirtual 114, 3, 0), (46, .istore_n 3, 1, 0), (47, .iload_n 3, 1, 0), (48, .iconst (-1), 1, 0), (49, .if_icmp .ne 4, 3, 31), (52, .return_, 1, 0), (53, .aload_n 0, 1, 0), (54, .iload_n 3, 1, 0), (55, .invokevirtual 117, 3, 0), (58, .iinc 2 1, 3, 0), (61, .goto (-26), 3, 21), (64, .return_, 1, 0)], 4)
theorem ok_X0_matchByAsking : okM M_X0_matchByAsking = true := by decide +kernel
theorem pl_X0_matchByAsking : plainFor (mY M_X0_matchByAsking) = true := plainFor_of_name pnX0
def M_X0_reasonAgainst : MI := (RX0, yX0_reasonAgainst, cX0_reasonAgainst, 6, (some .int), [(0, .aload_n 0, 1, 0), (1, .iload_n 1, 1, 0), (2, .iload_n 2, 1, 0), (3, .invokevirtual 81, 3, 0), (6, .istore 4, 2, 0), (8, .aload_n 0, 1, 0), (9, .iload_n 1, 1, 0), (10, .invokevirtual 102, 3, 0), (13, .istore 5, 2, 0), (15, .iload 4, 2, 0), (17, .ifCond .lt 17, 3, 17), (20, .iload 4, 2, 0), (22, .sipush 144, 3, 0), (25, .if_icmp .ge 9, 3, 17), (28, .iload 5, 2, 0), (30, .iload_n 2, 1, 0), (31, .if_icmp .ne 5, 3, 19), (34, .iconst 0, 1, 0), (35, .ireturn, 1, 0), (36, .aload_n 0, 1, 0), (37, .getfield 9, 3, 0), (40, .iload 4, 2, 0), (42, .iaload, 1, 0), (43, .aload_n 3, 1, 0), (44, .iconst 0, 1, 0), (45, .invokevirtual 77, 3, 0), (48, .if_icmp .le 5, 3, 29), (51, .iconst 1, 1, 0), (52, .ireturn, 1, 0), (53, .aload_n 0, 1, 0), (54, .getfield 18, 3, 0), (57, .iload 4, 2, 0), (59, .baload, 1, 0), (60, .ifCond .ne 5, 3, 36), (63, .iconst 2, 1, 0), (64, .ireturn, 1, 0), (65, .aload_n 0, 1, 0), (66, .aload_n 0, 1, 0), (67, .iload_n 1, 1, 0), (68, .iload 5, 2, 0), (70, .invokevirtual 81, 3, 0), (73, .iload 4, 2, 0), (75, .invokevirtual 108, 3, 0), (78, .iload 4, 2, 0), (80, .if_icmp .ne 7, 3, 47), (83, .iconst 4, 1, 0), (84, .goto 4, 3, 48), (87, .iconst 3, 1, 0), (88, .ireturn, 1, 0)], 2)
theorem ok_X0_reasonAgainst : okM M_X0_reasonAgainst = true := by decide +kernel
theorem pl_X0_reasonAgainst : plainFor (mY M_X0_reasonAgainst) = true := plainFor_of_name pnX0
def M_X0_umbrellasSuiting : MI := (RX0, yX0_umbrellasSuiting, cX0_umbrellasSuiting, 4, (some .int), [(0, .iconst 0, 1, 0), (1, .istore_n 2, 1, 0), (2, .iconst 0, 1, 0), (3, .istore_n 3, 1, 0), (4, .iload_n 3, 1, 0), (5, .aload_n 0, 1, 0), (6, .getfield 34, 3, 0), (9, .if_icmp .ge 21, 3, 16), (12, .aload_n 0, 1, 0), (13, .iload_n 3, 1, 0), (14, .iload_n 1, 1, 0), (15, .invokevirtual 84, 3, 0), (18, .ifCond .eq 6, 3, 14), (21, .iinc 2 1, 3, 0), (24, .iinc 3 1, 3, 0), (27, .goto (-23), 3, 4), (30, .iload_n 2, 1, 0), (31, .ireturn, 1, 0)], 2)
theorem ok_X0_umbrellasSuiting : okM M_X0_umbrellasSuiting = true := by decide +kernel
theorem pl_X0_umbrellasSuiting : plainFor (mY M_X0_umbrellasSuiting) = true := plainFor_of_name pnX0
def M_X0_worthOf : MI := (RX0, yX0_worthOf, cX0_worthOf, 3, (some .int), [(0, .aload_n 0, 1, 0), (1, .getfield 15, 3, 0), (4, .aload_n 0, 1, 0), (5, .iload_n 1, 1, 0), (6, .iload_n 2, 1, 0), (7, .invokevirtual 81, 3, 0), (10, .invokestatic 73, 3, 0), (13, .ireturn, 1, 0)], 1)
theorem ok_X0_worthOf : okM M_X0_worthOf = true := by decide +kernel
theorem pl_X0_worthOf : plainFor (mY M_X0_worthOf) = true := plainFor_of_name pnX0
def M_X0_worthOfMatched : MI := (RX0, yX0_worthOfMatched, cX0_worthOfMatched, 4, (some .int), [(0, .iconst 0, 1, 0), (1, .istore_n 1, 1, 0), (2, .iconst 0, 1, 0), (3, .istore_n 2, 1, 0), (4, .iload_n 2, 1, 0), (5, .aload_n 0, 1, 0), (6, .getfield 34, 3, 0), (9, .if_icmp .ge 29, 3, 24), (12, .aload_n 0, 1, 0), (13, .iload_n 2, 1, 0), (14, .invokevirtual 102, 3, 0), (17, .istore_n 3, 1, 0), (18, .iload_n 3, 1, 0), (19, .iconst (-1), 1, 0), (20, .if_icmp .eq 12, 3, 22), (23, .iload_n 1, 1, 0), (24, .aload_n 0, 1, 0), (25, .iload_n 2, 1, 0), (26, .iload_n 3, 1, 0), (27, .invokevirtual 111, 3, 0), (30, .iadd, 1, 0), (31, .istore_n 1, 1, 0), (32, .iinc 2 1, 3, 0), (35, .goto (-31), 3, 4), (38, .iload_n 1, 1, 0), (39, .ireturn, 1, 0)], 2)
theorem ok_X0_worthOfMatched : okM M_X0_worthOfMatched = true := by decide +kernel
theorem pl_X0_worthOfMatched : plainFor (mY M_X0_worthOfMatched) = true := plainFor_of_name pnX0
def M_X1_addTo : MI := (RX1, yX1_addTo, cX1_addTo, 3, none, [(0, .iload_n 1, 1, 0), (1, .ifCond .lt 22, 3, 15), (4, .iload_n 1, 1, 0), (5, .aload_n 0, 1, 0), (6, .getfield 28, 3, 0), (9, .arraylength, 1, 0), (10, .if_icmp .ge 13, 3, 15), (13, .aload_n 0, 1, 0), (14, .getfield 28, 3, 0), (17, .iload_n 1, 1, 0), (18, .dup2, 1, 0), (19, .iaload, 1, 0), (20, .iload_n 2, 1, 0), (21, .iadd, 1, 0), (22, .iastore, 1, 0), (23, .return_, 1, 0)], 0)
theorem ok_X1_addTo : okM M_X1_addTo = true := by decide +kernel
theorem pl_X1_addTo : plainFor (mY M_X1_addTo) = true := plainFor_of_name pnX1
def M_X2_become : MI := (RX2, yX2_become, cX2_become, 2, none, [(0, .aload_n 1, 1, 0), (1, .ifnull 26, 3, 14), (4, .aload_n 1, 1, 0), (5, .getfield 9, 3, 0), (8, .iconst 0, 1, 0), (9, .aload_n 0, 1, 0), (10, .getfield 9, 3, 0), (13, .iconst 0, 1, 0), (14, .bipush 72, 2, 0), (16, .invokestatic 19, 3, 0), (19, .aload_n 0, 1, 0), (20, .aload_n 1, 1, 0), (21, .getfield 15, 3, 0), (24, .putfield 15, 3, 0), (27, .return_, 1, 0)], 1)
theorem ok_X2_become : okM M_X2_become = true := by decide +kernel
theorem pl_X2_become : plainFor (mY M_X2_become) = true := plainFor_of_name pnX2
def M_X1_become : MI := (RX1, yX1_become, cX1_become, 2, none, [(0, .aload_n 1, 1, 0), (1, .ifnull 66, 3, 33), (4, .aload_n 0, 1, 0), (5, .getfield 12, 3, 0), (8, .aload_n 1, 1, 0), (9, .getfield 12, 3, 0), (12, .invokevirtual 40, 3, 0), (15, .aload_n 0, 1, 0), (16, .getfield 18, 3, 0), (19, .aload_n 1, 1, 0), (20, .getfield 18, 3, 0), (23, .invokevirtual 40, 3, 0), (26, .aload_n 0, 1, 0), (27, .getfield 21, 3, 0), (30, .aload_n 1, 1, 0), (31, .getfield 21, 3, 0), (34, .invokevirtual 40, 3, 0), (37, .aload_n 1, 1, 0), (38, .getfield 24, 3, 0), (41, .iconst 0, 1, 0), (42, .aload_n 0, 1, 0), (43, .getfield 24, 3, 0), (46, .iconst 0, 1, 0), (47, .bipush 7, 2, 0), (49, .invokestatic 34, 3, 0), (52, .aload_n 1, 1, 0), (53, .getfield 28, 3, 0), (56, .iconst 0, 1, 0), (57, .aload_n 0, 1, 0), (58, .getfield 28, 3, 0), (61, .iconst 0, 1, 0), (62, .bipush 12, 2, 0), (64, .invokestatic 34, 3, 0), (67, .return_, 1, 0)], 2)
theorem ok_X1_become : okM M_X1_become = true := by decide +kernel
theorem pl_X1_become : plainFor (mY M_X1_become) = true := plainFor_of_name pnX1
def M_X1_changeSetting : MI := (RX1, yX1_changeSetting, cX1_changeSetting, 4, (some .int), [(0, .iload_n 1, 1, 0), (1, .ifCond .lt 34, 3, 17), (4, .iload_n 1, 1, 0), (5, .aload_n 0, 1, 0), (6, .getfield 24, 3, 0), (9, .arraylength, 1, 0), (10, .if_icmp .ge 25, 3, 17), (13, .iload_n 2, 1, 0), (14, .getstatic 87, 3, 0), (17, .iload_n 1, 1, 0), (18, .invokestatic 90, 3, 0), (21, .if_icmp .lt 14, 3, 17), (24, .iload_n 2, 1, 0), (25, .getstatic 94, 3, 0), (28, .iload_n 1, 1, 0), (29, .invokestatic 90, 3, 0), (32, .if_icmp .le 6, 3, 19), (35, .ldc 59, 2, 0), (37, .ireturn, 1, 0), (38, .aload_n 0, 1, 0), (39, .getfield 24, 3, 0), (42, .iload_n 1, 1, 0), (43, .iaload, 1, 0), (44, .istore_n 3, 1, 0), (45, .aload_n 0, 1, 0), (46, .getfield 24, 3, 0), (49, .iload_n 1, 1, 0), (50, .iload_n 2, 1, 0), (51, .iastore, 1, 0), (52, .iload_n 3, 1, 0), (53, .ireturn, 1, 0)], 1)
theorem ok_X1_changeSetting : okM M_X1_changeSetting = true := by decide +kernel
theorem pl_X1_changeSetting : plainFor (mY M_X1_changeSetting) = true := plainFor_of_name pnX1
def M_X2_has : MI := (RX2, yX2_has, cX2_has, 2, (some .boolean), [(0, .iload_n 1, 1, 0), (1, .ifCond .lt 15, 3, 8), (4, .iload_n 1, 1, 0), (5, .aload_n 0, 1, 0), (6, .getfield 15, 3, 0), (9, .if_icmp .ge 7, 3, 8), (12, .iconst 1, 1, 0), (13, .goto 4, 3, 9), (16, .iconst 0, 1, 0), (17, .ireturn, 1, 0)], 0)
theorem ok_X2_has : okM M_X2_has = true := by decide +kernel
theorem pl_X2_has : plainFor (mY M_X2_has) = true := plainFor_of_name pnX2
def M_X2_remove : MI := (RX2, yX2_remove, cX2_remove, 3, none, [(0, .iload_n 1, 1, 0), (1, .ifCond .lt 11, 3, 6), (4, .iload_n 1, 1, 0), (5, .aload_n 0, 1, 0), (6, .getfield 15, 3, 0), (9, .if_icmp .lt 4, 3, 7), (12, .return_, 1, 0), (13, .iload_n 1, 1, 0), (14, .bipush 6, 2, 0), (16, .imul, 1, 0), (17, .istore_n 2, 1, 0), (18, .iload_n 2, 1, 0), (19, .bipush 6, 2, 0), (21, .iadd, 1, 0), (22, .aload_n 0, 1, 0), (23, .getfield 9, 3, 0), (26, .arraylength, 1, 0), (27, .if_icmp .ge 24, 3, 30), (30, .aload_n 0, 1, 0), (31, .getfield 9, 3, 0), (34, .iload_n 2, 1, 0), (35, .aload_n 0, 1, 0), (36, .getfield 9, 3, 0), (39, .iload_n 2, 1, 0), (40, .bipush 6, 2, 0), (42, .iadd, 1, 0), (43, .iaload, 1, 0), (44, .iastore, 1, 0), (45, .iinc 2 1, 3, 0), (48, .goto (-30), 3, 11), (51, .aload_n 0, 1, 0), (52, .dup, 1, 0), (53, .getfield 15, 3, 0), (56, .iconst 1, 1, 0), (57, .isub, 1, 0), (58, .putfield 15, 3, 0), (61, .return_, 1, 0)], 0)
theorem ok_X2_remove : okM M_X2_remove = true := by decide +kernel
theorem pl_X2_remove : plainFor (mY M_X2_remove) = true := plainFor_of_name pnX2
def M_X1_dropClaim : MI := (RX1, yX1_dropClaim, cX1_dropClaim, 2, (some .int), [(0, .aload_n 0, 1, 0), (1, .getfield 18, 3, 0), (4, .iload_n 1, 1, 0), (5, .invokevirtual 73, 3, 0), (8, .ifCond .ne 6, 3, 7), (11, .ldc 59, 2, 0), (13, .ireturn, 1, 0), (14, .aload_n 0, 1, 0), (15, .getfield 18, 3, 0), (18, .iload_n 1, 1, 0), (19, .invokevirtual 83, 3, 0), (22, .aload_n 0, 1, 0), (23, .bipush 11, 2, 0), (25, .iconst 1, 1, 0), (26, .invokevirtual 61, 3, 0), (29, .aload_n 0, 1, 0), (30, .getfield 18, 3, 0), (33, .getfield 44, 3, 0), (36, .ireturn, 1, 0)], 1)
theorem ok_X1_dropClaim : okM M_X1_dropClaim = true := by decide +kernel
theorem pl_X1_dropClaim : plainFor (mY M_X1_dropClaim) = true := plainFor_of_name pnX1
def M_X1_sum : MI := (RX1, yX1_sum, cX1_sum, 2, (some .int), [(0, .iload_n 1, 1, 0), (1, .ifCond .lt 21, 3, 12), (4, .iload_n 1, 1, 0), (5, .aload_n 0, 1, 0), (6, .getfield 28, 3, 0), (9, .arraylength, 1, 0), (10, .if_icmp .ge 12, 3, 12), (13, .aload_n 0, 1, 0), (14, .getfield 28, 3, 0), (17, .iload_n 1, 1, 0), (18, .iaload, 1, 0), (19, .goto 4, 3, 13), (22, .iconst 0, 1, 0), (23, .ireturn, 1, 0)], 0)
theorem ok_X1_sum : okM M_X1_sum = true := by decide +kernel
theorem pl_X1_sum : plainFor (mY M_X1_sum) = true := plainFor_of_name pnX1
def M_X2_append : MI := (RX2, yX2_append, cX2_append, 6, (some .int), [(0, .aload_n 0, 1, 0), (1, .getfield 15, 3, 0), (4, .bipush 6, 2, 0), (6, .imul, 1, 0), (7, .istore 5, 2, 0), (9, .iload 5, 2, 0), (11, .ifCond .lt 16, 3, 14), (14, .iload 5, 2, 0), (16, .bipush 6, 2, 0), (18, .iadd, 1, 0), (19, .aload_n 0, 1, 0), (20, .getfield 9, 3, 0), (23, .arraylength, 1, 0), (24, .if_icmp .le 5, 3, 16), (27, .iconst (-1), 1, 0), (28, .ireturn, 1, 0), (29, .aload_n 0, 1, 0), (30, .getfield 9, 3, 0), (33, .iload 5, 2, 0), (35, .iload_n 1, 1, 0), (36, .iastore, 1, 0), (37, .aload_n 0, 1, 0), (38, .getfield 9, 3, 0), (41, .iload 5, 2, 0), (43, .iconst 1, 1, 0), (44, .iadd, 1, 0), (45, .iload_n 2, 1, 0), (46, .iastore, 1, 0), (47, .aload_n 0, 1, 0), (48, .getfield 9, 3, 0), (51, .iload 5, 2, 0), (53, .iconst 2, 1, 0), (54, .iadd, 1, 0), (55, .iload_n 3, 1, 0), (56, .iastore, 1, 0), (57, .aload_n 0, 1, 0), (58, .getfield 9, 3, 0), (61, .iload 5, 2, 0), (63, .iconst 3, 1, 0), (64, .iadd, 1, 0), (65, .iload 4, 2, 0), (67, .iastore, 1, 0), (68, .aload_n 0, 1, 0), (69, .getfield 9, 3, 0), (72, .iload 5, 2, 0), (74, .iconst 4, 1, 0), (75, .iadd, 1, 0), (76, .iconst 0, 1, 0), (77, .iastore, 1, 0), (78, .aload_n 0, 1, 0), (79, .getfield 9, 3, 0), (82, .iload 5, 2, 0), (84, .iconst 5, 1, 0), (85, .iadd, 1, 0), (86, .iconst 0, 1, 0), (87, .iastore, 1, 0), (88, .aload_n 0, 1, 0), (89, .dup, 1, 0), (90, .getfield 15, 3, 0), (93, .iconst 1, 1, 0), (94, .iadd, 1, 0), (95, .putfield 15, 3, 0), (98, .aload_n 0, 1, 0), (99, .getfield 15, 3, 0), (102, .iconst 1, 1, 0), (103, .isub, 1, 0), (104, .ireturn, 1, 0)], 0)
theorem ok_X2_append : okM M_X2_append = true := by decide +kernel
theorem pl_X2_append : plainFor (mY M_X2_append) = true := plainFor_of_name pnX2
def M_X1_enter : MI := (RX1, yX1_enter, cX1_enter, 4, none, [(0, .aload_n 0, 1, 0), (1, .getfield 21, 3, 0), (4, .getfield 44, 3, 0), (7, .bipush 10, 2, 0), (9, .if_icmp .lt 11, 3, 9), (12, .aload_n 0, 1, 0), (13, .getfield 21, 3, 0), (16, .iconst 0, 1, 0), (17, .invokevirtual 83, 3, 0), (20, .aload_n 0, 1, 0), (21, .getfield 21, 3, 0), (24, .aload_n 0, 1, 0), (25, .iconst 0, 1, 0), (26, .invokevirtual 100, 3, 0), (29, .iload_n 1, 1, 0), (30, .iload_n 2, 1, 0), (31, .iload_n 3, 1, 0), (32, .invokevirtual 65, 3, 0), (35, .pop, 1, 0), (36, .aload_n 0, 1, 0), (37, .bipush 10, 2, 0), (39, .iload_n 3, 1, 0), (40, .invokevirtual 61, 3, 0), (43, .return_, 1, 0)], 1)
theorem ok_X1_enter : okM M_X1_enter = true := by decide +kernel
theorem pl_X1_enter : plainFor (mY M_X1_enter) = true := plainFor_of_name pnX1
def M_X1_endOld : MI := (RX1, yX1_endOld, cX1_endOld, 8, none, [(0, .iconst 0, 1, 0), (1, .istore 5, 2, 0), (3, .aload_n 1, 1, 0), (4, .getfield 44, 3, 0), (7, .istore 6, 2, 0), (9, .iload 6, 2, 0), (11, .ifCond .le 55, 3, 33), (14, .aload_n 1, 1, 0), (15, .iload 5, 2, 0), (17, .iconst 4, 1, 0), (18, .invokevirtual 48, 3, 0), (21, .istore 7, 2, 0), (23, .iload 7, 2, 0), (25, .aload_n 0, 1, 0), (26, .iconst 5, 1, 0), (27, .invokevirtual 107, 3, 0), (30, .if_icmp .ge 9, 3, 19), (33, .iinc 5 1, 3, 0), (36, .goto 24, 3, 31), (39, .aload_n 1, 1, 0), (40, .iload 5, 2, 0), (42, .invokevirtual 83, 3, 0), (45, .aload_n 0, 1, 0), (46, .iload_n 3, 1, 0), (47, .iconst 1, 1, 0), (48, .invokevirtual 61, 3, 0), (51, .aload_n 0, 1, 0), (52, .iload_n 2, 1, 0), (53, .iload 7, 2, 0), (55, .iload 4, 2, 0), (57, .invokevirtual 114, 3, 0), (60, .iinc 6 (-1), 3, 0), (63, .goto (-54), 3, 5), (66, .return_, 1, 0)], 2)
theorem ok_X1_endOld : okM M_X1_endOld = true := by decide +kernel
theorem pl_X1_endOld : plainFor (mY M_X1_endOld) = true := plainFor_of_name pnX1
def M_X2_put : MI := (RX2, yX2_put, cX2_put, 5, none, [(0, .iload_n 1, 1, 0), (1, .ifCond .lt 21, 3, 11), (4, .iload_n 1, 1, 0), (5, .aload_n 0, 1, 0), (6, .getfield 15, 3, 0), (9, .if_icmp .ge 13, 3, 11), (12, .iload_n 2, 1, 0), (13, .ifCond .lt 9, 3, 11), (16, .iload_n 2, 1, 0), (17, .bipush 6, 2, 0), (19, .if_icmp .lt 4, 3, 12), (22, .return_, 1, 0), (23, .iload_n 1, 1, 0), (24, .bipush 6, 2, 0), (26, .imul, 1, 0), (27, .iload_n 2, 1, 0), (28, .iadd, 1, 0), (29, .istore 4, 2, 0), (31, .iload 4, 2, 0), (33, .ifCond .lt 21, 3, 30), (36, .iload 4, 2, 0), (38, .aload_n 0, 1, 0), (39, .getfield 9, 3, 0), (42, .arraylength, 1, 0), (43, .if_icmp .ge 11, 3, 30), (46, .aload_n 0, 1, 0), (47, .getfield 9, 3, 0), (50, .iload 4, 2, 0), (52, .iload_n 3, 1, 0), (53, .iastore, 1, 0), (54, .return_, 1, 0)], 0)
theorem ok_X2_put : okM M_X2_put = true := by decide +kernel
theorem pl_X2_put : plainFor (mY M_X2_put) = true := plainFor_of_name pnX2
def M_X1_growOlder : MI := (RX1, yX1_growOlder, cX1_growOlder, 3, none, [(0, .iconst 0, 1, 0), (1, .istore_n 2, 1, 0), (2, .iload_n 2, 1, 0), (3, .aload_n 1, 1, 0), (4, .getfield 44, 3, 0), (7, .if_icmp .ge 23, 3, 18), (10, .aload_n 1, 1, 0), (11, .iload_n 2, 1, 0), (12, .iconst 4, 1, 0), (13, .aload_n 1, 1, 0), (14, .iload_n 2, 1, 0), (15, .iconst 4, 1, 0), (16, .invokevirtual 48, 3, 0), (19, .iconst 1, 1, 0), (20, .iadd, 1, 0), (21, .invokevirtual 79, 3, 0), (24, .iinc 2 1, 3, 0), (27, .goto (-25), 3, 2), (30, .return_, 1, 0)], 1)
theorem ok_X1_growOlder : okM M_X1_growOlder = true := by decide +kernel
theorem pl_X1_growOlder : plainFor (mY M_X1_growOlder) = true := plainFor_of_name pnX1
def M_X1_handOut : MI := (RX1, yX1_handOut, cX1_handOut, 4, (some .int), [(0, .iconst 0, 1, 0), (1, .istore_n 2, 1, 0), (2, .iload_n 2, 1, 0), (3, .aload_n 0, 1, 0), (4, .getfield 12, 3, 0), (7, .getfield 44, 3, 0), (10, .if_icmp .ge 48, 3, 33), (13, .aload_n 1, 1, 0), (14, .iload_n 2, 1, 0), (15, .invokevirtual 117, 3, 0), (18, .iconst (-1), 1, 0), (19, .if_icmp .eq 33, 3, 31), (22, .aload_n 0, 1, 0), (23, .getfield 12, 3, 0), (26, .iload_n 2, 1, 0), (27, .iconst 4, 1, 0), (28, .invokevirtual 48, 3, 0), (31, .istore_n 3, 1, 0), (32, .aload_n 0, 1, 0), (33, .iconst 0, 1, 0), (34, .iload_n 3, 1, 0), (35, .iload_n 3, 1, 0), (36, .aload_n 0, 1, 0), (37, .iconst 4, 1, 0), (38, .invokevirtual 107, 3, 0), (41, .imul, 1, 0), (42, .invokevirtual 114, 3, 0), (45, .aload_n 0, 1, 0), (46, .bipush 7, 2, 0), (48, .iconst 1, 1, 0), (49, .invokevirtual 61, 3, 0), (52, .iinc 2 1, 3, 0), (55, .goto (-53), 3, 2), (58, .aload_n 0, 1, 0), (59, .getfield 12, 3, 0), (62, .getfield 44, 3, 0), (65, .iconst 1, 1, 0), (66, .isub, 1, 0), (67, .istore_n 2, 1, 0), (68, .iload_n 2, 1, 0), (69, .ifCond .lt 26, 3, 52), (72, .aload_n 1, 1, 0), (73, .iload_n 2, 1, 0), (74, .invokevirtual 117, 3, 0), (77, .iconst (-1), 1, 0), (78, .if_icmp .eq 11, 3, 50), (81, .aload_n 0, 1, 0), (82, .getfield 12, 3, 0), (85, .iload_n 2, 1, 0), (86, .invokevirtual 83, 3, 0), (89, .iinc 2 (-1), 3, 0), (92, .goto (-24), 3, 39), (95, .aload_n 0, 1, 0), (96, .getfield 18, 3, 0), (99, .getfield 44, 3, 0), (102, .iconst 1, 1, 0), (103, .isub, 1, 0), (104, .istore_n 2, 1, 0), (105, .iload_n 2, 1, 0), (106, .ifCond .lt 26, 3, 71), (109, .aload_n 1, 1, 0), (110, .iload_n 2, 1, 0), (111, .invokevirtual 122, 3, 0), (114, .iconst (-1), 1, 0), (115, .if_icmp .eq 11, 3, 69), (118, .aload_n 0, 1, 0), (119, .getfield 18, 3, 0), (122, .iload_n 2, 1, 0), (123, .invokevirtual 83, 3, 0), (126, .iinc 2 (-1), 3, 0), (129, .goto (-24), 3, 58), (132, .aload_n 1, 1, 0), (133, .getfield 125, 3, 0), (136, .ireturn, 1, 0)], 2)
theorem ok_X1_handOut : okM M_X1_handOut = true := by decide +kernel
theorem pl_X1_handOut : plainFor (mY M_X1_handOut) = true := plainFor_of_name pnX1
def M_X4_isDetail : MI := (RX4, yX4_isDetail, cX4_isDetail, 1, (some .boolean), [(0, .iload_n 0, 1, 0), (1, .ifCond .lt 12, 3, 7), (4, .iload_n 0, 1, 0), (5, .iconst 4, 1, 0), (6, .if_icmp .ge 7, 3, 7), (9, .iconst 1, 1, 0), (10, .goto 4, 3, 8), (13, .iconst 0, 1, 0), (14, .ireturn, 1, 0)], 0)
theorem ok_X4_isDetail : okM M_X4_isDetail = true := by decide +kernel
theorem pl_X4_isDetail : plainFor (mY M_X4_isDetail) = true := plainFor_of_name pnX4
def M_X4_isValue : MI := (RX4, yX4_isValue, cX4_isValue, 1, (some .boolean), [(0, .iload_n 0, 1, 0), (1, .ifCond .lt 13, 3, 7), (4, .iload_n 0, 1, 0), (5, .bipush 10, 2, 0), (7, .if_icmp .ge 7, 3, 7), (10, .iconst 1, 1, 0), (11, .goto 4, 3, 8), (14, .iconst 0, 1, 0), (15, .ireturn, 1, 0)], 0)
theorem ok_X4_isValue : okM M_X4_isValue = true := by decide +kernel
theorem pl_X4_isValue : plainFor (mY M_X4_isValue) = true := plainFor_of_name pnX4
def M_X1_noteDetail : MI := (RX1, yX1_noteDetail, cX1_noteDetail, 6, (some .int), [(0, .aload_n 0, 1, 0), (1, .getfield 18, 3, 0), (4, .iload_n 1, 1, 0), (5, .invokevirtual 73, 3, 0), (8, .ifCond .eq 17, 3, 11), (11, .iload_n 2, 1, 0), (12, .invokestatic 76, 3, 0), (15, .ifCond .eq 10, 3, 11), (18, .iload_n 3, 1, 0), (19, .invokestatic 55, 3, 0), (22, .ifCond .ne 6, 3, 13), (25, .ldc 59, 2, 0), (27, .ireturn, 1, 0), (28, .aload_n 0, 1, 0), (29, .getfield 18, 3, 0), (32, .iload_n 1, 1, 0), (33, .iload_n 2, 1, 0), (34, .invokevirtual 48, 3, 0), (37, .istore 4, 2, 0), (39, .aload_n 0, 1, 0), (40, .getfield 18, 3, 0), (43, .iload_n 1, 1, 0), (44, .iconst 5, 1, 0), (45, .invokevirtual 48, 3, 0), (48, .istore 5, 2, 0), (50, .iload 4, 2, 0), (52, .iconst (-1), 1, 0), (53, .if_icmp .eq 12, 3, 32), (56, .iload 4, 2, 0), (58, .iload_n 3, 1, 0), (59, .if_icmp .eq 6, 3, 32), (62, .iinc 5 1, 3, 0), (65, .aload_n 0, 1, 0), (66, .getfield 18, 3, 0), (69, .iload_n 1, 1, 0), (70, .iload_n 2, 1, 0), (71, .iload_n 3, 1, 0), (72, .invokevirtual 79, 3, 0), (75, .aload_n 0, 1, 0), (76, .getfield 18, 3, 0), (79, .iload_n 1, 1, 0), (80, .iconst 5, 1, 0), (81, .iload 5, 2, 0), (83, .invokevirtual 79, 3, 0), (86, .iload 5, 2, 0), (88, .ireturn, 1, 0)], 1)
theorem ok_X1_noteDetail : okM M_X1_noteDetail = true := by decide +kernel
theorem pl_X1_noteDetail : plainFor (mY M_X1_noteDetail) = true := plainFor_of_name pnX1
def M_X1_umbrellasWith : MI := (RX1, yX1_umbrellasWith, cX1_umbrellasWith, 5, (some .int), [(0, .iconst 0, 1, 0), (1, .istore_n 3, 1, 0), (2, .iconst 0, 1, 0), (3, .istore 4, 2, 0), (5, .iload 4, 2, 0), (7, .aload_n 0, 1, 0), (8, .getfield 12, 3, 0), (11, .getfield 44, 3, 0), (14, .if_icmp .ge 26, 3, 19), (17, .aload_n 0, 1, 0), (18, .getfield 12, 3, 0), (21, .iload 4, 2, 0), (23, .iload_n 1, 1, 0), (24, .invokevirtual 48, 3, 0), (27, .iload_n 2, 1, 0), (28, .if_icmp .ne 6, 3, 17), (31, .iinc 3 1, 3, 0), (34, .iinc 4 1, 3, 0), (37, .goto (-32), 3, 4), (40, .iload_n 3, 1, 0), (41, .ireturn, 1, 0)], 1)
theorem ok_X1_umbrellasWith : okM M_X1_umbrellasWith = true := by decide +kernel
theorem pl_X1_umbrellasWith : plainFor (mY M_X1_umbrellasWith) = true := plainFor_of_name pnX1
def M_X1_oddnessTogether : MI := (RX1, yX1_oddnessTogether, cX1_oddnessTogether, 4, (some .int), [(0, .iconst 0, 1, 0), (1, .istore_n 2, 1, 0), (2, .iconst 0, 1, 0), (3, .istore_n 3, 1, 0), (4, .iload_n 3, 1, 0), (5, .iconst 4, 1, 0), (6, .if_icmp .ge 29, 3, 22), (9, .iload_n 2, 1, 0), (10, .bipush 13, 2, 0), (12, .aload_n 0, 1, 0), (13, .iload_n 3, 1, 0), (14, .aload_n 0, 1, 0), (15, .getfield 12, 3, 0), (18, .iload_n 1, 1, 0), (19, .iload_n 3, 1, 0), (20, .invokevirtual 48, 3, 0), (23, .invokevirtual 52, 3, 0), (26, .isub, 1, 0), (27, .iadd, 1, 0), (28, .istore_n 2, 1, 0), (29, .iinc 3 1, 3, 0), (32, .goto (-28), 3, 4), (35, .iload_n 2, 1, 0), (36, .ireturn, 1, 0)], 2)
theorem ok_X1_oddnessTogether : okM M_X1_oddnessTogether = true := by decide +kernel
theorem pl_X1_oddnessTogether : plainFor (mY M_X1_oddnessTogether) = true := plainFor_of_name pnX1
def M_X4_isWeeksAtOnce : MI := (RX4, yX4_isWeeksAtOnce, cX4_isWeeksAtOnce, 1, (some .boolean), [(0, .iload_n 0, 1, 0), (1, .iconst 1, 1, 0), (2, .if_icmp .lt 13, 3, 8), (5, .iload_n 0, 1, 0), (6, .bipush 20, 2, 0), (8, .if_icmp .gt 7, 3, 8), (11, .iconst 1, 1, 0), (12, .goto 4, 3, 9), (15, .iconst 0, 1, 0), (16, .ireturn, 1, 0)], 0)
theorem ok_X4_isWeeksAtOnce : okM M_X4_isWeeksAtOnce = true := by decide +kernel
theorem pl_X4_isWeeksAtOnce : plainFor (mY M_X4_isWeeksAtOnce) = true := plainFor_of_name pnX4
def M_X1_passWeeks : MI := (RX1, yX1_passWeeks, cX1_passWeeks, 5, (some .int), [(0, .iload_n 1, 1, 0), (1, .invokestatic 97, 3, 0), (4, .ifCond .ne 6, 3, 5), (7, .ldc 59, 2, 0), (9, .ireturn, 1, 0), (10, .aload_n 0, 1, 0), (11, .iconst 0, 1, 0), (12, .invokevirtual 100, 3, 0), (15, .iload_n 1, 1, 0), (16, .iadd, 1, 0), (17, .iload_n 2, 1, 0), (18, .if_icmp .le 6, 3, 14), (21, .ldc 60, 2, 0), (23, .ireturn, 1, 0), (24, .aload_n 0, 1, 0), (25, .bipush 8, 2, 0), (27, .invokevirtual 100, 3, 0), (30, .istore_n 3, 1, 0), (31, .iconst 0, 1, 0), (32, .istore 4, 2, 0), (34, .iload 4, 2, 0), (36, .iload_n 1, 1, 0), (37, .if_icmp .ge 60, 3, 53), (40, .aload_n 0, 1, 0), (41, .iconst 0, 1, 0), (42, .iconst 1, 1, 0), (43, .invokevirtual 61, 3, 0), (46, .aload_n 0, 1, 0), (47, .aload_n 0, 1, 0), (48, .getfield 12, 3, 0), (51, .invokevirtual 104, 3, 0), (54, .aload_n 0, 1, 0), (55, .aload_n 0, 1, 0), (56, .getfield 18, 3, 0), (59, .invokevirtual 104, 3, 0), (62, .aload_n 0, 1, 0), (63, .aload_n 0, 1, 0), (64, .getfield 12, 3, 0), (67, .iconst 1, 1, 0), (68, .bipush 8, 2, 0), (70, .aload_n 0, 1, 0), (71, .bipush 6, 2, 0), (73, .invokevirtual 107, 3, 0), (76, .invokevirtual 110, 3, 0), (79, .aload_n 0, 1, 0), (80, .aload_n 0, 1, 0), (81, .getfield 18, 3, 0), (84, .iconst 2, 1, 0), (85, .bipush 9, 2, 0), (87, .iconst 0, 1, 0), (88, .invokevirtual 110, 3, 0), (91, .iinc 4 1, 3, 0), (94, .goto (-60), 3, 20), (97, .aload_n 0, 1, 0), (98, .bipush 8, 2, 0), (100, .invokevirtual 100, 3, 0), (103, .iload_n 3, 1, 0), (104, .isub, 1, 0), (105, .ireturn, 1, 0)], 3)
theorem ok_X1_passWeeks : okM M_X1_passWeeks = true := by decide +kernel
theorem pl_X1_passWeeks : plainFor (mY M_X1_passWeeks) = true := plainFor_of_name pnX1
def M_X4_isValueOrNotTold : MI := (RX4, yX4_isValueOrNotTold, cX4_isValueOrNotTold, 1, (some .boolean), [(0, .iload_n 0, 1, 0), (1, .iconst (-1), 1, 0), (2, .if_icmp .eq 10, 3, 6), (5, .iload_n 0, 1, 0), (6, .invokestatic 138, 3, 0), (9, .ifCond .eq 7, 3, 8), (12, .iconst 1, 1, 0), (13, .goto 4, 3, 9), (16, .iconst 0, 1, 0), (17, .ireturn, 1, 0)], 1)
theorem ok_X4_isValueOrNotTold : okM M_X4_isValueOrNotTold = true := by decide +kernel
theorem pl_X4_isValueOrNotTold : plainFor (mY M_X4_isValueOrNotTold) = true := plainFor_of_name pnX4
def M_X1_takeClaim : MI := (RX1, yX1_takeClaim, cX1_takeClaim, 5, (some .int), [(0, .iload_n 1, 1, 0), (1, .invokestatic 69, 3, 0), (4, .ifCond .eq 25, 3, 12), (7, .iload_n 2, 1, 0), (8, .invokestatic 69, 3, 0), (11, .ifCond .eq 18, 3, 12), (14, .iload_n 3, 1, 0), (15, .invokestatic 69, 3, 0), (18, .ifCond .eq 11, 3, 12), (21, .iload 4, 2, 0), (23, .invokestatic 69, 3, 0), (26, .ifCond .ne 6, 3, 14), (29, .ldc 59, 2, 0), (31, .ireturn, 1, 0), (32, .iload_n 1, 1, 0), (33, .iconst (-1), 1, 0), (34, .if_icmp .ne 22, 3, 28), (37, .iload_n 2, 1, 0), (38, .iconst (-1), 1, 0), (39, .if_icmp .ne 17, 3, 28), (42, .iload_n 3, 1, 0), (43, .iconst (-1), 1, 0), (44, .if_icmp .ne 12, 3, 28), (47, .iload 4, 2, 0), (49, .iconst (-1), 1, 0), (50, .if_icmp .ne 6, 3, 28), (53, .ldc 72, 2, 0), (55, .ireturn, 1, 0), (56, .aload_n 0, 1, 0), (57, .getfield 18, 3, 0), (60, .getfield 44, 3, 0), (63, .bipush 12, 2, 0), (65, .if_icmp .lt 6, 3, 35), (68, .ldc 60, 2, 0), (70, .ireturn, 1, 0), (71, .aload_n 0, 1, 0), (72, .bipush 6, 2, 0), (74, .iconst 1, 1, 0), (75, .invokevirtual 61, 3, 0), (78, .aload_n 0, 1, 0), (79, .getfield 18, 3, 0), (82, .iload_n 1, 1, 0), (83, .iload_n 2, 1, 0), (84, .iload_n 3, 1, 0), (85, .iload 4, 2, 0), (87, .invokevirtual 65, 3, 0), (90, .ireturn, 1, 0)], 2)
theorem ok_X1_takeClaim : okM M_X1_takeClaim = true := by decide +kernel
theorem pl_X1_takeClaim : plainFor (mY M_X1_takeClaim) = true := plainFor_of_name pnX1
def M_X1_takeUmbrella : MI := (RX1, yX1_takeUmbrella, cX1_takeUmbrella, 5, (some .int), [(0, .iload_n 1, 1, 0), (1, .invokestatic 55, 3, 0), (4, .ifCond .eq 25, 3, 12), (7, .iload_n 2, 1, 0), (8, .invokestatic 55, 3, 0), (11, .ifCond .eq 18, 3, 12), (14, .iload_n 3, 1, 0), (15, .invokestatic 55, 3, 0), (18, .ifCond .eq 11, 3, 12), (21, .iload 4, 2, 0), (23, .invokestatic 55, 3, 0), (26, .ifCond .ne 6, 3, 14), (29, .ldc 59, 2, 0), (31, .ireturn, 1, 0), (32, .aload_n 0, 1, 0), (33, .getfield 12, 3, 0), (36, .getfield 44, 3, 0), (39, .bipush 12, 2, 0), (41, .if_icmp .lt 6, 3, 21), (44, .ldc 60, 2, 0), (46, .ireturn, 1, 0), (47, .aload_n 0, 1, 0), (48, .iconst 5, 1, 0), (49, .iconst 1, 1, 0), (50, .invokevirtual 61, 3, 0), (53, .aload_n 0, 1, 0), (54, .getfield 12, 3, 0), (57, .iload_n 1, 1, 0), (58, .iload_n 2, 1, 0), (59, .iload_n 3, 1, 0), (60, .iload 4, 2, 0), (62, .invokevirtual 65, 3, 0), (65, .ireturn, 1, 0)], 1)
theorem ok_X1_takeUmbrella : okM M_X1_takeUmbrella = true := by decide +kernel
theorem pl_X1_takeUmbrella : plainFor (mY M_X1_takeUmbrella) = true := plainFor_of_name pnX1
def M_X3_append : MI := (RX3, yX3_append, cX3_append, 2, (some .boolean), [(0, .aload_n 0, 1, 0), (1, .getfield 15, 3, 0), (4, .ifCond .lt 15, 3, 9), (7, .aload_n 0, 1, 0), (8, .getfield 15, 3, 0), (11, .aload_n 0, 1, 0), (12, .getfield 9, 3, 0), (15, .arraylength, 1, 0), (16, .if_icmp .lt 5, 3, 11), (19, .iconst 0, 1, 0), (20, .ireturn, 1, 0), (21, .aload_n 0, 1, 0), (22, .getfield 9, 3, 0), (25, .aload_n 0, 1, 0), (26, .getfield 15, 3, 0), (29, .iload_n 1, 1, 0), (30, .castore, 1, 0), (31, .aload_n 0, 1, 0), (32, .dup, 1, 0), (33, .getfield 15, 3, 0), (36, .iconst 1, 1, 0), (37, .iadd, 1, 0), (38, .putfield 15, 3, 0), (41, .iconst 1, 1, 0), (42, .ireturn, 1, 0)], 0)
theorem ok_X3_append : okM M_X3_append = true := by decide +kernel
theorem pl_X3_append : plainFor (mY M_X3_append) = true := plainFor_of_name pnX3
def M_X3_signHere : MI := (RX3, yX3_signHere, cX3_signHere, 1, (some .char), [(0, .aload_n 0, 1, 0), (1, .getfield 19, 3, 0), (4, .ifCond .lt 38, 3, 20), (7, .aload_n 0, 1, 0), (8, .getfield 19, 3, 0), (11, .aload_n 0, 1, 0), (12, .getfield 15, 3, 0), (15, .if_icmp .ge 27, 3, 20), (18, .aload_n 0, 1, 0), (19, .getfield 19, 3, 0), (22, .aload_n 0, 1, 0), (23, .getfield 9, 3, 0), (26, .arraylength, 1, 0), (27, .if_icmp .ge 15, 3, 20), (30, .aload_n 0, 1, 0), (31, .getfield 9, 3, 0), (34, .aload_n 0, 1, 0), (35, .getfield 19, 3, 0), (38, .caload, 1, 0), (39, .goto 4, 3, 21), (42, .iconst 0, 1, 0), (43, .ireturn, 1, 0)], 0)
theorem ok_X3_signHere : okM M_X3_signHere = true := by decide +kernel
theorem pl_X3_signHere : plainFor (mY M_X3_signHere) = true := plainFor_of_name pnX3
def M_X3_digitHere : MI := (RX3, yX3_digitHere, cX3_digitHere, 2, (some .int), [(0, .aload_n 0, 1, 0), (1, .invokevirtual 33, 3, 0), (4, .istore_n 1, 1, 0), (5, .iload_n 1, 1, 0), (6, .bipush 48, 2, 0), (8, .if_icmp .lt 16, 3, 13), (11, .iload_n 1, 1, 0), (12, .bipush 57, 2, 0), (14, .if_icmp .gt 10, 3, 13), (17, .iload_n 1, 1, 0), (18, .bipush 48, 2, 0), (20, .isub, 1, 0), (21, .goto 4, 3, 14), (24, .iconst (-1), 1, 0), (25, .ireturn, 1, 0)], 1)
theorem ok_X3_digitHere : okM M_X3_digitHere = true := by decide +kernel
theorem pl_X3_digitHere : plainFor (mY M_X3_digitHere) = true := plainFor_of_name pnX3
def M_X3_number : MI := (RX3, yX3_number, cX3_number, 2, (some .int), [(0, .aload_n 0, 1, 0), (1, .getfield 25, 3, 0), (4, .iload_n 1, 1, 0), (5, .invokestatic 29, 3, 0), (8, .ireturn, 1, 0)], 1)
theorem ok_X3_number : okM M_X3_number = true := by decide +kernel
theorem pl_X3_number : plainFor (mY M_X3_number) = true := plainFor_of_name pnX3
def M_X3_readNumber : MI := (RX3, yX3_readNumber, cX3_readNumber, 3, (some .int), [(0, .aload_n 0, 1, 0), (1, .invokevirtual 68, 3, 0), (4, .istore_n 1, 1, 0), (5, .aload_n 0, 1, 0), (6, .dup, 1, 0), (7, .getfield 19, 3, 0), (10, .iconst 1, 1, 0), (11, .iadd, 1, 0), (12, .putfield 19, 3, 0), (15, .aload_n 0, 1, 0), (16, .invokevirtual 68, 3, 0), (19, .istore_n 2, 1, 0), (20, .iload_n 2, 1, 0), (21, .iconst (-1), 1, 0), (22, .if_icmp .eq 20, 3, 27), (25, .iload_n 1, 1, 0), (26, .bipush 10, 2, 0), (28, .imul, 1, 0), (29, .iload_n 2, 1, 0), (30, .iadd, 1, 0), (31, .istore_n 1, 1, 0), (32, .aload_n 0, 1, 0), (33, .dup, 1, 0), (34, .getfield 19, 3, 0), (37, .iconst 1, 1, 0), (38, .iadd, 1, 0), (39, .putfield 19, 3, 0), (42, .iload_n 1, 1, 0), (43, .ireturn, 1, 0)], 2)
theorem ok_X3_readNumber : okM M_X3_readNumber = true := by decide +kernel
theorem pl_X3_readNumber : plainFor (mY M_X3_readNumber) = true := plainFor_of_name pnX3
def M_X3_readSign : MI := (RX3, yX3_readSign, cX3_readSign, 2, (some .boolean), [(0, .aload_n 0, 1, 0), (1, .invokevirtual 33, 3, 0), (4, .iload_n 1, 1, 0), (5, .if_icmp .eq 5, 3, 6), (8, .iconst 0, 1, 0), (9, .ireturn, 1, 0), (10, .aload_n 0, 1, 0), (11, .dup, 1, 0), (12, .getfield 19, 3, 0), (15, .iconst 1, 1, 0), (16, .iadd, 1, 0), (17, .putfield 19, 3, 0), (20, .iconst 1, 1, 0), (21, .ireturn, 1, 0)], 1)
theorem ok_X3_readSign : okM M_X3_readSign = true := by decide +kernel
theorem pl_X3_readSign : plainFor (mY M_X3_readSign) = true := plainFor_of_name pnX3
def M_X3_readNumbers : MI := (RX3, yX3_readNumbers, cX3_readNumbers, 4, (some .boolean), [(0, .iconst 0, 1, 0), (1, .istore_n 3, 1, 0), (2, .iload_n 3, 1, 0), (3, .iload_n 1, 1, 0), (4, .if_icmp .ge 79, 3, 45), (7, .iload_n 3, 1, 0), (8, .aload_n 0, 1, 0), (9, .getfield 25, 3, 0), (12, .arraylength, 1, 0), (13, .if_icmp .ge 70, 3, 45), (16, .iload_n 3, 1, 0), (17, .ifCond .le 14, 3, 18), (20, .aload_n 0, 1, 0), (21, .bipush 44, 2, 0), (23, .invokevirtual 47, 3, 0), (26, .ifCond .ne 5, 3, 18), (29, .iconst 0, 1, 0), (30, .ireturn, 1, 0), (31, .iload_n 2, 1, 0), (32, .ifCond .eq 22, 3, 30), (35, .aload_n 0, 1, 0), (36, .bipush 45, 2, 0), (38, .invokevirtual 47, 3, 0), (41, .ifCond .eq 13, 3, 30), (44, .aload_n 0, 1, 0), (45, .getfield 25, 3, 0), (48, .iload_n 3, 1, 0), (49, .iconst (-1), 1, 0), (50, .iastore, 1, 0), (51, .goto 26, 3, 43), (54, .aload_n 0, 1, 0), (55, .invokevirtual 68, 3, 0), (58, .iconst (-1), 1, 0), (59, .if_icmp .eq 16, 3, 41), (62, .aload_n 0, 1, 0), (63, .getfield 25, 3, 0), (66, .iload_n 3, 1, 0), (67, .aload_n 0, 1, 0), (68, .invokevirtual 71, 3, 0), (71, .iastore, 1, 0), (72, .goto 5, 3, 43), (75, .iconst 0, 1, 0), (76, .ireturn, 1, 0), (77, .iinc 3 1, 3, 0), (80, .goto (-78), 3, 2), (83, .iconst 1, 1, 0), (84, .ireturn, 1, 0)], 3)
theorem ok_X3_readNumbers : okM M_X3_readNumbers = true := by decide +kernel
theorem pl_X3_readNumbers : plainFor (mY M_X3_readNumbers) = true := plainFor_of_name pnX3
def M_X3_readWord : MI := (RX3, yX3_readWord, cX3_readWord, 3, (some .boolean), [(0, .iconst 0, 1, 0), (1, .istore_n 2, 1, 0), (2, .iload_n 2, 1, 0), (3, .aload_n 1, 1, 0), (4, .invokevirtual 59, 3, 0), (7, .if_icmp .ge 23, 3, 16), (10, .aload_n 0, 1, 0), (11, .aload_n 1, 1, 0), (12, .iload_n 2, 1, 0), (13, .invokevirtual 64, 3, 0), (16, .invokevirtual 47, 3, 0), (19, .ifCond .ne 5, 3, 14), (22, .iconst 0, 1, 0), (23, .ireturn, 1, 0), (24, .iinc 2 1, 3, 0), (27, .goto (-25), 3, 2), (30, .iconst 1, 1, 0), (31, .ireturn, 1, 0)], 4)
theorem ok_X3_readWord : okM M_X3_readWord = true := by decide +kernel
theorem pl_X3_readWord : plainFor (mY M_X3_readWord) = true := plainFor_of_name pnX3
def M_X3_readOrder : MI := (RX3, yX3_readOrder, cX3_readOrder, 2, (some .boolean), [(0, .aload_n 0, 1, 0), (1, .iload_n 1, 1, 0), (2, .putfield 19, 3, 0), (5, .aload_n 0, 1, 0), (6, .invokevirtual 33, 3, 0), (9, .lookupswitch 232 #[(99, 89), (102, 51), (104, 203), (116, 127), (119, 165)], 51, 0), (60, .aload_n 0, 1, 0), (61, .iconst 0, 1, 0), (62, .putfield 22, 3, 0), (65, .aload_n 0, 1, 0), (66, .ldc 37, 2, 0), (68, .invokevirtual 39, 3, 0), (71, .ifCond .eq 25, 3, 24), (74, .aload_n 0, 1, 0), (75, .iconst 4, 1, 0), (76, .iconst 0, 1, 0), (77, .invokevirtual 43, 3, 0), (80, .ifCond .eq 16, 3, 24), (83, .aload_n 0, 1, 0), (84, .bipush 59, 2, 0), (86, .invokevirtual 47, 3, 0), (89, .ifCond .eq 7, 3, 24), (92, .iconst 1, 1, 0), (93, .goto 4, 3, 25), (96, .iconst 0, 1, 0), (97, .ireturn, 1, 0), (98, .aload_n 0, 1, 0), (99, .iconst 1, 1, 0), (100, .putfield 22, 3, 0), (103, .aload_n 0, 1, 0), (104, .ldc 51, 2, 0), (106, .invokevirtual 39, 3, 0), (109, .ifCond .eq 25, 3, 44), (112, .aload_n 0, 1, 0), (113, .iconst 4, 1, 0), (114, .iconst 1, 1, 0), (115, .invokevirtual 43, 3, 0), (118, .ifCond .eq 16, 3, 44), (121, .aload_n 0, 1, 0), (122, .bipush 59, 2, 0), (124, .invokevirtual 47, 3, 0), (127, .ifCond .eq 7, 3, 44), (130, .iconst 1, 1, 0), (131, .goto 4, 3, 45), (134, .iconst 0, 1, 0), (135, .ireturn, 1, 0), (136, .aload_n 0, 1, 0), (137, .iconst 2, 1, 0), (138, .putfield 22, 3, 0), (141, .aload_n 0, 1, 0), (142, .ldc 53, 2, 0), (144, .invokevirtual 39, 3, 0), (147, .ifCond .eq 25, 3, 64), (150, .aload_n 0, 1, 0), (151, .iconst 3, 1, 0), (152, .iconst 0, 1, 0), (153, .invokevirtual 43, 3, 0), (156, .ifCond .eq 16, 3, 64), (159, .aload_n 0, 1, 0), (160, .bipush 59, 2, 0), (162, .invokevirtual 47, 3, 0), (165, .ifCond .eq 7, 3, 64), (168, .iconst 1, 1, 0), (169, .goto 4, 3, 65), (172, .iconst 0, 1, 0), (173, .ireturn, 1, 0), (174, .aload_n 0, 1, 0), (175, .iconst 3, 1, 0), (176, .putfield 22, 3, 0), (179, .aload_n 0, 1, 0), (180, .ldc 55, 2, 0), (182, .invokevirtual 39, 3, 0), (185, .ifCond .eq 25, 3, 84), (188, .aload_n 0, 1, 0), (189, .iconst 1, 1, 0), (190, .iconst 0, 1, 0), (191, .invokevirtual 43, 3, 0), (194, .ifCond .eq 16, 3, 84), (197, .aload_n 0, 1, 0), (198, .bipush 59, 2, 0), (200, .invokevirtual 47, 3, 0), (203, .ifCond .eq 7, 3, 84), (206, .iconst 1, 1, 0), (207, .goto 4, 3, 85), (210, .iconst 0, 1, 0), (211, .ireturn, 1, 0), (212, .aload_n 0, 1, 0), (213, .iconst 4, 1, 0), (214, .putfield 22, 3, 0), (217, .aload_n 0, 1, 0), (218, .ldc 57, 2, 0), (220, .invokevirtual 39, 3, 0), (223, .ifCond .eq 16, 3, 99), (226, .aload_n 0, 1, 0), (227, .bipush 59, 2, 0), (229, .invokevirtual 47, 3, 0), (232, .ifCond .eq 7, 3, 99), (235, .iconst 1, 1, 0), (236, .goto 4, 3, 100), (239, .iconst 0, 1, 0), (240, .ireturn, 1, 0), (241, .iconst 0, 1, 0), (242, .ireturn, 1, 0)], 5)
theorem ok_X3_readOrder : okM M_X3_readOrder = true := by decide +kernel
theorem pl_X3_readOrder : plainFor (mY M_X3_readOrder) = true := plainFor_of_name pnX3
def M_X4_bitsOf : MI := (RX4, yX4_bitsOf, cX4_bitsOf, 4, (some .int), [(0, .fload_n 0, 1, 0), (1, .fstore_n 1, 1, 0), (2, .bipush 127, 2, 0), (4, .istore_n 2, 1, 0), (5, .iconst 0, 1, 0), (6, .istore_n 3, 1, 0), (7, .iload_n 3, 1, 0), (8, .bipush 127, 2, 0), (10, .if_icmp .ge 22, 3, 20), (13, .fload_n 1, 1, 0), (14, .fconst 2, 1, 0), (15, .fcmp .l, 1, 0), (16, .ifCond .lt 16, 3, 20), (19, .fload_n 1, 1, 0), (20, .fconst 2, 1, 0), (21, .fdiv, 1, 0), (22, .fstore_n 1, 1, 0), (23, .iinc 2 1, 3, 0), (26, .iinc 3 1, 3, 0), (29, .goto (-22), 3, 6), (32, .fload_n 1, 1, 0), (33, .fconst 1, 1, 0), (34, .fsub, 1, 0), (35, .ldc 215, 2, 0), (37, .fmul, 1, 0), (38, .f2i, 1, 0), (39, .istore_n 3, 1, 0), (40, .iload_n 2, 1, 0), (41, .bipush 23, 2, 0), (43, .ishl, 1, 0), (44, .iload_n 3, 1, 0), (45, .ior, 1, 0), (46, .ireturn, 1, 0)], 0)
theorem ok_X4_bitsOf : okM M_X4_bitsOf = true := by decide +kernel
theorem pl_X4_bitsOf : plainFor (mY M_X4_bitsOf) = true := plainFor_of_name pnX4
def M_X4_book : MI := (RX4, yX4_book, cX4_book, 4, (some .int), [(0, .iload_n 1, 1, 0), (1, .ifCond .lt 12, 3, 7), (4, .iload_n 2, 1, 0), (5, .ifCond .lt 8, 3, 7), (8, .iload_n 2, 1, 0), (9, .iconst 4, 1, 0), (10, .if_icmp .lt 6, 3, 9), (13, .ldc 99, 2, 0), (15, .ireturn, 1, 0), (16, .aload_n 0, 1, 0), (17, .getfield 10, 3, 0), (20, .getfield 144, 3, 0), (23, .getfield 147, 3, 0), (26, .iconst 1, 1, 0), (27, .isub, 1, 0), (28, .iload_n 1, 1, 0), (29, .isub, 1, 0), (30, .istore_n 3, 1, 0), (31, .iload_n 3, 1, 0), (32, .ifCond .ge 8, 3, 22), (35, .ldc 112, 2, 0), (37, .goto 15, 3, 28), (40, .aload_n 0, 1, 0), (41, .getfield 10, 3, 0), (44, .getfield 144, 3, 0), (47, .iload_n 3, 1, 0), (48, .iload_n 2, 1, 0), (49, .invokevirtual 100, 3, 0), (52, .ireturn, 1, 0)], 1)
theorem ok_X4_book : okM M_X4_book = true := by decide +kernel
theorem pl_X4_book : plainFor (mY M_X4_book) = true := plainFor_of_name pnX4
def M_X4_keepState : MI := (RX4, yX4_keepState, cX4_keepState, 1, none, [(0, .aload_n 0, 1, 0), (1, .getfield 30, 3, 0), (4, .ifCond .lt 43, 3, 23), (7, .aload_n 0, 1, 0), (8, .getfield 30, 3, 0), (11, .aload_n 0, 1, 0), (12, .getfield 26, 3, 0), (15, .arraylength, 1, 0), (16, .if_icmp .ge 31, 3, 23), (19, .aload_n 0, 1, 0), (20, .getfield 26, 3, 0), (23, .aload_n 0, 1, 0), (24, .getfield 30, 3, 0), (27, .aaload, 1, 0), (28, .ifnull 19, 3, 23), (31, .aload_n 0, 1, 0), (32, .getfield 26, 3, 0), (35, .aload_n 0, 1, 0), (36, .getfield 30, 3, 0), (39, .aaload, 1, 0), (40, .aload_n 0, 1, 0), (41, .getfield 10, 3, 0), (44, .invokevirtual 154, 3, 0), (47, .return_, 1, 0)], 3)
theorem ok_X4_keepState : okM M_X4_keepState = true := by decide +kernel
theorem pl_X4_keepState : plainFor (mY M_X4_keepState) = true := plainFor_of_name pnX4
def M_X4_forgetOldestState : MI := (RX4, yX4_forgetOldestState, cX4_forgetOldestState, 3, none, [(0, .aload_n 0, 1, 0), (1, .getfield 26, 3, 0), (4, .iconst 0, 1, 0), (5, .aaload, 1, 0), (6, .astore_n 1, 1, 0), (7, .iconst 1, 1, 0), (8, .istore_n 2, 1, 0), (9, .iload_n 2, 1, 0), (10, .aload_n 0, 1, 0), (11, .getfield 26, 3, 0), (14, .arraylength, 1, 0), (15, .if_icmp .ge 23, 3, 24), (18, .aload_n 0, 1, 0), (19, .getfield 26, 3, 0), (22, .iload_n 2, 1, 0), (23, .iconst 1, 1, 0), (24, .isub, 1, 0), (25, .aload_n 0, 1, 0), (26, .getfield 26, 3, 0), (29, .iload_n 2, 1, 0), (30, .aaload, 1, 0), (31, .aastore, 1, 0), (32, .iinc 2 1, 3, 0), (35, .goto (-26), 3, 7), (38, .aload_n 0, 1, 0), (39, .getfield 26, 3, 0), (42, .aload_n 0, 1, 0), (43, .getfield 26, 3, 0), (46, .arraylength, 1, 0), (47, .iconst 1, 1, 0), (48, .isub, 1, 0), (49, .aload_n 1, 1, 0), (50, .aastore, 1, 0), (51, .aload_n 0, 1, 0), (52, .dup, 1, 0), (53, .getfield 30, 3, 0), (56, .iconst 1, 1, 0), (57, .isub, 1, 0), (58, .putfield 30, 3, 0), (61, .return_, 1, 0)], 0)
theorem ok_X4_forgetOldestState : okM M_X4_forgetOldestState = true := by decide +kernel
theorem pl_X4_forgetOldestState : plainFor (mY M_X4_forgetOldestState) = true := plainFor_of_name pnX4
def M_X4_recorded : MI := (RX4, yX4_recorded, cX4_recorded, 2, (some .int), [(0, .iload_n 1, 1, 0), (1, .ifCond .lt 25, 3, 14), (4, .aload_n 0, 1, 0), (5, .dup, 1, 0), (6, .getfield 30, 3, 0), (9, .iconst 1, 1, 0), (10, .iadd, 1, 0), (11, .putfield 30, 3, 0), (14, .aload_n 0, 1, 0), (15, .getfield 30, 3, 0), (18, .iconst 4, 1, 0), (19, .if_icmp .le 7, 3, 14), (22, .aload_n 0, 1, 0), (23, .invokevirtual 192, 3, 0), (26, .iload_n 1, 1, 0), (27, .ireturn, 1, 0)], 1)
theorem ok_X4_recorded : okM M_X4_recorded = true := by decide +kernel
theorem pl_X4_recorded : plainFor (mY M_X4_recorded) = true := plainFor_of_name pnX4
def M_X4_claim : MI := (RX4, yX4_claim, cX4_claim, 5, (some .int), [(0, .aload_n 0, 1, 0), (1, .invokevirtual 53, 3, 0), (4, .aload_n 0, 1, 0), (5, .aload_n 0, 1, 0), (6, .getfield 10, 3, 0), (9, .iload_n 1, 1, 0), (10, .iload_n 2, 1, 0), (11, .iload_n 3, 1, 0), (12, .iload 4, 2, 0), (14, .invokevirtual 64, 3, 0), (17, .invokevirtual 60, 3, 0), (20, .ireturn, 1, 0)], 4)
theorem ok_X4_claim : okM M_X4_claim = true := by decide +kernel
theorem pl_X4_claim : plainFor (mY M_X4_claim) = true := plainFor_of_name pnX4
def M_X4_orNotFound : MI := (RX4, yX4_orNotFound, cX4_orNotFound, 1, (some .int), [(0, .iload_n 0, 1, 0), (1, .iconst (-1), 1, 0), (2, .if_icmp .ne 8, 3, 5), (5, .ldc 112, 2, 0), (7, .goto 4, 3, 6), (10, .iload_n 0, 1, 0), (11, .ireturn, 1, 0)], 0)
theorem ok_X4_orNotFound : okM M_X4_orNotFound = true := by decide +kernel
theorem pl_X4_orNotFound : plainFor (mY M_X4_orNotFound) = true := plainFor_of_name pnX4
def M_X4_claimOf : MI := (RX4, yX4_claimOf, cX4_claimOf, 4, (some .int), [(0, .aload_n 0, 1, 0), (1, .getfield 10, 3, 0), (4, .getfield 116, 3, 0), (7, .iload_n 1, 1, 0), (8, .invokevirtual 93, 3, 0), (11, .ifCond .eq 13, 3, 11), (14, .iload_n 2, 1, 0), (15, .ifCond .lt 9, 3, 11), (18, .iload_n 2, 1, 0), (19, .bipush 7, 2, 0), (21, .if_icmp .le 6, 3, 13), (24, .ldc 99, 2, 0), (26, .ireturn, 1, 0), (27, .iload_n 2, 1, 0), (28, .iconst 4, 1, 0), (29, .if_icmp .ge 28, 3, 30), (32, .aload_n 0, 1, 0), (33, .getfield 10, 3, 0), (36, .getfield 116, 3, 0), (39, .iload_n 1, 1, 0), (40, .iload_n 2, 1, 0), (41, .invokevirtual 100, 3, 0), (44, .istore_n 3, 1, 0), (45, .iload_n 3, 1, 0), (46, .iconst (-1), 1, 0), (47, .if_icmp .ne 8, 3, 28), (50, .ldc 112, 2, 0), (52, .goto 4, 3, 29), (55, .iload_n 3, 1, 0), (56, .ireturn, 1, 0), (57, .iload_n 2, 1, 0), (58, .iconst 4, 1, 0), (59, .if_icmp .ne 16, 3, 40), (62, .aload_n 0, 1, 0), (63, .getfield 10, 3, 0), (66, .getfield 116, 3, 0), (69, .iload_n 1, 1, 0), (70, .iconst 4, 1, 0), (71, .invokevirtual 100, 3, 0), (74, .ireturn, 1, 0), (75, .iload_n 2, 1, 0), (76, .bipush 7, 2, 0), (78, .if_icmp .ne 16, 3, 50), (81, .aload_n 0, 1, 0), (82, .getfield 10, 3, 0), (85, .getfield 116, 3, 0), (88, .iload_n 1, 1, 0), (89, .iconst 5, 1, 0), (90, .invokevirtual 100, 3, 0), (93, .ireturn, 1, 0), (94, .aload_n 0, 1, 0), (95, .getfield 22, 3, 0), (98, .aload_n 0, 1, 0), (99, .getfield 10, 3, 0), (102, .invokevirtual 78, 3, 0), (105, .iload_n 2, 1, 0), (106, .iconst 5, 1, 0), (107, .if_icmp .ne 17, 3, 64), (110, .aload_n 0, 1, 0), (111, .getfield 22, 3, 0), (114, .iload_n 1, 1, 0), (115, .invokevirtual 119, 3, 0), (118, .invokestatic 122, 3, 0), (121, .goto 11, 3, 68), (124, .aload_n 0, 1, 0), (125, .getfield 22, 3, 0), (128, .iload_n 1, 1, 0), (129, .invokevirtual 125, 3, 0), (132, .ireturn, 1, 0)], 4)
theorem ok_X4_claimOf : okM M_X4_claimOf = true := by decide +kernel
theorem pl_X4_claimOf : plainFor (mY M_X4_claimOf) = true := plainFor_of_name pnX4
def M_X4_clearText : MI := (RX4, yX4_clearText, cX4_clearText, 2, (some .int), [(0, .aload_n 0, 1, 0), (1, .getfield 37, 3, 0), (4, .getfield 180, 3, 0), (7, .istore_n 1, 1, 0), (8, .aload_n 0, 1, 0), (9, .getfield 37, 3, 0), (12, .iconst 0, 1, 0), (13, .putfield 180, 3, 0), (16, .iload_n 1, 1, 0), (17, .ireturn, 1, 0)], 0)
theorem ok_X4_clearText : okM M_X4_clearText = true := by decide +kernel
theorem pl_X4_clearText : plainFor (mY M_X4_clearText) = true := plainFor_of_name pnX4
def M_X4_count : MI := (RX4, yX4_count, cX4_count, 2, (some .int), [(0, .iload_n 1, 1, 0), (1, .bipush 20, 2, 0), (3, .if_icmp .lt 21, 3, 13), (6, .iload_n 1, 1, 0), (7, .bipush 27, 2, 0), (9, .if_icmp .ge 15, 3, 13), (12, .aload_n 0, 1, 0), (13, .getfield 10, 3, 0), (16, .iload_n 1, 1, 0), (17, .bipush 20, 2, 0), (19, .isub, 1, 0), (20, .invokevirtual 174, 3, 0), (23, .ireturn, 1, 0), (24, .iload_n 1, 1, 0), (25, .tableswitch 155 1 14 #[71, 82, 93, 112, 155, 155, 155, 155, 155, 155, 155, 131, 142, 147], 71, 0), (96, .aload_n 0, 1, 0), (97, .getfield 10, 3, 0), (100, .getfield 89, 3, 0), (103, .getfield 147, 3, 0), (106, .ireturn, 1, 0), (107, .aload_n 0, 1, 0), (108, .getfield 10, 3, 0), (111, .getfield 116, 3, 0), (114, .getfield 147, 3, 0), (117, .ireturn, 1, 0), (118, .aload_n 0, 1, 0), (119, .getfield 22, 3, 0), (122, .aload_n 0, 1, 0), (123, .getfield 10, 3, 0), (126, .invokevirtual 78, 3, 0), (129, .aload_n 0, 1, 0), (130, .getfield 22, 3, 0), (133, .getfield 163, 3, 0), (136, .ireturn, 1, 0), (137, .aload_n 0, 1, 0), (138, .getfield 22, 3, 0), (141, .aload_n 0, 1, 0), (142, .getfield 10, 3, 0), (145, .invokevirtual 177, 3, 0), (148, .aload_n 0, 1, 0), (149, .getfield 22, 3, 0), (152, .getfield 163, 3, 0), (155, .ireturn, 1, 0), (156, .aload_n 0, 1, 0), (157, .getfield 10, 3, 0), (160, .getfield 144, 3, 0), (163, .getfield 147, 3, 0), (166, .ireturn, 1, 0), (167, .aload_n 0, 1, 0), (168, .getfield 30, 3, 0), (171, .ireturn, 1, 0), (172, .aload_n 0, 1, 0), (173, .getfield 37, 3, 0), (176, .getfield 180, 3, 0), (179, .ireturn, 1, 0), (180, .iload_n 1, 1, 0), (181, .ifCond .lt 20, 3, 65), (184, .iload_n 1, 1, 0), (185, .bipush 12, 2, 0), (187, .if_icmp .ge 14, 3, 65), (190, .aload_n 0, 1, 0), (191, .getfield 10, 3, 0), (194, .iload_n 1, 1, 0), (195, .invokevirtual 160, 3, 0), (198, .goto 5, 3, 66), (201, .ldc 99, 2, 0), (203, .ireturn, 1, 0)], 5)
theorem ok_X4_count : okM M_X4_count = true := by decide +kernel
theorem pl_X4_count : plainFor (mY M_X4_count) = true := plainFor_of_name pnX4
def M_X4_doOrder : MI := (RX4, yX4_doOrder, cX4_doOrder, 2, (some .int), [(0, .aload_n 0, 1, 0), (1, .getfield 37, 3, 0), (4, .getfield 209, 3, 0), (7, .tableswitch 148 0 3 #[29, 66, 103, 132], 29, 0), (36, .aload_n 1, 1, 0), (37, .aload_n 0, 1, 0), (38, .getfield 37, 3, 0), (41, .iconst 0, 1, 0), (42, .invokevirtual 212, 3, 0), (45, .aload_n 0, 1, 0), (46, .getfield 37, 3, 0), (49, .iconst 1, 1, 0), (50, .invokevirtual 212, 3, 0), (53, .aload_n 0, 1, 0), (54, .getfield 37, 3, 0), (57, .iconst 2, 1, 0), (58, .invokevirtual 212, 3, 0), (61, .aload_n 0, 1, 0), (62, .getfield 37, 3, 0), (65, .iconst 3, 1, 0), (66, .invokevirtual 212, 3, 0), (69, .invokevirtual 56, 3, 0), (72, .ireturn, 1, 0), (73, .aload_n 1, 1, 0), (74, .aload_n 0, 1, 0), (75, .getfield 37, 3, 0), (78, .iconst 0, 1, 0), (79, .invokevirtual 212, 3, 0), (82, .aload_n 0, 1, 0), (83, .getfield 37, 3, 0), (86, .iconst 1, 1, 0), (87, .invokevirtual 212, 3, 0), (90, .aload_n 0, 1, 0), (91, .getfield 37, 3, 0), (94, .iconst 2, 1, 0), (95, .invokevirtual 212, 3, 0), (98, .aload_n 0, 1, 0), (99, .getfield 37, 3, 0), (102, .iconst 3, 1, 0), (103, .invokevirtual 212, 3, 0), (106, .invokevirtual 64, 3, 0), (109, .ireturn, 1, 0), (110, .aload_n 1, 1, 0), (111, .aload_n 0, 1, 0), (112, .getfield 37, 3, 0), (115, .iconst 0, 1, 0), (116, .invokevirtual 212, 3, 0), (119, .aload_n 0, 1, 0), (120, .getfield 37, 3, 0), (123, .iconst 1, 1, 0), (124, .invokevirtual 212, 3, 0), (127, .aload_n 0, 1, 0), (128, .getfield 37, 3, 0), (131, .iconst 2, 1, 0), (132, .invokevirtual 212, 3, 0), (135, .invokevirtual 67, 3, 0), (138, .ireturn, 1, 0), (139, .aload_n 1, 1, 0), (140, .aload_n 0, 1, 0), (141, .getfield 37, 3, 0), (144, .iconst 0, 1, 0), (145, .invokevirtual 212, 3, 0), (148, .sipush 999, 3, 0), (151, .invokevirtual 74, 3, 0), (154, .ireturn, 1, 0), (155, .aload_n 0, 1, 0), (156, .getfield 22, 3, 0), (159, .aload_n 1, 1, 0), (160, .invokevirtual 78, 3, 0), (163, .aload_n 1, 1, 0), (164, .aload_n 0, 1, 0), (165, .getfield 22, 3, 0), (168, .invokevirtual 82, 3, 0), (171, .ireturn, 1, 0)], 4)
theorem ok_X4_doOrder : okM M_X4_doOrder = true := by decide +kernel
theorem pl_X4_doOrder : plainFor (mY M_X4_doOrder) = true := plainFor_of_name pnX4
def M_X4_drop : MI := (RX4, yX4_drop, cX4_drop, 2, (some .int), [(0, .aload_n 0, 1, 0), (1, .invokevirtual 53, 3, 0), (4, .aload_n 0, 1, 0), (5, .aload_n 0, 1, 0), (6, .getfield 10, 3, 0), (9, .iload_n 1, 1, 0), (10, .invokevirtual 71, 3, 0), (13, .invokevirtual 60, 3, 0), (16, .ireturn, 1, 0)], 4)
theorem ok_X4_drop : okM M_X4_drop = true := by decide +kernel
theorem pl_X4_drop : plainFor (mY M_X4_drop) = true := plainFor_of_name pnX4
def M_X4_tellFault : MI := (RX4, yX4_tellFault, cX4_tellFault, 4, none, [(0, .aload_n 0, 1, 0), (1, .iload_n 1, 1, 0), (2, .putfield 44, 3, 0), (5, .aload_n 0, 1, 0), (6, .iload_n 2, 1, 0), (7, .putfield 47, 3, 0), (10, .aload_n 0, 1, 0), (11, .iload_n 3, 1, 0), (12, .putfield 50, 3, 0), (15, .return_, 1, 0)], 0)
theorem ok_X4_tellFault : okM M_X4_tellFault = true := by decide +kernel
theorem pl_X4_tellFault : plainFor (mY M_X4_tellFault) = true := plainFor_of_name pnX4
def M_X4_tryText : MI := (RX4, yX4_tryText, cX4_tryText, 3, none, [(0, .aload_n 0, 1, 0), (1, .getfield 16, 3, 0), (4, .aload_n 0, 1, 0), (5, .getfield 10, 3, 0), (8, .invokevirtual 154, 3, 0), (11, .aload_n 0, 1, 0), (12, .iconst 0, 1, 0), (13, .putfield 41, 3, 0), (16, .aload_n 0, 1, 0), (17, .iconst (-1), 1, 0), (18, .putfield 44, 3, 0), (21, .iconst 0, 1, 0), (22, .istore_n 1, 1, 0), (23, .iload_n 1, 1, 0), (24, .aload_n 0, 1, 0), (25, .getfield 37, 3, 0), (28, .getfield 180, 3, 0), (31, .if_icmp .ge 81, 3, 61), (34, .aload_n 0, 1, 0), (35, .getfield 41, 3, 0), (38, .bipush 60, 2, 0), (40, .if_icmp .ge 72, 3, 61), (43, .aload_n 0, 1, 0), (44, .getfield 37, 3, 0), (47, .iload_n 1, 1, 0), (48, .invokevirtual 195, 3, 0), (51, .ifCond .ne 19, 3, 37), (54, .aload_n 0, 1, 0), (55, .iload_n 1, 1, 0), (56, .iconst 1, 1, 0), (57, .aload_n 0, 1, 0), (58, .getfield 37, 3, 0), (61, .getfield 198, 3, 0), (64, .iload_n 1, 1, 0), (65, .isub, 1, 0), (66, .invokevirtual 201, 3, 0), (69, .return_, 1, 0), (70, .aload_n 0, 1, 0), (71, .aload_n 0, 1, 0), (72, .getfield 16, 3, 0), (75, .invokevirtual 205, 3, 0), (78, .istore_n 2, 1, 0), (79, .iload_n 2, 1, 0), (80, .ifCond .ge 11, 3, 50), (83, .aload_n 0, 1, 0), (84, .iload_n 1, 1, 0), (85, .iconst 2, 1, 0), (86, .iload_n 2, 1, 0), (87, .invokevirtual 201, 3, 0), (90, .return_, 1, 0), (91, .aload_n 0, 1, 0), (92, .dup, 1, 0), (93, .getfield 41, 3, 0), (96, .iconst 1, 1, 0), (97, .iadd, 1, 0), (98, .putfield 41, 3, 0), (101, .aload_n 0, 1, 0), (102, .getfield 37, 3, 0), (105, .getfield 198, 3, 0), (108, .istore_n 1, 1, 0), (109, .goto (-86), 3, 13), (112, .return_, 1, 0)], 6)
theorem ok_X4_tryText : okM M_X4_tryText = true := by decide +kernel
theorem pl_X4_tryText : plainFor (mY M_X4_tryText) = true := plainFor_of_name pnX4
def M_X4_fault : MI := (RX4, yX4_fault, cX4_fault, 2, (some .int), [(0, .iload_n 1, 1, 0), (1, .ifCond .lt 8, 3, 5), (4, .iload_n 1, 1, 0), (5, .iconst 2, 1, 0), (6, .if_icmp .le 6, 3, 7), (9, .ldc 99, 2, 0), (11, .ireturn, 1, 0), (12, .aload_n 0, 1, 0), (13, .invokevirtual 189, 3, 0), (16, .aload_n 0, 1, 0), (17, .getfield 44, 3, 0), (20, .iconst (-1), 1, 0), (21, .if_icmp .ne 6, 3, 15), (24, .ldc 112, 2, 0), (26, .ireturn, 1, 0), (27, .iload_n 1, 1, 0), (28, .ifCond .ne 8, 3, 20), (31, .aload_n 0, 1, 0), (32, .getfield 44, 3, 0), (35, .ireturn, 1, 0), (36, .iload_n 1, 1, 0), (37, .iconst 1, 1, 0), (38, .if_icmp .ne 10, 3, 26), (41, .aload_n 0, 1, 0), (42, .getfield 47, 3, 0), (45, .goto 7, 3, 28), (48, .aload_n 0, 1, 0), (49, .getfield 50, 3, 0), (52, .ireturn, 1, 0)], 7)
theorem ok_X4_fault : okM M_X4_fault = true := by decide +kernel
theorem pl_X4_fault : plainFor (mY M_X4_fault) = true := plainFor_of_name pnX4
def M_X4_find : MI := (RX4, yX4_find, cX4_find, 5, (some .int), [(0, .aload_n 0, 1, 0), (1, .invokevirtual 53, 3, 0), (4, .aload_n 0, 1, 0), (5, .aload_n 0, 1, 0), (6, .getfield 10, 3, 0), (9, .iload_n 1, 1, 0), (10, .iload_n 2, 1, 0), (11, .iload_n 3, 1, 0), (12, .iload 4, 2, 0), (14, .invokevirtual 56, 3, 0), (17, .invokevirtual 60, 3, 0), (20, .ireturn, 1, 0)], 4)
theorem ok_X4_find : okM M_X4_find = true := by decide +kernel
theorem pl_X4_find : plainFor (mY M_X4_find) = true := plainFor_of_name pnX4
def M_X4_hand : MI := (RX4, yX4_hand, cX4_hand, 1, (some .int), [(0, .aload_n 0, 1, 0), (1, .invokevirtual 53, 3, 0), (4, .aload_n 0, 1, 0), (5, .getfield 22, 3, 0), (8, .aload_n 0, 1, 0), (9, .getfield 10, 3, 0), (12, .invokevirtual 78, 3, 0), (15, .aload_n 0, 1, 0), (16, .aload_n 0, 1, 0), (17, .getfield 10, 3, 0), (20, .aload_n 0, 1, 0), (21, .getfield 22, 3, 0), (24, .invokevirtual 82, 3, 0), (27, .invokevirtual 60, 3, 0), (30, .ireturn, 1, 0)], 4)
theorem ok_X4_hand : okM M_X4_hand = true := by decide +kernel
theorem pl_X4_hand : plainFor (mY M_X4_hand) = true := plainFor_of_name pnX4
def M_X4_having : MI := (RX4, yX4_having, cX4_having, 3, (some .int), [(0, .iload_n 1, 1, 0), (1, .invokestatic 135, 3, 0), (4, .ifCond .eq 10, 3, 6), (7, .iload_n 2, 1, 0), (8, .invokestatic 138, 3, 0), (11, .ifCond .ne 6, 3, 8), (14, .ldc 99, 2, 0), (16, .ireturn, 1, 0), (17, .aload_n 0, 1, 0), (18, .getfield 10, 3, 0), (21, .iload_n 1, 1, 0), (22, .iload_n 2, 1, 0), (23, .invokevirtual 141, 3, 0), (26, .ireturn, 1, 0)], 2)
theorem ok_X4_having : okM M_X4_having = true := by decide +kernel
theorem pl_X4_having : plainFor (mY M_X4_having) = true := plainFor_of_name pnX4
def M_X4_ifTold : MI := (RX4, yX4_ifTold, cX4_ifTold, 5, (some .int), [(0, .aload_n 0, 1, 0), (1, .getfield 16, 3, 0), (4, .aload_n 0, 1, 0), (5, .getfield 10, 3, 0), (8, .invokevirtual 154, 3, 0), (11, .aload_n 0, 1, 0), (12, .getfield 16, 3, 0), (15, .iload_n 1, 1, 0), (16, .iload_n 2, 1, 0), (17, .iload_n 3, 1, 0), (18, .invokevirtual 67, 3, 0), (21, .istore 4, 2, 0), (23, .iload 4, 2, 0), (25, .ifCond .ge 6, 3, 16), (28, .iload 4, 2, 0), (30, .ireturn, 1, 0), (31, .aload_n 0, 1, 0), (32, .getfield 22, 3, 0), (35, .aload_n 0, 1, 0), (36, .getfield 16, 3, 0), (39, .invokevirtual 78, 3, 0), (42, .aload_n 0, 1, 0), (43, .getfield 22, 3, 0), (46, .iload_n 1, 1, 0), (47, .invokevirtual 119, 3, 0), (50, .invokestatic 122, 3, 0), (53, .ireturn, 1, 0)], 4)
theorem ok_X4_ifTold : okM M_X4_ifTold = true := by decide +kernel
theorem pl_X4_ifTold : plainFor (mY M_X4_ifTold) = true := plainFor_of_name pnX4
def M_X4_ifWeeks : MI := (RX4, yX4_ifWeeks, cX4_ifWeeks, 3, (some .int), [(0, .iload_n 1, 1, 0), (1, .invokestatic 157, 3, 0), (4, .ifCond .eq 12, 3, 8), (7, .iload_n 2, 1, 0), (8, .ifCond .lt 8, 3, 8), (11, .iload_n 2, 1, 0), (12, .iconst 2, 1, 0), (13, .if_icmp .le 6, 3, 10), (16, .ldc 99, 2, 0), (18, .ireturn, 1, 0), (19, .aload_n 0, 1, 0), (20, .getfield 16, 3, 0), (23, .aload_n 0, 1, 0), (24, .getfield 10, 3, 0), (27, .invokevirtual 154, 3, 0), (30, .aload_n 0, 1, 0), (31, .getfield 16, 3, 0), (34, .iload_n 1, 1, 0), (35, .sipush 1019, 3, 0), (38, .invokevirtual 74, 3, 0), (41, .pop, 1, 0), (42, .iload_n 2, 1, 0), (43, .ifCond .ne 23, 3, 33), (46, .aload_n 0, 1, 0), (47, .getfield 16, 3, 0), (50, .bipush 8, 2, 0), (52, .invokevirtual 160, 3, 0), (55, .aload_n 0, 1, 0), (56, .getfield 10, 3, 0), (59, .bipush 8, 2, 0), (61, .invokevirtual 160, 3, 0), (64, .isub, 1, 0), (65, .ireturn, 1, 0), (66, .iload_n 2, 1, 0), (67, .iconst 1, 1, 0), (68, .if_icmp .ne 23, 3, 46), (71, .aload_n 0, 1, 0), (72, .getfield 16, 3, 0), (75, .bipush 9, 2, 0), (77, .invokevirtual 160, 3, 0), (80, .aload_n 0, 1, 0), (81, .getfield 10, 3, 0), (84, .bipush 9, 2, 0), (86, .invokevirtual 160, 3, 0), (89, .isub, 1, 0), (90, .ireturn, 1, 0), (91, .aload_n 0, 1, 0), (92, .getfield 22, 3, 0), (95, .aload_n 0, 1, 0), (96, .getfield 16, 3, 0), (99, .invokevirtual 78, 3, 0), (102, .aload_n 0, 1, 0), (103, .getfield 22, 3, 0), (106, .getfield 163, 3, 0), (109, .ireturn, 1, 0)], 4)
theorem ok_X4_ifWeeks : okM M_X4_ifWeeks = true := by decide +kernel
theorem pl_X4_ifWeeks : plainFor (mY M_X4_ifWeeks) = true := plainFor_of_name pnX4
def M_X4_isPair : MI := (RX4, yX4_isPair, cX4_isPair, 3, (some .boolean), [(0, .aload_n 0, 1, 0), (1, .getfield 10, 3, 0), (4, .getfield 89, 3, 0), (7, .iload_n 1, 1, 0), (8, .invokevirtual 93, 3, 0), (11, .ifCond .eq 21, 3, 14), (14, .aload_n 0, 1, 0), (15, .getfield 10, 3, 0), (18, .getfield 116, 3, 0), (21, .iload_n 2, 1, 0), (22, .invokevirtual 93, 3, 0), (25, .ifCond .eq 7, 3, 14), (28, .iconst 1, 1, 0), (29, .goto 4, 3, 15), (32, .iconst 0, 1, 0), (33, .ireturn, 1, 0)], 1)
theorem ok_X4_isPair : okM M_X4_isPair = true := by decide +kernel
theorem pl_X4_isPair : plainFor (mY M_X4_isPair) = true := plainFor_of_name pnX4
def M_X4_mean : MI := (RX4, yX4_mean, cX4_mean, 2, (some .int), [(0, .aload_n 0, 1, 0), (1, .getfield 22, 3, 0), (4, .aload_n 0, 1, 0), (5, .getfield 10, 3, 0), (8, .invokevirtual 78, 3, 0), (11, .aload_n 0, 1, 0), (12, .getfield 22, 3, 0), (15, .getfield 163, 3, 0), (18, .istore_n 1, 1, 0), (19, .iload_n 1, 1, 0), (20, .ifCond .gt 6, 3, 13), (23, .ldc 112, 2, 0), (25, .ireturn, 1, 0), (26, .aload_n 0, 1, 0), (27, .getfield 22, 3, 0), (30, .invokevirtual 166, 3, 0), (33, .i2f, 1, 0), (34, .iload_n 1, 1, 0), (35, .i2f, 1, 0), (36, .fdiv, 1, 0), (37, .invokestatic 170, 3, 0), (40, .ireturn, 1, 0)], 4)
theorem ok_X4_mean : okM M_X4_mean = true := by decide +kernel
theorem pl_X4_mean : plainFor (mY M_X4_mean) = true := plainFor_of_name pnX4
def M_X4_oddest : MI := (RX4, yX4_oddest, cX4_oddest, 5, (some .int), [(0, .iconst (-1), 1, 0), (1, .istore_n 1, 1, 0), (2, .iconst 0, 1, 0), (3, .istore_n 2, 1, 0), (4, .iconst 0, 1, 0), (5, .istore_n 3, 1, 0), (6, .iload_n 3, 1, 0), (7, .aload_n 0, 1, 0), (8, .getfield 10, 3, 0), (11, .getfield 89, 3, 0), (14, .getfield 147, 3, 0), (17, .if_icmp .ge 35, 3, 29), (20, .aload_n 0, 1, 0), (21, .getfield 10, 3, 0), (24, .iload_n 3, 1, 0), (25, .invokevirtual 103, 3, 0), (28, .istore 4, 2, 0), (30, .iload_n 1, 1, 0), (31, .iconst (-1), 1, 0), (32, .if_icmp .eq 9, 3, 23), (35, .iload 4, 2, 0), (37, .iload_n 2, 1, 0), (38, .if_icmp .le 8, 3, 27), (41, .iload_n 3, 1, 0), (42, .istore_n 1, 1, 0), (43, .iload 4, 2, 0), (45, .istore_n 2, 1, 0), (46, .iinc 3 1, 3, 0), (49, .goto (-43), 3, 6), (52, .iload_n 1, 1, 0), (53, .invokestatic 122, 3, 0), (56, .ireturn, 1, 0)], 3)
theorem ok_X4_oddest : okM M_X4_oddest = true := by decide +kernel
theorem pl_X4_oddest : plainFor (mY M_X4_oddest) = true := plainFor_of_name pnX4
def M_X4_play : MI := (RX4, yX4_play, cX4_play, 1, (some .int), [(0, .aload_n 0, 1, 0), (1, .invokevirtual 189, 3, 0), (4, .aload_n 0, 1, 0), (5, .getfield 44, 3, 0), (8, .iconst (-1), 1, 0), (9, .if_icmp .eq 6, 3, 8), (12, .ldc 183, 2, 0), (14, .ireturn, 1, 0), (15, .aload_n 0, 1, 0), (16, .invokevirtual 53, 3, 0), (19, .aload_n 0, 1, 0), (20, .getfield 10, 3, 0), (23, .aload_n 0, 1, 0), (24, .getfield 16, 3, 0), (27, .invokevirtual 154, 3, 0), (30, .aload_n 0, 1, 0), (31, .aload_n 0, 1, 0), (32, .getfield 41, 3, 0), (35, .invokevirtual 60, 3, 0), (38, .ireturn, 1, 0)], 7)
theorem ok_X4_play : okM M_X4_play = true := by decide +kernel
theorem pl_X4_play : plainFor (mY M_X4_play) = true := plainFor_of_name pnX4
def M_X4_points : MI := (RX4, yX4_points, cX4_points, 3, (some .int), [(0, .aload_n 0, 1, 0), (1, .iload_n 1, 1, 0), (2, .iload_n 2, 1, 0), (3, .invokevirtual 128, 3, 0), (6, .ifCond .ne 6, 3, 7), (9, .ldc 99, 2, 0), (11, .ireturn, 1, 0), (12, .aload_n 0, 1, 0), (13, .getfield 22, 3, 0), (16, .aload_n 0, 1, 0), (17, .getfield 10, 3, 0), (20, .invokevirtual 132, 3, 0), (23, .sipush 1000, 3, 0), (26, .aload_n 0, 1, 0), (27, .getfield 22, 3, 0), (30, .iload_n 1, 1, 0), (31, .iload_n 2, 1, 0), (32, .invokevirtual 113, 3, 0), (35, .iadd, 1, 0), (36, .ireturn, 1, 0)], 3)
theorem ok_X4_points : okM M_X4_points = true := by decide +kernel
theorem pl_X4_points : plainFor (mY M_X4_points) = true := plainFor_of_name pnX4
def M_X4_set : MI := (RX4, yX4_set, cX4_set, 3, (some .int), [(0, .aload_n 0, 1, 0), (1, .invokevirtual 53, 3, 0), (4, .aload_n 0, 1, 0), (5, .aload_n 0, 1, 0), (6, .getfield 10, 3, 0), (9, .iload_n 1, 1, 0), (10, .iload_n 2, 1, 0), (11, .invokevirtual 86, 3, 0), (14, .invokevirtual 60, 3, 0), (17, .ireturn, 1, 0)], 4)
theorem ok_X4_set : okM M_X4_set = true := by decide +kernel
theorem pl_X4_set : plainFor (mY M_X4_set) = true := plainFor_of_name pnX4
def M_X4_tell : MI := (RX4, yX4_tell, cX4_tell, 4, (some .int), [(0, .aload_n 0, 1, 0), (1, .invokevirtual 53, 3, 0), (4, .aload_n 0, 1, 0), (5, .aload_n 0, 1, 0), (6, .getfield 10, 3, 0), (9, .iload_n 1, 1, 0), (10, .iload_n 2, 1, 0), (11, .iload_n 3, 1, 0), (12, .invokevirtual 67, 3, 0), (15, .invokevirtual 60, 3, 0), (18, .ireturn, 1, 0)], 4)
theorem ok_X4_tell : okM M_X4_tell = true := by decide +kernel
theorem pl_X4_tell : plainFor (mY M_X4_tell) = true := plainFor_of_name pnX4
def M_X4_type : MI := (RX4, yX4_type, cX4_type, 2, (some .int), [(0, .iload_n 1, 1, 0), (1, .bipush 32, 2, 0), (3, .if_icmp .lt 9, 3, 6), (6, .iload_n 1, 1, 0), (7, .bipush 126, 2, 0), (9, .if_icmp .le 6, 3, 8), (12, .ldc 99, 2, 0), (14, .ireturn, 1, 0), (15, .aload_n 0, 1, 0), (16, .getfield 37, 3, 0), (19, .iload_n 1, 1, 0), (20, .i2c, 1, 0), (21, .invokevirtual 184, 3, 0), (24, .ifCond .eq 13, 3, 18), (27, .aload_n 0, 1, 0), (28, .getfield 37, 3, 0), (31, .getfield 180, 3, 0), (34, .goto 5, 3, 19), (37, .ldc 188, 2, 0), (39, .ireturn, 1, 0)], 1)
theorem ok_X4_type : okM M_X4_type = true := by decide +kernel
theorem pl_X4_type : plainFor (mY M_X4_type) = true := plainFor_of_name pnX4
def M_X4_umbrella : MI := (RX4, yX4_umbrella, cX4_umbrella, 4, (some .int), [(0, .aload_n 0, 1, 0), (1, .getfield 10, 3, 0), (4, .getfield 89, 3, 0), (7, .iload_n 1, 1, 0), (8, .invokevirtual 93, 3, 0), (11, .ifCond .eq 13, 3, 11), (14, .iload_n 2, 1, 0), (15, .ifCond .lt 9, 3, 11), (18, .iload_n 2, 1, 0), (19, .bipush 8, 2, 0), (21, .if_icmp .le 6, 3, 13), (24, .ldc 99, 2, 0), (26, .ireturn, 1, 0), (27, .iload_n 2, 1, 0), (28, .iconst 4, 1, 0), (29, .if_icmp .gt 16, 3, 23), (32, .aload_n 0, 1, 0), (33, .getfield 10, 3, 0), (36, .getfield 89, 3, 0), (39, .iload_n 1, 1, 0), (40, .iload_n 2, 1, 0), (41, .invokevirtual 100, 3, 0), (44, .ireturn, 1, 0), (45, .iload_n 2, 1, 0), (46, .bipush 8, 2, 0), (48, .if_icmp .ne 12, 3, 31), (51, .aload_n 0, 1, 0), (52, .getfield 10, 3, 0), (55, .iload_n 1, 1, 0), (56, .invokevirtual 103, 3, 0), (59, .ireturn, 1, 0), (60, .aload_n 0, 1, 0), (61, .getfield 22, 3, 0), (64, .aload_n 0, 1, 0), (65, .getfield 10, 3, 0), (68, .invokevirtual 78, 3, 0), (71, .iload_n 2, 1, 0), (72, .bipush 7, 2, 0), (74, .if_icmp .ne 12, 3, 44), (77, .aload_n 0, 1, 0), (78, .getfield 22, 3, 0), (81, .iload_n 1, 1, 0), (82, .invokevirtual 106, 3, 0), (85, .ireturn, 1, 0), (86, .aload_n 0, 1, 0), (87, .getfield 22, 3, 0), (90, .iload_n 1, 1, 0), (91, .invokevirtual 109, 3, 0), (94, .istore_n 3, 1, 0), (95, .iload_n 3, 1, 0), (96, .iconst (-1), 1, 0), (97, .if_icmp .ne 6, 3, 54), (100, .ldc 112, 2, 0), (102, .ireturn, 1, 0), (103, .iload_n 2, 1, 0), (104, .iconst 5, 1, 0), (105, .if_icmp .ne 7, 3, 59), (108, .iload_n 3, 1, 0), (109, .goto 12, 3, 64), (112, .aload_n 0, 1, 0), (113, .getfield 22, 3, 0), (116, .iload_n 1, 1, 0), (117, .iload_n 3, 1, 0), (118, .invokevirtual 113, 3, 0), (121, .ireturn, 1, 0)], 4)
theorem ok_X4_umbrella : okM M_X4_umbrella = true := by decide +kernel
theorem pl_X4_umbrella : plainFor (mY M_X4_umbrella) = true := plainFor_of_name pnX4
def M_X4_undo : MI := (RX4, yX4_undo, cX4_undo, 1, (some .int), [(0, .aload_n 0, 1, 0), (1, .getfield 30, 3, 0), (4, .ifCond .le 15, 3, 9), (7, .aload_n 0, 1, 0), (8, .getfield 30, 3, 0), (11, .aload_n 0, 1, 0), (12, .getfield 26, 3, 0), (15, .arraylength, 1, 0), (16, .if_icmp .le 6, 3, 11), (19, .ldc 183, 2, 0), (21, .ireturn, 1, 0), (22, .aload_n 0, 1, 0), (23, .dup, 1, 0), (24, .getfield 30, 3, 0), (27, .iconst 1, 1, 0), (28, .isub, 1, 0), (29, .putfield 30, 3, 0), (32, .aload_n 0, 1, 0), (33, .getfield 10, 3, 0), (36, .aload_n 0, 1, 0), (37, .getfield 26, 3, 0), (40, .aload_n 0, 1, 0), (41, .getfield 30, 3, 0), (44, .aaload, 1, 0), (45, .invokevirtual 154, 3, 0), (48, .aload_n 0, 1, 0), (49, .getfield 30, 3, 0), (52, .ireturn, 1, 0)], 3)
theorem ok_X4_undo : okM M_X4_undo = true := by decide +kernel
theorem pl_X4_undo : plainFor (mY M_X4_undo) = true := plainFor_of_name pnX4
def M_X4_weeks : MI := (RX4, yX4_weeks, cX4_weeks, 2, (some .int), [(0, .aload_n 0, 1, 0), (1, .invokevirtual 53, 3, 0), (4, .aload_n 0, 1, 0), (5, .aload_n 0, 1, 0), (6, .getfield 10, 3, 0), (9, .iload_n 1, 1, 0), (10, .sipush 999, 3, 0), (13, .invokevirtual 74, 3, 0), (16, .invokevirtual 60, 3, 0), (19, .ireturn, 1, 0)], 4)
theorem ok_X4_weeks : okM M_X4_weeks = true := by decide +kernel
theorem pl_X4_weeks : plainFor (mY M_X4_weeks) = true := plainFor_of_name pnX4
def M_X4_why : MI := (RX4, yX4_why, cX4_why, 3, (some .int), [(0, .aload_n 0, 1, 0), (1, .iload_n 1, 1, 0), (2, .iload_n 2, 1, 0), (3, .invokevirtual 128, 3, 0), (6, .ifCond .ne 6, 3, 7), (9, .ldc 99, 2, 0), (11, .ireturn, 1, 0), (12, .aload_n 0, 1, 0), (13, .getfield 22, 3, 0), (16, .aload_n 0, 1, 0), (17, .getfield 10, 3, 0), (20, .invokevirtual 78, 3, 0), (23, .aload_n 0, 1, 0), (24, .getfield 22, 3, 0), (27, .iload_n 1, 1, 0), (28, .iload_n 2, 1, 0), (29, .aload_n 0, 1, 0), (30, .getfield 10, 3, 0), (33, .invokevirtual 150, 3, 0), (36, .ireturn, 1, 0)], 4)
theorem ok_X4_why : okM M_X4_why = true := by decide +kernel
theorem pl_X4_why : plainFor (mY M_X4_why) = true := plainFor_of_name pnX4
def M_X5_in : MI := (RX5, yX5_in, cX5_in, 3, (some .boolean), [(0, .iload_n 0, 1, 0), (1, .iload_n 1, 1, 0), (2, .if_icmp .lt 12, 3, 8), (5, .iload_n 0, 1, 0), (6, .iload_n 2, 1, 0), (7, .if_icmp .gt 7, 3, 8), (10, .iconst 1, 1, 0), (11, .goto 4, 3, 9), (14, .iconst 0, 1, 0), (15, .ireturn, 1, 0)], 0)
theorem ok_X5_in : okM M_X5_in = true := by decide +kernel
theorem pl_X5_in : plainFor (mY M_X5_in) = true := plainFor_of_name pnX5
def M_X5_areValues : MI := (RX5, yX5_areValues, cX5_areValues, 5, (some .boolean), [(0, .iload_n 1, 1, 0), (1, .iload_n 0, 1, 0), (2, .bipush 9, 2, 0), (4, .invokestatic 90, 3, 0), (7, .ifCond .eq 38, 3, 22), (10, .iload_n 2, 1, 0), (11, .iload_n 0, 1, 0), (12, .bipush 9, 2, 0), (14, .invokestatic 90, 3, 0), (17, .ifCond .eq 28, 3, 22), (20, .iload_n 3, 1, 0), (21, .iload_n 0, 1, 0), (22, .bipush 9, 2, 0), (24, .invokestatic 90, 3, 0), (27, .ifCond .eq 18, 3, 22), (30, .iload 4, 2, 0), (32, .iload_n 0, 1, 0), (33, .bipush 9, 2, 0), (35, .invokestatic 90, 3, 0), (38, .ifCond .eq 7, 3, 22), (41, .iconst 1, 1, 0), (42, .goto 4, 3, 23), (45, .iconst 0, 1, 0), (46, .ireturn, 1, 0)], 1)
theorem ok_X5_areValues : okM M_X5_areValues = true := by decide +kernel
theorem pl_X5_areValues : plainFor (mY M_X5_areValues) = true := plainFor_of_name pnX5
def M_X5_asks : MI := (RX5, yX5_asks, cX5_asks, 8, (some .int), [(0, .iconst (-1), 1, 0), (1, .istore_n 2, 1, 0), (2, .iconst 0, 1, 0), (3, .istore_n 3, 1, 0), (4, .iconst 0, 1, 0), (5, .istore 4, 2, 0), (7, .iload 4, 2, 0), (9, .bipush 12, 2, 0), (11, .if_icmp .ge 132, 3, 81), (14, .iconst 0, 1, 0), (15, .istore 5, 2, 0), (17, .iconst 0, 1, 0), (18, .istore 6, 2, 0), (20, .iload 6, 2, 0), (22, .bipush 12, 2, 0), (24, .if_icmp .ge 79, 3, 59), (27, .aload_n 0, 1, 0), (28, .getfield 22, 3, 0), (31, .bipush 12, 2, 0), (33, .iload 6, 2, 0), (35, .imul, 1, 0), (36, .iload_n 1, 1, 0), (37, .iadd, 1, 0), (38, .iaload, 1, 0), (39, .aload_n 0, 1, 0), (40, .getfield 22, 3, 0), (43, .bipush 12, 2, 0), (45, .iload 4, 2, 0), (47, .imul, 1, 0), (48, .iload_n 1, 1, 0), (49, .iadd, 1, 0), (50, .iaload, 1, 0), (51, .isub, 1, 0), (52, .istore 7, 2, 0), (54, .iload 5, 2, 0), (56, .aload_n 0, 1, 0), (57, .getfield 22, 3, 0), (60, .bipush 12, 2, 0), (62, .iload 6, 2, 0), (64, .imul, 1, 0), (65, .iload_n 1, 1, 0), (66, .iadd, 1, 0), (67, .iaload, 1, 0), (68, .iconst (-1), 1, 0), (69, .if_icmp .eq 24, 3, 54), (72, .iload 7, 2, 0), (74, .ifCond .gt 15, 3, 52), (77, .iload 7, 2, 0), (79, .ifCond .ne 14, 3, 54), (82, .iload 6, 2, 0), (84, .iload 4, 2, 0), (86, .if_icmp .ge 7, 3, 54), (89, .iconst 1, 1, 0), (90, .goto 4, 3, 55), (93, .iconst 0, 1, 0), (94, .iadd, 1, 0), (95, .istore 5, 2, 0), (97, .iinc 6 1, 3, 0), (100, .goto (-80), 3, 13), (103, .aload_n 0, 1, 0), (104, .getfield 22, 3, 0), (107, .bipush 12, 2, 0), (109, .iload 4, 2, 0), (111, .imul, 1, 0), (112, .iload_n 1, 1, 0), (113, .iadd, 1, 0), (114, .iaload, 1, 0), (115, .iconst (-1), 1, 0), (116, .if_icmp .eq 19, 3, 77), (119, .iload 5, 2, 0), (121, .aload_n 0, 1, 0), (122, .getfield 25, 3, 0), (125, .iload_n 1, 1, 0), (126, .iaload, 1, 0), (127, .if_icmp .ne 8, 3, 77), (130, .iload 4, 2, 0), (132, .goto 4, 3, 78), (135, .iload_n 2, 1, 0), (136, .istore_n 2, 1, 0), (137, .iinc 4 1, 3, 0), (140, .goto (-133), 3, 6), (143, .aload_n 0, 1, 0), (144, .getfield 25, 3, 0), (147, .iload_n 1, 1, 0), (148, .dup2, 1, 0), (149, .iaload, 1, 0), (150, .iconst 1, 1, 0), (151, .iadd, 1, 0), (152, .iastore, 1, 0), (153, .iload_n 2, 1, 0), (154, .ireturn, 1, 0)], 0)
theorem ok_X5_asks : okM M_X5_asks = true := by decide +kernel
theorem pl_X5_asks : plainFor (mY M_X5_asks) = true := plainFor_of_name pnX5
def M_X5_asksOn : MI := (RX5, yX5_asksOn, cX5_asksOn, 6, (some .int), [(0, .aload_n 0, 1, 0), (1, .iload_n 1, 1, 0), (2, .invokevirtual 64, 3, 0), (5, .istore_n 2, 1, 0), (6, .iload_n 2, 1, 0), (7, .iconst (-1), 1, 0), (8, .if_icmp .eq 87, 3, 59), (11, .aload_n 0, 1, 0), (12, .getfield 16, 3, 0), (15, .iload_n 2, 1, 0), (16, .iaload, 1, 0), (17, .istore_n 3, 1, 0), (18, .aload_n 0, 1, 0), (19, .getfield 22, 3, 0), (22, .bipush 12, 2, 0), (24, .iload_n 2, 1, 0), (25, .imul, 1, 0), (26, .iload_n 1, 1, 0), (27, .iadd, 1, 0), (28, .iaload, 1, 0), (29, .istore 4, 2, 0), (31, .iload_n 3, 1, 0), (32, .iconst (-1), 1, 0), (33, .if_icmp .ne 7, 3, 26), (36, .iconst (-1), 1, 0), (37, .goto 14, 3, 34), (40, .aload_n 0, 1, 0), (41, .getfield 22, 3, 0), (44, .bipush 12, 2, 0), (46, .iload_n 2, 1, 0), (47, .imul, 1, 0), (48, .iload_n 3, 1, 0), (49, .iadd, 1, 0), (50, .iaload, 1, 0), (51, .istore 5, 2, 0), (53, .iload_n 3, 1, 0), (54, .iconst (-1), 1, 0), (55, .if_icmp .eq 22, 3, 47), (58, .iload 4, 2, 0), (60, .iload 5, 2, 0), (62, .if_icmp .gt 15, 3, 47), (65, .iload 4, 2, 0), (67, .iload 5, 2, 0), (69, .if_icmp .ne 17, 3, 54), (72, .iload_n 1, 1, 0), (73, .iload_n 3, 1, 0), (74, .if_icmp .ge 12, 3, 54), (77, .aload_n 0, 1, 0), (78, .getfield 16, 3, 0), (81, .iload_n 2, 1, 0), (82, .iload_n 1, 1, 0), (83, .iastore, 1, 0), (84, .iload_n 3, 1, 0), (85, .ireturn, 1, 0), (86, .aload_n 0, 1, 0), (87, .iload_n 1, 1, 0), (88, .invokevirtual 64, 3, 0), (91, .istore_n 2, 1, 0), (92, .goto (-86), 3, 4), (95, .iconst (-1), 1, 0), (96, .ireturn, 1, 0)], 1)
theorem ok_X5_asksOn : okM M_X5_asksOn = true := by decide +kernel
theorem pl_X5_asksOn : plainFor (mY M_X5_asksOn) = true := plainFor_of_name pnX5
def M_X5_book : MI := (RX5, yX5_book, cX5_book, 3, (some .int), [(0, .iload_n 1, 1, 0), (1, .ifCond .lt 12, 3, 7), (4, .iload_n 2, 1, 0), (5, .iconst 0, 1, 0), (6, .iconst 3, 1, 0), (7, .invokestatic 90, 3, 0), (10, .ifCond .ne 6, 3, 9), (13, .ldc 97, 2, 0), (15, .ireturn, 1, 0), (16, .iload_n 1, 1, 0), (17, .aload_n 0, 1, 0), (18, .getfield 7, 3, 0), (21, .bipush 17, 2, 0), (23, .iaload, 1, 0), (24, .if_icmp .ge 30, 3, 33), (27, .aload_n 0, 1, 0), (28, .getfield 7, 3, 0), (31, .sipush 150, 3, 0), (34, .iconst 4, 1, 0), (35, .aload_n 0, 1, 0), (36, .getfield 7, 3, 0), (39, .bipush 17, 2, 0), (41, .iaload, 1, 0), (42, .iconst 1, 1, 0), (43, .isub, 1, 0), (44, .iload_n 1, 1, 0), (45, .isub, 1, 0), (46, .imul, 1, 0), (47, .iadd, 1, 0), (48, .iload_n 2, 1, 0), (49, .iadd, 1, 0), (50, .iaload, 1, 0), (51, .goto 5, 3, 34), (54, .ldc 144, 2, 0), (56, .ireturn, 1, 0)], 1)
theorem ok_X5_book : okM M_X5_book = true := by decide +kernel
theorem pl_X5_book : plainFor (mY M_X5_book) = true := plainFor_of_name pnX5
def M_X5_claimAt : MI := (RX5, yX5_claimAt, cX5_claimAt, 2, (some .int), [(0, .iload_n 0, 1, 0), (1, .bipush 78, 2, 0), (3, .iadd, 1, 0), (4, .bipush 6, 2, 0), (6, .iload_n 1, 1, 0), (7, .imul, 1, 0), (8, .iadd, 1, 0), (9, .ireturn, 1, 0)], 0)
theorem ok_X5_claimAt : okM M_X5_claimAt = true := by decide +kernel
theorem pl_X5_claimAt : plainFor (mY M_X5_claimAt) = true := plainFor_of_name pnX5
def M_X5_umbrellaAt : MI := (RX5, yX5_umbrellaAt, cX5_umbrellaAt, 2, (some .int), [(0, .iload_n 0, 1, 0), (1, .bipush 18, 2, 0), (3, .iadd, 1, 0), (4, .iconst 5, 1, 0), (5, .iload_n 1, 1, 0), (6, .imul, 1, 0), (7, .iadd, 1, 0), (8, .ireturn, 1, 0)], 0)
theorem ok_X5_umbrellaAt : okM M_X5_umbrellaAt = true := by decide +kernel
theorem pl_X5_umbrellaAt : plainFor (mY M_X5_umbrellaAt) = true := plainFor_of_name pnX5
def M_X5_many : MI := (RX5, yX5_many, cX5_many, 6, (some .int), [(0, .iconst 0, 1, 0), (1, .istore 4, 2, 0), (3, .iconst 0, 1, 0), (4, .istore 5, 2, 0), (6, .iload 5, 2, 0), (8, .aload_n 0, 1, 0), (9, .getfield 7, 3, 0), (12, .iload_n 1, 1, 0), (13, .bipush 15, 2, 0), (15, .iadd, 1, 0), (16, .iaload, 1, 0), (17, .if_icmp .ge 36, 3, 30), (20, .iload 4, 2, 0), (22, .aload_n 0, 1, 0), (23, .getfield 7, 3, 0), (26, .iload_n 1, 1, 0), (27, .iload 5, 2, 0), (29, .invokestatic 39, 3, 0), (32, .iload_n 2, 1, 0), (33, .iadd, 1, 0), (34, .iaload, 1, 0), (35, .iload_n 3, 1, 0), (36, .if_icmp .ne 7, 3, 25), (39, .iconst 1, 1, 0), (40, .goto 4, 3, 26), (43, .iconst 0, 1, 0), (44, .iadd, 1, 0), (45, .istore 4, 2, 0), (47, .iinc 5 1, 3, 0), (50, .goto (-44), 3, 4), (53, .iload 4, 2, 0), (55, .ireturn, 1, 0)], 1)
theorem ok_X5_many : okM M_X5_many = true := by decide +kernel
theorem pl_X5_many : plainFor (mY M_X5_many) = true := plainFor_of_name pnX5
def M_X5_misses : MI := (RX5, yX5_misses, cX5_misses, 7, (some .int), [(0, .iconst 0, 1, 0), (1, .istore 4, 2, 0), (3, .iconst 0, 1, 0), (4, .istore 5, 2, 0), (6, .iload 5, 2, 0), (8, .iconst 4, 1, 0), (9, .if_icmp .ge 58, 3, 37), (12, .aload_n 0, 1, 0), (13, .getfield 7, 3, 0), (16, .iload_n 1, 1, 0), (17, .iload_n 3, 1, 0), (18, .invokestatic 43, 3, 0), (21, .iload 5, 2, 0), (23, .iadd, 1, 0), (24, .iaload, 1, 0), (25, .istore 6, 2, 0), (27, .iload 4, 2, 0), (29, .iload 6, 2, 0), (31, .iconst (-1), 1, 0), (32, .if_icmp .eq 25, 3, 32), (35, .iload 6, 2, 0), (37, .aload_n 0, 1, 0), (38, .getfield 7, 3, 0), (41, .iload_n 1, 1, 0), (42, .iload_n 2, 1, 0), (43, .invokestatic 39, 3, 0), (46, .iload 5, 2, 0), (48, .iadd, 1, 0), (49, .iaload, 1, 0), (50, .if_icmp .eq 7, 3, 32), (53, .iconst 1, 1, 0), (54, .goto 4, 3, 33), (57, .iconst 0, 1, 0), (58, .iadd, 1, 0), (59, .istore 4, 2, 0), (61, .iinc 5 1, 3, 0), (64, .goto (-58), 3, 4), (67, .iload 4, 2, 0), (69, .ireturn, 1, 0)], 1)
theorem ok_X5_misses : okM M_X5_misses = true := by decide +kernel
theorem pl_X5_misses : plainFor (mY M_X5_misses) = true := plainFor_of_name pnX5
def M_X5_pointsOf : MI := (RX5, yX5_pointsOf, cX5_pointsOf, 7, (some .int), [(0, .aload_n 0, 1, 0), (1, .getfield 7, 3, 0), (4, .iload_n 1, 1, 0), (5, .iconst 2, 1, 0), (6, .iadd, 1, 0), (7, .iaload, 1, 0), (8, .ineg, 1, 0), (9, .aload_n 0, 1, 0), (10, .iload_n 1, 1, 0), (11, .iload_n 2, 1, 0), (12, .iload_n 3, 1, 0), (13, .invokevirtual 46, 3, 0), (16, .imul, 1, 0), (17, .aload_n 0, 1, 0), (18, .getfield 7, 3, 0), (21, .iload_n 1, 1, 0), (22, .iconst 3, 1, 0), (23, .iadd, 1, 0), (24, .iaload, 1, 0), (25, .aload_n 0, 1, 0), (26, .getfield 7, 3, 0), (29, .iload_n 1, 1, 0), (30, .iload_n 3, 1, 0), (31, .invokestatic 43, 3, 0), (34, .iconst 5, 1, 0), (35, .iadd, 1, 0), (36, .iaload, 1, 0), (37, .imul, 1, 0), (38, .isub, 1, 0), (39, .istore 4, 2, 0), (41, .iconst 0, 1, 0), (42, .istore 5, 2, 0), (44, .iload 5, 2, 0), (46, .iconst 4, 1, 0), (47, .if_icmp .ge 63, 3, 68), (50, .aload_n 0, 1, 0), (51, .getfield 7, 3, 0), (54, .iload_n 1, 1, 0), (55, .iload_n 2, 1, 0), (56, .invokestatic 39, 3, 0), (59, .iload 5, 2, 0), (61, .iadd, 1, 0), (62, .iaload, 1, 0), (63, .istore 6, 2, 0), (65, .iload 4, 2, 0), (67, .aload_n 0, 1, 0), (68, .getfield 7, 3, 0), (71, .iload_n 1, 1, 0), (72, .iload_n 3, 1, 0), (73, .invokestatic 43, 3, 0), (76, .iload 5, 2, 0), (78, .iadd, 1, 0), (79, .iaload, 1, 0), (80, .iload 6, 2, 0), (82, .if_icmp .ne 18, 3, 63), (85, .bipush 13, 2, 0), (87, .aload_n 0, 1, 0), (88, .iload_n 1, 1, 0), (89, .iload 5, 2, 0), (91, .iload 6, 2, 0), (93, .invokevirtual 50, 3, 0), (96, .isub, 1, 0), (97, .goto 4, 3, 64), (100, .iconst 0, 1, 0), (101, .iadd, 1, 0), (102, .istore 4, 2, 0), (104, .iinc 5 1, 3, 0), (107, .goto (-63), 3, 32), (110, .iload 4, 2, 0), (112, .ireturn, 1, 0)], 2)
theorem ok_X5_pointsOf : okM M_X5_pointsOf = true := by decide +kernel
theorem pl_X5_pointsOf : plainFor (mY M_X5_pointsOf) = true := plainFor_of_name pnX5
def M_X5_suits : MI := (RX5, yX5_suits, cX5_suits, 4, (some .boolean), [(0, .aload_n 0, 1, 0), (1, .iload_n 1, 1, 0), (2, .iload_n 2, 1, 0), (3, .iload_n 3, 1, 0), (4, .invokevirtual 46, 3, 0), (7, .aload_n 0, 1, 0), (8, .getfield 7, 3, 0), (11, .iload_n 1, 1, 0), (12, .iconst 1, 1, 0), (13, .iadd, 1, 0), (14, .iaload, 1, 0), (15, .if_icmp .gt 25, 3, 26), (18, .aload_n 0, 1, 0), (19, .iload_n 1, 1, 0), (20, .iload_n 2, 1, 0), (21, .iload_n 3, 1, 0), (22, .invokevirtual 53, 3, 0), (25, .aload_n 0, 1, 0), (26, .getfield 7, 3, 0), (29, .iload_n 1, 1, 0), (30, .iconst 4, 1, 0), (31, .iadd, 1, 0), (32, .iaload, 1, 0), (33, .if_icmp .lt 7, 3, 26), (36, .iconst 1, 1, 0), (37, .goto 4, 3, 27), (40, .iconst 0, 1, 0), (41, .ireturn, 1, 0)], 3)
theorem ok_X5_suits : okM M_X5_suits = true := by decide +kernel
theorem pl_X5_suits : plainFor (mY M_X5_suits) = true := plainFor_of_name pnX5
def M_X5_clears : MI := (RX5, yX5_clears, cX5_clears, 4, none, [(0, .iconst 0, 1, 0), (1, .istore_n 2, 1, 0), (2, .iload_n 2, 1, 0), (3, .bipush 12, 2, 0), (5, .if_icmp .ge 30, 3, 22), (8, .aload_n 0, 1, 0), (9, .getfield 16, 3, 0), (12, .iload_n 2, 1, 0), (13, .iconst (-1), 1, 0), (14, .iastore, 1, 0), (15, .aload_n 0, 1, 0), (16, .getfield 19, 3, 0), (19, .iload_n 2, 1, 0), (20, .iconst (-1), 1, 0), (21, .iastore, 1, 0), (22, .aload_n 0, 1, 0), (23, .getfield 25, 3, 0), (26, .iload_n 2, 1, 0), (27, .iconst 0, 1, 0), (28, .iastore, 1, 0), (29, .iinc 2 1, 3, 0), (32, .goto (-30), 3, 2), (35, .iconst 0, 1, 0), (36, .istore_n 2, 1, 0), (37, .iload_n 2, 1, 0), (38, .sipush 144, 3, 0), (41, .if_icmp .ge 90, 3, 80), (44, .iload_n 2, 1, 0), (45, .bipush 12, 2, 0), (47, .idiv, 1, 0), (48, .aload_n 0, 1, 0), (49, .getfield 7, 3, 0), (52, .iload_n 1, 1, 0), (53, .bipush 15, 2, 0), (55, .iadd, 1, 0), (56, .iaload, 1, 0), (57, .if_icmp .ge 23, 3, 49), (60, .iload_n 2, 1, 0), (61, .bipush 12, 2, 0), (63, .irem, 1, 0), (64, .aload_n 0, 1, 0), (65, .getfield 7, 3, 0), (68, .iload_n 1, 1, 0), (69, .bipush 16, 2, 0), (71, .iadd, 1, 0), (72, .iaload, 1, 0), (73, .if_icmp .ge 7, 3, 49), (76, .iconst 1, 1, 0), (77, .goto 4, 3, 50), (80, .iconst 0, 1, 0), (81, .istore_n 3, 1, 0), (82, .aload_n 0, 1, 0), (83, .getfield 22, 3, 0), (86, .iload_n 2, 1, 0), (87, .iload_n 3, 1, 0), (88, .ifCond .eq 35, 3, 76), (91, .aload_n 0, 1, 0), (92, .iload_n 1, 1, 0), (93, .iload_n 2, 1, 0), (94, .bipush 12, 2, 0), (96, .idiv, 1, 0), (97, .iload_n 2, 1, 0), (98, .bipush 12, 2, 0), (100, .irem, 1, 0), (101, .invokevirtual 56, 3, 0), (104, .ifCond .eq 19, 3, 76), (107, .aload_n 0, 1, 0), (108, .iload_n 1, 1, 0), (109, .iload_n 2, 1, 0), (110, .bipush 12, 2, 0), (112, .idiv, 1, 0), (113, .iload_n 2, 1, 0), (114, .bipush 12, 2, 0), (116, .irem, 1, 0), (117, .invokevirtual 53, 3, 0), (120, .goto 4, 3, 77), (123, .iconst (-1), 1, 0), (124, .iastore, 1, 0), (125, .iinc 2 1, 3, 0), (128, .goto (-91), 3, 24), (131, .return_, 1, 0)], 4)
theorem ok_X5_clears : okM M_X5_clears = true := by decide +kernel
theorem pl_X5_clears : plainFor (mY M_X5_clears) = true := plainFor_of_name pnX5
def M_X5_byAsking : MI := (RX5, yX5_byAsking, cX5_byAsking, 4, (some .int), [(0, .aload_n 0, 1, 0), (1, .iload_n 1, 1, 0), (2, .invokevirtual 60, 3, 0), (5, .iconst 0, 1, 0), (6, .istore_n 2, 1, 0), (7, .iload_n 2, 1, 0), (8, .aload_n 0, 1, 0), (9, .getfield 7, 3, 0), (12, .iload_n 1, 1, 0), (13, .bipush 16, 2, 0), (15, .iadd, 1, 0), (16, .iaload, 1, 0), (17, .if_icmp .ge 25, 3, 25), (20, .iload_n 2, 1, 0), (21, .istore_n 3, 1, 0), (22, .iload_n 3, 1, 0), (23, .iconst (-1), 1, 0), (24, .if_icmp .eq 12, 3, 23), (27, .aload_n 0, 1, 0), (28, .iload_n 3, 1, 0), (29, .invokevirtual 68, 3, 0), (32, .istore_n 3, 1, 0), (33, .goto (-11), 3, 15), (36, .iinc 2 1, 3, 0), (39, .goto (-32), 3, 5), (42, .iconst 0, 1, 0), (43, .istore_n 2, 1, 0), (44, .iconst 0, 1, 0), (45, .istore_n 3, 1, 0), (46, .iload_n 3, 1, 0), (47, .bipush 12, 2, 0), (49, .if_icmp .ge 27, 3, 46), (52, .iload_n 2, 1, 0), (53, .aload_n 0, 1, 0), (54, .getfield 16, 3, 0), (57, .iload_n 3, 1, 0), (58, .iaload, 1, 0), (59, .iconst (-1), 1, 0), (60, .if_icmp .ne 7, 3, 41), (63, .iconst 0, 1, 0), (64, .goto 4, 3, 42), (67, .iconst 1, 1, 0), (68, .iadd, 1, 0), (69, .istore_n 2, 1, 0), (70, .iinc 3 1, 3, 0), (73, .goto (-27), 3, 29), (76, .iload_n 2, 1, 0), (77, .ireturn, 1, 0)], 5)
theorem ok_X5_byAsking : okM M_X5_byAsking = true := by decide +kernel
theorem pl_X5_byAsking : plainFor (mY M_X5_byAsking) = true := plainFor_of_name pnX5
def M_X5_lays : MI := (RX5, yX5_lays, cX5_lays, 6, none, [(0, .aload_n 0, 1, 0), (1, .getfield 7, 3, 0), (4, .iload_n 1, 1, 0), (5, .iload_n 2, 1, 0), (6, .iastore, 1, 0), (7, .aload_n 0, 1, 0), (8, .getfield 7, 3, 0), (11, .iload_n 1, 1, 0), (12, .iconst 1, 1, 0), (13, .iadd, 1, 0), (14, .iload_n 3, 1, 0), (15, .iastore, 1, 0), (16, .aload_n 0, 1, 0), (17, .getfield 7, 3, 0), (20, .iload_n 1, 1, 0), (21, .iconst 2, 1, 0), (22, .iadd, 1, 0), (23, .iload 4, 2, 0), (25, .iastore, 1, 0), (26, .aload_n 0, 1, 0), (27, .getfield 7, 3, 0), (30, .iload_n 1, 1, 0), (31, .iconst 3, 1, 0), (32, .iadd, 1, 0), (33, .iload 5, 2, 0), (35, .iastore, 1, 0), (36, .aload_n 0, 1, 0), (37, .getfield 7, 3, 0), (40, .iload_n 1, 1, 0), (41, .iconst 4, 1, 0), (42, .iadd, 1, 0), (43, .iconst 0, 1, 0), (44, .iastore, 1, 0), (45, .return_, 1, 0)], 0)
theorem ok_X5_lays : okM M_X5_lays = true := by decide +kernel
theorem pl_X5_lays : plainFor (mY M_X5_lays) = true := plainFor_of_name pnX5
def M_X5_claims : MI := (RX5, yX5_claims, cX5_claims, 6, (some .int), [(0, .iconst (-1), 1, 0), (1, .iload_n 2, 1, 0), (2, .iload_n 3, 1, 0), (3, .iload 4, 2, 0), (5, .iload 5, 2, 0), (7, .invokestatic 93, 3, 0), (10, .ifCond .ne 6, 3, 9), (13, .ldc 97, 2, 0), (15, .ireturn, 1, 0), (16, .iload_n 2, 1, 0), (17, .iload_n 3, 1, 0), (18, .iadd, 1, 0), (19, .iload 4, 2, 0), (21, .iadd, 1, 0), (22, .iload 5, 2, 0), (24, .iadd, 1, 0), (25, .bipush (-4), 2, 0), (27, .if_icmp .ne 6, 3, 20), (30, .ldc 103, 2, 0), (32, .ireturn, 1, 0), (33, .aload_n 0, 1, 0), (34, .getfield 7, 3, 0), (37, .iload_n 1, 1, 0), (38, .bipush 16, 2, 0), (40, .iadd, 1, 0), (41, .iaload, 1, 0), (42, .bipush 12, 2, 0), (44, .if_icmp .ne 6, 3, 30), (47, .ldc 98, 2, 0), (49, .ireturn, 1, 0), (50, .aload_n 0, 1, 0), (51, .iload_n 1, 1, 0), (52, .aload_n 0, 1, 0), (53, .getfield 7, 3, 0), (56, .iload_n 1, 1, 0), (57, .bipush 16, 2, 0), (59, .iadd, 1, 0), (60, .iaload, 1, 0), (61, .invokestatic 43, 3, 0), (64, .iload_n 2, 1, 0), (65, .iload_n 3, 1, 0), (66, .iload 4, 2, 0), (68, .iload 5, 2, 0), (70, .invokevirtual 99, 3, 0), (73, .aload_n 0, 1, 0), (74, .getfield 7, 3, 0), (77, .iload_n 1, 1, 0), (78, .aload_n 0, 1, 0), (79, .getfield 7, 3, 0), (82, .iload_n 1, 1, 0), (83, .bipush 16, 2, 0), (85, .iadd, 1, 0), (86, .iaload, 1, 0), (87, .invokestatic 43, 3, 0), (90, .iconst 5, 1, 0), (91, .iadd, 1, 0), (92, .iconst 0, 1, 0), (93, .iastore, 1, 0), (94, .aload_n 0, 1, 0), (95, .getfield 7, 3, 0), (98, .iload_n 1, 1, 0), (99, .bipush 9, 2, 0), (101, .iadd, 1, 0), (102, .dup2, 1, 0), (103, .iaload, 1, 0), (104, .iconst 1, 1, 0), (105, .iadd, 1, 0), (106, .iastore, 1, 0), (107, .aload_n 0, 1, 0), (108, .getfield 7, 3, 0), (111, .iload_n 1, 1, 0), (112, .bipush 16, 2, 0), (114, .iadd, 1, 0), (115, .dup2, 1, 0), (116, .iaload, 1, 0), (117, .iconst 1, 1, 0), (118, .iadd, 1, 0), (119, .iastore, 1, 0), (120, .aload_n 0, 1, 0), (121, .getfield 7, 3, 0), (124, .iload_n 1, 1, 0), (125, .bipush 16, 2, 0), (127, .iadd, 1, 0), (128, .iaload, 1, 0), (129, .iconst 1, 1, 0), (130, .isub, 1, 0), (131, .ireturn, 1, 0)], 2)
theorem ok_X5_claims : okM M_X5_claims = true := by decide +kernel
theorem pl_X5_claims : plainFor (mY M_X5_claims) = true := plainFor_of_name pnX5
def M_X5_copies : MI := (RX5, yX5_copies, cX5_copies, 4, none, [(0, .iconst 0, 1, 0), (1, .istore_n 3, 1, 0), (2, .iload_n 3, 1, 0), (3, .sipush 190, 3, 0), (6, .if_icmp .ge 33, 3, 23), (9, .aload_n 0, 1, 0), (10, .getfield 7, 3, 0), (13, .sipush 190, 3, 0), (16, .iload_n 2, 1, 0), (17, .imul, 1, 0), (18, .iload_n 3, 1, 0), (19, .iadd, 1, 0), (20, .aload_n 0, 1, 0), (21, .getfield 7, 3, 0), (24, .sipush 190, 3, 0), (27, .iload_n 1, 1, 0), (28, .imul, 1, 0), (29, .iload_n 3, 1, 0), (30, .iadd, 1, 0), (31, .iaload, 1, 0), (32, .iastore, 1, 0), (33, .iinc 3 1, 3, 0), (36, .goto (-34), 3, 2), (39, .return_, 1, 0)], 0)
theorem ok_X5_copies : okM M_X5_copies = true := by decide +kernel
theorem pl_X5_copies : plainFor (mY M_X5_copies) = true := plainFor_of_name pnX5
def M_X5_records : MI := (RX5, yX5_records, cX5_records, 2, none, [(0, .aload_n 0, 1, 0), (1, .getfield 31, 3, 0), (4, .iconst 4, 1, 0), (5, .if_icmp .ne 34, 3, 23), (8, .iconst 1, 1, 0), (9, .istore_n 1, 1, 0), (10, .iload_n 1, 1, 0), (11, .iconst 4, 1, 0), (12, .if_icmp .ge 17, 3, 17), (15, .aload_n 0, 1, 0), (16, .iload_n 1, 1, 0), (17, .iconst 1, 1, 0), (18, .iadd, 1, 0), (19, .iload_n 1, 1, 0), (20, .invokevirtual 35, 3, 0), (23, .iinc 1 1, 3, 0), (26, .goto (-16), 3, 6), (29, .aload_n 0, 1, 0), (30, .dup, 1, 0), (31, .getfield 31, 3, 0), (34, .iconst 1, 1, 0), (35, .isub, 1, 0), (36, .putfield 31, 3, 0), (39, .aload_n 0, 1, 0), (40, .dup, 1, 0), (41, .getfield 31, 3, 0), (44, .iconst 1, 1, 0), (45, .iadd, 1, 0), (46, .putfield 31, 3, 0), (49, .aload_n 0, 1, 0), (50, .iconst 0, 1, 0), (51, .aload_n 0, 1, 0), (52, .getfield 31, 3, 0), (55, .invokevirtual 35, 3, 0), (58, .return_, 1, 0)], 1)
theorem ok_X5_records : okM M_X5_records = true := by decide +kernel
theorem pl_X5_records : plainFor (mY M_X5_records) = true := plainFor_of_name pnX5
def M_X5_done : MI := (RX5, yX5_done, cX5_done, 2, (some .int), [(0, .iload_n 1, 1, 0), (1, .ifCond .lt 13, 3, 8), (4, .aload_n 0, 1, 0), (5, .invokevirtual 114, 3, 0), (8, .aload_n 0, 1, 0), (9, .iconst 5, 1, 0), (10, .iconst 0, 1, 0), (11, .invokevirtual 35, 3, 0), (14, .iload_n 1, 1, 0), (15, .ireturn, 1, 0)], 2)
theorem ok_X5_done : okM M_X5_done = true := by decide +kernel
theorem pl_X5_done : plainFor (mY M_X5_done) = true := plainFor_of_name pnX5
def M_X5_tried : MI := (RX5, yX5_tried, cX5_tried, 1, (some .int), [(0, .aload_n 0, 1, 0), (1, .iconst 0, 1, 0), (2, .iconst 5, 1, 0), (3, .invokevirtual 35, 3, 0), (6, .sipush 950, 3, 0), (9, .ireturn, 1, 0)], 1)
theorem ok_X5_tried : okM M_X5_tried = true := by decide +kernel
theorem pl_X5_tried : plainFor (mY M_X5_tried) = true := plainFor_of_name pnX5
def M_X5_claim : MI := (RX5, yX5_claim, cX5_claim, 5, (some .int), [(0, .aload_n 0, 1, 0), (1, .aload_n 0, 1, 0), (2, .aload_n 0, 1, 0), (3, .invokevirtual 117, 3, 0), (6, .iload_n 1, 1, 0), (7, .iload_n 2, 1, 0), (8, .iload_n 3, 1, 0), (9, .iload 4, 2, 0), (11, .invokevirtual 128, 3, 0), (14, .invokevirtual 125, 3, 0), (17, .ireturn, 1, 0)], 3)
theorem ok_X5_claim : okM M_X5_claim = true := by decide +kernel
theorem pl_X5_claim : plainFor (mY M_X5_claim) = true := plainFor_of_name pnX5
def M_X5_claimGoes : MI := (RX5, yX5_claimGoes, cX5_claimGoes, 4, none, [(0, .aload_n 0, 1, 0), (1, .getfield 7, 3, 0), (4, .iload_n 1, 1, 0), (5, .bipush 16, 2, 0), (7, .iadd, 1, 0), (8, .dup2, 1, 0), (9, .iaload, 1, 0), (10, .iconst 1, 1, 0), (11, .isub, 1, 0), (12, .iastore, 1, 0), (13, .iload_n 1, 1, 0), (14, .iload_n 2, 1, 0), (15, .invokestatic 43, 3, 0), (18, .istore_n 3, 1, 0), (19, .iload_n 3, 1, 0), (20, .iload_n 1, 1, 0), (21, .aload_n 0, 1, 0), (22, .getfield 7, 3, 0), (25, .iload_n 1, 1, 0), (26, .bipush 16, 2, 0), (28, .iadd, 1, 0), (29, .iaload, 1, 0), (30, .invokestatic 43, 3, 0), (33, .if_icmp .ge 24, 3, 36), (36, .aload_n 0, 1, 0), (37, .getfield 7, 3, 0), (40, .iload_n 3, 1, 0), (41, .aload_n 0, 1, 0), (42, .getfield 7, 3, 0), (45, .iload_n 3, 1, 0), (46, .bipush 6, 2, 0), (48, .iadd, 1, 0), (49, .iaload, 1, 0), (50, .iastore, 1, 0), (51, .iinc 3 1, 3, 0), (54, .goto (-35), 3, 14), (57, .return_, 1, 0)], 1)
theorem ok_X5_claimGoes : okM M_X5_claimGoes = true := by decide +kernel
theorem pl_X5_claimGoes : plainFor (mY M_X5_claimGoes) = true := plainFor_of_name pnX5
def M_X5_isClaim : MI := (RX5, yX5_isClaim, cX5_isClaim, 3, (some .boolean), [(0, .iload_n 2, 1, 0), (1, .iconst 0, 1, 0), (2, .aload_n 0, 1, 0), (3, .getfield 7, 3, 0), (6, .iload_n 1, 1, 0), (7, .bipush 16, 2, 0), (9, .iadd, 1, 0), (10, .iaload, 1, 0), (11, .iconst 1, 1, 0), (12, .isub, 1, 0), (13, .invokestatic 90, 3, 0), (16, .ireturn, 1, 0)], 1)
theorem ok_X5_isClaim : okM M_X5_isClaim = true := by decide +kernel
theorem pl_X5_isClaim : plainFor (mY M_X5_isClaim) = true := plainFor_of_name pnX5
def M_X5_matches : MI := (RX5, yX5_matches, cX5_matches, 7, (some .int), [(0, .aload_n 0, 1, 0), (1, .iload_n 1, 1, 0), (2, .invokevirtual 60, 3, 0), (5, .iconst 0, 1, 0), (6, .istore_n 2, 1, 0), (7, .iconst 1, 1, 0), (8, .istore_n 3, 1, 0), (9, .iload_n 3, 1, 0), (10, .ifCond .eq 158, 3, 91), (13, .iconst (-1), 1, 0), (14, .istore 4, 2, 0), (16, .iconst 0, 1, 0), (17, .istore 5, 2, 0), (19, .iload 5, 2, 0), (21, .sipush 144, 3, 0), (24, .if_icmp .ge 92, 3, 62), (27, .aload_n 0, 1, 0), (28, .getfield 22, 3, 0), (31, .iload 5, 2, 0), (33, .iaload, 1, 0), (34, .iconst (-1), 1, 0), (35, .if_icmp .eq 35, 3, 40), (38, .aload_n 0, 1, 0), (39, .getfield 16, 3, 0), (42, .iload 5, 2, 0), (44, .bipush 12, 2, 0), (46, .idiv, 1, 0), (47, .iaload, 1, 0), (48, .iconst (-1), 1, 0), (49, .if_icmp .ne 21, 3, 40), (52, .aload_n 0, 1, 0), (53, .getfield 19, 3, 0), (56, .iload 5, 2, 0), (58, .bipush 12, 2, 0), (60, .irem, 1, 0), (61, .iaload, 1, 0), (62, .iconst (-1), 1, 0), (63, .if_icmp .ne 7, 3, 40), (66, .iconst 1, 1, 0), (67, .goto 4, 3, 41), (70, .iconst 0, 1, 0), (71, .istore 6, 2, 0), (73, .iload 6, 2, 0), (75, .ifCond .eq 31, 3, 58), (78, .iload 4, 2, 0), (80, .iconst (-1), 1, 0), (81, .if_icmp .eq 20, 3, 56), (84, .aload_n 0, 1, 0), (85, .getfield 22, 3, 0), (88, .iload 5, 2, 0), (90, .iaload, 1, 0), (91, .aload_n 0, 1, 0), (92, .getfield 22, 3, 0), (95, .iload 4, 2, 0), (97, .iaload, 1, 0), (98, .if_icmp .le 8, 3, 58), (101, .iload 5, 2, 0), (103, .goto 5, 3, 59), (106, .iload 4, 2, 0), (108, .istore 4, 2, 0), (110, .iinc 5 1, 3, 0), (113, .goto (-94), 3, 13), (116, .iload 4, 2, 0), (118, .iconst (-1), 1, 0), (119, .if_icmp .eq 7, 3, 67), (122, .iconst 1, 1, 0), (123, .goto 4, 3, 68), (126, .iconst 0, 1, 0), (127, .istore_n 3, 1, 0), (128, .iload_n 3, 1, 0), (129, .ifCond .eq 36, 3, 90), (132, .aload_n 0, 1, 0), (133, .getfield 16, 3, 0), (136, .iload 4, 2, 0), (138, .bipush 12, 2, 0), (140, .idiv, 1, 0), (141, .iload 4, 2, 0), (143, .bipush 12, 2, 0), (145, .irem, 1, 0), (146, .iastore, 1, 0), (147, .aload_n 0, 1, 0), (148, .getfield 19, 3, 0), (151, .iload 4, 2, 0), (153, .bipush 12, 2, 0), (155, .irem, 1, 0), (156, .iload 4, 2, 0), (158, .bipush 12, 2, 0), (160, .idiv, 1, 0), (161, .iastore, 1, 0), (162, .iinc 2 1, 3, 0), (165, .goto (-156), 3, 7), (168, .iload_n 2, 1, 0), (169, .ireturn, 1, 0)], 5)
theorem ok_X5_matches : okM M_X5_matches = true := by decide +kernel
theorem pl_X5_matches : plainFor (mY M_X5_matches) = true := plainFor_of_name pnX5
def M_X5_matchOf : MI := (RX5, yX5_matchOf, cX5_matchOf, 4, (some .int), [(0, .aload_n 0, 1, 0), (1, .iload_n 1, 1, 0), (2, .invokevirtual 87, 3, 0), (5, .istore_n 3, 1, 0), (6, .aload_n 0, 1, 0), (7, .getfield 19, 3, 0), (10, .iload_n 2, 1, 0), (11, .iaload, 1, 0), (12, .iconst (-1), 1, 0), (13, .if_icmp .ne 8, 3, 12), (16, .ldc 144, 2, 0), (18, .goto 9, 3, 16), (21, .aload_n 0, 1, 0), (22, .getfield 19, 3, 0), (25, .iload_n 2, 1, 0), (26, .iaload, 1, 0), (27, .ireturn, 1, 0)], 6)
theorem ok_X5_matchOf : okM M_X5_matchOf = true := by decide +kernel
theorem pl_X5_matchOf : plainFor (mY M_X5_matchOf) = true := plainFor_of_name pnX5
def M_X5_suiting : MI := (RX5, yX5_suiting, cX5_suiting, 6, (some .int), [(0, .aload_n 0, 1, 0), (1, .iconst 0, 1, 0), (2, .invokevirtual 60, 3, 0), (5, .iconst 0, 1, 0), (6, .istore_n 3, 1, 0), (7, .iconst 0, 1, 0), (8, .istore 4, 2, 0), (10, .iload 4, 2, 0), (12, .sipush 144, 3, 0), (15, .if_icmp .ge 71, 3, 47), (18, .iload_n 1, 1, 0), (19, .iconst (-1), 1, 0), (20, .if_icmp .ne 20, 3, 22), (23, .iload 4, 2, 0), (25, .bipush 12, 2, 0), (27, .irem, 1, 0), (28, .iload_n 2, 1, 0), (29, .if_icmp .ne 7, 3, 20), (32, .iconst 1, 1, 0), (33, .goto 21, 3, 30), (36, .iconst 0, 1, 0), (37, .goto 17, 3, 30), (40, .iload 4, 2, 0), (42, .bipush 12, 2, 0), (44, .idiv, 1, 0), (45, .iload_n 1, 1, 0), (46, .if_icmp .ne 7, 3, 29), (49, .iconst 1, 1, 0), (50, .goto 4, 3, 30), (53, .iconst 0, 1, 0), (54, .istore 5, 2, 0), (56, .iload_n 3, 1, 0), (57, .iload 5, 2, 0), (59, .ifCond .eq 18, 3, 42), (62, .aload_n 0, 1, 0), (63, .getfield 22, 3, 0), (66, .iload 4, 2, 0), (68, .iaload, 1, 0), (69, .iconst (-1), 1, 0), (70, .if_icmp .eq 7, 3, 42), (73, .iconst 1, 1, 0), (74, .goto 4, 3, 43), (77, .iconst 0, 1, 0), (78, .iadd, 1, 0), (79, .istore_n 3, 1, 0), (80, .iinc 4 1, 3, 0), (83, .goto (-73), 3, 7), (86, .iload_n 3, 1, 0), (87, .ireturn, 1, 0)], 5)
theorem ok_X5_suiting : okM M_X5_suiting = true := by decide +kernel
theorem pl_X5_suiting : plainFor (mY M_X5_suiting) = true := plainFor_of_name pnX5
def M_X5_claimOf : MI := (RX5, yX5_claimOf, cX5_claimOf, 4, (some .int), [(0, .aload_n 0, 1, 0), (1, .iconst 0, 1, 0), (2, .iload_n 1, 1, 0), (3, .invokevirtual 104, 3, 0), (6, .ifCond .eq 13, 3, 10), (9, .iload_n 2, 1, 0), (10, .iconst 0, 1, 0), (11, .bipush 7, 2, 0), (13, .invokestatic 90, 3, 0), (16, .ifCond .ne 6, 3, 12), (19, .ldc 97, 2, 0), (21, .ireturn, 1, 0), (22, .iconst 0, 1, 0), (23, .iload_n 1, 1, 0), (24, .invokestatic 43, 3, 0), (27, .istore_n 3, 1, 0), (28, .iload_n 2, 1, 0), (29, .tableswitch 63 4 7 #[31, 40, 47, 54], 31, 0), (60, .aload_n 0, 1, 0), (61, .getfield 7, 3, 0), (64, .iload_n 3, 1, 0), (65, .iconst 4, 1, 0), (66, .iadd, 1, 0), (67, .iaload, 1, 0), (68, .ireturn, 1, 0), (69, .aload_n 0, 1, 0), (70, .iconst 0, 1, 0), (71, .iload_n 1, 1, 0), (72, .invokevirtual 159, 3, 0), (75, .ireturn, 1, 0), (76, .aload_n 0, 1, 0), (77, .iconst (-1), 1, 0), (78, .iload_n 1, 1, 0), (79, .invokevirtual 153, 3, 0), (82, .ireturn, 1, 0), (83, .aload_n 0, 1, 0), (84, .getfield 7, 3, 0), (87, .iload_n 3, 1, 0), (88, .iconst 5, 1, 0), (89, .iadd, 1, 0), (90, .iaload, 1, 0), (91, .ireturn, 1, 0), (92, .aload_n 0, 1, 0), (93, .getfield 7, 3, 0), (96, .iload_n 3, 1, 0), (97, .iload_n 2, 1, 0), (98, .iadd, 1, 0), (99, .iaload, 1, 0), (100, .iconst (-1), 1, 0), (101, .if_icmp .ne 8, 3, 52), (104, .ldc 144, 2, 0), (106, .goto 11, 3, 58), (109, .aload_n 0, 1, 0), (110, .getfield 7, 3, 0), (113, .iload_n 3, 1, 0), (114, .iload_n 2, 1, 0), (115, .iadd, 1, 0), (116, .iaload, 1, 0), (117, .ireturn, 1, 0)], 7)
theorem ok_X5_claimOf : okM M_X5_claimOf = true := by decide +kernel
theorem pl_X5_claimOf : plainFor (mY M_X5_claimOf) = true := plainFor_of_name pnX5
def M_X5_clearText : MI := (RX5, yX5_clearText, cX5_clearText, 2, (some .int), [(0, .aload_n 0, 1, 0), (1, .getfield 171, 3, 0), (4, .istore_n 1, 1, 0), (5, .aload_n 0, 1, 0), (6, .iconst 0, 1, 0), (7, .putfield 171, 3, 0), (10, .iload_n 1, 1, 0), (11, .ireturn, 1, 0)], 0)
theorem ok_X5_clearText : okM M_X5_clearText = true := by decide +kernel
theorem pl_X5_clearText : plainFor (mY M_X5_clearText) = true := plainFor_of_name pnX5
def M_X5_count : MI := (RX5, yX5_count, cX5_count, 2, (some .int), [(0, .iload_n 1, 1, 0), (1, .bipush 20, 2, 0), (3, .bipush 26, 2, 0), (5, .invokestatic 90, 3, 0), (8, .ifCond .eq 15, 3, 14), (11, .aload_n 0, 1, 0), (12, .getfield 7, 3, 0), (15, .iconst 1, 1, 0), (16, .iload_n 1, 1, 0), (17, .iadd, 1, 0), (18, .bipush 20, 2, 0), (20, .isub, 1, 0), (21, .iaload, 1, 0), (22, .ireturn, 1, 0), (23, .iload_n 1, 1, 0), (24, .tableswitch 137 0 14 #[76, 83, 83, 95, 101, 107, 107, 107, 107, 107, 107, 107, 119, 127, 132], 76, 0), (100, .aload_n 0, 1, 0), (101, .getfield 7, 3, 0), (104, .iconst 0, 1, 0), (105, .iaload, 1, 0), (106, .ireturn, 1, 0), (107, .aload_n 0, 1, 0), (108, .getfield 7, 3, 0), (111, .bipush 15, 2, 0), (113, .iload_n 1, 1, 0), (114, .iadd, 1, 0), (115, .iconst 1, 1, 0), (116, .isub, 1, 0), (117, .iaload, 1, 0), (118, .ireturn, 1, 0), (119, .aload_n 0, 1, 0), (120, .iconst 0, 1, 0), (121, .invokevirtual 87, 3, 0), (124, .ireturn, 1, 0), (125, .aload_n 0, 1, 0), (126, .iconst 0, 1, 0), (127, .invokevirtual 168, 3, 0), (130, .ireturn, 1, 0), (131, .aload_n 0, 1, 0), (132, .getfield 7, 3, 0), (135, .bipush 8, 2, 0), (137, .iload_n 1, 1, 0), (138, .iadd, 1, 0), (139, .iconst 5, 1, 0), (140, .isub, 1, 0), (141, .iaload, 1, 0), (142, .ireturn, 1, 0), (143, .aload_n 0, 1, 0), (144, .getfield 7, 3, 0), (147, .bipush 17, 2, 0), (149, .iaload, 1, 0), (150, .ireturn, 1, 0), (151, .aload_n 0, 1, 0), (152, .getfield 31, 3, 0), (155, .ireturn, 1, 0), (156, .aload_n 0, 1, 0), (157, .getfield 171, 3, 0), (160, .ireturn, 1, 0), (161, .ldc 97, 2, 0), (163, .ireturn, 1, 0)], 6)
theorem ok_X5_count : okM M_X5_count = true := by decide +kernel
theorem pl_X5_count : plainFor (mY M_X5_count) = true := plainFor_of_name pnX5
def M_X5_finds : MI := (RX5, yX5_finds, cX5_finds, 6, (some .int), [(0, .iconst 0, 1, 0), (1, .iload_n 2, 1, 0), (2, .iload_n 3, 1, 0), (3, .iload 4, 2, 0), (5, .iload 5, 2, 0), (7, .invokestatic 93, 3, 0), (10, .ifCond .ne 6, 3, 9), (13, .ldc 97, 2, 0), (15, .ireturn, 1, 0), (16, .aload_n 0, 1, 0), (17, .getfield 7, 3, 0), (20, .iload_n 1, 1, 0), (21, .bipush 15, 2, 0), (23, .iadd, 1, 0), (24, .iaload, 1, 0), (25, .bipush 12, 2, 0), (27, .if_icmp .ne 6, 3, 19), (30, .ldc 98, 2, 0), (32, .ireturn, 1, 0), (33, .aload_n 0, 1, 0), (34, .iload_n 1, 1, 0), (35, .aload_n 0, 1, 0), (36, .getfield 7, 3, 0), (39, .iload_n 1, 1, 0), (40, .bipush 15, 2, 0), (42, .iadd, 1, 0), (43, .iaload, 1, 0), (44, .invokestatic 39, 3, 0), (47, .iload_n 2, 1, 0), (48, .iload_n 3, 1, 0), (49, .iload 4, 2, 0), (51, .iload 5, 2, 0), (53, .invokevirtual 99, 3, 0), (56, .aload_n 0, 1, 0), (57, .getfield 7, 3, 0), (60, .iload_n 1, 1, 0), (61, .bipush 8, 2, 0), (63, .iadd, 1, 0), (64, .dup2, 1, 0), (65, .iaload, 1, 0), (66, .iconst 1, 1, 0), (67, .iadd, 1, 0), (68, .iastore, 1, 0), (69, .aload_n 0, 1, 0), (70, .getfield 7, 3, 0), (73, .iload_n 1, 1, 0), (74, .bipush 15, 2, 0), (76, .iadd, 1, 0), (77, .dup2, 1, 0), (78, .iaload, 1, 0), (79, .iconst 1, 1, 0), (80, .iadd, 1, 0), (81, .iastore, 1, 0), (82, .aload_n 0, 1, 0), (83, .getfield 7, 3, 0), (86, .iload_n 1, 1, 0), (87, .bipush 15, 2, 0), (89, .iadd, 1, 0), (90, .iaload, 1, 0), (91, .iconst 1, 1, 0), (92, .isub, 1, 0), (93, .ireturn, 1, 0)], 2)
theorem ok_X5_finds : okM M_X5_finds = true := by decide +kernel
theorem pl_X5_finds : plainFor (mY M_X5_finds) = true := plainFor_of_name pnX5
def M_X5_umbrellaGoes : MI := (RX5, yX5_umbrellaGoes, cX5_umbrellaGoes, 4, none, [(0, .aload_n 0, 1, 0), (1, .getfield 7, 3, 0), (4, .iload_n 1, 1, 0), (5, .bipush 15, 2, 0), (7, .iadd, 1, 0), (8, .dup2, 1, 0), (9, .iaload, 1, 0), (10, .iconst 1, 1, 0), (11, .isub, 1, 0), (12, .iastore, 1, 0), (13, .iload_n 1, 1, 0), (14, .iload_n 2, 1, 0), (15, .invokestatic 39, 3, 0), (18, .istore_n 3, 1, 0), (19, .iload_n 3, 1, 0), (20, .iload_n 1, 1, 0), (21, .aload_n 0, 1, 0), (22, .getfield 7, 3, 0), (25, .iload_n 1, 1, 0), (26, .bipush 15, 2, 0), (28, .iadd, 1, 0), (29, .iaload, 1, 0), (30, .invokestatic 39, 3, 0), (33, .if_icmp .ge 23, 3, 36), (36, .aload_n 0, 1, 0), (37, .getfield 7, 3, 0), (40, .iload_n 3, 1, 0), (41, .aload_n 0, 1, 0), (42, .getfield 7, 3, 0), (45, .iload_n 3, 1, 0), (46, .iconst 5, 1, 0), (47, .iadd, 1, 0), (48, .iaload, 1, 0), (49, .iastore, 1, 0), (50, .iinc 3 1, 3, 0), (53, .goto (-34), 3, 14), (56, .return_, 1, 0)], 1)
theorem ok_X5_umbrellaGoes : okM M_X5_umbrellaGoes = true := by decide +kernel
theorem pl_X5_umbrellaGoes : plainFor (mY M_X5_umbrellaGoes) = true := plainFor_of_name pnX5
def M_X5_writes : MI := (RX5, yX5_writes, cX5_writes, 6, none, [(0, .aload_n 0, 1, 0), (1, .getfield 7, 3, 0), (4, .iload_n 1, 1, 0), (5, .bipush 17, 2, 0), (7, .iadd, 1, 0), (8, .iaload, 1, 0), (9, .bipush 10, 2, 0), (11, .if_icmp .ne 58, 3, 41), (14, .iload_n 1, 1, 0), (15, .sipush 150, 3, 0), (18, .iadd, 1, 0), (19, .istore 5, 2, 0), (21, .iload 5, 2, 0), (23, .iload_n 1, 1, 0), (24, .sipush 150, 3, 0), (27, .iadd, 1, 0), (28, .bipush 36, 2, 0), (30, .iadd, 1, 0), (31, .if_icmp .ge 25, 3, 31), (34, .aload_n 0, 1, 0), (35, .getfield 7, 3, 0), (38, .iload 5, 2, 0), (40, .aload_n 0, 1, 0), (41, .getfield 7, 3, 0), (44, .iload 5, 2, 0), (46, .iconst 4, 1, 0), (47, .iadd, 1, 0), (48, .iaload, 1, 0), (49, .iastore, 1, 0), (50, .iinc 5 1, 3, 0), (53, .goto (-32), 3, 12), (56, .aload_n 0, 1, 0), (57, .getfield 7, 3, 0), (60, .iload_n 1, 1, 0), (61, .bipush 17, 2, 0), (63, .iadd, 1, 0), (64, .dup2, 1, 0), (65, .iaload, 1, 0), (66, .iconst 1, 1, 0), (67, .isub, 1, 0), (68, .iastore, 1, 0), (69, .iload_n 1, 1, 0), (70, .sipush 150, 3, 0), (73, .iadd, 1, 0), (74, .iconst 4, 1, 0), (75, .aload_n 0, 1, 0), (76, .getfield 7, 3, 0), (79, .iload_n 1, 1, 0), (80, .bipush 17, 2, 0), (82, .iadd, 1, 0), (83, .iaload, 1, 0), (84, .imul, 1, 0), (85, .iadd, 1, 0), (86, .istore 5, 2, 0), (88, .aload_n 0, 1, 0), (89, .getfield 7, 3, 0), (92, .iload 5, 2, 0), (94, .aload_n 0, 1, 0), (95, .getfield 7, 3, 0), (98, .iload_n 1, 1, 0), (99, .iconst 0, 1, 0), (100, .iadd, 1, 0), (101, .iaload, 1, 0), (102, .iastore, 1, 0), (103, .aload_n 0, 1, 0), (104, .getfield 7, 3, 0), (107, .iload 5, 2, 0), (109, .iconst 1, 1, 0), (110, .iadd, 1, 0), (111, .iload_n 2, 1, 0), (112, .iastore, 1, 0), (113, .aload_n 0, 1, 0), (114, .getfield 7, 3, 0), (117, .iload 5, 2, 0), (119, .iconst 2, 1, 0), (120, .iadd, 1, 0), (121, .iload_n 3, 1, 0), (122, .iastore, 1, 0), (123, .aload_n 0, 1, 0), (124, .getfield 7, 3, 0), (127, .iload 5, 2, 0), (129, .iconst 3, 1, 0), (130, .iadd, 1, 0), (131, .iload 4, 2, 0), (133, .iastore, 1, 0), (134, .aload_n 0, 1, 0), (135, .getfield 7, 3, 0), (138, .iload_n 1, 1, 0), (139, .bipush 17, 2, 0), (141, .iadd, 1, 0), (142, .dup2, 1, 0), (143, .iaload, 1, 0), (144, .iconst 1, 1, 0), (145, .iadd, 1, 0), (146, .iastore, 1, 0), (147, .aload_n 0, 1, 0), (148, .getfield 7, 3, 0), (151, .iload_n 1, 1, 0), (152, .bipush 13, 2, 0), (154, .iadd, 1, 0), (155, .dup2, 1, 0), (156, .iaload, 1, 0), (157, .iload 4, 2, 0), (159, .iadd, 1, 0), (160, .iastore, 1, 0), (161, .return_, 1, 0)], 0)
theorem ok_X5_writes : okM M_X5_writes = true := by decide +kernel
theorem pl_X5_writes : plainFor (mY M_X5_writes) = true := plainFor_of_name pnX5
def M_X5_handsOut : MI := (RX5, yX5_handsOut, cX5_handsOut, 5, (some .int), [(0, .aload_n 0, 1, 0), (1, .iload_n 1, 1, 0), (2, .invokevirtual 87, 3, 0), (5, .istore_n 2, 1, 0), (6, .iconst 0, 1, 0), (7, .istore_n 3, 1, 0), (8, .iload_n 3, 1, 0), (9, .aload_n 0, 1, 0), (10, .getfield 7, 3, 0), (13, .iload_n 1, 1, 0), (14, .bipush 15, 2, 0), (16, .iadd, 1, 0), (17, .iaload, 1, 0), (18, .if_icmp .ge 52, 3, 44), (21, .aload_n 0, 1, 0), (22, .getfield 16, 3, 0), (25, .iload_n 3, 1, 0), (26, .iaload, 1, 0), (27, .iconst (-1), 1, 0), (28, .if_icmp .eq 36, 3, 42), (31, .aload_n 0, 1, 0), (32, .getfield 7, 3, 0), (35, .iload_n 1, 1, 0), (36, .iload_n 3, 1, 0), (37, .invokestatic 39, 3, 0), (40, .iconst 4, 1, 0), (41, .iadd, 1, 0), (42, .iaload, 1, 0), (43, .istore 4, 2, 0), (45, .aload_n 0, 1, 0), (46, .iload_n 1, 1, 0), (47, .iconst 0, 1, 0), (48, .iload 4, 2, 0), (50, .iload 4, 2, 0), (52, .aload_n 0, 1, 0), (53, .getfield 7, 3, 0), (56, .iload_n 1, 1, 0), (57, .iconst 5, 1, 0), (58, .iadd, 1, 0), (59, .iaload, 1, 0), (60, .imul, 1, 0), (61, .invokevirtual 71, 3, 0), (64, .iinc 3 1, 3, 0), (67, .goto (-59), 3, 6), (70, .bipush 11, 2, 0), (72, .istore_n 3, 1, 0), (73, .iload_n 3, 1, 0), (74, .ifCond .lt 41, 3, 70), (77, .aload_n 0, 1, 0), (78, .getfield 16, 3, 0), (81, .iload_n 3, 1, 0), (82, .iaload, 1, 0), (83, .iconst (-1), 1, 0), (84, .if_icmp .eq 9, 3, 58), (87, .aload_n 0, 1, 0), (88, .iload_n 1, 1, 0), (89, .iload_n 3, 1, 0), (90, .invokevirtual 75, 3, 0), (93, .aload_n 0, 1, 0), (94, .getfield 19, 3, 0), (97, .iload_n 3, 1, 0), (98, .iaload, 1, 0), (99, .iconst (-1), 1, 0), (100, .if_icmp .eq 9, 3, 68), (103, .aload_n 0, 1, 0), (104, .iload_n 1, 1, 0), (105, .iload_n 3, 1, 0), (106, .invokevirtual 78, 3, 0), (109, .iinc 3 (-1), 3, 0), (112, .goto (-39), 3, 46), (115, .aload_n 0, 1, 0), (116, .getfield 7, 3, 0), (119, .iload_n 1, 1, 0), (120, .bipush 10, 2, 0), (122, .iadd, 1, 0), (123, .dup2, 1, 0), (124, .iaload, 1, 0), (125, .iload_n 2, 1, 0), (126, .iadd, 1, 0), (127, .iastore, 1, 0), (128, .iload_n 2, 1, 0), (129, .ireturn, 1, 0)], 6)
theorem ok_X5_handsOut : okM M_X5_handsOut = true := by decide +kernel
theorem pl_X5_handsOut : plainFor (mY M_X5_handsOut) = true := plainFor_of_name pnX5
def M_X5_isDetail : MI := (RX5, yX5_isDetail, cX5_isDetail, 2, (some .boolean), [(0, .iload_n 0, 1, 0), (1, .iconst 0, 1, 0), (2, .iconst 3, 1, 0), (3, .invokestatic 90, 3, 0), (6, .ifCond .eq 17, 3, 12), (9, .iload_n 1, 1, 0), (10, .iconst 0, 1, 0), (11, .bipush 9, 2, 0), (13, .invokestatic 90, 3, 0), (16, .ifCond .eq 7, 3, 12), (19, .iconst 1, 1, 0), (20, .goto 4, 3, 13), (23, .iconst 0, 1, 0), (24, .ireturn, 1, 0)], 1)
theorem ok_X5_isDetail : okM M_X5_isDetail = true := by decide +kernel
theorem pl_X5_isDetail : plainFor (mY M_X5_isDetail) = true := plainFor_of_name pnX5
def M_X5_tells : MI := (RX5, yX5_tells, cX5_tells, 6, (some .int), [(0, .aload_n 0, 1, 0), (1, .iload_n 1, 1, 0), (2, .iload_n 2, 1, 0), (3, .invokevirtual 104, 3, 0), (6, .ifCond .eq 12, 3, 9), (9, .iload_n 3, 1, 0), (10, .iload 4, 2, 0), (12, .invokestatic 108, 3, 0), (15, .ifCond .ne 6, 3, 11), (18, .ldc 97, 2, 0), (20, .ireturn, 1, 0), (21, .iload_n 1, 1, 0), (22, .iload_n 2, 1, 0), (23, .invokestatic 43, 3, 0), (26, .istore 5, 2, 0), (28, .aload_n 0, 1, 0), (29, .getfield 7, 3, 0), (32, .iload 5, 2, 0), (34, .iconst 5, 1, 0), (35, .iadd, 1, 0), (36, .dup2, 1, 0), (37, .iaload, 1, 0), (38, .aload_n 0, 1, 0), (39, .getfield 7, 3, 0), (42, .iload 5, 2, 0), (44, .iload_n 3, 1, 0), (45, .iadd, 1, 0), (46, .iaload, 1, 0), (47, .iconst (-1), 1, 0), (48, .if_icmp .eq 21, 3, 40), (51, .aload_n 0, 1, 0), (52, .getfield 7, 3, 0), (55, .iload 5, 2, 0), (57, .iload_n 3, 1, 0), (58, .iadd, 1, 0), (59, .iaload, 1, 0), (60, .iload 4, 2, 0), (62, .if_icmp .eq 7, 3, 40), (65, .iconst 1, 1, 0), (66, .goto 4, 3, 41), (69, .iconst 0, 1, 0), (70, .iadd, 1, 0), (71, .iastore, 1, 0), (72, .aload_n 0, 1, 0), (73, .getfield 7, 3, 0), (76, .iload 5, 2, 0), (78, .iload_n 3, 1, 0), (79, .iadd, 1, 0), (80, .iload 4, 2, 0), (82, .iastore, 1, 0), (83, .aload_n 0, 1, 0), (84, .getfield 7, 3, 0), (87, .iload 5, 2, 0), (89, .iconst 5, 1, 0), (90, .iadd, 1, 0), (91, .iaload, 1, 0), (92, .ireturn, 1, 0)], 2)
theorem ok_X5_tells : okM M_X5_tells = true := by decide +kernel
theorem pl_X5_tells : plainFor (mY M_X5_tells) = true := plainFor_of_name pnX5
def M_X5_lapses : MI := (RX5, yX5_lapses, cX5_lapses, 4, none, [(0, .iconst 0, 1, 0), (1, .istore_n 2, 1, 0), (2, .iload_n 2, 1, 0), (3, .aload_n 0, 1, 0), (4, .getfield 7, 3, 0), (7, .iload_n 1, 1, 0), (8, .bipush 16, 2, 0), (10, .iadd, 1, 0), (11, .iaload, 1, 0), (12, .if_icmp .ge 65, 3, 50), (15, .aload_n 0, 1, 0), (16, .getfield 7, 3, 0), (19, .iload_n 1, 1, 0), (20, .iload_n 2, 1, 0), (21, .invokestatic 43, 3, 0), (24, .iconst 4, 1, 0), (25, .iadd, 1, 0), (26, .iaload, 1, 0), (27, .istore_n 3, 1, 0), (28, .iload_n 3, 1, 0), (29, .aload_n 0, 1, 0), (30, .getfield 7, 3, 0), (33, .iload_n 1, 1, 0), (34, .bipush 6, 2, 0), (36, .iadd, 1, 0), (37, .iaload, 1, 0), (38, .if_icmp .lt 33, 3, 48), (41, .aload_n 0, 1, 0), (42, .iload_n 1, 1, 0), (43, .iconst 2, 1, 0), (44, .iload_n 3, 1, 0), (45, .iconst 0, 1, 0), (46, .invokevirtual 71, 3, 0), (49, .aload_n 0, 1, 0), (50, .getfield 7, 3, 0), (53, .iload_n 1, 1, 0), (54, .bipush 12, 2, 0), (56, .iadd, 1, 0), (57, .dup2, 1, 0), (58, .iaload, 1, 0), (59, .iconst 1, 1, 0), (60, .iadd, 1, 0), (61, .iastore, 1, 0), (62, .aload_n 0, 1, 0), (63, .iload_n 1, 1, 0), (64, .iload_n 2, 1, 0), (65, .invokevirtual 78, 3, 0), (68, .goto 6, 3, 49), (71, .iinc 2 1, 3, 0), (74, .goto (-72), 3, 2), (77, .return_, 1, 0)], 2)
theorem ok_X5_lapses : okM M_X5_lapses = true := by decide +kernel
theorem pl_X5_lapses : plainFor (mY M_X5_lapses) = true := plainFor_of_name pnX5
def M_X5_sells : MI := (RX5, yX5_sells, cX5_sells, 4, none, [(0, .iconst 0, 1, 0), (1, .istore_n 2, 1, 0), (2, .iload_n 2, 1, 0), (3, .aload_n 0, 1, 0), (4, .getfield 7, 3, 0), (7, .iload_n 1, 1, 0), (8, .bipush 15, 2, 0), (10, .iadd, 1, 0), (11, .iaload, 1, 0), (12, .if_icmp .ge 73, 3, 55), (15, .aload_n 0, 1, 0), (16, .getfield 7, 3, 0), (19, .iload_n 1, 1, 0), (20, .iload_n 2, 1, 0), (21, .invokestatic 39, 3, 0), (24, .iconst 4, 1, 0), (25, .iadd, 1, 0), (26, .iaload, 1, 0), (27, .istore_n 3, 1, 0), (28, .iload_n 3, 1, 0), (29, .aload_n 0, 1, 0), (30, .getfield 7, 3, 0), (33, .iload_n 1, 1, 0), (34, .bipush 6, 2, 0), (36, .iadd, 1, 0), (37, .iaload, 1, 0), (38, .if_icmp .lt 41, 3, 53), (41, .aload_n 0, 1, 0), (42, .iload_n 1, 1, 0), (43, .iconst 1, 1, 0), (44, .iload_n 3, 1, 0), (45, .aload_n 0, 1, 0), (46, .getfield 7, 3, 0), (49, .iload_n 1, 1, 0), (50, .bipush 7, 2, 0), (52, .iadd, 1, 0), (53, .iaload, 1, 0), (54, .invokevirtual 71, 3, 0), (57, .aload_n 0, 1, 0), (58, .getfield 7, 3, 0), (61, .iload_n 1, 1, 0), (62, .bipush 11, 2, 0), (64, .iadd, 1, 0), (65, .dup2, 1, 0), (66, .iaload, 1, 0), (67, .iconst 1, 1, 0), (68, .iadd, 1, 0), (69, .iastore, 1, 0), (70, .aload_n 0, 1, 0), (71, .iload_n 1, 1, 0), (72, .iload_n 2, 1, 0), (73, .invokevirtual 75, 3, 0), (76, .goto 6, 3, 54), (79, .iinc 2 1, 3, 0), (82, .goto (-80), 3, 2), (85, .return_, 1, 0)], 2)
theorem ok_X5_sells : okM M_X5_sells = true := by decide +kernel
theorem pl_X5_sells : plainFor (mY M_X5_sells) = true := plainFor_of_name pnX5
def M_X5_goBy : MI := (RX5, yX5_goBy, cX5_goBy, 6, (some .int), [(0, .aload_n 0, 1, 0), (1, .getfield 7, 3, 0), (4, .iload_n 1, 1, 0), (5, .bipush 11, 2, 0), (7, .iadd, 1, 0), (8, .iaload, 1, 0), (9, .istore_n 3, 1, 0), (10, .iconst 0, 1, 0), (11, .istore 4, 2, 0), (13, .iload 4, 2, 0), (15, .iload_n 2, 1, 0), (16, .if_icmp .ge 81, 3, 61), (19, .aload_n 0, 1, 0), (20, .getfield 7, 3, 0), (23, .iload_n 1, 1, 0), (24, .iconst 0, 1, 0), (25, .iadd, 1, 0), (26, .dup2, 1, 0), (27, .iaload, 1, 0), (28, .iconst 1, 1, 0), (29, .iadd, 1, 0), (30, .iastore, 1, 0), (31, .iconst 0, 1, 0), (32, .istore 5, 2, 0), (34, .iload 5, 2, 0), (36, .bipush 12, 2, 0), (38, .if_icmp .ge 43, 3, 53), (41, .aload_n 0, 1, 0), (42, .getfield 7, 3, 0), (45, .iload_n 1, 1, 0), (46, .iload 5, 2, 0), (48, .invokestatic 39, 3, 0), (51, .iconst 4, 1, 0), (52, .iadd, 1, 0), (53, .dup2, 1, 0), (54, .iaload, 1, 0), (55, .iconst 1, 1, 0), (56, .iadd, 1, 0), (57, .iastore, 1, 0), (58, .aload_n 0, 1, 0), (59, .getfield 7, 3, 0), (62, .iload_n 1, 1, 0), (63, .iload 5, 2, 0), (65, .invokestatic 43, 3, 0), (68, .iconst 4, 1, 0), (69, .iadd, 1, 0), (70, .dup2, 1, 0), (71, .iaload, 1, 0), (72, .iconst 1, 1, 0), (73, .iadd, 1, 0), (74, .iastore, 1, 0), (75, .iinc 5 1, 3, 0), (78, .goto (-44), 3, 24), (81, .aload_n 0, 1, 0), (82, .iload_n 1, 1, 0), (83, .invokevirtual 81, 3, 0), (86, .aload_n 0, 1, 0), (87, .iload_n 1, 1, 0), (88, .invokevirtual 84, 3, 0), (91, .iinc 4 1, 3, 0), (94, .goto (-81), 3, 9), (97, .aload_n 0, 1, 0), (98, .getfield 7, 3, 0), (101, .iload_n 1, 1, 0), (102, .bipush 11, 2, 0), (104, .iadd, 1, 0), (105, .iaload, 1, 0), (106, .iload_n 3, 1, 0), (107, .isub, 1, 0), (108, .ireturn, 1, 0)], 3)
theorem ok_X5_goBy : okM M_X5_goBy = true := by decide +kernel
theorem pl_X5_goBy : plainFor (mY M_X5_goBy) = true := plainFor_of_name pnX5
def M_X5_weeksIn : MI := (RX5, yX5_weeksIn, cX5_weeksIn, 3, (some .int), [(0, .iload_n 2, 1, 0), (1, .iconst 1, 1, 0), (2, .bipush 20, 2, 0), (4, .invokestatic 90, 3, 0), (7, .ifCond .ne 6, 3, 7), (10, .ldc 97, 2, 0), (12, .ireturn, 1, 0), (13, .aload_n 0, 1, 0), (14, .getfield 7, 3, 0), (17, .iload_n 1, 1, 0), (18, .iconst 0, 1, 0), (19, .iadd, 1, 0), (20, .iaload, 1, 0), (21, .iload_n 2, 1, 0), (22, .iadd, 1, 0), (23, .sipush 999, 3, 0), (26, .if_icmp .le 8, 3, 19), (29, .ldc 98, 2, 0), (31, .goto 9, 3, 23), (34, .aload_n 0, 1, 0), (35, .iload_n 1, 1, 0), (36, .iload_n 2, 1, 0), (37, .invokevirtual 111, 3, 0), (40, .ireturn, 1, 0)], 4)
theorem ok_X5_weeksIn : okM M_X5_weeksIn = true := by decide +kernel
theorem pl_X5_weeksIn : plainFor (mY M_X5_weeksIn) = true := plainFor_of_name pnX5
def M_X5_does : MI := (RX5, yX5_does, cX5_does, 2, (some .int), [(0, .aload_n 0, 1, 0), (1, .getfield 193, 3, 0), (4, .lookupswitch 140 #[(99, 74), (102, 44), (116, 104), (119, 128)], 44, 0), (48, .aload_n 0, 1, 0), (49, .iload_n 1, 1, 0), (50, .aload_n 0, 1, 0), (51, .getfield 28, 3, 0), (54, .iconst 0, 1, 0), (55, .iaload, 1, 0), (56, .aload_n 0, 1, 0), (57, .getfield 28, 3, 0), (60, .iconst 1, 1, 0), (61, .iaload, 1, 0), (62, .aload_n 0, 1, 0), (63, .getfield 28, 3, 0), (66, .iconst 2, 1, 0), (67, .iaload, 1, 0), (68, .aload_n 0, 1, 0), (69, .getfield 28, 3, 0), (72, .iconst 3, 1, 0), (73, .iaload, 1, 0), (74, .invokevirtual 121, 3, 0), (77, .ireturn, 1, 0), (78, .aload_n 0, 1, 0), (79, .iload_n 1, 1, 0), (80, .aload_n 0, 1, 0), (81, .getfield 28, 3, 0), (84, .iconst 0, 1, 0), (85, .iaload, 1, 0), (86, .aload_n 0, 1, 0), (87, .getfield 28, 3, 0), (90, .iconst 1, 1, 0), (91, .iaload, 1, 0), (92, .aload_n 0, 1, 0), (93, .getfield 28, 3, 0), (96, .iconst 2, 1, 0), (97, .iaload, 1, 0), (98, .aload_n 0, 1, 0), (99, .getfield 28, 3, 0), (102, .iconst 3, 1, 0), (103, .iaload, 1, 0), (104, .invokevirtual 128, 3, 0), (107, .ireturn, 1, 0), (108, .aload_n 0, 1, 0), (109, .iload_n 1, 1, 0), (110, .aload_n 0, 1, 0), (111, .getfield 28, 3, 0), (114, .iconst 0, 1, 0), (115, .iaload, 1, 0), (116, .aload_n 0, 1, 0), (117, .getfield 28, 3, 0), (120, .iconst 1, 1, 0), (121, .iaload, 1, 0), (122, .aload_n 0, 1, 0), (123, .getfield 28, 3, 0), (126, .iconst 2, 1, 0), (127, .iaload, 1, 0), (128, .invokevirtual 131, 3, 0), (131, .ireturn, 1, 0), (132, .aload_n 0, 1, 0), (133, .iload_n 1, 1, 0), (134, .aload_n 0, 1, 0), (135, .getfield 28, 3, 0), (138, .iconst 0, 1, 0), (139, .iaload, 1, 0), (140, .invokevirtual 135, 3, 0), (143, .ireturn, 1, 0), (144, .aload_n 0, 1, 0), (145, .iload_n 1, 1, 0), (146, .invokevirtual 138, 3, 0), (149, .ireturn, 1, 0)], 7)
theorem ok_X5_does : okM M_X5_does = true := by decide +kernel
theorem pl_X5_does : plainFor (mY M_X5_does) = true := plainFor_of_name pnX5
def M_X5_drop : MI := (RX5, yX5_drop, cX5_drop, 2, (some .int), [(0, .aload_n 0, 1, 0), (1, .iconst 0, 1, 0), (2, .iload_n 1, 1, 0), (3, .invokevirtual 104, 3, 0), (6, .ifCond .ne 6, 3, 7), (9, .ldc 97, 2, 0), (11, .ireturn, 1, 0), (12, .aload_n 0, 1, 0), (13, .invokevirtual 114, 3, 0), (16, .aload_n 0, 1, 0), (17, .iconst 0, 1, 0), (18, .iload_n 1, 1, 0), (19, .invokevirtual 78, 3, 0), (22, .aload_n 0, 1, 0), (23, .getfield 7, 3, 0), (26, .bipush 14, 2, 0), (28, .dup2, 1, 0), (29, .iaload, 1, 0), (30, .iconst 1, 1, 0), (31, .iadd, 1, 0), (32, .iastore, 1, 0), (33, .aload_n 0, 1, 0), (34, .getfield 7, 3, 0), (37, .bipush 16, 2, 0), (39, .iaload, 1, 0), (40, .ireturn, 1, 0)], 2)
theorem ok_X5_drop : okM M_X5_drop = true := by decide +kernel
theorem pl_X5_drop : plainFor (mY M_X5_drop) = true := plainFor_of_name pnX5
def M_X5_isDigit : MI := (RX5, yX5_isDigit, cX5_isDigit, 1, (some .boolean), [(0, .aload_n 0, 1, 0), (1, .getfield 174, 3, 0), (4, .aload_n 0, 1, 0), (5, .getfield 171, 3, 0), (8, .if_icmp .ge 26, 3, 16), (11, .aload_n 0, 1, 0), (12, .getfield 13, 3, 0), (15, .aload_n 0, 1, 0), (16, .getfield 174, 3, 0), (19, .iaload, 1, 0), (20, .bipush 48, 2, 0), (22, .bipush 57, 2, 0), (24, .invokestatic 90, 3, 0), (27, .ifCond .eq 7, 3, 16), (30, .iconst 1, 1, 0), (31, .goto 4, 3, 17), (34, .iconst 0, 1, 0), (35, .ireturn, 1, 0)], 1)
theorem ok_X5_isDigit : okM M_X5_isDigit = true := by decide +kernel
theorem pl_X5_isDigit : plainFor (mY M_X5_isDigit) = true := plainFor_of_name pnX5
def M_X5_readsNumber : MI := (RX5, yX5_readsNumber, cX5_readsNumber, 3, (some .boolean), [(0, .aload_n 0, 1, 0), (1, .getfield 28, 3, 0), (4, .iload_n 1, 1, 0), (5, .iconst 0, 1, 0), (6, .iastore, 1, 0), (7, .aload_n 0, 1, 0), (8, .getfield 174, 3, 0), (11, .istore_n 2, 1, 0), (12, .aload_n 0, 1, 0), (13, .invokevirtual 182, 3, 0), (16, .ifCond .eq 54, 3, 42), (19, .aload_n 0, 1, 0), (20, .getfield 174, 3, 0), (23, .iload_n 2, 1, 0), (24, .iconst 2, 1, 0), (25, .iadd, 1, 0), (26, .if_icmp .ge 44, 3, 42), (29, .aload_n 0, 1, 0), (30, .getfield 28, 3, 0), (33, .iload_n 1, 1, 0), (34, .bipush 10, 2, 0), (36, .aload_n 0, 1, 0), (37, .getfield 28, 3, 0), (40, .iload_n 1, 1, 0), (41, .iaload, 1, 0), (42, .imul, 1, 0), (43, .aload_n 0, 1, 0), (44, .getfield 13, 3, 0), (47, .aload_n 0, 1, 0), (48, .getfield 174, 3, 0), (51, .iaload, 1, 0), (52, .iadd, 1, 0), (53, .bipush 48, 2, 0), (55, .isub, 1, 0), (56, .iastore, 1, 0), (57, .aload_n 0, 1, 0), (58, .dup, 1, 0), (59, .getfield 174, 3, 0), (62, .iconst 1, 1, 0), (63, .iadd, 1, 0), (64, .putfield 174, 3, 0), (67, .goto (-55), 3, 8), (70, .aload_n 0, 1, 0), (71, .getfield 174, 3, 0), (74, .iload_n 2, 1, 0), (75, .if_icmp .le 7, 3, 48), (78, .iconst 1, 1, 0), (79, .goto 4, 3, 49), (82, .iconst 0, 1, 0), (83, .ireturn, 1, 0)], 2)
theorem ok_X5_readsNumber : okM M_X5_readsNumber = true := by decide +kernel
theorem pl_X5_readsNumber : plainFor (mY M_X5_readsNumber) = true := plainFor_of_name pnX5
def M_X5_takes : MI := (RX5, yX5_takes, cX5_takes, 3, (some .boolean), [(0, .aload_n 0, 1, 0), (1, .getfield 174, 3, 0), (4, .aload_n 0, 1, 0), (5, .getfield 171, 3, 0), (8, .if_icmp .ge 20, 3, 14), (11, .aload_n 0, 1, 0), (12, .getfield 13, 3, 0), (15, .aload_n 0, 1, 0), (16, .getfield 174, 3, 0), (19, .iaload, 1, 0), (20, .iload_n 1, 1, 0), (21, .if_icmp .ne 7, 3, 14), (24, .iconst 1, 1, 0), (25, .goto 4, 3, 15), (28, .iconst 0, 1, 0), (29, .istore_n 2, 1, 0), (30, .aload_n 0, 1, 0), (31, .dup, 1, 0), (32, .getfield 174, 3, 0), (35, .iload_n 2, 1, 0), (36, .ifCond .eq 7, 3, 23), (39, .iconst 1, 1, 0), (40, .goto 4, 3, 24), (43, .iconst 0, 1, 0), (44, .iadd, 1, 0), (45, .putfield 174, 3, 0), (48, .iload_n 2, 1, 0), (49, .ireturn, 1, 0)], 0)
theorem ok_X5_takes : okM M_X5_takes = true := by decide +kernel
theorem pl_X5_takes : plainFor (mY M_X5_takes) = true := plainFor_of_name pnX5
def M_X5_readsValue : MI := (RX5, yX5_readsValue, cX5_readsValue, 3, (some .boolean), [(0, .iload_n 2, 1, 0), (1, .ifCond .ne 21, 3, 13), (4, .aload_n 0, 1, 0), (5, .bipush 45, 2, 0), (7, .invokevirtual 179, 3, 0), (10, .ifCond .eq 12, 3, 13), (13, .aload_n 0, 1, 0), (14, .getfield 28, 3, 0), (17, .iload_n 1, 1, 0), (18, .iconst (-1), 1, 0), (19, .iastore, 1, 0), (20, .iconst 1, 1, 0), (21, .ireturn, 1, 0), (22, .aload_n 0, 1, 0), (23, .iload_n 1, 1, 0), (24, .invokevirtual 186, 3, 0), (27, .ireturn, 1, 0)], 3)
theorem ok_X5_readsValue : okM M_X5_readsValue = true := by decide +kernel
theorem pl_X5_readsValue : plainFor (mY M_X5_readsValue) = true := plainFor_of_name pnX5
def M_X5_readsRow : MI := (RX5, yX5_readsRow, cX5_readsRow, 5, (some .boolean), [(0, .aload_n 0, 1, 0), (1, .iconst 0, 1, 0), (2, .iload_n 2, 1, 0), (3, .invokevirtual 189, 3, 0), (6, .istore_n 3, 1, 0), (7, .iconst 1, 1, 0), (8, .istore 4, 2, 0), (10, .iload 4, 2, 0), (12, .iload_n 1, 1, 0), (13, .if_icmp .ge 38, 3, 27), (16, .iload_n 3, 1, 0), (17, .ifCond .eq 34, 3, 27), (20, .aload_n 0, 1, 0), (21, .bipush 44, 2, 0), (23, .invokevirtual 179, 3, 0), (26, .ifCond .eq 17, 3, 23), (29, .aload_n 0, 1, 0), (30, .iload 4, 2, 0), (32, .iload_n 2, 1, 0), (33, .invokevirtual 189, 3, 0), (36, .ifCond .eq 7, 3, 23), (39, .iconst 1, 1, 0), (40, .goto 4, 3, 24), (43, .iconst 0, 1, 0), (44, .istore_n 3, 1, 0), (45, .iinc 4 1, 3, 0), (48, .goto (-38), 3, 7), (51, .iload_n 3, 1, 0), (52, .ireturn, 1, 0)], 4)
theorem ok_X5_readsRow : okM M_X5_readsRow = true := by decide +kernel
theorem pl_X5_readsRow : plainFor (mY M_X5_readsRow) = true := plainFor_of_name pnX5
def M_X5_takesWord : MI := (RX5, yX5_takesWord, cX5_takesWord, 6, (some .boolean), [(0, .iconst 1, 1, 0), (1, .istore_n 3, 1, 0), (2, .bipush 40, 2, 0), (4, .istore 4, 2, 0), (6, .iload 4, 2, 0), (8, .ifCond .lt 44, 3, 27), (11, .iload_n 3, 1, 0), (12, .ifCond .eq 40, 3, 27), (15, .lload_n 1, 1, 0), (16, .iload 4, 2, 0), (18, .lshr, 1, 0), (19, .ldc2_w 177, 3, 0), (22, .land, 1, 0), (23, .l2i, 1, 0), (24, .istore 5, 2, 0), (26, .iload 5, 2, 0), (28, .ifCond .eq 12, 3, 21), (31, .aload_n 0, 1, 0), (32, .iload 5, 2, 0), (34, .invokevirtual 179, 3, 0), (37, .ifCond .eq 7, 3, 23), (40, .iconst 1, 1, 0), (41, .goto 4, 3, 24), (44, .iconst 0, 1, 0), (45, .istore_n 3, 1, 0), (46, .iinc 4 (-8), 3, 0), (49, .goto (-43), 3, 4), (52, .iload_n 3, 1, 0), (53, .ireturn, 1, 0)], 1)
theorem ok_X5_takesWord : okM M_X5_takesWord = true := by decide +kernel
theorem pl_X5_takesWord : plainFor (mY M_X5_takesWord) = true := plainFor_of_name pnX5
def M_X5_readsOrder : MI := (RX5, yX5_readsOrder, cX5_readsOrder, 1, (some .boolean), [(0, .aload_n 0, 1, 0), (1, .aload_n 0, 1, 0), (2, .getfield 174, 3, 0), (5, .aload_n 0, 1, 0), (6, .getfield 171, 3, 0), (9, .if_icmp .ge 15, 3, 12), (12, .aload_n 0, 1, 0), (13, .getfield 13, 3, 0), (16, .aload_n 0, 1, 0), (17, .getfield 174, 3, 0), (20, .iaload, 1, 0), (21, .goto 4, 3, 13), (24, .iconst 0, 1, 0), (25, .putfield 193, 3, 0), (28, .aload_n 0, 1, 0), (29, .getfield 193, 3, 0), (32, .lookupswitch 213 #[(99, 86), (102, 52), (104, 188), (116, 120), (119, 154)], 52, 0), (84, .aload_n 0, 1, 0), (85, .ldc2_w 196, 3, 0), (88, .invokevirtual 198, 3, 0), (91, .ifCond .eq 25, 3, 32), (94, .aload_n 0, 1, 0), (95, .iconst 4, 1, 0), (96, .iconst 1, 1, 0), (97, .invokevirtual 202, 3, 0), (100, .ifCond .eq 16, 3, 32), (103, .aload_n 0, 1, 0), (104, .bipush 59, 2, 0), (106, .invokevirtual 179, 3, 0), (109, .ifCond .eq 7, 3, 32), (112, .iconst 1, 1, 0), (113, .goto 4, 3, 33), (116, .iconst 0, 1, 0), (117, .ireturn, 1, 0), (118, .aload_n 0, 1, 0), (119, .ldc2_w 205, 3, 0), (122, .invokevirtual 198, 3, 0), (125, .ifCond .eq 25, 3, 49), (128, .aload_n 0, 1, 0), (129, .iconst 4, 1, 0), (130, .iconst 0, 1, 0), (131, .invokevirtual 202, 3, 0), (134, .ifCond .eq 16, 3, 49), (137, .aload_n 0, 1, 0), (138, .bipush 59, 2, 0), (140, .invokevirtual 179, 3, 0), (143, .ifCond .eq 7, 3, 49), (146, .iconst 1, 1, 0), (147, .goto 4, 3, 50), (150, .iconst 0, 1, 0), (151, .ireturn, 1, 0), (152, .aload_n 0, 1, 0), (153, .ldc2_w 207, 3, 0), (156, .invokevirtual 198, 3, 0), (159, .ifCond .eq 25, 3, 66), (162, .aload_n 0, 1, 0), (163, .iconst 3, 1, 0), (164, .iconst 1, 1, 0), (165, .invokevirtual 202, 3, 0), (168, .ifCond .eq 16, 3, 66), (171, .aload_n 0, 1, 0), (172, .bipush 59, 2, 0), (174, .invokevirtual 179, 3, 0), (177, .ifCond .eq 7, 3, 66), (180, .iconst 1, 1, 0), (181, .goto 4, 3, 67), (184, .iconst 0, 1, 0), (185, .ireturn, 1, 0), (186, .aload_n 0, 1, 0), (187, .ldc2_w 209, 3, 0), (190, .invokevirtual 198, 3, 0), (193, .ifCond .eq 25, 3, 83), (196, .aload_n 0, 1, 0), (197, .iconst 1, 1, 0), (198, .iconst 1, 1, 0), (199, .invokevirtual 202, 3, 0), (202, .ifCond .eq 16, 3, 83), (205, .aload_n 0, 1, 0), (206, .bipush 59, 2, 0), (208, .invokevirtual 179, 3, 0), (211, .ifCond .eq 7, 3, 83), (214, .iconst 1, 1, 0), (215, .goto 4, 3, 84), (218, .iconst 0, 1, 0), (219, .ireturn, 1, 0), (220, .aload_n 0, 1, 0), (221, .ldc2_w 211, 3, 0), (224, .invokevirtual 198, 3, 0), (227, .ifCond .eq 16, 3, 95), (230, .aload_n 0, 1, 0), (231, .bipush 59, 2, 0), (233, .invokevirtual 179, 3, 0), (236, .ifCond .eq 7, 3, 95), (239, .iconst 1, 1, 0), (240, .goto 4, 3, 96), (243, .iconst 0, 1, 0), (244, .ireturn, 1, 0), (245, .iconst 0, 1, 0), (246, .ireturn, 1, 0)], 5)
theorem ok_X5_readsOrder : okM M_X5_readsOrder = true := by decide +kernel
theorem pl_X5_readsOrder : plainFor (mY M_X5_readsOrder) = true := plainFor_of_name pnX5
def M_X5_looks : MI := (RX5, yX5_looks, cX5_looks, 5, (some .int), [(0, .aload_n 0, 1, 0), (1, .iconst 0, 1, 0), (2, .bipush 6, 2, 0), (4, .invokevirtual 35, 3, 0), (7, .aload_n 0, 1, 0), (8, .iconst 0, 1, 0), (9, .putfield 174, 3, 0), (12, .aload_n 0, 1, 0), (13, .iconst 0, 1, 0), (14, .putfield 213, 3, 0), (17, .iconst 0, 1, 0), (18, .istore_n 1, 1, 0), (19, .aload_n 0, 1, 0), (20, .getfield 213, 3, 0), (23, .ifCond .ne 105, 3, 68), (26, .aload_n 0, 1, 0), (27, .getfield 174, 3, 0), (30, .aload_n 0, 1, 0), (31, .getfield 171, 3, 0), (34, .if_icmp .ge 94, 3, 68), (37, .aload_n 0, 1, 0), (38, .getfield 174, 3, 0), (41, .istore_n 2, 1, 0), (42, .aload_n 0, 1, 0), (43, .invokevirtual 216, 3, 0), (46, .istore_n 3, 1, 0), (47, .iload_n 3, 1, 0), (48, .ifCond .eq 13, 3, 32), (51, .aload_n 0, 1, 0), (52, .sipush 1140, 3, 0), (55, .invokevirtual 219, 3, 0), (58, .goto 4, 3, 33), (61, .iconst 0, 1, 0), (62, .istore 4, 2, 0), (64, .aload_n 0, 1, 0), (65, .iload_n 3, 1, 0), (66, .ifCond .ne 7, 3, 39), (69, .iconst 1, 1, 0), (70, .goto 13, 3, 44), (73, .iload 4, 2, 0), (75, .ifCond .ge 7, 3, 43), (78, .iconst 2, 1, 0), (79, .goto 4, 3, 44), (82, .iconst 0, 1, 0), (83, .putfield 213, 3, 0), (86, .aload_n 0, 1, 0), (87, .iload_n 2, 1, 0), (88, .putfield 222, 3, 0), (91, .aload_n 0, 1, 0), (92, .iload_n 3, 1, 0), (93, .ifCond .eq 8, 3, 53), (96, .iload 4, 2, 0), (98, .goto 9, 3, 57), (101, .aload_n 0, 1, 0), (102, .getfield 174, 3, 0), (105, .iload_n 2, 1, 0), (106, .isub, 1, 0), (107, .putfield 225, 3, 0), (110, .iload_n 1, 1, 0), (111, .aload_n 0, 1, 0), (112, .getfield 213, 3, 0), (115, .ifCond .ne 7, 3, 64), (118, .iconst 1, 1, 0), (119, .goto 4, 3, 65), (122, .iconst 0, 1, 0), (123, .iadd, 1, 0), (124, .istore_n 1, 1, 0), (125, .goto (-106), 3, 12), (128, .iload_n 1, 1, 0), (129, .ireturn, 1, 0)], 8)
theorem ok_X5_looks : okM M_X5_looks = true := by decide +kernel
theorem pl_X5_looks : plainFor (mY M_X5_looks) = true := plainFor_of_name pnX5
def M_X5_fault : MI := (RX5, yX5_fault, cX5_fault, 3, (some .int), [(0, .iload_n 1, 1, 0), (1, .iconst 0, 1, 0), (2, .iconst 2, 1, 0), (3, .invokestatic 90, 3, 0), (6, .ifCond .ne 6, 3, 7), (9, .ldc 97, 2, 0), (11, .ireturn, 1, 0), (12, .aload_n 0, 1, 0), (13, .invokevirtual 228, 3, 0), (16, .istore_n 2, 1, 0), (17, .aload_n 0, 1, 0), (18, .getfield 213, 3, 0), (21, .ifCond .ne 8, 3, 15), (24, .ldc 144, 2, 0), (26, .goto 30, 3, 28), (29, .iload_n 1, 1, 0), (30, .ifCond .ne 10, 3, 20), (33, .aload_n 0, 1, 0), (34, .getfield 222, 3, 0), (37, .goto 19, 3, 28), (40, .iload_n 1, 1, 0), (41, .iconst 1, 1, 0), (42, .if_icmp .ne 10, 3, 26), (45, .aload_n 0, 1, 0), (46, .getfield 213, 3, 0), (49, .goto 7, 3, 28), (52, .aload_n 0, 1, 0), (53, .getfield 225, 3, 0), (56, .ireturn, 1, 0)], 9)
theorem ok_X5_fault : okM M_X5_fault = true := by decide +kernel
theorem pl_X5_fault : plainFor (mY M_X5_fault) = true := plainFor_of_name pnX5
def M_X5_find : MI := (RX5, yX5_find, cX5_find, 5, (some .int), [(0, .aload_n 0, 1, 0), (1, .aload_n 0, 1, 0), (2, .aload_n 0, 1, 0), (3, .invokevirtual 117, 3, 0), (6, .iload_n 1, 1, 0), (7, .iload_n 2, 1, 0), (8, .iload_n 3, 1, 0), (9, .iload 4, 2, 0), (11, .invokevirtual 121, 3, 0), (14, .invokevirtual 125, 3, 0), (17, .ireturn, 1, 0)], 3)
theorem ok_X5_find : okM M_X5_find = true := by decide +kernel
theorem pl_X5_find : plainFor (mY M_X5_find) = true := plainFor_of_name pnX5
def M_X5_hand : MI := (RX5, yX5_hand, cX5_hand, 1, (some .int), [(0, .aload_n 0, 1, 0), (1, .aload_n 0, 1, 0), (2, .aload_n 0, 1, 0), (3, .invokevirtual 117, 3, 0), (6, .invokevirtual 138, 3, 0), (9, .invokevirtual 125, 3, 0), (12, .ireturn, 1, 0)], 7)
theorem ok_X5_hand : okM M_X5_hand = true := by decide +kernel
theorem pl_X5_hand : plainFor (mY M_X5_hand) = true := plainFor_of_name pnX5
def M_X5_having : MI := (RX5, yX5_having, cX5_having, 3, (some .int), [(0, .iload_n 1, 1, 0), (1, .iload_n 2, 1, 0), (2, .invokestatic 108, 3, 0), (5, .ifCond .eq 13, 3, 10), (8, .aload_n 0, 1, 0), (9, .iconst 0, 1, 0), (10, .iload_n 1, 1, 0), (11, .iload_n 2, 1, 0), (12, .invokevirtual 50, 3, 0), (15, .goto 5, 3, 11), (18, .ldc 97, 2, 0), (20, .ireturn, 1, 0)], 2)
theorem ok_X5_having : okM M_X5_having = true := by decide +kernel
theorem pl_X5_having : plainFor (mY M_X5_having) = true := plainFor_of_name pnX5
def M_X5_ifTold : MI := (RX5, yX5_ifTold, cX5_ifTold, 5, (some .int), [(0, .aload_n 0, 1, 0), (1, .invokevirtual 117, 3, 0), (4, .istore 4, 2, 0), (6, .aload_n 0, 1, 0), (7, .iload 4, 2, 0), (9, .iload_n 1, 1, 0), (10, .iload_n 2, 1, 0), (11, .iload_n 3, 1, 0), (12, .invokevirtual 131, 3, 0), (15, .ldc 97, 2, 0), (17, .if_icmp .ne 8, 3, 13), (20, .ldc 97, 2, 0), (22, .goto 10, 3, 17), (25, .aload_n 0, 1, 0), (26, .iload 4, 2, 0), (28, .iload_n 1, 1, 0), (29, .invokevirtual 159, 3, 0), (32, .ireturn, 1, 0)], 7)
theorem ok_X5_ifTold : okM M_X5_ifTold = true := by decide +kernel
theorem pl_X5_ifTold : plainFor (mY M_X5_ifTold) = true := plainFor_of_name pnX5
def M_X5_ifWeeks : MI := (RX5, yX5_ifWeeks, cX5_ifWeeks, 5, (some .int), [(0, .iload_n 1, 1, 0), (1, .iconst 1, 1, 0), (2, .bipush 20, 2, 0), (4, .invokestatic 90, 3, 0), (7, .ifCond .eq 12, 3, 10), (10, .iload_n 2, 1, 0), (11, .iconst 0, 1, 0), (12, .iconst 2, 1, 0), (13, .invokestatic 90, 3, 0), (16, .ifCond .ne 6, 3, 12), (19, .ldc 97, 2, 0), (21, .ireturn, 1, 0), (22, .aload_n 0, 1, 0), (23, .invokevirtual 117, 3, 0), (26, .istore_n 3, 1, 0), (27, .aload_n 0, 1, 0), (28, .iload_n 3, 1, 0), (29, .iload_n 1, 1, 0), (30, .invokevirtual 111, 3, 0), (33, .istore 4, 2, 0), (35, .iload_n 2, 1, 0), (36, .ifCond .ne 8, 3, 24), (39, .iload 4, 2, 0), (41, .goto 33, 3, 42), (44, .iload_n 2, 1, 0), (45, .iconst 1, 1, 0), (46, .if_icmp .ne 23, 3, 39), (49, .aload_n 0, 1, 0), (50, .getfield 7, 3, 0), (53, .iload_n 3, 1, 0), (54, .bipush 12, 2, 0), (56, .iadd, 1, 0), (57, .iaload, 1, 0), (58, .aload_n 0, 1, 0), (59, .getfield 7, 3, 0), (62, .bipush 12, 2, 0), (64, .iaload, 1, 0), (65, .isub, 1, 0), (66, .goto 8, 3, 42), (69, .aload_n 0, 1, 0), (70, .iload_n 3, 1, 0), (71, .invokevirtual 87, 3, 0), (74, .ireturn, 1, 0)], 6)
theorem ok_X5_ifWeeks : okM M_X5_ifWeeks = true := by decide +kernel
theorem pl_X5_ifWeeks : plainFor (mY M_X5_ifWeeks) = true := plainFor_of_name pnX5
def M_X5_isSetting : MI := (RX5, yX5_isSetting, cX5_isSetting, 2, (some .boolean), [(0, .iload_n 0, 1, 0), (1, .tableswitch 82 0 6 #[43, 50, 50, 58, 66, 74, 74], 43, 0), (44, .iload_n 1, 1, 0), (45, .iconst 0, 1, 0), (46, .iconst 3, 1, 0), (47, .invokestatic 90, 3, 0), (50, .ireturn, 1, 0), (51, .iload_n 1, 1, 0), (52, .iconst 0, 1, 0), (53, .bipush 20, 2, 0), (55, .invokestatic 90, 3, 0), (58, .ireturn, 1, 0), (59, .iload_n 1, 1, 0), (60, .iconst 1, 1, 0), (61, .bipush 48, 2, 0), (63, .invokestatic 90, 3, 0), (66, .ireturn, 1, 0), (67, .iload_n 1, 1, 0), (68, .iconst 0, 1, 0), (69, .bipush 9, 2, 0), (71, .invokestatic 90, 3, 0), (74, .ireturn, 1, 0), (75, .iload_n 1, 1, 0), (76, .iconst 1, 1, 0), (77, .bipush 20, 2, 0), (79, .invokestatic 90, 3, 0), (82, .ireturn, 1, 0), (83, .iconst 0, 1, 0), (84, .ireturn, 1, 0)], 1)
theorem ok_X5_isSetting : okM M_X5_isSetting = true := by decide +kernel
theorem pl_X5_isSetting : plainFor (mY M_X5_isSetting) = true := plainFor_of_name pnX5
def M_X5_isUmbrella : MI := (RX5, yX5_isUmbrella, cX5_isUmbrella, 2, (some .boolean), [(0, .iload_n 1, 1, 0), (1, .iconst 0, 1, 0), (2, .aload_n 0, 1, 0), (3, .getfield 7, 3, 0), (6, .bipush 15, 2, 0), (8, .iaload, 1, 0), (9, .iconst 1, 1, 0), (10, .isub, 1, 0), (11, .invokestatic 90, 3, 0), (14, .ireturn, 1, 0)], 1)
theorem ok_X5_isUmbrella : okM M_X5_isUmbrella = true := by decide +kernel
theorem pl_X5_isUmbrella : plainFor (mY M_X5_isUmbrella) = true := plainFor_of_name pnX5
def M_X5_mateOf : MI := (RX5, yX5_mateOf, cX5_mateOf, 5, (some .int), [(0, .aload_n 0, 1, 0), (1, .iconst 0, 1, 0), (2, .invokevirtual 87, 3, 0), (5, .istore_n 3, 1, 0), (6, .aload_n 0, 1, 0), (7, .getfield 16, 3, 0), (10, .iload_n 1, 1, 0), (11, .iaload, 1, 0), (12, .istore 4, 2, 0), (14, .iload 4, 2, 0), (16, .iconst (-1), 1, 0), (17, .if_icmp .ne 8, 3, 14), (20, .ldc 144, 2, 0), (22, .goto 20, 3, 23), (25, .iload_n 2, 1, 0), (26, .ifCond .eq 8, 3, 18), (29, .iload 4, 2, 0), (31, .goto 11, 3, 23), (34, .aload_n 0, 1, 0), (35, .iconst 0, 1, 0), (36, .iload_n 1, 1, 0), (37, .iload 4, 2, 0), (39, .invokevirtual 53, 3, 0), (42, .ireturn, 1, 0)], 6)
theorem ok_X5_mateOf : okM M_X5_mateOf = true := by decide +kernel
theorem pl_X5_mateOf : plainFor (mY M_X5_mateOf) = true := plainFor_of_name pnX5
def M_X5_mean : MI := (RX5, yX5_mean, cX5_mean, 4, (some .int), [(0, .aload_n 0, 1, 0), (1, .iconst 0, 1, 0), (2, .invokevirtual 87, 3, 0), (5, .istore_n 1, 1, 0), (6, .iconst 0, 1, 0), (7, .istore_n 2, 1, 0), (8, .iconst 0, 1, 0), (9, .istore_n 3, 1, 0), (10, .iload_n 3, 1, 0), (11, .bipush 12, 2, 0), (13, .if_icmp .ge 42, 3, 35), (16, .iload_n 2, 1, 0), (17, .aload_n 0, 1, 0), (18, .getfield 16, 3, 0), (21, .iload_n 3, 1, 0), (22, .iaload, 1, 0), (23, .iconst (-1), 1, 0), (24, .if_icmp .ne 7, 3, 20), (27, .iconst 0, 1, 0), (28, .goto 19, 3, 31), (31, .aload_n 0, 1, 0), (32, .getfield 22, 3, 0), (35, .bipush 12, 2, 0), (37, .iload_n 3, 1, 0), (38, .imul, 1, 0), (39, .aload_n 0, 1, 0), (40, .getfield 16, 3, 0), (43, .iload_n 3, 1, 0), (44, .iaload, 1, 0), (45, .iadd, 1, 0), (46, .iaload, 1, 0), (47, .iadd, 1, 0), (48, .istore_n 2, 1, 0), (49, .iinc 3 1, 3, 0), (52, .goto (-42), 3, 8), (55, .iload_n 1, 1, 0), (56, .ifCond .ne 8, 3, 39), (59, .ldc 144, 2, 0), (61, .goto 11, 3, 45), (64, .iload_n 2, 1, 0), (65, .i2f, 1, 0), (66, .iload_n 1, 1, 0), (67, .i2f, 1, 0), (68, .fdiv, 1, 0), (69, .invokestatic 162, 3, 0), (72, .ireturn, 1, 0)], 6)
theorem ok_X5_mean : okM M_X5_mean = true := by decide +kernel
theorem pl_X5_mean : plainFor (mY M_X5_mean) = true := plainFor_of_name pnX5
def M_X5_oddness : MI := (RX5, yX5_oddness, cX5_oddness, 4, (some .int), [(0, .iconst 0, 1, 0), (1, .istore_n 2, 1, 0), (2, .iconst 0, 1, 0), (3, .istore_n 3, 1, 0), (4, .iload_n 3, 1, 0), (5, .iconst 4, 1, 0), (6, .if_icmp .ge 33, 3, 26), (9, .iload_n 2, 1, 0), (10, .bipush 13, 2, 0), (12, .aload_n 0, 1, 0), (13, .iconst 0, 1, 0), (14, .iload_n 3, 1, 0), (15, .aload_n 0, 1, 0), (16, .getfield 7, 3, 0), (19, .iconst 0, 1, 0), (20, .iload_n 1, 1, 0), (21, .invokestatic 39, 3, 0), (24, .iload_n 3, 1, 0), (25, .iadd, 1, 0), (26, .iaload, 1, 0), (27, .invokevirtual 50, 3, 0), (30, .isub, 1, 0), (31, .iadd, 1, 0), (32, .istore_n 2, 1, 0), (33, .iinc 3 1, 3, 0), (36, .goto (-32), 3, 4), (39, .iload_n 2, 1, 0), (40, .ireturn, 1, 0)], 2)
theorem ok_X5_oddness : okM M_X5_oddness = true := by decide +kernel
theorem pl_X5_oddness : plainFor (mY M_X5_oddness) = true := plainFor_of_name pnX5
def M_X5_oddest : MI := (RX5, yX5_oddest, cX5_oddest, 3, (some .int), [(0, .ldc 144, 2, 0), (2, .istore_n 1, 1, 0), (3, .iconst 0, 1, 0), (4, .istore_n 2, 1, 0), (5, .iload_n 2, 1, 0), (6, .aload_n 0, 1, 0), (7, .getfield 7, 3, 0), (10, .bipush 15, 2, 0), (12, .iaload, 1, 0), (13, .if_icmp .ge 34, 3, 26), (16, .iload_n 1, 1, 0), (17, .ldc 144, 2, 0), (19, .if_icmp .eq 16, 3, 20), (22, .aload_n 0, 1, 0), (23, .iload_n 2, 1, 0), (24, .invokevirtual 156, 3, 0), (27, .aload_n 0, 1, 0), (28, .iload_n 1, 1, 0), (29, .invokevirtual 156, 3, 0), (32, .if_icmp .le 7, 3, 22), (35, .iload_n 2, 1, 0), (36, .goto 4, 3, 23), (39, .iload_n 1, 1, 0), (40, .istore_n 1, 1, 0), (41, .iinc 2 1, 3, 0), (44, .goto (-39), 3, 4), (47, .iload_n 1, 1, 0), (48, .ireturn, 1, 0)], 3)
theorem ok_X5_oddest : okM M_X5_oddest = true := by decide +kernel
theorem pl_X5_oddest : plainFor (mY M_X5_oddest) = true := plainFor_of_name pnX5
def M_X5_play : MI := (RX5, yX5_play, cX5_play, 2, (some .int), [(0, .aload_n 0, 1, 0), (1, .invokevirtual 228, 3, 0), (4, .istore_n 1, 1, 0), (5, .aload_n 0, 1, 0), (6, .getfield 213, 3, 0), (9, .ifCond .le 6, 3, 8), (12, .ldc 103, 2, 0), (14, .ireturn, 1, 0), (15, .aload_n 0, 1, 0), (16, .invokevirtual 114, 3, 0), (19, .aload_n 0, 1, 0), (20, .bipush 6, 2, 0), (22, .iconst 0, 1, 0), (23, .invokevirtual 35, 3, 0), (26, .iload_n 1, 1, 0), (27, .ireturn, 1, 0)], 9)
theorem ok_X5_play : okM M_X5_play = true := by decide +kernel
theorem pl_X5_play : plainFor (mY M_X5_play) = true := plainFor_of_name pnX5
def M_X5_points : MI := (RX5, yX5_points, cX5_points, 3, (some .int), [(0, .aload_n 0, 1, 0), (1, .iload_n 1, 1, 0), (2, .invokevirtual 145, 3, 0), (5, .ifCond .eq 26, 3, 17), (8, .aload_n 0, 1, 0), (9, .iconst 0, 1, 0), (10, .iload_n 2, 1, 0), (11, .invokevirtual 104, 3, 0), (14, .ifCond .eq 17, 3, 17), (17, .sipush 1000, 3, 0), (20, .aload_n 0, 1, 0), (21, .iconst 0, 1, 0), (22, .iload_n 1, 1, 0), (23, .iload_n 2, 1, 0), (24, .invokevirtual 53, 3, 0), (27, .iadd, 1, 0), (28, .goto 5, 3, 18), (31, .ldc 97, 2, 0), (33, .ireturn, 1, 0)], 3)
theorem ok_X5_points : okM M_X5_points = true := by decide +kernel
theorem pl_X5_points : plainFor (mY M_X5_points) = true := plainFor_of_name pnX5
def M_X5_set : MI := (RX5, yX5_set, cX5_set, 4, (some .int), [(0, .iload_n 1, 1, 0), (1, .iload_n 2, 1, 0), (2, .invokestatic 141, 3, 0), (5, .ifCond .ne 6, 3, 6), (8, .ldc 97, 2, 0), (10, .ireturn, 1, 0), (11, .aload_n 0, 1, 0), (12, .invokevirtual 114, 3, 0), (15, .aload_n 0, 1, 0), (16, .getfield 7, 3, 0), (19, .iconst 1, 1, 0), (20, .iload_n 1, 1, 0), (21, .iadd, 1, 0), (22, .iaload, 1, 0), (23, .istore_n 3, 1, 0), (24, .aload_n 0, 1, 0), (25, .getfield 7, 3, 0), (28, .iconst 1, 1, 0), (29, .iload_n 1, 1, 0), (30, .iadd, 1, 0), (31, .iload_n 2, 1, 0), (32, .iastore, 1, 0), (33, .iload_n 3, 1, 0), (34, .ireturn, 1, 0)], 2)
theorem ok_X5_set : okM M_X5_set = true := by decide +kernel
theorem pl_X5_set : plainFor (mY M_X5_set) = true := plainFor_of_name pnX5
def M_X5_tell : MI := (RX5, yX5_tell, cX5_tell, 4, (some .int), [(0, .aload_n 0, 1, 0), (1, .aload_n 0, 1, 0), (2, .aload_n 0, 1, 0), (3, .invokevirtual 117, 3, 0), (6, .iload_n 1, 1, 0), (7, .iload_n 2, 1, 0), (8, .iload_n 3, 1, 0), (9, .invokevirtual 131, 3, 0), (12, .invokevirtual 125, 3, 0), (15, .ireturn, 1, 0)], 3)
theorem ok_X5_tell : okM M_X5_tell = true := by decide +kernel
theorem pl_X5_tell : plainFor (mY M_X5_tell) = true := plainFor_of_name pnX5
def M_X5_type : MI := (RX5, yX5_type, cX5_type, 2, (some .int), [(0, .iload_n 1, 1, 0), (1, .bipush 32, 2, 0), (3, .bipush 126, 2, 0), (5, .invokestatic 90, 3, 0), (8, .ifCond .ne 6, 3, 7), (11, .ldc 97, 2, 0), (13, .ireturn, 1, 0), (14, .aload_n 0, 1, 0), (15, .getfield 171, 3, 0), (18, .bipush 60, 2, 0), (20, .if_icmp .ne 6, 3, 13), (23, .ldc 98, 2, 0), (25, .ireturn, 1, 0), (26, .aload_n 0, 1, 0), (27, .getfield 13, 3, 0), (30, .aload_n 0, 1, 0), (31, .getfield 171, 3, 0), (34, .iload_n 1, 1, 0), (35, .iastore, 1, 0), (36, .aload_n 0, 1, 0), (37, .dup, 1, 0), (38, .getfield 171, 3, 0), (41, .iconst 1, 1, 0), (42, .iadd, 1, 0), (43, .putfield 171, 3, 0), (46, .aload_n 0, 1, 0), (47, .getfield 171, 3, 0), (50, .ireturn, 1, 0)], 1)
theorem ok_X5_type : okM M_X5_type = true := by decide +kernel
theorem pl_X5_type : plainFor (mY M_X5_type) = true := plainFor_of_name pnX5
def M_X5_umbrella : MI := (RX5, yX5_umbrella, cX5_umbrella, 3, (some .int), [(0, .aload_n 0, 1, 0), (1, .iload_n 1, 1, 0), (2, .invokevirtual 145, 3, 0), (5, .ifCond .eq 13, 3, 9), (8, .iload_n 2, 1, 0), (9, .iconst 0, 1, 0), (10, .bipush 8, 2, 0), (12, .invokestatic 90, 3, 0), (15, .ifCond .ne 6, 3, 11), (18, .ldc 97, 2, 0), (20, .ireturn, 1, 0), (21, .iload_n 2, 1, 0), (22, .tableswitch 59 5 8 #[30, 30, 46, 53], 30, 0), (52, .aload_n 0, 1, 0), (53, .iload_n 1, 1, 0), (54, .iload_n 2, 1, 0), (55, .iconst 5, 1, 0), (56, .if_icmp .ne 7, 3, 20), (59, .iconst 1, 1, 0), (60, .goto 4, 3, 21), (63, .iconst 0, 1, 0), (64, .invokevirtual 149, 3, 0), (67, .ireturn, 1, 0), (68, .aload_n 0, 1, 0), (69, .iload_n 1, 1, 0), (70, .iconst (-1), 1, 0), (71, .invokevirtual 153, 3, 0), (74, .ireturn, 1, 0), (75, .aload_n 0, 1, 0), (76, .iload_n 1, 1, 0), (77, .invokevirtual 156, 3, 0), (80, .ireturn, 1, 0), (81, .aload_n 0, 1, 0), (82, .getfield 7, 3, 0), (85, .iconst 0, 1, 0), (86, .iload_n 1, 1, 0), (87, .invokestatic 39, 3, 0), (90, .iload_n 2, 1, 0), (91, .iadd, 1, 0), (92, .iaload, 1, 0), (93, .ireturn, 1, 0)], 7)
theorem ok_X5_umbrella : okM M_X5_umbrella = true := by decide +kernel
theorem pl_X5_umbrella : plainFor (mY M_X5_umbrella) = true := plainFor_of_name pnX5
def M_X5_undo : MI := (RX5, yX5_undo, cX5_undo, 1, (some .int), [(0, .aload_n 0, 1, 0), (1, .getfield 31, 3, 0), (4, .ifCond .ne 6, 3, 5), (7, .ldc 103, 2, 0), (9, .ireturn, 1, 0), (10, .aload_n 0, 1, 0), (11, .aload_n 0, 1, 0), (12, .getfield 31, 3, 0), (15, .iconst 0, 1, 0), (16, .invokevirtual 35, 3, 0), (19, .aload_n 0, 1, 0), (20, .dup, 1, 0), (21, .getfield 31, 3, 0), (24, .iconst 1, 1, 0), (25, .isub, 1, 0), (26, .putfield 31, 3, 0), (29, .aload_n 0, 1, 0), (30, .getfield 31, 3, 0), (33, .ireturn, 1, 0)], 1)
theorem ok_X5_undo : okM M_X5_undo = true := by decide +kernel
theorem pl_X5_undo : plainFor (mY M_X5_undo) = true := plainFor_of_name pnX5
def M_X5_weeks : MI := (RX5, yX5_weeks, cX5_weeks, 2, (some .int), [(0, .aload_n 0, 1, 0), (1, .aload_n 0, 1, 0), (2, .aload_n 0, 1, 0), (3, .invokevirtual 117, 3, 0), (6, .iload_n 1, 1, 0), (7, .invokevirtual 135, 3, 0), (10, .invokevirtual 125, 3, 0), (13, .ireturn, 1, 0)], 5)
theorem ok_X5_weeks : okM M_X5_weeks = true := by decide +kernel
theorem pl_X5_weeks : plainFor (mY M_X5_weeks) = true := plainFor_of_name pnX5
def M_X5_why : MI := (RX5, yX5_why, cX5_why, 7, (some .int), [(0, .aload_n 0, 1, 0), (1, .iload_n 1, 1, 0), (2, .invokevirtual 145, 3, 0), (5, .ifCond .eq 12, 3, 9), (8, .aload_n 0, 1, 0), (9, .iconst 0, 1, 0), (10, .iload_n 2, 1, 0), (11, .invokevirtual 104, 3, 0), (14, .ifCond .ne 6, 3, 11), (17, .ldc 97, 2, 0), (19, .ireturn, 1, 0), (20, .aload_n 0, 1, 0), (21, .iconst 0, 1, 0), (22, .invokevirtual 87, 3, 0), (25, .istore_n 3, 1, 0), (26, .aload_n 0, 1, 0), (27, .getfield 16, 3, 0), (30, .iload_n 1, 1, 0), (31, .iaload, 1, 0), (32, .iload_n 2, 1, 0), (33, .if_icmp .ne 5, 3, 23), (36, .iconst 0, 1, 0), (37, .ireturn, 1, 0), (38, .aload_n 0, 1, 0), (39, .iconst 0, 1, 0), (40, .iload_n 1, 1, 0), (41, .iload_n 2, 1, 0), (42, .invokevirtual 46, 3, 0), (45, .aload_n 0, 1, 0), (46, .getfield 7, 3, 0), (49, .iconst 1, 1, 0), (50, .iaload, 1, 0), (51, .if_icmp .le 5, 3, 35), (54, .iconst 1, 1, 0), (55, .ireturn, 1, 0), (56, .aload_n 0, 1, 0), (57, .iconst 0, 1, 0), (58, .iload_n 1, 1, 0), (59, .iload_n 2, 1, 0), (60, .invokevirtual 53, 3, 0), (63, .istore 4, 2, 0), (65, .iload 4, 2, 0), (67, .aload_n 0, 1, 0), (68, .getfield 7, 3, 0), (71, .iconst 4, 1, 0), (72, .iaload, 1, 0), (73, .if_icmp .ge 5, 3, 49), (76, .iconst 2, 1, 0), (77, .ireturn, 1, 0), (78, .aload_n 0, 1, 0), (79, .getfield 16, 3, 0), (82, .iload_n 1, 1, 0), (83, .iaload, 1, 0), (84, .istore 5, 2, 0), (86, .iload 5, 2, 0), (88, .iconst (-1), 1, 0), (89, .if_icmp .eq 47, 3, 82), (92, .aload_n 0, 1, 0), (93, .getfield 22, 3, 0), (96, .bipush 12, 2, 0), (98, .iload_n 1, 1, 0), (99, .imul, 1, 0), (100, .iload 5, 2, 0), (102, .iadd, 1, 0), (103, .iaload, 1, 0), (104, .iload 4, 2, 0), (106, .if_icmp .gt 26, 3, 80), (109, .aload_n 0, 1, 0), (110, .getfield 22, 3, 0), (113, .bipush 12, 2, 0), (115, .iload_n 1, 1, 0), (116, .imul, 1, 0), (117, .iload 5, 2, 0), (119, .iadd, 1, 0), (120, .iaload, 1, 0), (121, .iload 4, 2, 0), (123, .if_icmp .ne 13, 3, 82), (126, .iload 5, 2, 0), (128, .iload_n 2, 1, 0), (129, .if_icmp .ge 7, 3, 82), (132, .iconst 1, 1, 0), (133, .goto 4, 3, 83), (136, .iconst 0, 1, 0), (137, .istore 6, 2, 0), (139, .iload 6, 2, 0), (141, .ifCond .eq 7, 3, 88), (144, .iconst 3, 1, 0), (145, .goto 4, 3, 89), (148, .iconst 4, 1, 0), (149, .ireturn, 1, 0)], 6)
theorem ok_X5_why : okM M_X5_why = true := by decide +kernel
theorem pl_X5_why : plainFor (mY M_X5_why) = true := plainFor_of_name pnX5
end
section
/-! printed by wip/gen/gen.py: the entries of the pools -/
theorem cp_X1_34 : (Cond.methodLink RX1 34 arraycopyName ∈ lwT) ∧ (Cond.native arraycopyName ∈ lwT) ∧ (Cond.static arraycopyName ∈ lwT) ∧ (Cond.initialized "java/lang/System" ∈ lwT) := ⟨lwT_k1 47 rfl rfl, lwT_k1 49 rfl rfl, lwT_k1 48 rfl rfl, lwT_k1 4 rfl rfl⟩
theorem cp_X2_19 : (Cond.methodLink RX2 19 arraycopyName ∈ lwT) ∧ (Cond.native arraycopyName ∈ lwT) ∧ (Cond.static arraycopyName ∈ lwT) ∧ (Cond.initialized "java/lang/System" ∈ lwT) := ⟨lwT_k1 185 rfl rfl, lwT_k1 49 rfl rfl, lwT_k1 48 rfl rfl, lwT_k1 4 rfl rfl⟩
theorem cst_X1_59 : Cond.constant RX1 59 (Int32.ofInt (-1000001)) ∈ lwT := lwT_k1 193 rfl rfl
theorem cst_X1_60 : Cond.constant RX1 60 (Int32.ofInt (-1000003)) ∈ lwT := lwT_k1 194 rfl rfl
theorem cst_X1_72 : Cond.constant RX1 72 (Int32.ofInt (-1000002)) ∈ lwT := lwT_k1 223 rfl rfl
theorem cst_X4_112 : Cond.constant RX4 112 (Int32.ofInt (-1000004)) ∈ lwT := lwT_k2 149 rfl rfl
theorem cst_X4_183 : Cond.constant RX4 183 (Int32.ofInt (-1000002)) ∈ lwT := lwT_k3 9 rfl rfl
theorem cst_X4_188 : Cond.constant RX4 188 (Int32.ofInt (-1000003)) ∈ lwT := lwT_k3 18 rfl rfl
theorem cst_X4_99 : Cond.constant RX4 99 (Int32.ofInt (-1000001)) ∈ lwT := lwT_k2 134 rfl rfl
theorem cst_X5_103 : Cond.constant RX5 103 (Int32.ofInt (-1000002)) ∈ lwT := lwT_k3 226 rfl rfl
theorem cst_X5_144 : Cond.constant RX5 144 (Int32.ofInt (-1000004)) ∈ lwT := lwT_k4 92 rfl rfl
theorem cst_X5_97 : Cond.constant RX5 97 (Int32.ofInt (-1000001)) ∈ lwT := lwT_k3 201 rfl rfl
theorem cst_X5_98 : Cond.constant RX5 98 (Int32.ofInt (-1000003)) ∈ lwT := lwT_k3 202 rfl rfl
theorem cst_Jxf58ca_77 : Cond.constant "java/lang/Float" 77 (Int32.ofInt (2143289344)) ∈ lwT := lwT_k4 150 rfl rfl
theorem cst_X4_215 : Cond.constantFloat RX4 215 1258291200 ∈ lwT := lwT_k2 219 rfl rfl
theorem cst_X5_177 : Cond.constantLong RX5 177 255 ∈ lwT := lwT_k4 196 rfl rfl
theorem cst_X5_196 : Cond.constantLong RX5 196 439855506464 ∈ lwT := lwT_k4 191 rfl rfl
theorem cst_X5_205 : Cond.constantLong RX5 205 109317141916960 ∈ lwT := lwT_k4 217 rfl rfl
theorem cst_X5_207 : Cond.constantLong RX5 207 499917810720 ∈ lwT := lwT_k4 218 rfl rfl
theorem cst_X5_209 : Cond.constantLong RX5 209 512802253600 ∈ lwT := lwT_k4 219 rfl rfl
theorem cst_X5_211 : Cond.constantLong RX5 211 1751215716 ∈ lwT := lwT_k4 220 rfl rfl
theorem fi_X0_34 : FI RX0 34 0 7 := ⟨_, _, _, _, ko0, by decide, rfl, rfl, Or.inl (lwT_k1 84 rfl rfl)⟩
theorem fi_X0_38 : FI RX0 38 0 8 := ⟨_, _, _, _, ko0, by decide, rfl, rfl, Or.inl (lwT_k1 85 rfl rfl)⟩
theorem fi_X0_41 : FI RX0 41 0 9 := ⟨_, _, _, _, ko0, by decide, rfl, rfl, Or.inl (lwT_k1 86 rfl rfl)⟩
theorem fi_X2_15 : FI RX2 15 2 1 := ⟨_, _, _, _, ko2, by decide, rfl, rfl, Or.inl (lwT_k1 35 rfl rfl)⟩
theorem fi_X3_15 : FI RX3 15 3 1 := ⟨_, _, _, _, ko3, by decide, rfl, rfl, Or.inl (lwT_k1 119 rfl rfl)⟩
theorem fi_X3_19 : FI RX3 19 3 2 := ⟨_, _, _, _, ko3, by decide, rfl, rfl, Or.inl (lwT_k1 121 rfl rfl)⟩
theorem fi_X3_22 : FI RX3 22 3 3 := ⟨_, _, _, _, ko3, by decide, rfl, rfl, Or.inl (lwT_k1 123 rfl rfl)⟩
theorem fi_X4_180 : FI RX4 180 3 1 := ⟨_, _, _, _, ko3, by decide, rfl, rfl, Or.inr ⟨"OddUmbrellas", lwN_k1 120 rfl⟩⟩
theorem fi_X4_30 : FI RX4 30 4 4 := ⟨_, _, _, _, ko4, by decide, rfl, rfl, Or.inl (lwT_k1 142 rfl rfl)⟩
theorem fi_X4_41 : FI RX4 41 4 6 := ⟨_, _, _, _, ko4, by decide, rfl, rfl, Or.inl (lwT_k1 144 rfl rfl)⟩
theorem fi_X4_44 : FI RX4 44 4 7 := ⟨_, _, _, _, ko4, by decide, rfl, rfl, Or.inl (lwT_k1 145 rfl rfl)⟩
theorem fi_X4_47 : FI RX4 47 4 8 := ⟨_, _, _, _, ko4, by decide, rfl, rfl, Or.inl (lwT_k1 146 rfl rfl)⟩
theorem fi_X4_50 : FI RX4 50 4 9 := ⟨_, _, _, _, ko4, by decide, rfl, rfl, Or.inl (lwT_k1 147 rfl rfl)⟩
theorem fi_X5_171 : FI RX5 171 5 3 := ⟨_, _, _, _, ko5, by decide, rfl, rfl, Or.inl (lwT_k3 139 rfl rfl)⟩
theorem fi_X5_174 : FI RX5 174 5 8 := ⟨_, _, _, _, ko5, by decide, rfl, rfl, Or.inl (lwT_k3 144 rfl rfl)⟩
theorem fi_X5_193 : FI RX5 193 5 9 := ⟨_, _, _, _, ko5, by decide, rfl, rfl, Or.inl (lwT_k3 145 rfl rfl)⟩
theorem fi_X5_213 : FI RX5 213 5 12 := ⟨_, _, _, _, ko5, by decide, rfl, rfl, Or.inl (lwT_k3 148 rfl rfl)⟩
theorem fi_X5_222 : FI RX5 222 5 11 := ⟨_, _, _, _, ko5, by decide, rfl, rfl, Or.inl (lwT_k3 147 rfl rfl)⟩
theorem fi_X5_225 : FI RX5 225 5 13 := ⟨_, _, _, _, ko5, by decide, rfl, rfl, Or.inl (lwT_k3 149 rfl rfl)⟩
theorem fi_X5_31 : FI RX5 31 5 1 := ⟨_, _, _, _, ko5, by decide, rfl, rfl, Or.inl (lwT_k3 137 rfl rfl)⟩
theorem fl_X0_15 : FL RX0 15 0 1 := ⟨_, _, _, _, ko0, by decide, Or.inl (lwT_k1 78 rfl rfl)⟩
theorem fl_X0_18 : FL RX0 18 0 2 := ⟨_, _, _, _, ko0, by decide, Or.inl (lwT_k1 79 rfl rfl)⟩
theorem fl_X0_22 : FL RX0 22 0 3 := ⟨_, _, _, _, ko0, by decide, Or.inl (lwT_k1 80 rfl rfl)⟩
theorem fl_X0_25 : FL RX0 25 0 4 := ⟨_, _, _, _, ko0, by decide, Or.inl (lwT_k1 81 rfl rfl)⟩
theorem fl_X0_28 : FL RX0 28 0 5 := ⟨_, _, _, _, ko0, by decide, Or.inl (lwT_k1 82 rfl rfl)⟩
theorem fl_X0_31 : FL RX0 31 0 6 := ⟨_, _, _, _, ko0, by decide, Or.inl (lwT_k1 83 rfl rfl)⟩
theorem fl_X0_34 : FL RX0 34 0 7 := ⟨_, _, _, _, ko0, by decide, Or.inl (lwT_k1 84 rfl rfl)⟩
theorem fl_X0_38 : FL RX0 38 0 8 := ⟨_, _, _, _, ko0, by decide, Or.inl (lwT_k1 85 rfl rfl)⟩
theorem fl_X0_41 : FL RX0 41 0 9 := ⟨_, _, _, _, ko0, by decide, Or.inl (lwT_k1 86 rfl rfl)⟩
theorem fl_X0_44 : FL RX0 44 1 0 := ⟨_, _, _, _, ko1, by decide, Or.inr ⟨"OddUmbrellas", lwN_k1 51 rfl⟩⟩
theorem fl_X0_49 : FL RX0 49 2 1 := ⟨_, _, _, _, ko2, by decide, Or.inr ⟨"OddUmbrellas", lwN_k1 36 rfl⟩⟩
theorem fl_X0_60 : FL RX0 60 1 1 := ⟨_, _, _, _, ko1, by decide, Or.inr ⟨"OddUmbrellas", lwN_k1 54 rfl⟩⟩
theorem fl_X0_9 : FL RX0 9 0 0 := ⟨_, _, _, _, ko0, by decide, Or.inl (lwT_k1 77 rfl rfl)⟩
theorem fl_X1_12 : FL RX1 12 1 0 := ⟨_, _, _, _, ko1, by decide, Or.inl (lwT_k1 50 rfl rfl)⟩
theorem fl_X1_125 : FL RX1 125 0 9 := ⟨_, _, _, _, ko0, by decide, Or.inr ⟨"OddUmbrellas", lwN_k1 87 rfl⟩⟩
theorem fl_X1_18 : FL RX1 18 1 1 := ⟨_, _, _, _, ko1, by decide, Or.inl (lwT_k1 53 rfl rfl)⟩
theorem fl_X1_21 : FL RX1 21 1 2 := ⟨_, _, _, _, ko1, by decide, Or.inl (lwT_k1 56 rfl rfl)⟩
theorem fl_X1_24 : FL RX1 24 1 3 := ⟨_, _, _, _, ko1, by decide, Or.inl (lwT_k1 58 rfl rfl)⟩
theorem fl_X1_28 : FL RX1 28 1 4 := ⟨_, _, _, _, ko1, by decide, Or.inl (lwT_k1 59 rfl rfl)⟩
theorem fl_X1_44 : FL RX1 44 2 1 := ⟨_, _, _, _, ko2, by decide, Or.inr ⟨"OddUmbrellas", lwN_k1 37 rfl⟩⟩
theorem fl_X2_15 : FL RX2 15 2 1 := ⟨_, _, _, _, ko2, by decide, Or.inl (lwT_k1 35 rfl rfl)⟩
theorem fl_X2_9 : FL RX2 9 2 0 := ⟨_, _, _, _, ko2, by decide, Or.inl (lwT_k1 34 rfl rfl)⟩
theorem fl_X3_15 : FL RX3 15 3 1 := ⟨_, _, _, _, ko3, by decide, Or.inl (lwT_k1 119 rfl rfl)⟩
theorem fl_X3_19 : FL RX3 19 3 2 := ⟨_, _, _, _, ko3, by decide, Or.inl (lwT_k1 121 rfl rfl)⟩
theorem fl_X3_25 : FL RX3 25 3 4 := ⟨_, _, _, _, ko3, by decide, Or.inl (lwT_k1 125 rfl rfl)⟩
theorem fl_X3_9 : FL RX3 9 3 0 := ⟨_, _, _, _, ko3, by decide, Or.inl (lwT_k1 118 rfl rfl)⟩
theorem fl_X4_10 : FL RX4 10 4 0 := ⟨_, _, _, _, ko4, by decide, Or.inl (lwT_k1 138 rfl rfl)⟩
theorem fl_X4_116 : FL RX4 116 1 1 := ⟨_, _, _, _, ko1, by decide, Or.inr ⟨"OddUmbrellas", lwN_k1 55 rfl⟩⟩
theorem fl_X4_144 : FL RX4 144 1 2 := ⟨_, _, _, _, ko1, by decide, Or.inr ⟨"OddUmbrellas", lwN_k1 57 rfl⟩⟩
theorem fl_X4_147 : FL RX4 147 2 1 := ⟨_, _, _, _, ko2, by decide, Or.inr ⟨"OddUmbrellas", lwN_k1 38 rfl⟩⟩
theorem fl_X4_16 : FL RX4 16 4 1 := ⟨_, _, _, _, ko4, by decide, Or.inl (lwT_k1 139 rfl rfl)⟩
theorem fl_X4_163 : FL RX4 163 0 9 := ⟨_, _, _, _, ko0, by decide, Or.inr ⟨"OddUmbrellas", lwN_k1 88 rfl⟩⟩
theorem fl_X4_180 : FL RX4 180 3 1 := ⟨_, _, _, _, ko3, by decide, Or.inr ⟨"OddUmbrellas", lwN_k1 120 rfl⟩⟩
theorem fl_X4_198 : FL RX4 198 3 2 := ⟨_, _, _, _, ko3, by decide, Or.inr ⟨"OddUmbrellas", lwN_k1 122 rfl⟩⟩
theorem fl_X4_209 : FL RX4 209 3 3 := ⟨_, _, _, _, ko3, by decide, Or.inr ⟨"OddUmbrellas", lwN_k1 124 rfl⟩⟩
theorem fl_X4_22 : FL RX4 22 4 2 := ⟨_, _, _, _, ko4, by decide, Or.inl (lwT_k1 140 rfl rfl)⟩
theorem fl_X4_26 : FL RX4 26 4 3 := ⟨_, _, _, _, ko4, by decide, Or.inl (lwT_k1 141 rfl rfl)⟩
theorem fl_X4_30 : FL RX4 30 4 4 := ⟨_, _, _, _, ko4, by decide, Or.inl (lwT_k1 142 rfl rfl)⟩
theorem fl_X4_37 : FL RX4 37 4 5 := ⟨_, _, _, _, ko4, by decide, Or.inl (lwT_k1 143 rfl rfl)⟩
theorem fl_X4_41 : FL RX4 41 4 6 := ⟨_, _, _, _, ko4, by decide, Or.inl (lwT_k1 144 rfl rfl)⟩
theorem fl_X4_44 : FL RX4 44 4 7 := ⟨_, _, _, _, ko4, by decide, Or.inl (lwT_k1 145 rfl rfl)⟩
theorem fl_X4_47 : FL RX4 47 4 8 := ⟨_, _, _, _, ko4, by decide, Or.inl (lwT_k1 146 rfl rfl)⟩
theorem fl_X4_50 : FL RX4 50 4 9 := ⟨_, _, _, _, ko4, by decide, Or.inl (lwT_k1 147 rfl rfl)⟩
theorem fl_X4_89 : FL RX4 89 1 0 := ⟨_, _, _, _, ko1, by decide, Or.inr ⟨"OddUmbrellas", lwN_k1 52 rfl⟩⟩
theorem fl_X5_13 : FL RX5 13 5 2 := ⟨_, _, _, _, ko5, by decide, Or.inl (lwT_k3 138 rfl rfl)⟩
theorem fl_X5_16 : FL RX5 16 5 4 := ⟨_, _, _, _, ko5, by decide, Or.inl (lwT_k3 140 rfl rfl)⟩
theorem fl_X5_171 : FL RX5 171 5 3 := ⟨_, _, _, _, ko5, by decide, Or.inl (lwT_k3 139 rfl rfl)⟩
theorem fl_X5_174 : FL RX5 174 5 8 := ⟨_, _, _, _, ko5, by decide, Or.inl (lwT_k3 144 rfl rfl)⟩
theorem fl_X5_19 : FL RX5 19 5 5 := ⟨_, _, _, _, ko5, by decide, Or.inl (lwT_k3 141 rfl rfl)⟩
theorem fl_X5_193 : FL RX5 193 5 9 := ⟨_, _, _, _, ko5, by decide, Or.inl (lwT_k3 145 rfl rfl)⟩
theorem fl_X5_213 : FL RX5 213 5 12 := ⟨_, _, _, _, ko5, by decide, Or.inl (lwT_k3 148 rfl rfl)⟩
theorem fl_X5_22 : FL RX5 22 5 6 := ⟨_, _, _, _, ko5, by decide, Or.inl (lwT_k3 142 rfl rfl)⟩
theorem fl_X5_222 : FL RX5 222 5 11 := ⟨_, _, _, _, ko5, by decide, Or.inl (lwT_k3 147 rfl rfl)⟩
theorem fl_X5_225 : FL RX5 225 5 13 := ⟨_, _, _, _, ko5, by decide, Or.inl (lwT_k3 149 rfl rfl)⟩
theorem fl_X5_25 : FL RX5 25 5 7 := ⟨_, _, _, _, ko5, by decide, Or.inl (lwT_k3 143 rfl rfl)⟩
theorem fl_X5_28 : FL RX5 28 5 10 := ⟨_, _, _, _, ko5, by decide, Or.inl (lwT_k3 146 rfl rfl)⟩
theorem fl_X5_31 : FL RX5 31 5 1 := ⟨_, _, _, _, ko5, by decide, Or.inl (lwT_k3 137 rfl rfl)⟩
theorem fl_X5_7 : FL RX5 7 5 0 := ⟨_, _, _, _, ko5, by decide, Or.inl (lwT_k3 136 rfl rfl)⟩
theorem fs_X1_87 : Cond.fieldLinkNest RX1 87 "OddUmbrellas" (sN 85) "[I" "OddUmbrellas" ∈ lw_tbl := lwN_k2 124 rfl
theorem fs_X1_94 : Cond.fieldLinkNest RX1 94 "OddUmbrellas" (sN 86) "[I" "OddUmbrellas" ∈ lw_tbl := lwN_k2 127 rfl
theorem mn_X0_73 : MSN RX0 73 M_X4_numberAt 2 := ⟨⟨"OddUmbrellas", lwN_k2 74 rfl⟩, ⟨lwT_k2 75 rfl rfl, lwT_k1 1 rfl rfl, lwT_k2 76 rfl rfl⟩, ⟨by decide +kernel, by decide +kernel, by decide +kernel⟩⟩
theorem mn_X1_55 : MSN RX1 55 M_X4_isValue 1 := ⟨⟨"OddUmbrellas", lwN_k1 190 rfl⟩, ⟨lwT_k1 191 rfl rfl, lwT_k1 1 rfl rfl, lwT_k1 192 rfl rfl⟩, ⟨by decide +kernel, by decide +kernel, by decide +kernel⟩⟩
theorem mn_X1_69 : MSN RX1 69 M_X4_isValueOrNotTold 1 := ⟨⟨"OddUmbrellas", lwN_k1 219 rfl⟩, ⟨lwT_k1 220 rfl rfl, lwT_k1 1 rfl rfl, lwT_k1 221 rfl rfl⟩, ⟨by decide +kernel, by decide +kernel, by decide +kernel⟩⟩
theorem mn_X1_76 : MSN RX1 76 M_X4_isDetail 1 := ⟨⟨"OddUmbrellas", lwN_k1 236 rfl⟩, ⟨lwT_k1 237 rfl rfl, lwT_k1 1 rfl rfl, lwT_k1 238 rfl rfl⟩, ⟨by decide +kernel, by decide +kernel, by decide +kernel⟩⟩
theorem mn_X1_90 : MSN RX1 90 M_X4_numberAt 2 := ⟨⟨"OddUmbrellas", lwN_k2 126 rfl⟩, ⟨lwT_k2 75 rfl rfl, lwT_k1 1 rfl rfl, lwT_k2 76 rfl rfl⟩, ⟨by decide +kernel, by decide +kernel, by decide +kernel⟩⟩
theorem mn_X1_97 : MSN RX1 97 M_X4_isWeeksAtOnce 1 := ⟨⟨"OddUmbrellas", lwN_k2 27 rfl⟩, ⟨lwT_k2 28 rfl rfl, lwT_k1 1 rfl rfl, lwT_k2 29 rfl rfl⟩, ⟨by decide +kernel, by decide +kernel, by decide +kernel⟩⟩
theorem mn_X3_29 : MSN RX3 29 M_X4_numberAt 2 := ⟨⟨"OddUmbrellas", lwN_k3 124 rfl⟩, ⟨lwT_k2 75 rfl rfl, lwT_k1 1 rfl rfl, lwT_k2 76 rfl rfl⟩, ⟨by decide +kernel, by decide +kernel, by decide +kernel⟩⟩
theorem ms_X0_54 : MS RX0 54 M_J_min 2 := ⟨⟨lwT_k2 62 rfl rfl, lwT_k2 63 rfl rfl, lwT_k1 8 rfl rfl, lwT_k2 64 rfl rfl⟩, ⟨by decide +kernel, by decide +kernel, by decide +kernel⟩⟩
theorem ms_X4_122 : MS RX4 122 M_X4_orNotFound 1 := ⟨⟨lwT_k2 159 rfl rfl, lwT_k2 160 rfl rfl, lwT_k1 1 rfl rfl, lwT_k2 161 rfl rfl⟩, ⟨by decide +kernel, by decide +kernel, by decide +kernel⟩⟩
theorem ms_X4_135 : MS RX4 135 M_X4_isDetail 1 := ⟨⟨lwT_k2 179 rfl rfl, lwT_k1 237 rfl rfl, lwT_k1 1 rfl rfl, lwT_k1 238 rfl rfl⟩, ⟨by decide +kernel, by decide +kernel, by decide +kernel⟩⟩
theorem ms_X4_138 : MS RX4 138 M_X4_isValue 1 := ⟨⟨lwT_k1 222 rfl rfl, lwT_k1 191 rfl rfl, lwT_k1 1 rfl rfl, lwT_k1 192 rfl rfl⟩, ⟨by decide +kernel, by decide +kernel, by decide +kernel⟩⟩
theorem ms_X4_157 : MS RX4 157 M_X4_isWeeksAtOnce 1 := ⟨⟨lwT_k2 205 rfl rfl, lwT_k2 28 rfl rfl, lwT_k1 1 rfl rfl, lwT_k2 29 rfl rfl⟩, ⟨by decide +kernel, by decide +kernel, by decide +kernel⟩⟩
theorem ms_X4_170 : MS RX4 170 M_X4_bitsOf 1 := ⟨⟨lwT_k2 216 rfl rfl, lwT_k2 217 rfl rfl, lwT_k1 1 rfl rfl, lwT_k2 218 rfl rfl⟩, ⟨by decide +kernel, by decide +kernel, by decide +kernel⟩⟩
theorem ms_X5_108 : MS RX5 108 M_X5_isDetail 2 := ⟨⟨lwT_k4 2 rfl rfl, lwT_k4 3 rfl rfl, lwT_k1 7 rfl rfl, lwT_k4 4 rfl rfl⟩, ⟨by decide +kernel, by decide +kernel, by decide +kernel⟩⟩
theorem ms_X5_141 : MS RX5 141 M_X5_isSetting 2 := ⟨⟨lwT_k4 77 rfl rfl, lwT_k4 78 rfl rfl, lwT_k1 7 rfl rfl, lwT_k4 79 rfl rfl⟩, ⟨by decide +kernel, by decide +kernel, by decide +kernel⟩⟩
theorem ms_X5_162 : MS RX5 162 M_J_floatToIntBits 1 := ⟨⟨lwT_k4 141 rfl rfl, lwT_k4 142 rfl rfl, lwT_k1 9 rfl rfl, lwT_k4 143 rfl rfl⟩, ⟨by decide +kernel, by decide +kernel, by decide +kernel⟩⟩
theorem ms_X5_39 : MS RX5 39 M_X5_umbrellaAt 2 := ⟨⟨lwT_k3 203 rfl rfl, lwT_k3 204 rfl rfl, lwT_k1 7 rfl rfl, lwT_k3 205 rfl rfl⟩, ⟨by decide +kernel, by decide +kernel, by decide +kernel⟩⟩
theorem ms_X5_43 : MS RX5 43 M_X5_claimAt 2 := ⟨⟨lwT_k3 227 rfl rfl, lwT_k3 228 rfl rfl, lwT_k1 7 rfl rfl, lwT_k3 229 rfl rfl⟩, ⟨by decide +kernel, by decide +kernel, by decide +kernel⟩⟩
theorem ms_X5_90 : MS RX5 90 M_X5_in 3 := ⟨⟨lwT_k3 198 rfl rfl, lwT_k3 199 rfl rfl, lwT_k1 7 rfl rfl, lwT_k3 200 rfl rfl⟩, ⟨by decide +kernel, by decide +kernel, by decide +kernel⟩⟩
theorem ms_X5_93 : MS RX5 93 M_X5_areValues 5 := ⟨⟨lwT_k3 195 rfl rfl, lwT_k3 196 rfl rfl, lwT_k1 7 rfl rfl, lwT_k3 197 rfl rfl⟩, ⟨by decide +kernel, by decide +kernel, by decide +kernel⟩⟩
theorem ms_Jxf58ca_59 : MS "java/lang/Float" 59 M_J_isNaN 1 := ⟨⟨lwT_k4 144 rfl rfl, lwT_k4 145 rfl rfl, lwT_k1 9 rfl rfl, lwT_k4 146 rfl rfl⟩, ⟨by decide +kernel, by decide +kernel, by decide +kernel⟩⟩
theorem ms_J0_1059 : MS "java/lang/String" 1059 M_J_preCheck 3 := ⟨⟨lwT_k3 70 rfl rfl, lwT_k3 71 rfl rfl, lwT_k1 12 rfl rfl, lwT_k3 72 rfl rfl⟩, ⟨by decide +kernel, by decide +kernel, by decide +kernel⟩⟩
theorem ms_J0_495 : MS "java/lang/String" 495 M_J_latinAt 2 := ⟨⟨lwT_k3 62 rfl rfl, lwT_k3 63 rfl rfl, lwT_k1 11 rfl rfl, lwT_k3 64 rfl rfl⟩, ⟨by decide +kernel, by decide +kernel, by decide +kernel⟩⟩
theorem ms_J1_9 : MS "java/lang/StringLatin1" 9 M_J_checkIndex 2 := ⟨⟨lwT_k3 65 rfl rfl, lwT_k3 66 rfl rfl, lwT_k1 10 rfl rfl, lwT_k3 67 rfl rfl⟩, ⟨by decide +kernel, by decide +kernel, by decide +kernel⟩⟩
theorem mv_X0_102 : MV RX0 102 M_X0_claimMatched 1 := ⟨⟨lwT_k2 90 rfl rfl, lwT_k2 91 rfl rfl, lwT_k2 92 rfl rfl, lwT_k1 5 rfl rfl, lwT_k2 93 rfl rfl⟩, ⟨by decide +kernel, by decide +kernel, by decide +kernel⟩⟩
theorem mv_X0_105 : MV RX0 105 M_X0_umbrellaMatched 1 := ⟨⟨lwT_k2 94 rfl rfl, lwT_k2 95 rfl rfl, lwT_k2 96 rfl rfl, lwT_k1 5 rfl rfl, lwT_k2 97 rfl rfl⟩, ⟨by decide +kernel, by decide +kernel, by decide +kernel⟩⟩
theorem mv_X0_108 : MV RX0 108 M_X0_aheadOf 2 := ⟨⟨lwT_k2 102 rfl rfl, lwT_k2 104 rfl rfl, lwT_p1 (q := (_, _)) 13 rfl, lwT_k1 5 rfl rfl, lwT_k2 105 rfl rfl⟩, ⟨by decide +kernel, by decide +kernel, by decide +kernel⟩⟩
theorem mv_X0_111 : MV RX0 111 M_X0_worthOf 2 := ⟨⟨lwT_k2 215 rfl rfl, lwT_k2 151 rfl rfl, lwT_k2 152 rfl rfl, lwT_k1 5 rfl rfl, lwT_k2 153 rfl rfl⟩, ⟨by decide +kernel, by decide +kernel, by decide +kernel⟩⟩
theorem mv_X0_114 : MV RX0 114 M_X0_nextAsk 0 := ⟨⟨lwT_k2 229 rfl rfl, lwT_k2 231 rfl rfl, lwT_p2 (q := (_, _)) 0 rfl, lwT_k1 5 rfl rfl, lwT_k2 232 rfl rfl⟩, ⟨by decide +kernel, by decide +kernel, by decide +kernel⟩⟩
theorem mv_X0_117 : MV RX0 117 M_X0_askFor 1 := ⟨⟨lwT_k2 237 rfl rfl, lwT_k2 239 rfl rfl, lwT_p2 (q := (_, _)) 2 rfl, lwT_k1 5 rfl rfl, lwT_k3 0 rfl rfl⟩, ⟨by decide +kernel, by decide +kernel, by decide +kernel⟩⟩
theorem mv_X0_121 : MV RX0 121 M_X0_nextPairOf 1 := ⟨⟨lwT_k2 233 rfl rfl, lwT_k2 235 rfl rfl, lwT_p2 (q := (_, _)) 1 rfl, lwT_k1 5 rfl rfl, lwT_k2 236 rfl rfl⟩, ⟨by decide +kernel, by decide +kernel, by decide +kernel⟩⟩
theorem mv_X0_124 : MV RX0 124 M_X0_part 2 := ⟨⟨lwT_k3 1 rfl rfl, lwT_k3 3 rfl rfl, lwT_p2 (q := (_, _)) 3 rfl, lwT_k1 5 rfl rfl, lwT_k3 4 rfl rfl⟩, ⟨by decide +kernel, by decide +kernel, by decide +kernel⟩⟩
theorem mv_X0_62 : MV RX0 62 M_X0_noteOddness 1 := ⟨⟨lwT_k2 65 rfl rfl, lwT_k2 67 rfl rfl, lwT_p1 (q := (_, _)) 7 rfl, lwT_k1 5 rfl rfl, lwT_k2 68 rfl rfl⟩, ⟨by decide +kernel, by decide +kernel, by decide +kernel⟩⟩
theorem mv_X0_66 : MV RX0 66 M_X0_weigh 3 := ⟨⟨lwT_k2 70 rfl rfl, lwT_k2 72 rfl rfl, lwT_p1 (q := (_, _)) 8 rfl, lwT_k1 5 rfl rfl, lwT_k2 73 rfl rfl⟩, ⟨by decide +kernel, by decide +kernel, by decide +kernel⟩⟩
theorem mv_X0_70 : MV RX0 70 M_X2_cell 2 := ⟨⟨lwT_k2 69 rfl rfl, lwT_k2 0 rfl rfl, lwT_k2 1 rfl rfl, lwT_k1 3 rfl rfl, lwT_k2 2 rfl rfl⟩, ⟨by decide +kernel, by decide +kernel, by decide +kernel⟩⟩
theorem mv_X0_77 : MV RX0 77 M_X1_setting 1 := ⟨⟨lwT_k2 77 rfl rfl, lwT_k2 39 rfl rfl, lwT_k2 40 rfl rfl, lwT_k1 2 rfl rfl, lwT_k2 41 rfl rfl⟩, ⟨by decide +kernel, by decide +kernel, by decide +kernel⟩⟩
theorem mv_X0_81 : MV RX0 81 M_X0_pairOf 2 := ⟨⟨lwT_k2 78 rfl rfl, lwT_k2 80 rfl rfl, lwT_p1 (q := (_, _)) 9 rfl, lwT_k1 5 rfl rfl, lwT_k2 81 rfl rfl⟩, ⟨by decide +kernel, by decide +kernel, by decide +kernel⟩⟩
theorem mv_X0_84 : MV RX0 84 M_X0_suits 2 := ⟨⟨lwT_k2 98 rfl rfl, lwT_k2 100 rfl rfl, lwT_p1 (q := (_, _)) 12 rfl, lwT_k1 5 rfl rfl, lwT_k2 101 rfl rfl⟩, ⟨by decide +kernel, by decide +kernel, by decide +kernel⟩⟩
theorem mv_X0_88 : MV RX0 88 M_X0_weighAll 1 := ⟨⟨lwT_k2 58 rfl rfl, lwT_k2 59 rfl rfl, lwT_k2 60 rfl rfl, lwT_k1 5 rfl rfl, lwT_k2 61 rfl rfl⟩, ⟨by decide +kernel, by decide +kernel, by decide +kernel⟩⟩
theorem mv_X0_91 : MV RX0 91 M_X0_matchNone 0 := ⟨⟨lwT_k2 82 rfl rfl, lwT_k2 84 rfl rfl, lwT_p1 (q := (_, _)) 10 rfl, lwT_k1 5 rfl rfl, lwT_k2 85 rfl rfl⟩, ⟨by decide +kernel, by decide +kernel, by decide +kernel⟩⟩
theorem mv_X0_94 : MV RX0 94 M_X0_bestFreePair 0 := ⟨⟨lwT_k2 86 rfl rfl, lwT_k2 88 rfl rfl, lwT_p1 (q := (_, _)) 11 rfl, lwT_k1 5 rfl rfl, lwT_k2 89 rfl rfl⟩, ⟨by decide +kernel, by decide +kernel, by decide +kernel⟩⟩
theorem mv_X0_98 : MV RX0 98 M_X0_join 2 := ⟨⟨lwT_k2 106 rfl rfl, lwT_k2 108 rfl rfl, lwT_p1 (q := (_, _)) 14 rfl, lwT_k1 5 rfl rfl, lwT_k2 109 rfl rfl⟩, ⟨by decide +kernel, by decide +kernel, by decide +kernel⟩⟩
theorem mv_X1_100 : MV RX1 100 M_X1_sum 1 := ⟨⟨lwT_k2 30 rfl rfl, lwT_k2 31 rfl rfl, lwT_k2 32 rfl rfl, lwT_k1 2 rfl rfl, lwT_k2 33 rfl rfl⟩, ⟨by decide +kernel, by decide +kernel, by decide +kernel⟩⟩
theorem mv_X1_104 : MV RX1 104 M_X1_growOlder 1 := ⟨⟨lwT_k2 34 rfl rfl, lwT_k2 36 rfl rfl, lwT_p1 (q := (_, _)) 4 rfl, lwT_k1 2 rfl rfl, lwT_k2 37 rfl rfl⟩, ⟨by decide +kernel, by decide +kernel, by decide +kernel⟩⟩
theorem mv_X1_107 : MV RX1 107 M_X1_setting 1 := ⟨⟨lwT_k2 38 rfl rfl, lwT_k2 39 rfl rfl, lwT_k2 40 rfl rfl, lwT_k1 2 rfl rfl, lwT_k2 41 rfl rfl⟩, ⟨by decide +kernel, by decide +kernel, by decide +kernel⟩⟩
theorem mv_X1_110 : MV RX1 110 M_X1_endOld 4 := ⟨⟨lwT_k2 42 rfl rfl, lwT_k2 44 rfl rfl, lwT_p1 (q := (_, _)) 5 rfl, lwT_k1 2 rfl rfl, lwT_k2 45 rfl rfl⟩, ⟨by decide +kernel, by decide +kernel, by decide +kernel⟩⟩
theorem mv_X1_114 : MV RX1 114 M_X1_enter 3 := ⟨⟨lwT_k2 46 rfl rfl, lwT_k2 48 rfl rfl, lwT_p1 (q := (_, _)) 6 rfl, lwT_k1 2 rfl rfl, lwT_k2 49 rfl rfl⟩, ⟨by decide +kernel, by decide +kernel, by decide +kernel⟩⟩
theorem mv_X1_117 : MV RX1 117 M_X0_claimMatched 1 := ⟨⟨lwT_k2 114 rfl rfl, lwT_k2 91 rfl rfl, lwT_k2 92 rfl rfl, lwT_k1 5 rfl rfl, lwT_k2 93 rfl rfl⟩, ⟨by decide +kernel, by decide +kernel, by decide +kernel⟩⟩
theorem mv_X1_122 : MV RX1 122 M_X0_umbrellaMatched 1 := ⟨⟨lwT_k2 115 rfl rfl, lwT_k2 95 rfl rfl, lwT_k2 96 rfl rfl, lwT_k1 5 rfl rfl, lwT_k2 97 rfl rfl⟩, ⟨by decide +kernel, by decide +kernel, by decide +kernel⟩⟩
theorem mv_X1_40 : MV RX1 40 M_X2_become 1 := ⟨⟨lwT_k1 181 rfl rfl, lwT_k1 182 rfl rfl, lwT_k1 183 rfl rfl, lwT_k1 3 rfl rfl, lwT_k1 184 rfl rfl⟩, ⟨by decide +kernel, by decide +kernel, by decide +kernel⟩⟩
theorem mv_X1_48 : MV RX1 48 M_X2_cell 2 := ⟨⟨lwT_k1 239 rfl rfl, lwT_k2 0 rfl rfl, lwT_k2 1 rfl rfl, lwT_k1 3 rfl rfl, lwT_k2 2 rfl rfl⟩, ⟨by decide +kernel, by decide +kernel, by decide +kernel⟩⟩
theorem mv_X1_52 : MV RX1 52 M_X1_umbrellasWith 2 := ⟨⟨lwT_k2 140 rfl rfl, lwT_k2 141 rfl rfl, lwT_k2 142 rfl rfl, lwT_k1 2 rfl rfl, lwT_k2 143 rfl rfl⟩, ⟨by decide +kernel, by decide +kernel, by decide +kernel⟩⟩
theorem mv_X1_61 : MV RX1 61 M_X1_addTo 2 := ⟨⟨lwT_k1 195 rfl rfl, lwT_k1 197 rfl rfl, lwT_p1 (q := (_, _)) 1 rfl, lwT_k1 2 rfl rfl, lwT_k1 198 rfl rfl⟩, ⟨by decide +kernel, by decide +kernel, by decide +kernel⟩⟩
theorem mv_X1_65 : MV RX1 65 M_X2_append 4 := ⟨⟨lwT_k1 199 rfl rfl, lwT_k1 200 rfl rfl, lwT_k1 201 rfl rfl, lwT_k1 3 rfl rfl, lwT_k1 202 rfl rfl⟩, ⟨by decide +kernel, by decide +kernel, by decide +kernel⟩⟩
theorem mv_X1_73 : MV RX1 73 M_X2_has 1 := ⟨⟨lwT_k1 232 rfl rfl, lwT_k1 233 rfl rfl, lwT_k1 234 rfl rfl, lwT_k1 3 rfl rfl, lwT_k1 235 rfl rfl⟩, ⟨by decide +kernel, by decide +kernel, by decide +kernel⟩⟩
theorem mv_X1_79 : MV RX1 79 M_X2_put 3 := ⟨⟨lwT_k2 3 rfl rfl, lwT_k2 4 rfl rfl, lwT_k2 5 rfl rfl, lwT_k1 3 rfl rfl, lwT_k2 6 rfl rfl⟩, ⟨by decide +kernel, by decide +kernel, by decide +kernel⟩⟩
theorem mv_X1_83 : MV RX1 83 M_X2_remove 1 := ⟨⟨lwT_k2 15 rfl rfl, lwT_k2 16 rfl rfl, lwT_k2 17 rfl rfl, lwT_k1 3 rfl rfl, lwT_k2 18 rfl rfl⟩, ⟨by decide +kernel, by decide +kernel, by decide +kernel⟩⟩
theorem mv_X3_33 : MV RX3 33 M_X3_signHere 0 := ⟨⟨lwT_k3 35 rfl rfl, lwT_k3 37 rfl rfl, lwT_p2 (q := (_, _)) 5 rfl, lwT_k1 6 rfl rfl, lwT_k3 38 rfl rfl⟩, ⟨by decide +kernel, by decide +kernel, by decide +kernel⟩⟩
theorem mv_X3_39 : MV RX3 39 M_X3_readWord 1 := ⟨⟨lwT_k3 40 rfl rfl, lwT_k3 42 rfl rfl, lwT_p2 (q := (_, _)) 6 rfl, lwT_k1 6 rfl rfl, lwT_k3 43 rfl rfl⟩, ⟨by decide +kernel, by decide +kernel, by decide +kernel⟩⟩
theorem mv_X3_43 : MV RX3 43 M_X3_readNumbers 2 := ⟨⟨lwT_k3 96 rfl rfl, lwT_k3 98 rfl rfl, lwT_p2 (q := (_, _)) 8 rfl, lwT_k1 6 rfl rfl, lwT_k3 99 rfl rfl⟩, ⟨by decide +kernel, by decide +kernel, by decide +kernel⟩⟩
theorem mv_X3_47 : MV RX3 47 M_X3_readSign 1 := ⟨⟨lwT_k3 92 rfl rfl, lwT_k3 94 rfl rfl, lwT_p2 (q := (_, _)) 7 rfl, lwT_k1 6 rfl rfl, lwT_k3 95 rfl rfl⟩, ⟨by decide +kernel, by decide +kernel, by decide +kernel⟩⟩
theorem mv_X3_59 : MV RX3 59 M_J_length 0 := ⟨⟨lwT_k3 44 rfl rfl, lwT_k3 45 rfl rfl, lwT_k3 46 rfl rfl, lwT_k1 10 rfl rfl, lwT_k3 47 rfl rfl⟩, ⟨by decide +kernel, by decide +kernel, by decide +kernel⟩⟩
theorem mv_X3_64 : MV RX3 64 M_J_charAt 1 := ⟨⟨lwT_k3 54 rfl rfl, lwT_k3 55 rfl rfl, lwT_k3 56 rfl rfl, lwT_k1 10 rfl rfl, lwT_k3 57 rfl rfl⟩, ⟨by decide +kernel, by decide +kernel, by decide +kernel⟩⟩
theorem mv_X3_68 : MV RX3 68 M_X3_digitHere 0 := ⟨⟨lwT_k3 100 rfl rfl, lwT_k3 102 rfl rfl, lwT_p2 (q := (_, _)) 9 rfl, lwT_k1 6 rfl rfl, lwT_k3 103 rfl rfl⟩, ⟨by decide +kernel, by decide +kernel, by decide +kernel⟩⟩
theorem mv_X3_71 : MV RX3 71 M_X3_readNumber 0 := ⟨⟨lwT_k3 104 rfl rfl, lwT_k3 106 rfl rfl, lwT_p2 (q := (_, _)) 10 rfl, lwT_k1 6 rfl rfl, lwT_k3 107 rfl rfl⟩, ⟨by decide +kernel, by decide +kernel, by decide +kernel⟩⟩
theorem mv_X4_100 : MV RX4 100 M_X2_cell 2 := ⟨⟨lwT_k2 135 rfl rfl, lwT_k2 0 rfl rfl, lwT_k2 1 rfl rfl, lwT_k1 3 rfl rfl, lwT_k2 2 rfl rfl⟩, ⟨by decide +kernel, by decide +kernel, by decide +kernel⟩⟩
theorem mv_X4_103 : MV RX4 103 M_X1_oddnessTogether 1 := ⟨⟨lwT_k2 136 rfl rfl, lwT_k2 137 rfl rfl, lwT_k2 138 rfl rfl, lwT_k1 2 rfl rfl, lwT_k2 139 rfl rfl⟩, ⟨by decide +kernel, by decide +kernel, by decide +kernel⟩⟩
theorem mv_X4_106 : MV RX4 106 M_X0_claimsSuiting 1 := ⟨⟨lwT_k2 144 rfl rfl, lwT_k2 145 rfl rfl, lwT_k2 146 rfl rfl, lwT_k1 5 rfl rfl, lwT_k2 147 rfl rfl⟩, ⟨by decide +kernel, by decide +kernel, by decide +kernel⟩⟩
theorem mv_X4_109 : MV RX4 109 M_X0_claimMatched 1 := ⟨⟨lwT_k2 148 rfl rfl, lwT_k2 91 rfl rfl, lwT_k2 92 rfl rfl, lwT_k1 5 rfl rfl, lwT_k2 93 rfl rfl⟩, ⟨by decide +kernel, by decide +kernel, by decide +kernel⟩⟩
theorem mv_X4_113 : MV RX4 113 M_X0_worthOf 2 := ⟨⟨lwT_k2 150 rfl rfl, lwT_k2 151 rfl rfl, lwT_k2 152 rfl rfl, lwT_k1 5 rfl rfl, lwT_k2 153 rfl rfl⟩, ⟨by decide +kernel, by decide +kernel, by decide +kernel⟩⟩
theorem mv_X4_119 : MV RX4 119 M_X0_umbrellaMatched 1 := ⟨⟨lwT_k2 158 rfl rfl, lwT_k2 95 rfl rfl, lwT_k2 96 rfl rfl, lwT_k1 5 rfl rfl, lwT_k2 97 rfl rfl⟩, ⟨by decide +kernel, by decide +kernel, by decide +kernel⟩⟩
theorem mv_X4_125 : MV RX4 125 M_X0_umbrellasSuiting 1 := ⟨⟨lwT_k2 162 rfl rfl, lwT_k2 163 rfl rfl, lwT_k2 164 rfl rfl, lwT_k1 5 rfl rfl, lwT_k2 165 rfl rfl⟩, ⟨by decide +kernel, by decide +kernel, by decide +kernel⟩⟩
theorem mv_X4_128 : MV RX4 128 M_X4_isPair 2 := ⟨⟨lwT_k2 170 rfl rfl, lwT_k2 172 rfl rfl, lwT_p1 (q := (_, _)) 15 rfl, lwT_k1 1 rfl rfl, lwT_k2 173 rfl rfl⟩, ⟨by decide +kernel, by decide +kernel, by decide +kernel⟩⟩
theorem mv_X4_132 : MV RX4 132 M_X0_weighAll 1 := ⟨⟨lwT_k2 174 rfl rfl, lwT_k2 59 rfl rfl, lwT_k2 60 rfl rfl, lwT_k1 5 rfl rfl, lwT_k2 61 rfl rfl⟩, ⟨by decide +kernel, by decide +kernel, by decide +kernel⟩⟩
theorem mv_X4_141 : MV RX4 141 M_X1_umbrellasWith 2 := ⟨⟨lwT_k2 180 rfl rfl, lwT_k2 141 rfl rfl, lwT_k2 142 rfl rfl, lwT_k1 2 rfl rfl, lwT_k2 143 rfl rfl⟩, ⟨by decide +kernel, by decide +kernel, by decide +kernel⟩⟩
theorem mv_X4_150 : MV RX4 150 M_X0_reasonAgainst 3 := ⟨⟨lwT_k2 189 rfl rfl, lwT_k2 190 rfl rfl, lwT_k2 191 rfl rfl, lwT_k1 5 rfl rfl, lwT_k2 192 rfl rfl⟩, ⟨by decide +kernel, by decide +kernel, by decide +kernel⟩⟩
theorem mv_X4_154 : MV RX4 154 M_X1_become 1 := ⟨⟨lwT_k1 177 rfl rfl, lwT_k1 178 rfl rfl, lwT_k1 179 rfl rfl, lwT_k1 2 rfl rfl, lwT_k1 180 rfl rfl⟩, ⟨by decide +kernel, by decide +kernel, by decide +kernel⟩⟩
theorem mv_X4_160 : MV RX4 160 M_X1_sum 1 := ⟨⟨lwT_k2 206 rfl rfl, lwT_k2 31 rfl rfl, lwT_k2 32 rfl rfl, lwT_k1 2 rfl rfl, lwT_k2 33 rfl rfl⟩, ⟨by decide +kernel, by decide +kernel, by decide +kernel⟩⟩
theorem mv_X4_166 : MV RX4 166 M_X0_worthOfMatched 0 := ⟨⟨lwT_k2 211 rfl rfl, lwT_k2 212 rfl rfl, lwT_k2 213 rfl rfl, lwT_k1 5 rfl rfl, lwT_k2 214 rfl rfl⟩, ⟨by decide +kernel, by decide +kernel, by decide +kernel⟩⟩
theorem mv_X4_174 : MV RX4 174 M_X1_setting 1 := ⟨⟨lwT_k2 224 rfl rfl, lwT_k2 39 rfl rfl, lwT_k2 40 rfl rfl, lwT_k1 2 rfl rfl, lwT_k2 41 rfl rfl⟩, ⟨by decide +kernel, by decide +kernel, by decide +kernel⟩⟩
theorem mv_X4_177 : MV RX4 177 M_X0_matchByAsking 1 := ⟨⟨lwT_k2 225 rfl rfl, lwT_k2 226 rfl rfl, lwT_k2 227 rfl rfl, lwT_k1 5 rfl rfl, lwT_k2 228 rfl rfl⟩, ⟨by decide +kernel, by decide +kernel, by decide +kernel⟩⟩
theorem mv_X4_184 : MV RX4 184 M_X3_append 1 := ⟨⟨lwT_k3 14 rfl rfl, lwT_k3 15 rfl rfl, lwT_k3 16 rfl rfl, lwT_k1 6 rfl rfl, lwT_k3 17 rfl rfl⟩, ⟨by decide +kernel, by decide +kernel, by decide +kernel⟩⟩
theorem mv_X4_189 : MV RX4 189 M_X4_tryText 0 := ⟨⟨lwT_k3 27 rfl rfl, lwT_k3 29 rfl rfl, lwT_p2 (q := (_, _)) 4 rfl, lwT_k1 1 rfl rfl, lwT_k3 30 rfl rfl⟩, ⟨by decide +kernel, by decide +kernel, by decide +kernel⟩⟩
theorem mv_X4_192 : MV RX4 192 M_X4_forgetOldestState 0 := ⟨⟨lwT_k1 207 rfl rfl, lwT_k1 209 rfl rfl, lwT_p1 (q := (_, _)) 3 rfl, lwT_k1 1 rfl rfl, lwT_k1 210 rfl rfl⟩, ⟨by decide +kernel, by decide +kernel, by decide +kernel⟩⟩
theorem mv_X4_195 : MV RX4 195 M_X3_readOrder 1 := ⟨⟨lwT_k3 31 rfl rfl, lwT_k3 32 rfl rfl, lwT_k3 33 rfl rfl, lwT_k1 6 rfl rfl, lwT_k3 34 rfl rfl⟩, ⟨by decide +kernel, by decide +kernel, by decide +kernel⟩⟩
theorem mv_X4_201 : MV RX4 201 M_X4_tellFault 3 := ⟨⟨lwT_k3 112 rfl rfl, lwT_k3 114 rfl rfl, lwT_p2 (q := (_, _)) 11 rfl, lwT_k1 1 rfl rfl, lwT_k3 115 rfl rfl⟩, ⟨by decide +kernel, by decide +kernel, by decide +kernel⟩⟩
theorem mv_X4_205 : MV RX4 205 M_X4_doOrder 1 := ⟨⟨lwT_k3 116 rfl rfl, lwT_k3 118 rfl rfl, lwT_p2 (q := (_, _)) 12 rfl, lwT_k1 1 rfl rfl, lwT_k3 119 rfl rfl⟩, ⟨by decide +kernel, by decide +kernel, by decide +kernel⟩⟩
theorem mv_X4_212 : MV RX4 212 M_X3_number 1 := ⟨⟨lwT_k3 120 rfl rfl, lwT_k3 121 rfl rfl, lwT_k3 122 rfl rfl, lwT_k1 6 rfl rfl, lwT_k3 123 rfl rfl⟩, ⟨by decide +kernel, by decide +kernel, by decide +kernel⟩⟩
theorem mv_X4_53 : MV RX4 53 M_X4_keepState 0 := ⟨⟨lwT_k1 173 rfl rfl, lwT_k1 175 rfl rfl, lwT_p1 (q := (_, _)) 0 rfl, lwT_k1 1 rfl rfl, lwT_k1 176 rfl rfl⟩, ⟨by decide +kernel, by decide +kernel, by decide +kernel⟩⟩
theorem mv_X4_56 : MV RX4 56 M_X1_takeUmbrella 4 := ⟨⟨lwT_k1 186 rfl rfl, lwT_k1 187 rfl rfl, lwT_k1 188 rfl rfl, lwT_k1 2 rfl rfl, lwT_k1 189 rfl rfl⟩, ⟨by decide +kernel, by decide +kernel, by decide +kernel⟩⟩
theorem mv_X4_60 : MV RX4 60 M_X4_recorded 1 := ⟨⟨lwT_k1 203 rfl rfl, lwT_k1 205 rfl rfl, lwT_p1 (q := (_, _)) 2 rfl, lwT_k1 1 rfl rfl, lwT_k1 206 rfl rfl⟩, ⟨by decide +kernel, by decide +kernel, by decide +kernel⟩⟩
theorem mv_X4_64 : MV RX4 64 M_X1_takeClaim 4 := ⟨⟨lwT_k1 215 rfl rfl, lwT_k1 216 rfl rfl, lwT_k1 217 rfl rfl, lwT_k1 2 rfl rfl, lwT_k1 218 rfl rfl⟩, ⟨by decide +kernel, by decide +kernel, by decide +kernel⟩⟩
theorem mv_X4_67 : MV RX4 67 M_X1_noteDetail 3 := ⟨⟨lwT_k1 228 rfl rfl, lwT_k1 229 rfl rfl, lwT_k1 230 rfl rfl, lwT_k1 2 rfl rfl, lwT_k1 231 rfl rfl⟩, ⟨by decide +kernel, by decide +kernel, by decide +kernel⟩⟩
theorem mv_X4_71 : MV RX4 71 M_X1_dropClaim 1 := ⟨⟨lwT_k2 11 rfl rfl, lwT_k2 12 rfl rfl, lwT_k2 13 rfl rfl, lwT_k1 2 rfl rfl, lwT_k2 14 rfl rfl⟩, ⟨by decide +kernel, by decide +kernel, by decide +kernel⟩⟩
theorem mv_X4_74 : MV RX4 74 M_X1_passWeeks 2 := ⟨⟨lwT_k2 23 rfl rfl, lwT_k2 24 rfl rfl, lwT_k2 25 rfl rfl, lwT_k1 2 rfl rfl, lwT_k2 26 rfl rfl⟩, ⟨by decide +kernel, by decide +kernel, by decide +kernel⟩⟩
theorem mv_X4_78 : MV RX4 78 M_X0_matchAll 1 := ⟨⟨lwT_k2 54 rfl rfl, lwT_k2 55 rfl rfl, lwT_k2 56 rfl rfl, lwT_k1 5 rfl rfl, lwT_k2 57 rfl rfl⟩, ⟨by decide +kernel, by decide +kernel, by decide +kernel⟩⟩
theorem mv_X4_82 : MV RX4 82 M_X1_handOut 1 := ⟨⟨lwT_k2 110 rfl rfl, lwT_k2 111 rfl rfl, lwT_k2 112 rfl rfl, lwT_k1 2 rfl rfl, lwT_k2 113 rfl rfl⟩, ⟨by decide +kernel, by decide +kernel, by decide +kernel⟩⟩
theorem mv_X4_86 : MV RX4 86 M_X1_changeSetting 2 := ⟨⟨lwT_k2 120 rfl rfl, lwT_k2 121 rfl rfl, lwT_k2 122 rfl rfl, lwT_k1 2 rfl rfl, lwT_k2 123 rfl rfl⟩, ⟨by decide +kernel, by decide +kernel, by decide +kernel⟩⟩
theorem mv_X4_93 : MV RX4 93 M_X2_has 1 := ⟨⟨lwT_k2 133 rfl rfl, lwT_k1 233 rfl rfl, lwT_k1 234 rfl rfl, lwT_k1 3 rfl rfl, lwT_k1 235 rfl rfl⟩, ⟨by decide +kernel, by decide +kernel, by decide +kernel⟩⟩
theorem mv_X5_104 : MV RX5 104 M_X5_isClaim 2 := ⟨⟨lwT_k3 238 rfl rfl, lwT_k4 0 rfl rfl, lwT_p3 (q := (_, _)) 5 rfl, lwT_k1 7 rfl rfl, lwT_k4 1 rfl rfl⟩, ⟨by decide +kernel, by decide +kernel, by decide +kernel⟩⟩
theorem mv_X5_111 : MV RX5 111 M_X5_goBy 2 := ⟨⟨lwT_k4 21 rfl rfl, lwT_k4 23 rfl rfl, lwT_p3 (q := (_, _)) 8 rfl, lwT_k1 7 rfl rfl, lwT_k4 24 rfl rfl⟩, ⟨by decide +kernel, by decide +kernel, by decide +kernel⟩⟩
theorem mv_X5_114 : MV RX5 114 M_X5_records 0 := ⟨⟨lwT_k3 214 rfl rfl, lwT_k3 216 rfl rfl, lwT_p3 (q := (_, _)) 2 rfl, lwT_k1 7 rfl rfl, lwT_k3 217 rfl rfl⟩, ⟨by decide +kernel, by decide +kernel, by decide +kernel⟩⟩
theorem mv_X5_117 : MV RX5 117 M_X5_tried 0 := ⟨⟨lwT_k3 183 rfl rfl, lwT_k3 185 rfl rfl, lwT_p2 (q := (_, _)) 13 rfl, lwT_k1 7 rfl rfl, lwT_k3 186 rfl rfl⟩, ⟨by decide +kernel, by decide +kernel, by decide +kernel⟩⟩
theorem mv_X5_121 : MV RX5 121 M_X5_finds 5 := ⟨⟨lwT_k3 191 rfl rfl, lwT_k3 193 rfl rfl, lwT_p2 (q := (_, _)) 15 rfl, lwT_k1 7 rfl rfl, lwT_k3 194 rfl rfl⟩, ⟨by decide +kernel, by decide +kernel, by decide +kernel⟩⟩
theorem mv_X5_125 : MV RX5 125 M_X5_done 1 := ⟨⟨lwT_k3 210 rfl rfl, lwT_k3 212 rfl rfl, lwT_p3 (q := (_, _)) 1 rfl, lwT_k1 7 rfl rfl, lwT_k3 213 rfl rfl⟩, ⟨by decide +kernel, by decide +kernel, by decide +kernel⟩⟩
theorem mv_X5_128 : MV RX5 128 M_X5_claims 5 := ⟨⟨lwT_k3 222 rfl rfl, lwT_k3 224 rfl rfl, lwT_p3 (q := (_, _)) 3 rfl, lwT_k1 7 rfl rfl, lwT_k3 225 rfl rfl⟩, ⟨by decide +kernel, by decide +kernel, by decide +kernel⟩⟩
theorem mv_X5_131 : MV RX5 131 M_X5_tells 4 := ⟨⟨lwT_k3 234 rfl rfl, lwT_k3 236 rfl rfl, lwT_p3 (q := (_, _)) 4 rfl, lwT_k1 7 rfl rfl, lwT_k3 237 rfl rfl⟩, ⟨by decide +kernel, by decide +kernel, by decide +kernel⟩⟩
theorem mv_X5_135 : MV RX5 135 M_X5_weeksIn 2 := ⟨⟨lwT_k4 17 rfl rfl, lwT_k4 19 rfl rfl, lwT_p3 (q := (_, _)) 7 rfl, lwT_k1 7 rfl rfl, lwT_k4 20 rfl rfl⟩, ⟨by decide +kernel, by decide +kernel, by decide +kernel⟩⟩
theorem mv_X5_138 : MV RX5 138 M_X5_handsOut 1 := ⟨⟨lwT_k4 45 rfl rfl, lwT_k4 47 rfl rfl, lwT_p3 (q := (_, _)) 13 rfl, lwT_k1 7 rfl rfl, lwT_k4 48 rfl rfl⟩, ⟨by decide +kernel, by decide +kernel, by decide +kernel⟩⟩
theorem mv_X5_145 : MV RX5 145 M_X5_isUmbrella 1 := ⟨⟨lwT_k4 84 rfl rfl, lwT_k4 86 rfl rfl, lwT_p4 (q := (_, _)) 4 rfl, lwT_k1 7 rfl rfl, lwT_k4 87 rfl rfl⟩, ⟨by decide +kernel, by decide +kernel, by decide +kernel⟩⟩
theorem mv_X5_149 : MV RX5 149 M_X5_mateOf 2 := ⟨⟨lwT_k4 88 rfl rfl, lwT_k4 90 rfl rfl, lwT_p4 (q := (_, _)) 5 rfl, lwT_k1 7 rfl rfl, lwT_k4 91 rfl rfl⟩, ⟨by decide +kernel, by decide +kernel, by decide +kernel⟩⟩
theorem mv_X5_153 : MV RX5 153 M_X5_suiting 2 := ⟨⟨lwT_k4 93 rfl rfl, lwT_k4 95 rfl rfl, lwT_p4 (q := (_, _)) 6 rfl, lwT_k1 7 rfl rfl, lwT_k4 96 rfl rfl⟩, ⟨by decide +kernel, by decide +kernel, by decide +kernel⟩⟩
theorem mv_X5_156 : MV RX5 156 M_X5_oddness 1 := ⟨⟨lwT_k4 97 rfl rfl, lwT_k4 99 rfl rfl, lwT_p4 (q := (_, _)) 7 rfl, lwT_k1 7 rfl rfl, lwT_k4 100 rfl rfl⟩, ⟨by decide +kernel, by decide +kernel, by decide +kernel⟩⟩
theorem mv_X5_159 : MV RX5 159 M_X5_matchOf 2 := ⟨⟨lwT_k4 105 rfl rfl, lwT_k4 107 rfl rfl, lwT_p4 (q := (_, _)) 8 rfl, lwT_k1 7 rfl rfl, lwT_k4 108 rfl rfl⟩, ⟨by decide +kernel, by decide +kernel, by decide +kernel⟩⟩
theorem mv_X5_168 : MV RX5 168 M_X5_byAsking 1 := ⟨⟨lwT_k4 155 rfl rfl, lwT_k4 157 rfl rfl, lwT_p4 (q := (_, _)) 9 rfl, lwT_k1 7 rfl rfl, lwT_k4 158 rfl rfl⟩, ⟨by decide +kernel, by decide +kernel, by decide +kernel⟩⟩
theorem mv_X5_179 : MV RX5 179 M_X5_takes 1 := ⟨⟨lwT_k4 197 rfl rfl, lwT_k4 199 rfl rfl, lwT_p4 (q := (_, _)) 15 rfl, lwT_k1 7 rfl rfl, lwT_k4 200 rfl rfl⟩, ⟨by decide +kernel, by decide +kernel, by decide +kernel⟩⟩
theorem mv_X5_182 : MV RX5 182 M_X5_isDigit 0 := ⟨⟨lwT_k4 213 rfl rfl, lwT_k4 215 rfl rfl, lwT_p5 (q := (_, _)) 3 rfl, lwT_k1 7 rfl rfl, lwT_k4 216 rfl rfl⟩, ⟨by decide +kernel, by decide +kernel, by decide +kernel⟩⟩
theorem mv_X5_186 : MV RX5 186 M_X5_readsNumber 1 := ⟨⟨lwT_k4 209 rfl rfl, lwT_k4 211 rfl rfl, lwT_p5 (q := (_, _)) 2 rfl, lwT_k1 7 rfl rfl, lwT_k4 212 rfl rfl⟩, ⟨by decide +kernel, by decide +kernel, by decide +kernel⟩⟩
theorem mv_X5_189 : MV RX5 189 M_X5_readsValue 2 := ⟨⟨lwT_k4 205 rfl rfl, lwT_k4 207 rfl rfl, lwT_p5 (q := (_, _)) 1 rfl, lwT_k1 7 rfl rfl, lwT_k4 208 rfl rfl⟩, ⟨by decide +kernel, by decide +kernel, by decide +kernel⟩⟩
theorem mv_X5_198 : MV RX5 198 M_X5_takesWord 1 := ⟨⟨lwT_k4 192 rfl rfl, lwT_k4 194 rfl rfl, lwT_p4 (q := (_, _)) 14 rfl, lwT_k1 7 rfl rfl, lwT_k4 195 rfl rfl⟩, ⟨by decide +kernel, by decide +kernel, by decide +kernel⟩⟩
theorem mv_X5_202 : MV RX5 202 M_X5_readsRow 2 := ⟨⟨lwT_k4 201 rfl rfl, lwT_k4 203 rfl rfl, lwT_p5 (q := (_, _)) 0 rfl, lwT_k1 7 rfl rfl, lwT_k4 204 rfl rfl⟩, ⟨by decide +kernel, by decide +kernel, by decide +kernel⟩⟩
theorem mv_X5_216 : MV RX5 216 M_X5_readsOrder 0 := ⟨⟨lwT_k4 187 rfl rfl, lwT_k4 189 rfl rfl, lwT_p4 (q := (_, _)) 13 rfl, lwT_k1 7 rfl rfl, lwT_k4 190 rfl rfl⟩, ⟨by decide +kernel, by decide +kernel, by decide +kernel⟩⟩
theorem mv_X5_219 : MV RX5 219 M_X5_does 1 := ⟨⟨lwT_k4 221 rfl rfl, lwT_k4 223 rfl rfl, lwT_p5 (q := (_, _)) 4 rfl, lwT_k1 7 rfl rfl, lwT_k4 224 rfl rfl⟩, ⟨by decide +kernel, by decide +kernel, by decide +kernel⟩⟩
theorem mv_X5_228 : MV RX5 228 M_X5_looks 0 := ⟨⟨lwT_k4 183 rfl rfl, lwT_k4 185 rfl rfl, lwT_p4 (q := (_, _)) 12 rfl, lwT_k1 7 rfl rfl, lwT_k4 186 rfl rfl⟩, ⟨by decide +kernel, by decide +kernel, by decide +kernel⟩⟩
theorem mv_X5_35 : MV RX5 35 M_X5_copies 2 := ⟨⟨lwT_k3 187 rfl rfl, lwT_k3 189 rfl rfl, lwT_p2 (q := (_, _)) 14 rfl, lwT_k1 7 rfl rfl, lwT_k3 190 rfl rfl⟩, ⟨by decide +kernel, by decide +kernel, by decide +kernel⟩⟩
theorem mv_X5_46 : MV RX5 46 M_X5_misses 3 := ⟨⟨lwT_k4 61 rfl rfl, lwT_k4 63 rfl rfl, lwT_p4 (q := (_, _)) 1 rfl, lwT_k1 7 rfl rfl, lwT_k4 64 rfl rfl⟩, ⟨by decide +kernel, by decide +kernel, by decide +kernel⟩⟩
theorem mv_X5_50 : MV RX5 50 M_X5_many 3 := ⟨⟨lwT_k4 69 rfl rfl, lwT_k4 71 rfl rfl, lwT_p4 (q := (_, _)) 3 rfl, lwT_k1 7 rfl rfl, lwT_k4 72 rfl rfl⟩, ⟨by decide +kernel, by decide +kernel, by decide +kernel⟩⟩
theorem mv_X5_53 : MV RX5 53 M_X5_pointsOf 3 := ⟨⟨lwT_k4 65 rfl rfl, lwT_k4 67 rfl rfl, lwT_p4 (q := (_, _)) 2 rfl, lwT_k1 7 rfl rfl, lwT_k4 68 rfl rfl⟩, ⟨by decide +kernel, by decide +kernel, by decide +kernel⟩⟩
theorem mv_X5_56 : MV RX5 56 M_X5_suits 3 := ⟨⟨lwT_k4 57 rfl rfl, lwT_k4 59 rfl rfl, lwT_p4 (q := (_, _)) 0 rfl, lwT_k1 7 rfl rfl, lwT_k4 60 rfl rfl⟩, ⟨by decide +kernel, by decide +kernel, by decide +kernel⟩⟩
theorem mv_X5_60 : MV RX5 60 M_X5_clears 1 := ⟨⟨lwT_k4 53 rfl rfl, lwT_k4 55 rfl rfl, lwT_p3 (q := (_, _)) 15 rfl, lwT_k1 7 rfl rfl, lwT_k4 56 rfl rfl⟩, ⟨by decide +kernel, by decide +kernel, by decide +kernel⟩⟩
theorem mv_X5_64 : MV RX5 64 M_X5_asks 1 := ⟨⟨lwT_k4 163 rfl rfl, lwT_k4 165 rfl rfl, lwT_p4 (q := (_, _)) 11 rfl, lwT_k1 7 rfl rfl, lwT_k4 166 rfl rfl⟩, ⟨by decide +kernel, by decide +kernel, by decide +kernel⟩⟩
theorem mv_X5_68 : MV RX5 68 M_X5_asksOn 1 := ⟨⟨lwT_k4 159 rfl rfl, lwT_k4 161 rfl rfl, lwT_p4 (q := (_, _)) 10 rfl, lwT_k1 7 rfl rfl, lwT_k4 162 rfl rfl⟩, ⟨by decide +kernel, by decide +kernel, by decide +kernel⟩⟩
theorem mv_X5_71 : MV RX5 71 M_X5_writes 4 := ⟨⟨lwT_k4 29 rfl rfl, lwT_k4 31 rfl rfl, lwT_p3 (q := (_, _)) 10 rfl, lwT_k1 7 rfl rfl, lwT_k4 32 rfl rfl⟩, ⟨by decide +kernel, by decide +kernel, by decide +kernel⟩⟩
theorem mv_X5_75 : MV RX5 75 M_X5_umbrellaGoes 2 := ⟨⟨lwT_k4 33 rfl rfl, lwT_k4 35 rfl rfl, lwT_p3 (q := (_, _)) 11 rfl, lwT_k1 7 rfl rfl, lwT_k4 36 rfl rfl⟩, ⟨by decide +kernel, by decide +kernel, by decide +kernel⟩⟩
theorem mv_X5_78 : MV RX5 78 M_X5_claimGoes 2 := ⟨⟨lwT_k4 9 rfl rfl, lwT_k4 11 rfl rfl, lwT_p3 (q := (_, _)) 6 rfl, lwT_k1 7 rfl rfl, lwT_k4 12 rfl rfl⟩, ⟨by decide +kernel, by decide +kernel, by decide +kernel⟩⟩
theorem mv_X5_81 : MV RX5 81 M_X5_sells 1 := ⟨⟨lwT_k4 25 rfl rfl, lwT_k4 27 rfl rfl, lwT_p3 (q := (_, _)) 9 rfl, lwT_k1 7 rfl rfl, lwT_k4 28 rfl rfl⟩, ⟨by decide +kernel, by decide +kernel, by decide +kernel⟩⟩
theorem mv_X5_84 : MV RX5 84 M_X5_lapses 1 := ⟨⟨lwT_k4 37 rfl rfl, lwT_k4 39 rfl rfl, lwT_p3 (q := (_, _)) 12 rfl, lwT_k1 7 rfl rfl, lwT_k4 40 rfl rfl⟩, ⟨by decide +kernel, by decide +kernel, by decide +kernel⟩⟩
theorem mv_X5_87 : MV RX5 87 M_X5_matches 1 := ⟨⟨lwT_k4 49 rfl rfl, lwT_k4 51 rfl rfl, lwT_p3 (q := (_, _)) 14 rfl, lwT_k1 7 rfl rfl, lwT_k4 52 rfl rfl⟩, ⟨by decide +kernel, by decide +kernel, by decide +kernel⟩⟩
theorem mv_X5_99 : MV RX5 99 M_X5_lays 5 := ⟨⟨lwT_k3 206 rfl rfl, lwT_k3 208 rfl rfl, lwT_p3 (q := (_, _)) 0 rfl, lwT_k1 7 rfl rfl, lwT_k3 209 rfl rfl⟩, ⟨by decide +kernel, by decide +kernel, by decide +kernel⟩⟩
theorem mv_J0_335 : MV "java/lang/String" 335 M_J_coder 0 := ⟨⟨lwT_k3 48 rfl rfl, lwT_k3 49 rfl rfl, lwT_k3 50 rfl rfl, lwT_k1 10 rfl rfl, lwT_k3 51 rfl rfl⟩, ⟨by decide +kernel, by decide +kernel, by decide +kernel⟩⟩
theorem mv_J0_492 : MV "java/lang/String" 492 M_J_isLatin1 0 := ⟨⟨lwT_k3 58 rfl rfl, lwT_k3 59 rfl rfl, lwT_k3 60 rfl rfl, lwT_k1 10 rfl rfl, lwT_k3 61 rfl rfl⟩, ⟨by decide +kernel, by decide +kernel, by decide +kernel⟩⟩
theorem rb_Jxf58ca_74 : (Cond.methodLink "java/lang/Float" 74 ⟨"java/lang/Float", "floatToRawIntBits", "(F)I"⟩ ∈ lwT) ∧ (Cond.native ⟨"java/lang/Float", "floatToRawIntBits", "(F)I"⟩ ∈ lwT) ∧ (Cond.static ⟨"java/lang/Float", "floatToRawIntBits", "(F)I"⟩ ∈ lwT) ∧ (Cond.initialized "java/lang/Float" ∈ lwT) := ⟨lwT_k4 147 rfl rfl, lwT_k4 149 rfl rfl, lwT_k4 148 rfl rfl, lwT_k1 9 rfl rfl⟩
theorem sf_J0_1053 : Cond.fieldLink "java/lang/String" 1053 "jdk/internal/util/Preconditions" "SIOOBE_FORMATTER" "Ljava/util/function/BiFunction;" ∈ lwT := lwT_k3 68 rfl rfl
theorem sf_J0_15 : Cond.fieldLink "java/lang/String" 15 "java/lang/String" "coder" "B" ∈ lwT := lwT_k4 230 rfl rfl
theorem sf_J0_38 : Cond.fieldLink "java/lang/String" 38 "java/lang/String" "COMPACT_STRINGS" "Z" ∈ lwT := lwT_k3 52 rfl rfl
theorem sf_J0_9 : Cond.fieldLink "java/lang/String" 9 "java/lang/String" "value" "[B" ∈ lwT := lwT_k4 229 rfl rfl
end
section
/-! printed by wip/gen/gen.py: each method as a function over the heap of numbers -/
theorem fu_ex : ∃ n : Nat, 4999 < n := ⟨5000, by omega⟩
/-- enough for every loop; hidden behind a choice, so that nothing unrolls it -/
noncomputable def fu : Nat := Classical.choose fu_ex
theorem fu_gt : 4999 < fu := Classical.choose_spec fu_ex
noncomputable def f_J_isLatin1 (x0 : Nat) (n0 : Nat) (h : Hp) : Option (Int × Hp) :=
  if (1 : Int) = 0 then
    some (0, h)
  else
    if ¬ (0 : Int) = 0 then
      some (0, h)
    else
      some (1, h)
noncomputable def f_J_preCheck (x0 : Int) (x1 : Int) (h : Hp) : Option (Int × Hp) :=
  if x0 < 0 then
    none
  else
    if x0 < x1 then
      some (x0, h)
    else
      none
noncomputable def f_J_checkIndex (x0 : Int) (x1 : Int) (h : Hp) : Option (Int × Hp) :=
  bd (f_J_preCheck x0 x1 h) fun r2 h2 =>
  some (0, h2)
noncomputable def f_J_latinAt (x0 : Nat) (n0 : Nat) (x1 : Int) (h : Hp) : Option (Int × Hp) :=
  bd (f_J_checkIndex x1 ((n0 : Nat) : Int) h) fun _ h1 =>
  if inb x1 n0 then
    if 0 ≤ (sCh x0 (Int.toNat x1)) ∧ (sCh x0 (Int.toNat x1)) < 256 then
      if isC (sCh x0 (Int.toNat x1)) then
        if isC (sCh x0 (Int.toNat x1)) then some ((sCh x0 (Int.toNat x1)), h1) else none
      else none
    else none
  else none
noncomputable def f_J_charAt (x0 : Nat) (n0 : Nat) (x1 : Int) (h : Hp) : Option (Int × Hp) :=
  bd (f_J_isLatin1 x0 n0 h) fun r1 h1 =>
  if r1 = 0 then
    none
  else
    bd (f_J_latinAt (x0 + 5) n0 x1 h1) fun r2 h2 =>
    if isC r2 then some (r2, h2) else none
noncomputable def f_J_coder (x0 : Nat) (n0 : Nat) (h : Hp) : Option (Int × Hp) :=
  if (1 : Int) = 0 then
    some (1, h)
  else
    some (0, h)
noncomputable def f_J_length (x0 : Nat) (n0 : Nat) (h : Hp) : Option (Int × Hp) :=
  bd (f_J_coder x0 n0 h) fun r1 h1 =>
  if r1 = 0 then
    some (((n0 : Nat) : Int), h1)
  else none
noncomputable def f_J_min (x0 : Int) (x1 : Int) (h : Hp) : Option (Int × Hp) :=
  if x1 < x0 then
    some (x1, h)
  else
    some (x0, h)
noncomputable def f_J_isNaN (x0 : UInt32) (h : Hp) : Option (Int × Hp) :=
  if (Op.cmpValue (FP.fcmp x0 x0) .l).toInt = 0 then
    some (0, h)
  else
    some (1, h)
noncomputable def f_J_floatToIntBits (x0 : UInt32) (h : Hp) : Option (Int × Hp) :=
  bd (f_J_isNaN x0 h) fun r1 h1 =>
  if ¬ r1 = 0 then
    some (2143289344, h1)
  else
    some ((UInt32.toInt32 x0).toInt, h1)
noncomputable def f_X0_aheadOf (x1 : Int) (x2 : Int) (h : Hp) : Option (Int × Hp) :=
  if x1 < 0 then
    some (x2, h)
  else
    if x1 < 144 then
      if x2 < 0 then
        some (x1, h)
      else
        if x2 < 144 then
          if inb x1 144 then
            if inb x2 144 then
              if (h 21 (Int.toNat x1)) = (h 21 (Int.toNat x2)) then
                bd (f_J_min x1 x2 h) fun r1 h1 =>
                some (r1, h1)
              else
                if inb x1 144 then
                  if inb x2 144 then
                    if (h 21 (Int.toNat x1)) ≤ (h 21 (Int.toNat x2)) then
                      some (x2, h)
                    else
                      some (x1, h)
                  else none
                else none
            else none
          else none
        else
          some (x1, h)
    else
      some (x2, h)
noncomputable def f_X0_claimMatched (x1 : Int) (h : Hp) : Option (Int × Hp) :=
  if x1 < 0 then
    some ((-1), h)
  else
    if 12 ≤ x1 then
      some ((-1), h)
    else
      if inb x1 12 then
        some ((h 25 (Int.toNat x1)), h)
      else none
noncomputable def f_X0_join (x1 : Int) (x2 : Int) (h : Hp) : Option (Int × Hp) :=
  if x1 < 0 then
    some (0, h)
  else
    if 12 ≤ x1 then
      some (0, h)
    else
      if x2 < 0 then
        some (0, h)
      else
        if 12 ≤ x2 then
          some (0, h)
        else
          if inb x1 12 then
            lt (hup h 25 (Int.toNat x1) x2) fun h1 =>
            if inb x2 12 then
              lt (hup h1 26 (Int.toNat x2) x1) fun h2 =>
              lt (hup h2 19 9 (wr ((h2 19 9) + 1))) fun h3 =>
              some (0, h3)
            else none
          else none
noncomputable def f_X0_pairOf (x1 : Int) (x2 : Int) (h : Hp) : Option (Int × Hp) :=
  if x1 < 0 then
    some ((-1), h)
  else
    if (h 19 7) ≤ x1 then
      some ((-1), h)
    else
      if x2 < 0 then
        some ((-1), h)
      else
        if x2 < (h 19 8) then
          lv (wr ((wr (x1 * 12)) + x2)) fun y1 =>
          if y1 < 0 then
            some ((-1), h)
          else
            if 144 ≤ y1 then
              some ((-1), h)
            else
              some (y1, h)
        else
          some ((-1), h)
noncomputable def f_X0_part (x1 : Int) (x2 : Int) (h : Hp) : Option (Int × Hp) :=
  if x1 < 0 then
    some (0, h)
  else
    if 12 ≤ x1 then
      some (0, h)
    else
      if x2 < 0 then
        some (0, h)
      else
        if 12 ≤ x2 then
          some (0, h)
        else
          if inb x1 12 then
            lt (hup h 25 (Int.toNat x1) (-1)) fun h1 =>
            if inb x2 12 then
              lt (hup h1 26 (Int.toNat x2) (-1)) fun h2 =>
              lt (hup h2 19 9 (wr ((h2 19 9) - 1))) fun h3 =>
              some (0, h3)
            else none
          else none
noncomputable def f_X0_askFor_J36 (x1 : Int) (x2 : Int) (h : Hp) : Option (Int × Hp) :=
  bd (f_X0_join x2 (wr (x1 - Int.tdiv x1 12 * 12)) h) fun _ h4 =>
  some (0, h4)
noncomputable def f_X0_askFor (x1 : Int) (h : Hp) : Option (Int × Hp) :=
  if x1 < 0 then
    some (0, h)
  else
    if x1 < 144 then
      if inb x1 144 ∧ isB 1 then
        lt (hup h 23 (Int.toNat x1) 1) fun h1 =>
        lv (wr (Int.tdiv x1 12)) fun y2 =>
        bd (f_X0_claimMatched y2 h1) fun r3 h3 =>
        if r3 = (-1) then
          f_X0_askFor_J36 x1 y2 h3
        else
          bd (f_X0_pairOf y2 r3 h3) fun r5 h5 =>
          bd (f_X0_aheadOf x1 r5 h5) fun r6 h6 =>
          if r6 = x1 then
            bd (f_X0_part y2 r3 h6) fun _ h7 =>
            f_X0_askFor_J36 x1 y2 h7
          else
            some (0, h6)
      else none
    else
      some (0, h)
noncomputable def f_X0_suits (x1 : Int) (x2 : Int) (h : Hp) : Option (Int × Hp) :=
  bd (f_X0_pairOf x1 x2 h) fun r1 h1 =>
  if r1 < 0 then
    some (0, h1)
  else
    if 144 ≤ r1 then
      some (0, h1)
    else
      if inb r1 144 then
        if (h1 22 (Int.toNat r1)) = 0 then
          some (0, h1)
        else
          some (1, h1)
      else none
noncomputable def f_X0_umbrellaMatched (x1 : Int) (h : Hp) : Option (Int × Hp) :=
  if x1 < 0 then
    some ((-1), h)
  else
    if 12 ≤ x1 then
      some ((-1), h)
    else
      if inb x1 12 then
        some ((h 26 (Int.toNat x1)), h)
      else none
noncomputable def f_X0_bestFreePair_L16 (x2 : Int) (c40 : Int → Hp → Option (Int × Hp)) (n : Nat) : Int → Int → Hp → Option (Int × Hp) :=
  Nat.rec (motive := fun _ => Int → Int → Hp → Option (Int × Hp)) (fun _ _ _ => none) (fun _ rec x1 x3 h =>
    if (h 19 8) ≤ x3 then
      c40 x1 h
    else
      bd (f_X0_umbrellaMatched x3 h) fun r2 h2 =>
      if ¬ r2 = (-1) then
        rec x1 (wr (x3 + 1)) h2
      else
        bd (f_X0_suits x2 x3 h2) fun r3 h3 =>
        if r3 = 0 then
          rec x1 (wr (x3 + 1)) h3
        else
          bd (f_X0_pairOf x2 x3 h3) fun r4 h4 =>
          bd (f_X0_aheadOf r4 x1 h4) fun r5 h5 =>
          rec r5 (wr (x3 + 1)) h5) n
theorem f_X0_bestFreePair_L16_s (x2 : Int) (c40 : Int → Hp → Option (Int × Hp)) (n : Nat) (x1 : Int) (x3 : Int) (h : Hp) : f_X0_bestFreePair_L16 x2 c40 (n + 1) x1 x3 h =
    if (h 19 8) ≤ x3 then
      c40 x1 h
    else
      bd (f_X0_umbrellaMatched x3 h) fun r2 h2 =>
      if ¬ r2 = (-1) then
        f_X0_bestFreePair_L16 x2 c40 n x1 (wr (x3 + 1)) h2
      else
        bd (f_X0_suits x2 x3 h2) fun r3 h3 =>
        if r3 = 0 then
          f_X0_bestFreePair_L16 x2 c40 n x1 (wr (x3 + 1)) h3
        else
          bd (f_X0_pairOf x2 x3 h3) fun r4 h4 =>
          bd (f_X0_aheadOf r4 x1 h4) fun r5 h5 =>
          f_X0_bestFreePair_L16 x2 c40 n r5 (wr (x3 + 1)) h5 := rfl
noncomputable def f_X0_bestFreePair_L4  (n : Nat) : Int → Int → Hp → Option (Int × Hp) :=
  Nat.rec (motive := fun _ => Int → Int → Hp → Option (Int × Hp)) (fun _ _ _ => none) (fun _ rec x1 x2 h =>
    if (h 19 7) ≤ x2 then
      some (x1, h)
    else
      bd (f_X0_claimMatched x2 h) fun r1 h1 =>
      if r1 = (-1) then
        (f_X0_bestFreePair_L16 x2
          (fun y6 h7 =>
            rec y6 (wr (x2 + 1)) h7)
           fu x1 0 h1)
      else
        rec x1 (wr (x2 + 1)) h1) n
theorem f_X0_bestFreePair_L4_s  (n : Nat) (x1 : Int) (x2 : Int) (h : Hp) : f_X0_bestFreePair_L4  (n + 1) x1 x2 h =
    if (h 19 7) ≤ x2 then
      some (x1, h)
    else
      bd (f_X0_claimMatched x2 h) fun r1 h1 =>
      if r1 = (-1) then
        (f_X0_bestFreePair_L16 x2
          (fun y6 h7 =>
            f_X0_bestFreePair_L4  n y6 (wr (x2 + 1)) h7)
           fu x1 0 h1)
      else
        f_X0_bestFreePair_L4  n x1 (wr (x2 + 1)) h1 := rfl
noncomputable def f_X0_bestFreePair  (h : Hp) : Option (Int × Hp) :=
  (f_X0_bestFreePair_L4 
     fu (-1) 0 h)
noncomputable def f_X0_claimsSuiting_L4 (x1 : Int) (n : Nat) : Int → Int → Hp → Option (Int × Hp) :=
  Nat.rec (motive := fun _ => Int → Int → Hp → Option (Int × Hp)) (fun _ _ _ => none) (fun _ rec x2 x3 h =>
    if (h 19 8) ≤ x3 then
      some (x2, h)
    else
      bd (f_X0_suits x1 x3 h) fun r1 h1 =>
      if r1 = 0 then
        rec x2 (wr (x3 + 1)) h1
      else
        rec (wr (x2 + 1)) (wr (x3 + 1)) h1) n
theorem f_X0_claimsSuiting_L4_s (x1 : Int) (n : Nat) (x2 : Int) (x3 : Int) (h : Hp) : f_X0_claimsSuiting_L4 x1 (n + 1) x2 x3 h =
    if (h 19 8) ≤ x3 then
      some (x2, h)
    else
      bd (f_X0_suits x1 x3 h) fun r1 h1 =>
      if r1 = 0 then
        f_X0_claimsSuiting_L4 x1 n x2 (wr (x3 + 1)) h1
      else
        f_X0_claimsSuiting_L4 x1 n (wr (x2 + 1)) (wr (x3 + 1)) h1 := rfl
noncomputable def f_X0_claimsSuiting (x1 : Int) (h : Hp) : Option (Int × Hp) :=
  (f_X0_claimsSuiting_L4 x1
     fu 0 0 h)
noncomputable def f_X0_matchNone_L2 (c14 : Hp → Option (Int × Hp)) (n : Nat) : Int → Hp → Option (Int × Hp) :=
  Nat.rec (motive := fun _ => Int → Hp → Option (Int × Hp)) (fun _ _ => none) (fun _ rec x1 h =>
    if ((12 : Nat) : Int) ≤ x1 then
      c14 h
    else
      if inb x1 12 then
        lt (hup h 25 (Int.toNat x1) (-1)) fun h1 =>
        rec (wr (x1 + 1)) h1
      else none) n
theorem f_X0_matchNone_L2_s (c14 : Hp → Option (Int × Hp)) (n : Nat) (x1 : Int) (h : Hp) : f_X0_matchNone_L2 c14 (n + 1) x1 h =
    if ((12 : Nat) : Int) ≤ x1 then
      c14 h
    else
      if inb x1 12 then
        lt (hup h 25 (Int.toNat x1) (-1)) fun h1 =>
        f_X0_matchNone_L2 c14 n (wr (x1 + 1)) h1
      else none := rfl
noncomputable def f_X0_matchNone_L16  (n : Nat) : Int → Hp → Option (Int × Hp) :=
  Nat.rec (motive := fun _ => Int → Hp → Option (Int × Hp)) (fun _ _ => none) (fun _ rec x1 h =>
    if ((12 : Nat) : Int) ≤ x1 then
      lt (hup h 19 9 0) fun h3 =>
      some (0, h3)
    else
      if inb x1 12 then
        lt (hup h 26 (Int.toNat x1) (-1)) fun h4 =>
        rec (wr (x1 + 1)) h4
      else none) n
theorem f_X0_matchNone_L16_s  (n : Nat) (x1 : Int) (h : Hp) : f_X0_matchNone_L16  (n + 1) x1 h =
    if ((12 : Nat) : Int) ≤ x1 then
      lt (hup h 19 9 0) fun h3 =>
      some (0, h3)
    else
      if inb x1 12 then
        lt (hup h 26 (Int.toNat x1) (-1)) fun h4 =>
        f_X0_matchNone_L16  n (wr (x1 + 1)) h4
      else none := rfl
noncomputable def f_X0_matchNone  (h : Hp) : Option (Int × Hp) :=
  (f_X0_matchNone_L2 
    (fun h2 =>
      (f_X0_matchNone_L16 
         fu 0 h2))
     fu 0 h)
noncomputable def f_X2_cell (x0 : Nat) (x1 : Int) (x2 : Int) (h : Hp) : Option (Int × Hp) :=
  if x1 < 0 then
    some (0, h)
  else
    if (h x0 1) ≤ x1 then
      some (0, h)
    else
      if x2 < 0 then
        some (0, h)
      else
        if x2 < 6 then
          lv (wr ((wr (x1 * 6)) + x2)) fun y1 =>
          if y1 < 0 then
            some (0, h)
          else
            if ((72 : Nat) : Int) ≤ y1 then
              some (0, h)
            else
              if inb y1 72 then
                some ((h (x0 + 1) (Int.toNat y1)), h)
              else none
        else
          some (0, h)
noncomputable def f_X0_noteOddness_L2 (x1 : Nat) (c14 : Hp → Option (Int × Hp)) (n : Nat) : Int → Hp → Option (Int × Hp) :=
  Nat.rec (motive := fun _ => Int → Hp → Option (Int × Hp)) (fun _ _ => none) (fun _ rec x2 h =>
    if ((40 : Nat) : Int) ≤ x2 then
      c14 h
    else
      if inb x2 40 then
        lt (hup h 24 (Int.toNat x2) 13) fun h1 =>
        rec (wr (x2 + 1)) h1
      else none) n
theorem f_X0_noteOddness_L2_s (x1 : Nat) (c14 : Hp → Option (Int × Hp)) (n : Nat) (x2 : Int) (h : Hp) : f_X0_noteOddness_L2 x1 c14 (n + 1) x2 h =
    if ((40 : Nat) : Int) ≤ x2 then
      c14 h
    else
      if inb x2 40 then
        lt (hup h 24 (Int.toNat x2) 13) fun h1 =>
        f_X0_noteOddness_L2 x1 c14 n (wr (x2 + 1)) h1
      else none := rfl
noncomputable def f_X0_noteOddness_L22 (x1 : Nat) (x2 : Int) (c52 : Hp → Option (Int × Hp)) (n : Nat) : Int → Hp → Option (Int × Hp) :=
  Nat.rec (motive := fun _ => Int → Hp → Option (Int × Hp)) (fun _ _ => none) (fun _ rec x3 h =>
    if 4 ≤ x3 then
      c52 h
    else
      bd (f_X2_cell (x1 + 1) x2 x3 h) fun r3 h3 =>
      lv (wr ((wr (x3 * 10)) + r3)) fun y4 =>
      if y4 < 0 then
        rec (wr (x3 + 1)) h3
      else
        if ((40 : Nat) : Int) ≤ y4 then
          rec (wr (x3 + 1)) h3
        else
          if inb y4 40 then
            if inb y4 40 then
              lt (hup h3 24 (Int.toNat y4) (wr ((h3 24 (Int.toNat y4)) - 1))) fun h5 =>
              rec (wr (x3 + 1)) h5
            else none
          else none) n
theorem f_X0_noteOddness_L22_s (x1 : Nat) (x2 : Int) (c52 : Hp → Option (Int × Hp)) (n : Nat) (x3 : Int) (h : Hp) : f_X0_noteOddness_L22 x1 x2 c52 (n + 1) x3 h =
    if 4 ≤ x3 then
      c52 h
    else
      bd (f_X2_cell (x1 + 1) x2 x3 h) fun r3 h3 =>
      lv (wr ((wr (x3 * 10)) + r3)) fun y4 =>
      if y4 < 0 then
        f_X0_noteOddness_L22 x1 x2 c52 n (wr (x3 + 1)) h3
      else
        if ((40 : Nat) : Int) ≤ y4 then
          f_X0_noteOddness_L22 x1 x2 c52 n (wr (x3 + 1)) h3
        else
          if inb y4 40 then
            if inb y4 40 then
              lt (hup h3 24 (Int.toNat y4) (wr ((h3 24 (Int.toNat y4)) - 1))) fun h5 =>
              f_X0_noteOddness_L22 x1 x2 c52 n (wr (x3 + 1)) h5
            else none
          else none := rfl
noncomputable def f_X0_noteOddness_L16 (x1 : Nat) (n : Nat) : Int → Hp → Option (Int × Hp) :=
  Nat.rec (motive := fun _ => Int → Hp → Option (Int × Hp)) (fun _ _ => none) (fun _ rec x2 h =>
    if (h 19 7) ≤ x2 then
      some (0, h)
    else
      (f_X0_noteOddness_L22 x1 x2
        (fun h6 =>
          rec (wr (x2 + 1)) h6)
         fu 0 h)) n
theorem f_X0_noteOddness_L16_s (x1 : Nat) (n : Nat) (x2 : Int) (h : Hp) : f_X0_noteOddness_L16 x1 (n + 1) x2 h =
    if (h 19 7) ≤ x2 then
      some (0, h)
    else
      (f_X0_noteOddness_L22 x1 x2
        (fun h6 =>
          f_X0_noteOddness_L16 x1 n (wr (x2 + 1)) h6)
         fu 0 h) := rfl
noncomputable def f_X0_noteOddness (x1 : Nat) (h : Hp) : Option (Int × Hp) :=
  (f_X0_noteOddness_L2 x1
    (fun h2 =>
      (f_X0_noteOddness_L16 x1
         fu 0 h2))
     fu 0 h)
noncomputable def f_X4_numberAt (x0 : Nat) (n0 : Nat) (x1 : Int) (h : Hp) : Option (Int × Hp) :=
  if x1 < 0 then
    some (0, h)
  else
    if ((n0 : Nat) : Int) ≤ x1 then
      some (0, h)
    else
      if inb x1 n0 then
        some ((h x0 (Int.toNat x1)), h)
      else none
noncomputable def f_X1_setting (x0 : Nat) (x1 : Int) (h : Hp) : Option (Int × Hp) :=
  if x1 < 0 then
    some (0, h)
  else
    if ((7 : Nat) : Int) ≤ x1 then
      some (0, h)
    else
      if inb x1 7 then
        some ((h (x0 + 7) (Int.toNat x1)), h)
      else none
noncomputable def f_X0_weigh_L6 (x3 : Nat) (x1 : Int) (x2 : Int) (c40 : Int → Int → Hp → Option (Int × Hp)) (n : Nat) : Int → Int → Int → Hp → Option (Int × Hp) :=
  Nat.rec (motive := fun _ => Int → Int → Int → Hp → Option (Int × Hp)) (fun _ _ _ _ => none) (fun _ rec x4 x5 x6 h =>
    if 4 ≤ x6 then
      c40 x4 x5 h
    else
      bd (f_X2_cell (x3 + 3) x2 x6 h) fun r1 h1 =>
      bd (f_X2_cell (x3 + 1) x1 x6 h1) fun r2 h2 =>
      if ¬ r1 = r2 then
        if r1 = (-1) then
          rec x4 x5 (wr (x6 + 1)) h2
        else
          rec (wr (x4 + 1)) x5 (wr (x6 + 1)) h2
      else
        bd (f_X4_numberAt 24 40 (wr ((wr (x6 * 10)) + r1)) h2) fun r3 h3 =>
        lv (wr (x5 + r3)) fun y4 =>
        rec x4 y4 (wr (x6 + 1)) h3) n
theorem f_X0_weigh_L6_s (x3 : Nat) (x1 : Int) (x2 : Int) (c40 : Int → Int → Hp → Option (Int × Hp)) (n : Nat) (x4 : Int) (x5 : Int) (x6 : Int) (h : Hp) : f_X0_weigh_L6 x3 x1 x2 c40 (n + 1) x4 x5 x6 h =
    if 4 ≤ x6 then
      c40 x4 x5 h
    else
      bd (f_X2_cell (x3 + 3) x2 x6 h) fun r1 h1 =>
      bd (f_X2_cell (x3 + 1) x1 x6 h1) fun r2 h2 =>
      if ¬ r1 = r2 then
        if r1 = (-1) then
          f_X0_weigh_L6 x3 x1 x2 c40 n x4 x5 (wr (x6 + 1)) h2
        else
          f_X0_weigh_L6 x3 x1 x2 c40 n (wr (x4 + 1)) x5 (wr (x6 + 1)) h2
      else
        bd (f_X4_numberAt 24 40 (wr ((wr (x6 * 10)) + r1)) h2) fun r3 h3 =>
        lv (wr (x5 + r3)) fun y4 =>
        f_X0_weigh_L6 x3 x1 x2 c40 n x4 y4 (wr (x6 + 1)) h3 := rfl
noncomputable def f_X0_weigh (x1 : Int) (x2 : Int) (x3 : Nat) (h : Hp) : Option (Int × Hp) :=
  (f_X0_weigh_L6 x3 x1 x2
    (fun y5 y6 h7 =>
      bd (f_X1_setting x3 1 h7) fun r8 h8 =>
      bd (f_X2_cell (x3 + 3) x2 5 h8) fun r9 h9 =>
      bd (f_X1_setting x3 2 h9) fun r10 h10 =>
      lv (wr ((wr (y6 - (wr (y5 * r8)))) - (wr (r9 * r10)))) fun y11 =>
      bd (f_X0_pairOf x1 x2 h10) fun r12 h12 =>
      if r12 < 0 then
        some (0, h12)
      else
        if 144 ≤ r12 then
          some (0, h12)
        else
          if inb r12 144 then
            lt (hup h12 20 (Int.toNat r12) y5) fun h13 =>
            if inb r12 144 then
              lt (hup h13 21 (Int.toNat r12) y11) fun h14 =>
              bd (f_X1_setting x3 0 h14) fun r15 h15 =>
              if r15 < y5 then
                if inb r12 144 ∧ isB 0 then
                  lt (hup h15 22 (Int.toNat r12) 0) fun h16 =>
                  some (0, h16)
                else none
              else
                bd (f_X1_setting x3 3 h15) fun r17 h17 =>
                if y11 < r17 then
                  if inb r12 144 ∧ isB 0 then
                    lt (hup h17 22 (Int.toNat r12) 0) fun h18 =>
                    some (0, h18)
                  else none
                else
                  if inb r12 144 ∧ isB 1 then
                    lt (hup h17 22 (Int.toNat r12) 1) fun h19 =>
                    some (0, h19)
                  else none
            else none
          else none)
     fu 0 0 0 h)
noncomputable def f_X0_weighAll_L25 (x1 : Nat) (x2 : Int) (c36 : Hp → Option (Int × Hp)) (n : Nat) : Int → Hp → Option (Int × Hp) :=
  Nat.rec (motive := fun _ => Int → Hp → Option (Int × Hp)) (fun _ _ => none) (fun _ rec x3 h =>
    if (h 19 8) ≤ x3 then
      c36 h
    else
      bd (f_X0_weigh x2 x3 x1 h) fun _ h6 =>
      rec (wr (x3 + 1)) h6) n
theorem f_X0_weighAll_L25_s (x1 : Nat) (x2 : Int) (c36 : Hp → Option (Int × Hp)) (n : Nat) (x3 : Int) (h : Hp) : f_X0_weighAll_L25 x1 x2 c36 (n + 1) x3 h =
    if (h 19 8) ≤ x3 then
      c36 h
    else
      bd (f_X0_weigh x2 x3 x1 h) fun _ h6 =>
      f_X0_weighAll_L25 x1 x2 c36 n (wr (x3 + 1)) h6 := rfl
noncomputable def f_X0_weighAll_L19 (x1 : Nat) (n : Nat) : Int → Hp → Option (Int × Hp) :=
  Nat.rec (motive := fun _ => Int → Hp → Option (Int × Hp)) (fun _ _ => none) (fun _ rec x2 h =>
    if (h 19 7) ≤ x2 then
      some (0, h)
    else
      (f_X0_weighAll_L25 x1 x2
        (fun h7 =>
          rec (wr (x2 + 1)) h7)
         fu 0 h)) n
theorem f_X0_weighAll_L19_s (x1 : Nat) (n : Nat) (x2 : Int) (h : Hp) : f_X0_weighAll_L19 x1 (n + 1) x2 h =
    if (h 19 7) ≤ x2 then
      some (0, h)
    else
      (f_X0_weighAll_L25 x1 x2
        (fun h7 =>
          f_X0_weighAll_L19 x1 n (wr (x2 + 1)) h7)
         fu 0 h) := rfl
noncomputable def f_X0_weighAll (x1 : Nat) (h : Hp) : Option (Int × Hp) :=
  bd (f_J_min (h (x1 + 1) 1) 12 h) fun r1 h1 =>
  lt (hup h1 19 7 r1) fun h2 =>
  bd (f_J_min (h2 (x1 + 3) 1) 12 h2) fun r3 h3 =>
  lt (hup h3 19 8 r3) fun h4 =>
  bd (f_X0_noteOddness x1 h4) fun _ h5 =>
  (f_X0_weighAll_L19 x1
     fu 0 h5)
noncomputable def f_X0_matchAll_L7 (x1 : Nat) (n : Nat) : Int → Hp → Option (Int × Hp) :=
  Nat.rec (motive := fun _ => Int → Hp → Option (Int × Hp)) (fun _ _ => none) (fun _ rec x2 h =>
    if 12 ≤ x2 then
      some (0, h)
    else
      bd (f_X0_bestFreePair  h) fun r3 h3 =>
      if ¬ r3 = (-1) then
        bd (f_X0_join (wr (Int.tdiv r3 12)) (wr (r3 - Int.tdiv r3 12 * 12)) h3) fun _ h4 =>
        rec (wr (x2 + 1)) h4
      else
        some (0, h3)) n
theorem f_X0_matchAll_L7_s (x1 : Nat) (n : Nat) (x2 : Int) (h : Hp) : f_X0_matchAll_L7 x1 (n + 1) x2 h =
    if 12 ≤ x2 then
      some (0, h)
    else
      bd (f_X0_bestFreePair  h) fun r3 h3 =>
      if ¬ r3 = (-1) then
        bd (f_X0_join (wr (Int.tdiv r3 12)) (wr (r3 - Int.tdiv r3 12 * 12)) h3) fun _ h4 =>
        f_X0_matchAll_L7 x1 n (wr (x2 + 1)) h4
      else
        some (0, h3) := rfl
noncomputable def f_X0_matchAll (x1 : Nat) (h : Hp) : Option (Int × Hp) :=
  bd (f_X0_weighAll x1 h) fun _ h1 =>
  bd (f_X0_matchNone  h1) fun _ h2 =>
  (f_X0_matchAll_L7 x1
     fu 0 h2)
noncomputable def f_X0_nextPairOf_L4 (x1 : Int) (n : Nat) : Int → Int → Hp → Option (Int × Hp) :=
  Nat.rec (motive := fun _ => Int → Int → Hp → Option (Int × Hp)) (fun _ _ _ => none) (fun _ rec x2 x3 h =>
    if (h 19 7) ≤ x3 then
      some (x2, h)
    else
      bd (f_X0_pairOf x3 x1 h) fun r1 h1 =>
      if r1 < 0 then
        rec x2 (wr (x3 + 1)) h1
      else
        if 144 ≤ r1 then
          rec x2 (wr (x3 + 1)) h1
        else
          if inb r1 144 then
            if (h1 22 (Int.toNat r1)) = 0 then
              rec x2 (wr (x3 + 1)) h1
            else
              if inb r1 144 then
                if ¬ (h1 23 (Int.toNat r1)) = 0 then
                  rec x2 (wr (x3 + 1)) h1
                else
                  bd (f_X0_aheadOf r1 x2 h1) fun r2 h2 =>
                  rec r2 (wr (x3 + 1)) h2
              else none
          else none) n
theorem f_X0_nextPairOf_L4_s (x1 : Int) (n : Nat) (x2 : Int) (x3 : Int) (h : Hp) : f_X0_nextPairOf_L4 x1 (n + 1) x2 x3 h =
    if (h 19 7) ≤ x3 then
      some (x2, h)
    else
      bd (f_X0_pairOf x3 x1 h) fun r1 h1 =>
      if r1 < 0 then
        f_X0_nextPairOf_L4 x1 n x2 (wr (x3 + 1)) h1
      else
        if 144 ≤ r1 then
          f_X0_nextPairOf_L4 x1 n x2 (wr (x3 + 1)) h1
        else
          if inb r1 144 then
            if (h1 22 (Int.toNat r1)) = 0 then
              f_X0_nextPairOf_L4 x1 n x2 (wr (x3 + 1)) h1
            else
              if inb r1 144 then
                if ¬ (h1 23 (Int.toNat r1)) = 0 then
                  f_X0_nextPairOf_L4 x1 n x2 (wr (x3 + 1)) h1
                else
                  bd (f_X0_aheadOf r1 x2 h1) fun r2 h2 =>
                  f_X0_nextPairOf_L4 x1 n r2 (wr (x3 + 1)) h2
              else none
          else none := rfl
noncomputable def f_X0_nextPairOf (x1 : Int) (h : Hp) : Option (Int × Hp) :=
  (f_X0_nextPairOf_L4 x1
     fu (-1) 0 h)
noncomputable def f_X0_nextAsk_L2  (n : Nat) : Int → Hp → Option (Int × Hp) :=
  Nat.rec (motive := fun _ => Int → Hp → Option (Int × Hp)) (fun _ _ => none) (fun _ rec x1 h =>
    if (h 19 8) ≤ x1 then
      some ((-1), h)
    else
      bd (f_X0_umbrellaMatched x1 h) fun r1 h1 =>
      if ¬ r1 = (-1) then
        rec (wr (x1 + 1)) h1
      else
        bd (f_X0_nextPairOf x1 h1) fun r2 h2 =>
        if r2 = (-1) then
          rec (wr (x1 + 1)) h2
        else
          some (r2, h2)) n
theorem f_X0_nextAsk_L2_s  (n : Nat) (x1 : Int) (h : Hp) : f_X0_nextAsk_L2  (n + 1) x1 h =
    if (h 19 8) ≤ x1 then
      some ((-1), h)
    else
      bd (f_X0_umbrellaMatched x1 h) fun r1 h1 =>
      if ¬ r1 = (-1) then
        f_X0_nextAsk_L2  n (wr (x1 + 1)) h1
      else
        bd (f_X0_nextPairOf x1 h1) fun r2 h2 =>
        if r2 = (-1) then
          f_X0_nextAsk_L2  n (wr (x1 + 1)) h2
        else
          some (r2, h2) := rfl
noncomputable def f_X0_nextAsk  (h : Hp) : Option (Int × Hp) :=
  (f_X0_nextAsk_L2 
     fu 0 h)
noncomputable def f_X0_matchByAsking_L7 (x1 : Nat) (c19 : Hp → Option (Int × Hp)) (n : Nat) : Int → Hp → Option (Int × Hp) :=
  Nat.rec (motive := fun _ => Int → Hp → Option (Int × Hp)) (fun _ _ => none) (fun _ rec x2 h =>
    if ((144 : Nat) : Int) ≤ x2 then
      c19 h
    else
      if inb x2 144 ∧ isB 0 then
        lt (hup h 23 (Int.toNat x2) 0) fun h3 =>
        rec (wr (x2 + 1)) h3
      else none) n
theorem f_X0_matchByAsking_L7_s (x1 : Nat) (c19 : Hp → Option (Int × Hp)) (n : Nat) (x2 : Int) (h : Hp) : f_X0_matchByAsking_L7 x1 c19 (n + 1) x2 h =
    if ((144 : Nat) : Int) ≤ x2 then
      c19 h
    else
      if inb x2 144 ∧ isB 0 then
        lt (hup h 23 (Int.toNat x2) 0) fun h3 =>
        f_X0_matchByAsking_L7 x1 c19 n (wr (x2 + 1)) h3
      else none := rfl
noncomputable def f_X0_matchByAsking_L21 (x1 : Nat) (n : Nat) : Int → Hp → Option (Int × Hp) :=
  Nat.rec (motive := fun _ => Int → Hp → Option (Int × Hp)) (fun _ _ => none) (fun _ rec x2 h =>
    if 144 ≤ x2 then
      some (0, h)
    else
      bd (f_X0_nextAsk  h) fun r5 h5 =>
      if ¬ r5 = (-1) then
        bd (f_X0_askFor r5 h5) fun _ h6 =>
        rec (wr (x2 + 1)) h6
      else
        some (0, h5)) n
theorem f_X0_matchByAsking_L21_s (x1 : Nat) (n : Nat) (x2 : Int) (h : Hp) : f_X0_matchByAsking_L21 x1 (n + 1) x2 h =
    if 144 ≤ x2 then
      some (0, h)
    else
      bd (f_X0_nextAsk  h) fun r5 h5 =>
      if ¬ r5 = (-1) then
        bd (f_X0_askFor r5 h5) fun _ h6 =>
        f_X0_matchByAsking_L21 x1 n (wr (x2 + 1)) h6
      else
        some (0, h5) := rfl
noncomputable def f_X0_matchByAsking (x1 : Nat) (h : Hp) : Option (Int × Hp) :=
  bd (f_X0_weighAll x1 h) fun _ h1 =>
  bd (f_X0_matchNone  h1) fun _ h2 =>
  (f_X0_matchByAsking_L7 x1
    (fun h4 =>
      (f_X0_matchByAsking_L21 x1
         fu 0 h4))
     fu 0 h2)
noncomputable def f_X0_reasonAgainst (x1 : Int) (x2 : Int) (x3 : Nat) (h : Hp) : Option (Int × Hp) :=
  bd (f_X0_pairOf x1 x2 h) fun r1 h1 =>
  bd (f_X0_claimMatched x1 h1) fun r2 h2 =>
  if r1 < 0 then
    some (0, h2)
  else
    if 144 ≤ r1 then
      some (0, h2)
    else
      if ¬ r2 = x2 then
        if inb r1 144 then
          bd (f_X1_setting x3 0 h2) fun r3 h3 =>
          if (h2 20 (Int.toNat r1)) ≤ r3 then
            if inb r1 144 then
              if ¬ (h3 22 (Int.toNat r1)) = 0 then
                bd (f_X0_pairOf x1 r2 h3) fun r4 h4 =>
                bd (f_X0_aheadOf r4 r1 h4) fun r5 h5 =>
                if ¬ r5 = r1 then
                  some (3, h5)
                else
                  some (4, h5)
              else
                some (2, h3)
            else none
          else
            some (1, h3)
        else none
      else
        some (0, h2)
noncomputable def f_X0_umbrellasSuiting_L4 (x1 : Int) (n : Nat) : Int → Int → Hp → Option (Int × Hp) :=
  Nat.rec (motive := fun _ => Int → Int → Hp → Option (Int × Hp)) (fun _ _ _ => none) (fun _ rec x2 x3 h =>
    if (h 19 7) ≤ x3 then
      some (x2, h)
    else
      bd (f_X0_suits x3 x1 h) fun r1 h1 =>
      if r1 = 0 then
        rec x2 (wr (x3 + 1)) h1
      else
        rec (wr (x2 + 1)) (wr (x3 + 1)) h1) n
theorem f_X0_umbrellasSuiting_L4_s (x1 : Int) (n : Nat) (x2 : Int) (x3 : Int) (h : Hp) : f_X0_umbrellasSuiting_L4 x1 (n + 1) x2 x3 h =
    if (h 19 7) ≤ x3 then
      some (x2, h)
    else
      bd (f_X0_suits x3 x1 h) fun r1 h1 =>
      if r1 = 0 then
        f_X0_umbrellasSuiting_L4 x1 n x2 (wr (x3 + 1)) h1
      else
        f_X0_umbrellasSuiting_L4 x1 n (wr (x2 + 1)) (wr (x3 + 1)) h1 := rfl
noncomputable def f_X0_umbrellasSuiting (x1 : Int) (h : Hp) : Option (Int × Hp) :=
  (f_X0_umbrellasSuiting_L4 x1
     fu 0 0 h)
noncomputable def f_X0_worthOf (x1 : Int) (x2 : Int) (h : Hp) : Option (Int × Hp) :=
  bd (f_X0_pairOf x1 x2 h) fun r1 h1 =>
  bd (f_X4_numberAt 21 144 r1 h1) fun r2 h2 =>
  some (r2, h2)
noncomputable def f_X0_worthOfMatched_L4  (n : Nat) : Int → Int → Hp → Option (Int × Hp) :=
  Nat.rec (motive := fun _ => Int → Int → Hp → Option (Int × Hp)) (fun _ _ _ => none) (fun _ rec x1 x2 h =>
    if (h 19 7) ≤ x2 then
      some (x1, h)
    else
      bd (f_X0_claimMatched x2 h) fun r1 h1 =>
      if r1 = (-1) then
        rec x1 (wr (x2 + 1)) h1
      else
        bd (f_X0_worthOf x2 r1 h1) fun r2 h2 =>
        lv (wr (x1 + r2)) fun y3 =>
        rec y3 (wr (x2 + 1)) h2) n
theorem f_X0_worthOfMatched_L4_s  (n : Nat) (x1 : Int) (x2 : Int) (h : Hp) : f_X0_worthOfMatched_L4  (n + 1) x1 x2 h =
    if (h 19 7) ≤ x2 then
      some (x1, h)
    else
      bd (f_X0_claimMatched x2 h) fun r1 h1 =>
      if r1 = (-1) then
        f_X0_worthOfMatched_L4  n x1 (wr (x2 + 1)) h1
      else
        bd (f_X0_worthOf x2 r1 h1) fun r2 h2 =>
        lv (wr (x1 + r2)) fun y3 =>
        f_X0_worthOfMatched_L4  n y3 (wr (x2 + 1)) h2 := rfl
noncomputable def f_X0_worthOfMatched  (h : Hp) : Option (Int × Hp) :=
  (f_X0_worthOfMatched_L4 
     fu 0 0 h)
noncomputable def f_X1_addTo (x0 : Nat) (x1 : Int) (x2 : Int) (h : Hp) : Option (Int × Hp) :=
  if x1 < 0 then
    some (0, h)
  else
    if ((12 : Nat) : Int) ≤ x1 then
      some (0, h)
    else
      if inb x1 12 then
        if inb x1 12 then
          lt (hup h (x0 + 8) (Int.toNat x1) (wr ((h (x0 + 8) (Int.toNat x1)) + x2))) fun h1 =>
          some (0, h1)
        else none
      else none
noncomputable def f_X2_become (x0 : Nat) (x1 : Nat) (h : Hp) : Option (Int × Hp) :=
  bd (some (0, hcpy h (x1 + 1) (x0 + 1) 72)) fun _ h1 =>
  lt (hup h1 x0 1 (h1 x1 1)) fun h2 =>
  some (0, h2)
noncomputable def f_X1_become (x0 : Nat) (x1 : Nat) (h : Hp) : Option (Int × Hp) :=
  bd (f_X2_become (x0 + 1) (x1 + 1) h) fun _ h1 =>
  bd (f_X2_become (x0 + 3) (x1 + 3) h1) fun _ h2 =>
  bd (f_X2_become (x0 + 5) (x1 + 5) h2) fun _ h3 =>
  bd (some (0, hcpy h3 (x1 + 7) (x0 + 7) 7)) fun _ h4 =>
  bd (some (0, hcpy h4 (x1 + 8) (x0 + 8) 12)) fun _ h5 =>
  some (0, h5)
noncomputable def f_X1_changeSetting (x0 : Nat) (x1 : Int) (x2 : Int) (h : Hp) : Option (Int × Hp) :=
  if x1 < 0 then
    some ((-1000001), h)
  else
    if ((7 : Nat) : Int) ≤ x1 then
      some ((-1000001), h)
    else
      bd (f_X4_numberAt 85 7 x1 h) fun r1 h1 =>
      if x2 < r1 then
        some ((-1000001), h1)
      else
        bd (f_X4_numberAt 86 7 x1 h1) fun r2 h2 =>
        if x2 ≤ r2 then
          if inb x1 7 then
            lv (h2 (x0 + 7) (Int.toNat x1)) fun y3 =>
            if inb x1 7 then
              lt (hup h2 (x0 + 7) (Int.toNat x1) x2) fun h4 =>
              some (y3, h4)
            else none
          else none
        else
          some ((-1000001), h2)
noncomputable def f_X2_has (x0 : Nat) (x1 : Int) (h : Hp) : Option (Int × Hp) :=
  if x1 < 0 then
    some (0, h)
  else
    if (h x0 1) ≤ x1 then
      some (0, h)
    else
      some (1, h)
noncomputable def f_X2_remove_L11 (x0 : Nat) (n : Nat) : Int → Hp → Option (Int × Hp) :=
  Nat.rec (motive := fun _ => Int → Hp → Option (Int × Hp)) (fun _ _ => none) (fun _ rec x2 h =>
    if ((72 : Nat) : Int) ≤ (wr (x2 + 6)) then
      lt (hup h x0 1 (wr ((h x0 1) - 1))) fun h2 =>
      some (0, h2)
    else
      if inb (wr (x2 + 6)) 72 then
        if inb x2 72 then
          lt (hup h (x0 + 1) (Int.toNat x2) (h (x0 + 1) (Int.toNat (wr (x2 + 6))))) fun h3 =>
          rec (wr (x2 + 1)) h3
        else none
      else none) n
theorem f_X2_remove_L11_s (x0 : Nat) (n : Nat) (x2 : Int) (h : Hp) : f_X2_remove_L11 x0 (n + 1) x2 h =
    if ((72 : Nat) : Int) ≤ (wr (x2 + 6)) then
      lt (hup h x0 1 (wr ((h x0 1) - 1))) fun h2 =>
      some (0, h2)
    else
      if inb (wr (x2 + 6)) 72 then
        if inb x2 72 then
          lt (hup h (x0 + 1) (Int.toNat x2) (h (x0 + 1) (Int.toNat (wr (x2 + 6))))) fun h3 =>
          f_X2_remove_L11 x0 n (wr (x2 + 1)) h3
        else none
      else none := rfl
noncomputable def f_X2_remove (x0 : Nat) (x1 : Int) (h : Hp) : Option (Int × Hp) :=
  if x1 < 0 then
    some (0, h)
  else
    if x1 < (h x0 1) then
      lv (wr (x1 * 6)) fun y1 =>
      (f_X2_remove_L11 x0
         fu y1 h)
    else
      some (0, h)
noncomputable def f_X1_dropClaim (x0 : Nat) (x1 : Int) (h : Hp) : Option (Int × Hp) :=
  bd (f_X2_has (x0 + 3) x1 h) fun r1 h1 =>
  if ¬ r1 = 0 then
    bd (f_X2_remove (x0 + 3) x1 h1) fun _ h2 =>
    bd (f_X1_addTo x0 11 1 h2) fun _ h3 =>
    some ((h3 (x0 + 3) 1), h3)
  else
    some ((-1000001), h1)
noncomputable def f_X1_sum (x0 : Nat) (x1 : Int) (h : Hp) : Option (Int × Hp) :=
  if x1 < 0 then
    some (0, h)
  else
    if ((12 : Nat) : Int) ≤ x1 then
      some (0, h)
    else
      if inb x1 12 then
        some ((h (x0 + 8) (Int.toNat x1)), h)
      else none
noncomputable def f_X2_append (x0 : Nat) (x1 : Int) (x2 : Int) (x3 : Int) (x4 : Int) (h : Hp) : Option (Int × Hp) :=
  lv (wr ((h x0 1) * 6)) fun y1 =>
  if y1 < 0 then
    some ((-1), h)
  else
    if (wr (y1 + 6)) ≤ ((72 : Nat) : Int) then
      if inb y1 72 then
        lt (hup h (x0 + 1) (Int.toNat y1) x1) fun h2 =>
        if inb (wr (y1 + 1)) 72 then
          lt (hup h2 (x0 + 1) (Int.toNat (wr (y1 + 1))) x2) fun h3 =>
          if inb (wr (y1 + 2)) 72 then
            lt (hup h3 (x0 + 1) (Int.toNat (wr (y1 + 2))) x3) fun h4 =>
            if inb (wr (y1 + 3)) 72 then
              lt (hup h4 (x0 + 1) (Int.toNat (wr (y1 + 3))) x4) fun h5 =>
              if inb (wr (y1 + 4)) 72 then
                lt (hup h5 (x0 + 1) (Int.toNat (wr (y1 + 4))) 0) fun h6 =>
                if inb (wr (y1 + 5)) 72 then
                  lt (hup h6 (x0 + 1) (Int.toNat (wr (y1 + 5))) 0) fun h7 =>
                  lt (hup h7 x0 1 (wr ((h7 x0 1) + 1))) fun h8 =>
                  some ((wr ((h8 x0 1) - 1)), h8)
                else none
              else none
            else none
          else none
        else none
      else none
    else
      some ((-1), h)
noncomputable def f_X1_enter_J9 (x0 : Nat) (x1 : Int) (x2 : Int) (x3 : Int) (h : Hp) : Option (Int × Hp) :=
  bd (f_X1_sum x0 0 h) fun r1 h1 =>
  bd (f_X2_append (x0 + 5) r1 x1 x2 x3 h1) fun r2 h2 =>
  bd (f_X1_addTo x0 10 x3 h2) fun _ h3 =>
  some (0, h3)
noncomputable def f_X1_enter (x0 : Nat) (x1 : Int) (x2 : Int) (x3 : Int) (h : Hp) : Option (Int × Hp) :=
  if (h (x0 + 5) 1) < 10 then
    f_X1_enter_J9 x0 x1 x2 x3 h
  else
    bd (f_X2_remove (x0 + 5) 0 h) fun _ h4 =>
    f_X1_enter_J9 x0 x1 x2 x3 h4
noncomputable def f_X1_endOld_L5 (x0 : Nat) (x1 : Nat) (x2 : Int) (x3 : Int) (x4 : Int) (n : Nat) : Int → Int → Hp → Option (Int × Hp) :=
  Nat.rec (motive := fun _ => Int → Int → Hp → Option (Int × Hp)) (fun _ _ _ => none) (fun _ rec x5 x6 h =>
    if x6 ≤ 0 then
      some (0, h)
    else
      bd (f_X2_cell x1 x5 4 h) fun r2 h2 =>
      bd (f_X1_setting x0 5 h2) fun r3 h3 =>
      if r3 ≤ r2 then
        bd (f_X2_remove x1 x5 h3) fun _ h4 =>
        bd (f_X1_addTo x0 x3 1 h4) fun _ h5 =>
        bd (f_X1_enter x0 x2 r2 x4 h5) fun _ h6 =>
        rec x5 (wr (x6 + (-1))) h6
      else
        rec (wr (x5 + 1)) (wr (x6 + (-1))) h3) n
theorem f_X1_endOld_L5_s (x0 : Nat) (x1 : Nat) (x2 : Int) (x3 : Int) (x4 : Int) (n : Nat) (x5 : Int) (x6 : Int) (h : Hp) : f_X1_endOld_L5 x0 x1 x2 x3 x4 (n + 1) x5 x6 h =
    if x6 ≤ 0 then
      some (0, h)
    else
      bd (f_X2_cell x1 x5 4 h) fun r2 h2 =>
      bd (f_X1_setting x0 5 h2) fun r3 h3 =>
      if r3 ≤ r2 then
        bd (f_X2_remove x1 x5 h3) fun _ h4 =>
        bd (f_X1_addTo x0 x3 1 h4) fun _ h5 =>
        bd (f_X1_enter x0 x2 r2 x4 h5) fun _ h6 =>
        f_X1_endOld_L5 x0 x1 x2 x3 x4 n x5 (wr (x6 + (-1))) h6
      else
        f_X1_endOld_L5 x0 x1 x2 x3 x4 n (wr (x5 + 1)) (wr (x6 + (-1))) h3 := rfl
noncomputable def f_X1_endOld (x0 : Nat) (x1 : Nat) (x2 : Int) (x3 : Int) (x4 : Int) (h : Hp) : Option (Int × Hp) :=
  lv (h x1 1) fun y1 =>
  (f_X1_endOld_L5 x0 x1 x2 x3 x4
     fu 0 y1 h)
noncomputable def f_X2_put (x0 : Nat) (x1 : Int) (x2 : Int) (x3 : Int) (h : Hp) : Option (Int × Hp) :=
  if x1 < 0 then
    some (0, h)
  else
    if (h x0 1) ≤ x1 then
      some (0, h)
    else
      if x2 < 0 then
        some (0, h)
      else
        if x2 < 6 then
          lv (wr ((wr (x1 * 6)) + x2)) fun y1 =>
          if y1 < 0 then
            some (0, h)
          else
            if ((72 : Nat) : Int) ≤ y1 then
              some (0, h)
            else
              if inb y1 72 then
                lt (hup h (x0 + 1) (Int.toNat y1) x3) fun h2 =>
                some (0, h2)
              else none
        else
          some (0, h)
noncomputable def f_X1_growOlder_L2 (x0 : Nat) (x1 : Nat) (n : Nat) : Int → Hp → Option (Int × Hp) :=
  Nat.rec (motive := fun _ => Int → Hp → Option (Int × Hp)) (fun _ _ => none) (fun _ rec x2 h =>
    if (h x1 1) ≤ x2 then
      some (0, h)
    else
      bd (f_X2_cell x1 x2 4 h) fun r1 h1 =>
      bd (f_X2_put x1 x2 4 (wr (r1 + 1)) h1) fun _ h2 =>
      rec (wr (x2 + 1)) h2) n
theorem f_X1_growOlder_L2_s (x0 : Nat) (x1 : Nat) (n : Nat) (x2 : Int) (h : Hp) : f_X1_growOlder_L2 x0 x1 (n + 1) x2 h =
    if (h x1 1) ≤ x2 then
      some (0, h)
    else
      bd (f_X2_cell x1 x2 4 h) fun r1 h1 =>
      bd (f_X2_put x1 x2 4 (wr (r1 + 1)) h1) fun _ h2 =>
      f_X1_growOlder_L2 x0 x1 n (wr (x2 + 1)) h2 := rfl
noncomputable def f_X1_growOlder (x0 : Nat) (x1 : Nat) (h : Hp) : Option (Int × Hp) :=
  (f_X1_growOlder_L2 x0 x1
     fu 0 h)
noncomputable def f_X1_handOut_L2 (x0 : Nat) (c33 : Hp → Option (Int × Hp)) (n : Nat) : Int → Hp → Option (Int × Hp) :=
  Nat.rec (motive := fun _ => Int → Hp → Option (Int × Hp)) (fun _ _ => none) (fun _ rec x2 h =>
    if (h (x0 + 1) 1) ≤ x2 then
      c33 h
    else
      bd (f_X0_claimMatched x2 h) fun r1 h1 =>
      if r1 = (-1) then
        rec (wr (x2 + 1)) h1
      else
        bd (f_X2_cell (x0 + 1) x2 4 h1) fun r2 h2 =>
        bd (f_X1_setting x0 4 h2) fun r3 h3 =>
        bd (f_X1_enter x0 0 r2 (wr (r2 * r3)) h3) fun _ h4 =>
        bd (f_X1_addTo x0 7 1 h4) fun _ h5 =>
        rec (wr (x2 + 1)) h5) n
theorem f_X1_handOut_L2_s (x0 : Nat) (c33 : Hp → Option (Int × Hp)) (n : Nat) (x2 : Int) (h : Hp) : f_X1_handOut_L2 x0 c33 (n + 1) x2 h =
    if (h (x0 + 1) 1) ≤ x2 then
      c33 h
    else
      bd (f_X0_claimMatched x2 h) fun r1 h1 =>
      if r1 = (-1) then
        f_X1_handOut_L2 x0 c33 n (wr (x2 + 1)) h1
      else
        bd (f_X2_cell (x0 + 1) x2 4 h1) fun r2 h2 =>
        bd (f_X1_setting x0 4 h2) fun r3 h3 =>
        bd (f_X1_enter x0 0 r2 (wr (r2 * r3)) h3) fun _ h4 =>
        bd (f_X1_addTo x0 7 1 h4) fun _ h5 =>
        f_X1_handOut_L2 x0 c33 n (wr (x2 + 1)) h5 := rfl
noncomputable def f_X1_handOut_L39 (x0 : Nat) (c52 : Hp → Option (Int × Hp)) (n : Nat) : Int → Hp → Option (Int × Hp) :=
  Nat.rec (motive := fun _ => Int → Hp → Option (Int × Hp)) (fun _ _ => none) (fun _ rec x2 h =>
    if x2 < 0 then
      c52 h
    else
      bd (f_X0_claimMatched x2 h) fun r8 h8 =>
      if r8 = (-1) then
        rec (wr (x2 + (-1))) h8
      else
        bd (f_X2_remove (x0 + 1) x2 h8) fun _ h9 =>
        rec (wr (x2 + (-1))) h9) n
theorem f_X1_handOut_L39_s (x0 : Nat) (c52 : Hp → Option (Int × Hp)) (n : Nat) (x2 : Int) (h : Hp) : f_X1_handOut_L39 x0 c52 (n + 1) x2 h =
    if x2 < 0 then
      c52 h
    else
      bd (f_X0_claimMatched x2 h) fun r8 h8 =>
      if r8 = (-1) then
        f_X1_handOut_L39 x0 c52 n (wr (x2 + (-1))) h8
      else
        bd (f_X2_remove (x0 + 1) x2 h8) fun _ h9 =>
        f_X1_handOut_L39 x0 c52 n (wr (x2 + (-1))) h9 := rfl
noncomputable def f_X1_handOut_L58 (x0 : Nat) (n : Nat) : Int → Hp → Option (Int × Hp) :=
  Nat.rec (motive := fun _ => Int → Hp → Option (Int × Hp)) (fun _ _ => none) (fun _ rec x2 h =>
    if x2 < 0 then
      some ((h 19 9), h)
    else
      bd (f_X0_umbrellaMatched x2 h) fun r12 h12 =>
      if r12 = (-1) then
        rec (wr (x2 + (-1))) h12
      else
        bd (f_X2_remove (x0 + 3) x2 h12) fun _ h13 =>
        rec (wr (x2 + (-1))) h13) n
theorem f_X1_handOut_L58_s (x0 : Nat) (n : Nat) (x2 : Int) (h : Hp) : f_X1_handOut_L58 x0 (n + 1) x2 h =
    if x2 < 0 then
      some ((h 19 9), h)
    else
      bd (f_X0_umbrellaMatched x2 h) fun r12 h12 =>
      if r12 = (-1) then
        f_X1_handOut_L58 x0 n (wr (x2 + (-1))) h12
      else
        bd (f_X2_remove (x0 + 3) x2 h12) fun _ h13 =>
        f_X1_handOut_L58 x0 n (wr (x2 + (-1))) h13 := rfl
noncomputable def f_X1_handOut (x0 : Nat) (h : Hp) : Option (Int × Hp) :=
  (f_X1_handOut_L2 x0
    (fun h6 =>
      lv (wr ((h6 (x0 + 1) 1) - 1)) fun y7 =>
      (f_X1_handOut_L39 x0
        (fun h10 =>
          lv (wr ((h10 (x0 + 3) 1) - 1)) fun y11 =>
          (f_X1_handOut_L58 x0
             fu y11 h10))
         fu y7 h6))
     fu 0 h)
noncomputable def f_X4_isDetail (x0 : Int) (h : Hp) : Option (Int × Hp) :=
  if x0 < 0 then
    some (0, h)
  else
    if 4 ≤ x0 then
      some (0, h)
    else
      some (1, h)
noncomputable def f_X4_isValue (x0 : Int) (h : Hp) : Option (Int × Hp) :=
  if x0 < 0 then
    some (0, h)
  else
    if 10 ≤ x0 then
      some (0, h)
    else
      some (1, h)
noncomputable def f_X1_noteDetail_J32 (x0 : Nat) (x1 : Int) (x2 : Int) (x3 : Int) (x5 : Int) (h : Hp) : Option (Int × Hp) :=
  bd (f_X2_put (x0 + 3) x1 x2 x3 h) fun _ h6 =>
  bd (f_X2_put (x0 + 3) x1 5 x5 h6) fun _ h7 =>
  some (x5, h7)
noncomputable def f_X1_noteDetail (x0 : Nat) (x1 : Int) (x2 : Int) (x3 : Int) (h : Hp) : Option (Int × Hp) :=
  bd (f_X2_has (x0 + 3) x1 h) fun r1 h1 =>
  if r1 = 0 then
    some ((-1000001), h1)
  else
    bd (f_X4_isDetail x2 h1) fun r2 h2 =>
    if r2 = 0 then
      some ((-1000001), h2)
    else
      bd (f_X4_isValue x3 h2) fun r3 h3 =>
      if ¬ r3 = 0 then
        bd (f_X2_cell (x0 + 3) x1 x2 h3) fun r4 h4 =>
        bd (f_X2_cell (x0 + 3) x1 5 h4) fun r5 h5 =>
        if r4 = (-1) then
          f_X1_noteDetail_J32 x0 x1 x2 x3 r5 h5
        else
          if r4 = x3 then
            f_X1_noteDetail_J32 x0 x1 x2 x3 r5 h5
          else
            f_X1_noteDetail_J32 x0 x1 x2 x3 (wr (r5 + 1)) h5
      else
        some ((-1000001), h3)
noncomputable def f_X1_umbrellasWith_L4 (x0 : Nat) (x1 : Int) (x2 : Int) (n : Nat) : Int → Int → Hp → Option (Int × Hp) :=
  Nat.rec (motive := fun _ => Int → Int → Hp → Option (Int × Hp)) (fun _ _ _ => none) (fun _ rec x3 x4 h =>
    if (h (x0 + 1) 1) ≤ x4 then
      some (x3, h)
    else
      bd (f_X2_cell (x0 + 1) x4 x1 h) fun r1 h1 =>
      if ¬ r1 = x2 then
        rec x3 (wr (x4 + 1)) h1
      else
        rec (wr (x3 + 1)) (wr (x4 + 1)) h1) n
theorem f_X1_umbrellasWith_L4_s (x0 : Nat) (x1 : Int) (x2 : Int) (n : Nat) (x3 : Int) (x4 : Int) (h : Hp) : f_X1_umbrellasWith_L4 x0 x1 x2 (n + 1) x3 x4 h =
    if (h (x0 + 1) 1) ≤ x4 then
      some (x3, h)
    else
      bd (f_X2_cell (x0 + 1) x4 x1 h) fun r1 h1 =>
      if ¬ r1 = x2 then
        f_X1_umbrellasWith_L4 x0 x1 x2 n x3 (wr (x4 + 1)) h1
      else
        f_X1_umbrellasWith_L4 x0 x1 x2 n (wr (x3 + 1)) (wr (x4 + 1)) h1 := rfl
noncomputable def f_X1_umbrellasWith (x0 : Nat) (x1 : Int) (x2 : Int) (h : Hp) : Option (Int × Hp) :=
  (f_X1_umbrellasWith_L4 x0 x1 x2
     fu 0 0 h)
noncomputable def f_X1_oddnessTogether_L4 (x0 : Nat) (x1 : Int) (n : Nat) : Int → Int → Hp → Option (Int × Hp) :=
  Nat.rec (motive := fun _ => Int → Int → Hp → Option (Int × Hp)) (fun _ _ _ => none) (fun _ rec x2 x3 h =>
    if 4 ≤ x3 then
      some (x2, h)
    else
      bd (f_X2_cell (x0 + 1) x1 x3 h) fun r1 h1 =>
      bd (f_X1_umbrellasWith x0 x3 r1 h1) fun r2 h2 =>
      lv (wr (x2 + (wr (13 - r2)))) fun y3 =>
      rec y3 (wr (x3 + 1)) h2) n
theorem f_X1_oddnessTogether_L4_s (x0 : Nat) (x1 : Int) (n : Nat) (x2 : Int) (x3 : Int) (h : Hp) : f_X1_oddnessTogether_L4 x0 x1 (n + 1) x2 x3 h =
    if 4 ≤ x3 then
      some (x2, h)
    else
      bd (f_X2_cell (x0 + 1) x1 x3 h) fun r1 h1 =>
      bd (f_X1_umbrellasWith x0 x3 r1 h1) fun r2 h2 =>
      lv (wr (x2 + (wr (13 - r2)))) fun y3 =>
      f_X1_oddnessTogether_L4 x0 x1 n y3 (wr (x3 + 1)) h2 := rfl
noncomputable def f_X1_oddnessTogether (x0 : Nat) (x1 : Int) (h : Hp) : Option (Int × Hp) :=
  (f_X1_oddnessTogether_L4 x0 x1
     fu 0 0 h)
noncomputable def f_X4_isWeeksAtOnce (x0 : Int) (h : Hp) : Option (Int × Hp) :=
  if x0 < 1 then
    some (0, h)
  else
    if 20 < x0 then
      some (0, h)
    else
      some (1, h)
noncomputable def f_X1_passWeeks_L20 (x0 : Nat) (x1 : Int) (x3 : Int) (n : Nat) : Int → Hp → Option (Int × Hp) :=
  Nat.rec (motive := fun _ => Int → Hp → Option (Int × Hp)) (fun _ _ => none) (fun _ rec x4 h =>
    if x1 ≤ x4 then
      bd (f_X1_sum x0 8 h) fun r4 h4 =>
      some ((wr (r4 - x3)), h4)
    else
      bd (f_X1_addTo x0 0 1 h) fun _ h5 =>
      bd (f_X1_growOlder x0 (x0 + 1) h5) fun _ h6 =>
      bd (f_X1_growOlder x0 (x0 + 3) h6) fun _ h7 =>
      bd (f_X1_setting x0 6 h7) fun r8 h8 =>
      bd (f_X1_endOld x0 (x0 + 1) 1 8 r8 h8) fun _ h9 =>
      bd (f_X1_endOld x0 (x0 + 3) 2 9 0 h9) fun _ h10 =>
      rec (wr (x4 + 1)) h10) n
theorem f_X1_passWeeks_L20_s (x0 : Nat) (x1 : Int) (x3 : Int) (n : Nat) (x4 : Int) (h : Hp) : f_X1_passWeeks_L20 x0 x1 x3 (n + 1) x4 h =
    if x1 ≤ x4 then
      bd (f_X1_sum x0 8 h) fun r4 h4 =>
      some ((wr (r4 - x3)), h4)
    else
      bd (f_X1_addTo x0 0 1 h) fun _ h5 =>
      bd (f_X1_growOlder x0 (x0 + 1) h5) fun _ h6 =>
      bd (f_X1_growOlder x0 (x0 + 3) h6) fun _ h7 =>
      bd (f_X1_setting x0 6 h7) fun r8 h8 =>
      bd (f_X1_endOld x0 (x0 + 1) 1 8 r8 h8) fun _ h9 =>
      bd (f_X1_endOld x0 (x0 + 3) 2 9 0 h9) fun _ h10 =>
      f_X1_passWeeks_L20 x0 x1 x3 n (wr (x4 + 1)) h10 := rfl
noncomputable def f_X1_passWeeks (x0 : Nat) (x1 : Int) (x2 : Int) (h : Hp) : Option (Int × Hp) :=
  bd (f_X4_isWeeksAtOnce x1 h) fun r1 h1 =>
  if ¬ r1 = 0 then
    bd (f_X1_sum x0 0 h1) fun r2 h2 =>
    if (wr (r2 + x1)) ≤ x2 then
      bd (f_X1_sum x0 8 h2) fun r3 h3 =>
      (f_X1_passWeeks_L20 x0 x1 r3
         fu 0 h3)
    else
      some ((-1000003), h2)
  else
    some ((-1000001), h1)
noncomputable def f_X4_isValueOrNotTold (x0 : Int) (h : Hp) : Option (Int × Hp) :=
  if x0 = (-1) then
    some (1, h)
  else
    bd (f_X4_isValue x0 h) fun r1 h1 =>
    if r1 = 0 then
      some (0, h1)
    else
      some (1, h1)
noncomputable def f_X1_takeClaim_J28 (x0 : Nat) (x1 : Int) (x2 : Int) (x3 : Int) (x4 : Int) (h : Hp) : Option (Int × Hp) :=
  if (h (x0 + 3) 1) < 12 then
    bd (f_X1_addTo x0 6 1 h) fun _ h5 =>
    bd (f_X2_append (x0 + 3) x1 x2 x3 x4 h5) fun r6 h6 =>
    some (r6, h6)
  else
    some ((-1000003), h)
noncomputable def f_X1_takeClaim (x0 : Nat) (x1 : Int) (x2 : Int) (x3 : Int) (x4 : Int) (h : Hp) : Option (Int × Hp) :=
  bd (f_X4_isValueOrNotTold x1 h) fun r1 h1 =>
  if r1 = 0 then
    some ((-1000001), h1)
  else
    bd (f_X4_isValueOrNotTold x2 h1) fun r2 h2 =>
    if r2 = 0 then
      some ((-1000001), h2)
    else
      bd (f_X4_isValueOrNotTold x3 h2) fun r3 h3 =>
      if r3 = 0 then
        some ((-1000001), h3)
      else
        bd (f_X4_isValueOrNotTold x4 h3) fun r4 h4 =>
        if ¬ r4 = 0 then
          if ¬ x1 = (-1) then
            f_X1_takeClaim_J28 x0 x1 x2 x3 x4 h4
          else
            if ¬ x2 = (-1) then
              f_X1_takeClaim_J28 x0 x1 x2 x3 x4 h4
            else
              if ¬ x3 = (-1) then
                f_X1_takeClaim_J28 x0 x1 x2 x3 x4 h4
              else
                if ¬ x4 = (-1) then
                  f_X1_takeClaim_J28 x0 x1 x2 x3 x4 h4
                else
                  some ((-1000002), h4)
        else
          some ((-1000001), h4)
noncomputable def f_X1_takeUmbrella (x0 : Nat) (x1 : Int) (x2 : Int) (x3 : Int) (x4 : Int) (h : Hp) : Option (Int × Hp) :=
  bd (f_X4_isValue x1 h) fun r1 h1 =>
  if r1 = 0 then
    some ((-1000001), h1)
  else
    bd (f_X4_isValue x2 h1) fun r2 h2 =>
    if r2 = 0 then
      some ((-1000001), h2)
    else
      bd (f_X4_isValue x3 h2) fun r3 h3 =>
      if r3 = 0 then
        some ((-1000001), h3)
      else
        bd (f_X4_isValue x4 h3) fun r4 h4 =>
        if ¬ r4 = 0 then
          if (h4 (x0 + 1) 1) < 12 then
            bd (f_X1_addTo x0 5 1 h4) fun _ h5 =>
            bd (f_X2_append (x0 + 1) x1 x2 x3 x4 h5) fun r6 h6 =>
            some (r6, h6)
          else
            some ((-1000003), h4)
        else
          some ((-1000001), h4)
noncomputable def f_X3_append (x1 : Int) (h : Hp) : Option (Int × Hp) :=
  if (h 28 1) < 0 then
    some (0, h)
  else
    if (h 28 1) < ((60 : Nat) : Int) then
      if inb (h 28 1) 60 ∧ isC x1 then
        lt (hup h 29 (Int.toNat (h 28 1)) x1) fun h1 =>
        lt (hup h1 28 1 (wr ((h1 28 1) + 1))) fun h2 =>
        some (1, h2)
      else none
    else
      some (0, h)
noncomputable def f_X3_signHere  (h : Hp) : Option (Int × Hp) :=
  if (h 28 2) < 0 then
    if isC 0 then some (0, h) else none
  else
    if (h 28 1) ≤ (h 28 2) then
      if isC 0 then some (0, h) else none
    else
      if ((60 : Nat) : Int) ≤ (h 28 2) then
        if isC 0 then some (0, h) else none
      else
        if inb (h 28 2) 60 then
          if isC (h 29 (Int.toNat (h 28 2))) then some ((h 29 (Int.toNat (h 28 2))), h) else none
        else none
noncomputable def f_X3_digitHere  (h : Hp) : Option (Int × Hp) :=
  bd (f_X3_signHere  h) fun r1 h1 =>
  if r1 < 48 then
    some ((-1), h1)
  else
    if 57 < r1 then
      some ((-1), h1)
    else
      some ((wr (r1 - 48)), h1)
noncomputable def f_X3_number (x1 : Int) (h : Hp) : Option (Int × Hp) :=
  bd (f_X4_numberAt 30 4 x1 h) fun r1 h1 =>
  some (r1, h1)
noncomputable def f_X3_readNumber  (h : Hp) : Option (Int × Hp) :=
  bd (f_X3_digitHere  h) fun r1 h1 =>
  lt (hup h1 28 2 (wr ((h1 28 2) + 1))) fun h2 =>
  bd (f_X3_digitHere  h2) fun r3 h3 =>
  if r3 = (-1) then
    some (r1, h3)
  else
    lv (wr ((wr (r1 * 10)) + r3)) fun y4 =>
    lt (hup h3 28 2 (wr ((h3 28 2) + 1))) fun h5 =>
    some (y4, h5)
noncomputable def f_X3_readSign (x1 : Int) (h : Hp) : Option (Int × Hp) :=
  bd (f_X3_signHere  h) fun r1 h1 =>
  if r1 = x1 then
    lt (hup h1 28 2 (wr ((h1 28 2) + 1))) fun h2 =>
    some (1, h2)
  else
    some (0, h1)
noncomputable def f_X3_readNumbers_J30 (c2 : Int → Hp → Option (Int × Hp)) (x1 : Int) (x2 : Int) (x3 : Int) (h : Hp) : Option (Int × Hp) :=
  bd (f_X3_digitHere  h) fun r1 h1 =>
  if r1 = (-1) then
    some (0, h1)
  else
    bd (f_X3_readNumber  h1) fun r2 h2 =>
    if inb x3 4 then
      lt (hup h2 30 (Int.toNat x3) r2) fun h3 =>
      c2 (wr (x3 + 1)) h3
    else none
noncomputable def f_X3_readNumbers_J18 (c2 : Int → Hp → Option (Int × Hp)) (x1 : Int) (x2 : Int) (x3 : Int) (h : Hp) : Option (Int × Hp) :=
  if x2 = 0 then
    f_X3_readNumbers_J30 c2 x1 x2 x3 h
  else
    bd (f_X3_readSign 45 h) fun r4 h4 =>
    if r4 = 0 then
      f_X3_readNumbers_J30 c2 x1 x2 x3 h4
    else
      if inb x3 4 then
        lt (hup h4 30 (Int.toNat x3) (-1)) fun h5 =>
        c2 (wr (x3 + 1)) h5
      else none
noncomputable def f_X3_readNumbers_L2 (x1 : Int) (x2 : Int) (n : Nat) : Int → Hp → Option (Int × Hp) :=
  Nat.rec (motive := fun _ => Int → Hp → Option (Int × Hp)) (fun _ _ => none) (fun _ rec x3 h =>
    if x1 ≤ x3 then
      some (1, h)
    else
      if ((4 : Nat) : Int) ≤ x3 then
        some (1, h)
      else
        if x3 ≤ 0 then
          f_X3_readNumbers_J18 rec x1 x2 x3 h
        else
          bd (f_X3_readSign 44 h) fun r6 h6 =>
          if ¬ r6 = 0 then
            f_X3_readNumbers_J18 rec x1 x2 x3 h6
          else
            some (0, h6)) n
theorem f_X3_readNumbers_L2_s (x1 : Int) (x2 : Int) (n : Nat) (x3 : Int) (h : Hp) : f_X3_readNumbers_L2 x1 x2 (n + 1) x3 h =
    if x1 ≤ x3 then
      some (1, h)
    else
      if ((4 : Nat) : Int) ≤ x3 then
        some (1, h)
      else
        if x3 ≤ 0 then
          f_X3_readNumbers_J18 (f_X3_readNumbers_L2 x1 x2 n) x1 x2 x3 h
        else
          bd (f_X3_readSign 44 h) fun r6 h6 =>
          if ¬ r6 = 0 then
            f_X3_readNumbers_J18 (f_X3_readNumbers_L2 x1 x2 n) x1 x2 x3 h6
          else
            some (0, h6) := rfl
noncomputable def f_X3_readNumbers (x1 : Int) (x2 : Int) (h : Hp) : Option (Int × Hp) :=
  (f_X3_readNumbers_L2 x1 x2
     fu 0 h)
noncomputable def f_X3_readWord_L2 (x1 : Nat) (n1 : Nat) (n : Nat) : Int → Hp → Option (Int × Hp) :=
  Nat.rec (motive := fun _ => Int → Hp → Option (Int × Hp)) (fun _ _ => none) (fun _ rec x2 h =>
    bd (f_J_length x1 n1 h) fun r1 h1 =>
    if r1 ≤ x2 then
      some (1, h1)
    else
      bd (f_J_charAt x1 n1 x2 h1) fun r2 h2 =>
      bd (f_X3_readSign r2 h2) fun r3 h3 =>
      if ¬ r3 = 0 then
        rec (wr (x2 + 1)) h3
      else
        some (0, h3)) n
theorem f_X3_readWord_L2_s (x1 : Nat) (n1 : Nat) (n : Nat) (x2 : Int) (h : Hp) : f_X3_readWord_L2 x1 n1 (n + 1) x2 h =
    bd (f_J_length x1 n1 h) fun r1 h1 =>
    if r1 ≤ x2 then
      some (1, h1)
    else
      bd (f_J_charAt x1 n1 x2 h1) fun r2 h2 =>
      bd (f_X3_readSign r2 h2) fun r3 h3 =>
      if ¬ r3 = 0 then
        f_X3_readWord_L2 x1 n1 n (wr (x2 + 1)) h3
      else
        some (0, h3) := rfl
noncomputable def f_X3_readWord (x1 : Nat) (n1 : Nat) (h : Hp) : Option (Int × Hp) :=
  (f_X3_readWord_L2 x1 n1
     fu 0 h)
noncomputable def f_X3_readOrder (x1 : Int) (h : Hp) : Option (Int × Hp) :=
  lt (hup h 28 2 x1) fun h1 =>
  bd (f_X3_signHere  h1) fun r2 h2 =>
  if r2 = 99 then
    lt (hup h2 28 3 1) fun h3 =>
    bd (f_X3_readWord 88 6 h3) fun r4 h4 =>
    if r4 = 0 then
      some (0, h4)
    else
      bd (f_X3_readNumbers 4 1 h4) fun r5 h5 =>
      if r5 = 0 then
        some (0, h5)
      else
        bd (f_X3_readSign 59 h5) fun r6 h6 =>
        if r6 = 0 then
          some (0, h6)
        else
          some (1, h6)
  else
    if r2 = 102 then
      lt (hup h2 28 3 0) fun h8 =>
      bd (f_X3_readWord 87 5 h8) fun r9 h9 =>
      if r9 = 0 then
        some (0, h9)
      else
        bd (f_X3_readNumbers 4 0 h9) fun r10 h10 =>
        if r10 = 0 then
          some (0, h10)
        else
          bd (f_X3_readSign 59 h10) fun r11 h11 =>
          if r11 = 0 then
            some (0, h11)
          else
            some (1, h11)
    else
      if r2 = 104 then
        lt (hup h2 28 3 4) fun h13 =>
        bd (f_X3_readWord 91 4 h13) fun r14 h14 =>
        if r14 = 0 then
          some (0, h14)
        else
          bd (f_X3_readSign 59 h14) fun r15 h15 =>
          if r15 = 0 then
            some (0, h15)
          else
            some (1, h15)
      else
        if r2 = 116 then
          lt (hup h2 28 3 2) fun h17 =>
          bd (f_X3_readWord 89 5 h17) fun r18 h18 =>
          if r18 = 0 then
            some (0, h18)
          else
            bd (f_X3_readNumbers 3 0 h18) fun r19 h19 =>
            if r19 = 0 then
              some (0, h19)
            else
              bd (f_X3_readSign 59 h19) fun r20 h20 =>
              if r20 = 0 then
                some (0, h20)
              else
                some (1, h20)
        else
          if r2 = 119 then
            lt (hup h2 28 3 3) fun h22 =>
            bd (f_X3_readWord 90 5 h22) fun r23 h23 =>
            if r23 = 0 then
              some (0, h23)
            else
              bd (f_X3_readNumbers 1 0 h23) fun r24 h24 =>
              if r24 = 0 then
                some (0, h24)
              else
                bd (f_X3_readSign 59 h24) fun r25 h25 =>
                if r25 = 0 then
                  some (0, h25)
                else
                  some (1, h25)
          else
            some (0, h2)
noncomputable def f_X4_bitsOf_L6 (c20 : UInt32 → Int → Hp → Option (Int × Hp)) (n : Nat) : UInt32 → Int → Int → Hp → Option (Int × Hp) :=
  Nat.rec (motive := fun _ => UInt32 → Int → Int → Hp → Option (Int × Hp)) (fun _ _ _ _ => none) (fun _ rec x1 x2 x3 h =>
    if 127 ≤ x3 then
      c20 x1 x2 h
    else
      if (Op.cmpValue (FP.fcmp x1 0x40000000) .l).toInt < 0 then
        c20 x1 x2 h
      else
        if nN (FP.fdiv x1 0x40000000) then
          rec (FP.fdiv x1 0x40000000) (wr (x2 + 1)) (wr (x3 + 1)) h
        else none) n
theorem f_X4_bitsOf_L6_s (c20 : UInt32 → Int → Hp → Option (Int × Hp)) (n : Nat) (x1 : UInt32) (x2 : Int) (x3 : Int) (h : Hp) : f_X4_bitsOf_L6 c20 (n + 1) x1 x2 x3 h =
    if 127 ≤ x3 then
      c20 x1 x2 h
    else
      if (Op.cmpValue (FP.fcmp x1 0x40000000) .l).toInt < 0 then
        c20 x1 x2 h
      else
        if nN (FP.fdiv x1 0x40000000) then
          f_X4_bitsOf_L6 c20 n (FP.fdiv x1 0x40000000) (wr (x2 + 1)) (wr (x3 + 1)) h
        else none := rfl
noncomputable def f_X4_bitsOf (x0 : UInt32) (h : Hp) : Option (Int × Hp) :=
  (f_X4_bitsOf_L6 
    (fun y1 y2 h3 =>
      if nN (FP.fsub y1 0x3f800000) then
        if nN (FP.fmul (FP.fsub y1 0x3f800000) 1258291200) then
          lv (FP.f2i (FP.fmul (FP.fsub y1 0x3f800000) 1258291200)).toInt fun y4 =>
          some ((Int32.ofInt (Int32.ofInt y2 <<< (Int32.ofInt 23 &&& 31)).toInt ||| Int32.ofInt y4).toInt, h3)
        else none
      else none)
     fu x0 127 0 h)
noncomputable def f_X4_book (x1 : Int) (x2 : Int) (h : Hp) : Option (Int × Hp) :=
  if x1 < 0 then
    some ((-1000001), h)
  else
    if x2 < 0 then
      some ((-1000001), h)
    else
      if x2 < 4 then
        lv (wr ((wr ((h 6 1) - 1)) - x1)) fun y1 =>
        if 0 ≤ y1 then
          bd (f_X2_cell 6 y1 x2 h) fun r2 h2 =>
          some (r2, h2)
        else
          some ((-1000004), h)
      else
        some ((-1000001), h)
noncomputable def f_X4_keepState  (h : Hp) : Option (Int × Hp) :=
  if (h 0 4) < 0 then
    some (0, h)
  else
    if ((5 : Nat) : Int) ≤ (h 0 4) then
      some (0, h)
    else
      if okA h 27 (h 0 4) 5 then
        if okA h 27 (h 0 4) 5 then
          bd (f_X1_become (Int.toNat (h 27 (Int.toNat (h 0 4)))) 1 h) fun _ h3 =>
          some (0, h3)
        else none
      else none
noncomputable def f_X4_forgetOldestState_L7 (y2 : Nat) (c24 : Hp → Option (Int × Hp)) (n : Nat) : Int → Hp → Option (Int × Hp) :=
  Nat.rec (motive := fun _ => Int → Hp → Option (Int × Hp)) (fun _ _ => none) (fun _ rec x2 h =>
    if ((5 : Nat) : Int) ≤ x2 then
      c24 h
    else
      if okA h 27 x2 5 then
        if inb (wr (x2 - 1)) 5 then
          lt (hup h 27 (Int.toNat (wr (x2 - 1))) (((Int.toNat (h 27 (Int.toNat x2))) : Nat) : Int)) fun h4 =>
          rec (wr (x2 + 1)) h4
        else none
      else none) n
theorem f_X4_forgetOldestState_L7_s (y2 : Nat) (c24 : Hp → Option (Int × Hp)) (n : Nat) (x2 : Int) (h : Hp) : f_X4_forgetOldestState_L7 y2 c24 (n + 1) x2 h =
    if ((5 : Nat) : Int) ≤ x2 then
      c24 h
    else
      if okA h 27 x2 5 then
        if inb (wr (x2 - 1)) 5 then
          lt (hup h 27 (Int.toNat (wr (x2 - 1))) (((Int.toNat (h 27 (Int.toNat x2))) : Nat) : Int)) fun h4 =>
          f_X4_forgetOldestState_L7 y2 c24 n (wr (x2 + 1)) h4
        else none
      else none := rfl
noncomputable def f_X4_forgetOldestState  (h : Hp) : Option (Int × Hp) :=
  if okA h 27 0 5 then
    lr (Int.toNat (h 27 (Int.toNat 0))) fun y2 =>
    (f_X4_forgetOldestState_L7 y2
      (fun h5 =>
        if inb (wr (((5 : Nat) : Int) - 1)) 5 then
          lt (hup h5 27 (Int.toNat (wr (((5 : Nat) : Int) - 1))) ((y2 : Nat) : Int)) fun h6 =>
          lt (hup h6 0 4 (wr ((h6 0 4) - 1))) fun h7 =>
          some (0, h7)
        else none)
       fu 1 h)
  else none
noncomputable def f_X4_recorded (x1 : Int) (h : Hp) : Option (Int × Hp) :=
  if x1 < 0 then
    some (x1, h)
  else
    lt (hup h 0 4 (wr ((h 0 4) + 1))) fun h1 =>
    if (h1 0 4) ≤ 4 then
      some (x1, h1)
    else
      bd (f_X4_forgetOldestState  h1) fun _ h2 =>
      some (x1, h2)
noncomputable def f_X4_claim (x1 : Int) (x2 : Int) (x3 : Int) (x4 : Int) (h : Hp) : Option (Int × Hp) :=
  bd (f_X4_keepState  h) fun _ h1 =>
  bd (f_X1_takeClaim 1 x1 x2 x3 x4 h1) fun r2 h2 =>
  bd (f_X4_recorded r2 h2) fun r3 h3 =>
  some (r3, h3)
noncomputable def f_X4_orNotFound (x0 : Int) (h : Hp) : Option (Int × Hp) :=
  if ¬ x0 = (-1) then
    some (x0, h)
  else
    some ((-1000004), h)
noncomputable def f_X4_claimOf (x1 : Int) (x2 : Int) (h : Hp) : Option (Int × Hp) :=
  bd (f_X2_has 4 x1 h) fun r1 h1 =>
  if r1 = 0 then
    some ((-1000001), h1)
  else
    if x2 < 0 then
      some ((-1000001), h1)
    else
      if x2 ≤ 7 then
        if 4 ≤ x2 then
          if ¬ x2 = 4 then
            if ¬ x2 = 7 then
              bd (f_X0_matchAll 1 h1) fun _ h2 =>
              if ¬ x2 = 5 then
                bd (f_X0_umbrellasSuiting x1 h2) fun r3 h3 =>
                some (r3, h3)
              else
                bd (f_X0_umbrellaMatched x1 h2) fun r4 h4 =>
                bd (f_X4_orNotFound r4 h4) fun r5 h5 =>
                some (r5, h5)
            else
              bd (f_X2_cell 4 x1 5 h1) fun r6 h6 =>
              some (r6, h6)
          else
            bd (f_X2_cell 4 x1 4 h1) fun r7 h7 =>
            some (r7, h7)
        else
          bd (f_X2_cell 4 x1 x2 h1) fun r8 h8 =>
          if ¬ r8 = (-1) then
            some (r8, h8)
          else
            some ((-1000004), h8)
      else
        some ((-1000001), h1)
noncomputable def f_X4_clearText  (h : Hp) : Option (Int × Hp) :=
  lv (h 28 1) fun y1 =>
  lt (hup h 28 1 0) fun h2 =>
  some (y1, h2)
noncomputable def f_X4_count_J13 (x1 : Int) (h : Hp) : Option (Int × Hp) :=
  if x1 = 1 then
    some ((h 2 1), h)
  else
    if x1 = 2 then
      some ((h 4 1), h)
    else
      if x1 = 3 then
        bd (f_X0_matchAll 1 h) fun _ h3 =>
        some ((h3 19 9), h3)
      else
        if x1 = 4 then
          bd (f_X0_matchByAsking 1 h) fun _ h5 =>
          some ((h5 19 9), h5)
        else
          if x1 = 5 then
            if x1 < 0 then
              some ((-1000001), h)
            else
              if 12 ≤ x1 then
                some ((-1000001), h)
              else
                bd (f_X1_sum 1 x1 h) fun r7 h7 =>
                some (r7, h7)
          else
            if x1 = 6 then
              if x1 < 0 then
                some ((-1000001), h)
              else
                if 12 ≤ x1 then
                  some ((-1000001), h)
                else
                  bd (f_X1_sum 1 x1 h) fun r9 h9 =>
                  some (r9, h9)
            else
              if x1 = 7 then
                if x1 < 0 then
                  some ((-1000001), h)
                else
                  if 12 ≤ x1 then
                    some ((-1000001), h)
                  else
                    bd (f_X1_sum 1 x1 h) fun r11 h11 =>
                    some (r11, h11)
              else
                if x1 = 8 then
                  if x1 < 0 then
                    some ((-1000001), h)
                  else
                    if 12 ≤ x1 then
                      some ((-1000001), h)
                    else
                      bd (f_X1_sum 1 x1 h) fun r13 h13 =>
                      some (r13, h13)
                else
                  if x1 = 9 then
                    if x1 < 0 then
                      some ((-1000001), h)
                    else
                      if 12 ≤ x1 then
                        some ((-1000001), h)
                      else
                        bd (f_X1_sum 1 x1 h) fun r15 h15 =>
                        some (r15, h15)
                  else
                    if x1 = 10 then
                      if x1 < 0 then
                        some ((-1000001), h)
                      else
                        if 12 ≤ x1 then
                          some ((-1000001), h)
                        else
                          bd (f_X1_sum 1 x1 h) fun r17 h17 =>
                          some (r17, h17)
                    else
                      if x1 = 11 then
                        if x1 < 0 then
                          some ((-1000001), h)
                        else
                          if 12 ≤ x1 then
                            some ((-1000001), h)
                          else
                            bd (f_X1_sum 1 x1 h) fun r19 h19 =>
                            some (r19, h19)
                      else
                        if x1 = 12 then
                          some ((h 6 1), h)
                        else
                          if x1 = 13 then
                            some ((h 0 4), h)
                          else
                            if x1 = 14 then
                              some ((h 28 1), h)
                            else
                              if x1 < 0 then
                                some ((-1000001), h)
                              else
                                if 12 ≤ x1 then
                                  some ((-1000001), h)
                                else
                                  bd (f_X1_sum 1 x1 h) fun r24 h24 =>
                                  some (r24, h24)
noncomputable def f_X4_count (x1 : Int) (h : Hp) : Option (Int × Hp) :=
  if x1 < 20 then
    f_X4_count_J13 x1 h
  else
    if 27 ≤ x1 then
      f_X4_count_J13 x1 h
    else
      bd (f_X1_setting 1 (wr (x1 - 20)) h) fun r25 h25 =>
      some (r25, h25)
noncomputable def f_X4_doOrder (x1 : Nat) (h : Hp) : Option (Int × Hp) :=
  if (h 28 3) = 0 then
    bd (f_X3_number 0 h) fun r1 h1 =>
    bd (f_X3_number 1 h1) fun r2 h2 =>
    bd (f_X3_number 2 h2) fun r3 h3 =>
    bd (f_X3_number 3 h3) fun r4 h4 =>
    bd (f_X1_takeUmbrella x1 r1 r2 r3 r4 h4) fun r5 h5 =>
    some (r5, h5)
  else
    if (h 28 3) = 1 then
      bd (f_X3_number 0 h) fun r7 h7 =>
      bd (f_X3_number 1 h7) fun r8 h8 =>
      bd (f_X3_number 2 h8) fun r9 h9 =>
      bd (f_X3_number 3 h9) fun r10 h10 =>
      bd (f_X1_takeClaim x1 r7 r8 r9 r10 h10) fun r11 h11 =>
      some (r11, h11)
    else
      if (h 28 3) = 2 then
        bd (f_X3_number 0 h) fun r13 h13 =>
        bd (f_X3_number 1 h13) fun r14 h14 =>
        bd (f_X3_number 2 h14) fun r15 h15 =>
        bd (f_X1_noteDetail x1 r13 r14 r15 h15) fun r16 h16 =>
        some (r16, h16)
      else
        if (h 28 3) = 3 then
          bd (f_X3_number 0 h) fun r18 h18 =>
          bd (f_X1_passWeeks x1 r18 999 h18) fun r19 h19 =>
          some (r19, h19)
        else
          bd (f_X0_matchAll x1 h) fun _ h21 =>
          bd (f_X1_handOut x1 h21) fun r22 h22 =>
          some (r22, h22)
noncomputable def f_X4_drop (x1 : Int) (h : Hp) : Option (Int × Hp) :=
  bd (f_X4_keepState  h) fun _ h1 =>
  bd (f_X1_dropClaim 1 x1 h1) fun r2 h2 =>
  bd (f_X4_recorded r2 h2) fun r3 h3 =>
  some (r3, h3)
noncomputable def f_X4_tellFault (x1 : Int) (x2 : Int) (x3 : Int) (h : Hp) : Option (Int × Hp) :=
  lt (hup h 0 7 x1) fun h1 =>
  lt (hup h1 0 8 x2) fun h2 =>
  lt (hup h2 0 9 x3) fun h3 =>
  some (0, h3)
noncomputable def f_X4_tryText_L13 (c27 : Int → Hp → Option (Int × Hp)) (n : Nat) : Int → Hp → Option (Int × Hp) :=
  Nat.rec (motive := fun _ => Int → Hp → Option (Int × Hp)) (fun _ _ => none) (fun _ rec x1 h =>
    if (h 28 1) ≤ x1 then
      some (0, h)
    else
      if 60 ≤ (h 0 6) then
        some (0, h)
      else
        bd (f_X3_readOrder x1 h) fun r4 h4 =>
        if ¬ r4 = 0 then
          bd (f_X4_doOrder 10 h4) fun r5 h5 =>
          if 0 ≤ r5 then
            lt (hup h5 0 6 (wr ((h5 0 6) + 1))) fun h6 =>
            lv (h6 28 2) fun y7 =>
            rec y7 h6
          else
            bd (f_X4_tellFault x1 2 r5 h5) fun _ h8 =>
            some (0, h8)
        else
          c27 x1 h4) n
theorem f_X4_tryText_L13_s (c27 : Int → Hp → Option (Int × Hp)) (n : Nat) (x1 : Int) (h : Hp) : f_X4_tryText_L13 c27 (n + 1) x1 h =
    if (h 28 1) ≤ x1 then
      some (0, h)
    else
      if 60 ≤ (h 0 6) then
        some (0, h)
      else
        bd (f_X3_readOrder x1 h) fun r4 h4 =>
        if ¬ r4 = 0 then
          bd (f_X4_doOrder 10 h4) fun r5 h5 =>
          if 0 ≤ r5 then
            lt (hup h5 0 6 (wr ((h5 0 6) + 1))) fun h6 =>
            lv (h6 28 2) fun y7 =>
            f_X4_tryText_L13 c27 n y7 h6
          else
            bd (f_X4_tellFault x1 2 r5 h5) fun _ h8 =>
            some (0, h8)
        else
          c27 x1 h4 := rfl
noncomputable def f_X4_tryText  (h : Hp) : Option (Int × Hp) :=
  bd (f_X1_become 10 1 h) fun _ h1 =>
  lt (hup h1 0 6 0) fun h2 =>
  lt (hup h2 0 7 (-1)) fun h3 =>
  (f_X4_tryText_L13 
    (fun y9 h10 =>
      bd (f_X4_tellFault y9 1 (wr ((h10 28 2) - y9)) h10) fun _ h11 =>
      some (0, h11))
     fu 0 h3)
noncomputable def f_X4_fault (x1 : Int) (h : Hp) : Option (Int × Hp) :=
  if x1 < 0 then
    some ((-1000001), h)
  else
    if x1 ≤ 2 then
      bd (f_X4_tryText  h) fun _ h1 =>
      if ¬ (h1 0 7) = (-1) then
        if ¬ x1 = 0 then
          if ¬ x1 = 1 then
            some ((h1 0 9), h1)
          else
            some ((h1 0 8), h1)
        else
          some ((h1 0 7), h1)
      else
        some ((-1000004), h1)
    else
      some ((-1000001), h)
noncomputable def f_X4_find (x1 : Int) (x2 : Int) (x3 : Int) (x4 : Int) (h : Hp) : Option (Int × Hp) :=
  bd (f_X4_keepState  h) fun _ h1 =>
  bd (f_X1_takeUmbrella 1 x1 x2 x3 x4 h1) fun r2 h2 =>
  bd (f_X4_recorded r2 h2) fun r3 h3 =>
  some (r3, h3)
noncomputable def f_X4_hand  (h : Hp) : Option (Int × Hp) :=
  bd (f_X4_keepState  h) fun _ h1 =>
  bd (f_X0_matchAll 1 h1) fun _ h2 =>
  bd (f_X1_handOut 1 h2) fun r3 h3 =>
  bd (f_X4_recorded r3 h3) fun r4 h4 =>
  some (r4, h4)
noncomputable def f_X4_having (x1 : Int) (x2 : Int) (h : Hp) : Option (Int × Hp) :=
  bd (f_X4_isDetail x1 h) fun r1 h1 =>
  if r1 = 0 then
    some ((-1000001), h1)
  else
    bd (f_X4_isValue x2 h1) fun r2 h2 =>
    if ¬ r2 = 0 then
      bd (f_X1_umbrellasWith 1 x1 x2 h2) fun r3 h3 =>
      some (r3, h3)
    else
      some ((-1000001), h2)
noncomputable def f_X4_ifTold (x1 : Int) (x2 : Int) (x3 : Int) (h : Hp) : Option (Int × Hp) :=
  bd (f_X1_become 10 1 h) fun _ h1 =>
  bd (f_X1_noteDetail 10 x1 x2 x3 h1) fun r2 h2 =>
  if 0 ≤ r2 then
    bd (f_X0_matchAll 10 h2) fun _ h3 =>
    bd (f_X0_umbrellaMatched x1 h3) fun r4 h4 =>
    bd (f_X4_orNotFound r4 h4) fun r5 h5 =>
    some (r5, h5)
  else
    some (r2, h2)
noncomputable def f_X4_ifWeeks (x1 : Int) (x2 : Int) (h : Hp) : Option (Int × Hp) :=
  bd (f_X4_isWeeksAtOnce x1 h) fun r1 h1 =>
  if r1 = 0 then
    some ((-1000001), h1)
  else
    if x2 < 0 then
      some ((-1000001), h1)
    else
      if x2 ≤ 2 then
        bd (f_X1_become 10 1 h1) fun _ h2 =>
        bd (f_X1_passWeeks 10 x1 1019 h2) fun r3 h3 =>
        if ¬ x2 = 0 then
          if ¬ x2 = 1 then
            bd (f_X0_matchAll 10 h3) fun _ h4 =>
            some ((h4 19 9), h4)
          else
            bd (f_X1_sum 10 9 h3) fun r5 h5 =>
            bd (f_X1_sum 1 9 h5) fun r6 h6 =>
            some ((wr (r5 - r6)), h6)
        else
          bd (f_X1_sum 10 8 h3) fun r7 h7 =>
          bd (f_X1_sum 1 8 h7) fun r8 h8 =>
          some ((wr (r7 - r8)), h8)
      else
        some ((-1000001), h1)
noncomputable def f_X4_isPair (x1 : Int) (x2 : Int) (h : Hp) : Option (Int × Hp) :=
  bd (f_X2_has 2 x1 h) fun r1 h1 =>
  if r1 = 0 then
    some (0, h1)
  else
    bd (f_X2_has 4 x2 h1) fun r2 h2 =>
    if r2 = 0 then
      some (0, h2)
    else
      some (1, h2)
noncomputable def f_X4_mean  (h : Hp) : Option (Int × Hp) :=
  bd (f_X0_matchAll 1 h) fun _ h1 =>
  lv (h1 19 9) fun y2 =>
  if 0 < y2 then
    bd (f_X0_worthOfMatched  h1) fun r3 h3 =>
    if nN (FP.fdiv (FP.i2f (Int32.ofInt r3)) (FP.i2f (Int32.ofInt y2))) then
      bd (f_X4_bitsOf (FP.fdiv (FP.i2f (Int32.ofInt r3)) (FP.i2f (Int32.ofInt y2))) h3) fun r4 h4 =>
      some (r4, h4)
    else none
  else
    some ((-1000004), h1)
noncomputable def f_X4_oddest_L6  (n : Nat) : Int → Int → Int → Hp → Option (Int × Hp) :=
  Nat.rec (motive := fun _ => Int → Int → Int → Hp → Option (Int × Hp)) (fun _ _ _ _ => none) (fun _ rec x1 x2 x3 h =>
    if (h 2 1) ≤ x3 then
      bd (f_X4_orNotFound x1 h) fun r1 h1 =>
      some (r1, h1)
    else
      bd (f_X1_oddnessTogether 1 x3 h) fun r2 h2 =>
      if x1 = (-1) then
        rec x3 r2 (wr (x3 + 1)) h2
      else
        if r2 ≤ x2 then
          rec x1 x2 (wr (x3 + 1)) h2
        else
          rec x3 r2 (wr (x3 + 1)) h2) n
theorem f_X4_oddest_L6_s  (n : Nat) (x1 : Int) (x2 : Int) (x3 : Int) (h : Hp) : f_X4_oddest_L6  (n + 1) x1 x2 x3 h =
    if (h 2 1) ≤ x3 then
      bd (f_X4_orNotFound x1 h) fun r1 h1 =>
      some (r1, h1)
    else
      bd (f_X1_oddnessTogether 1 x3 h) fun r2 h2 =>
      if x1 = (-1) then
        f_X4_oddest_L6  n x3 r2 (wr (x3 + 1)) h2
      else
        if r2 ≤ x2 then
          f_X4_oddest_L6  n x1 x2 (wr (x3 + 1)) h2
        else
          f_X4_oddest_L6  n x3 r2 (wr (x3 + 1)) h2 := rfl
noncomputable def f_X4_oddest  (h : Hp) : Option (Int × Hp) :=
  (f_X4_oddest_L6 
     fu (-1) 0 0 h)
noncomputable def f_X4_play  (h : Hp) : Option (Int × Hp) :=
  bd (f_X4_tryText  h) fun _ h1 =>
  if (h1 0 7) = (-1) then
    bd (f_X4_keepState  h1) fun _ h2 =>
    bd (f_X1_become 1 10 h2) fun _ h3 =>
    bd (f_X4_recorded (h3 0 6) h3) fun r4 h4 =>
    some (r4, h4)
  else
    some ((-1000002), h1)
noncomputable def f_X4_points (x1 : Int) (x2 : Int) (h : Hp) : Option (Int × Hp) :=
  bd (f_X4_isPair x1 x2 h) fun r1 h1 =>
  if ¬ r1 = 0 then
    bd (f_X0_weighAll 1 h1) fun _ h2 =>
    bd (f_X0_worthOf x1 x2 h2) fun r3 h3 =>
    some ((wr (1000 + r3)), h3)
  else
    some ((-1000001), h1)
noncomputable def f_X4_set (x1 : Int) (x2 : Int) (h : Hp) : Option (Int × Hp) :=
  bd (f_X4_keepState  h) fun _ h1 =>
  bd (f_X1_changeSetting 1 x1 x2 h1) fun r2 h2 =>
  bd (f_X4_recorded r2 h2) fun r3 h3 =>
  some (r3, h3)
noncomputable def f_X4_tell (x1 : Int) (x2 : Int) (x3 : Int) (h : Hp) : Option (Int × Hp) :=
  bd (f_X4_keepState  h) fun _ h1 =>
  bd (f_X1_noteDetail 1 x1 x2 x3 h1) fun r2 h2 =>
  bd (f_X4_recorded r2 h2) fun r3 h3 =>
  some (r3, h3)
noncomputable def f_X4_type (x1 : Int) (h : Hp) : Option (Int × Hp) :=
  if x1 < 32 then
    some ((-1000001), h)
  else
    if x1 ≤ 126 then
      if isC x1 then
        bd (f_X3_append x1 h) fun r1 h1 =>
        if r1 = 0 then
          some ((-1000003), h1)
        else
          some ((h1 28 1), h1)
      else none
    else
      some ((-1000001), h)
noncomputable def f_X4_umbrella (x1 : Int) (x2 : Int) (h : Hp) : Option (Int × Hp) :=
  bd (f_X2_has 2 x1 h) fun r1 h1 =>
  if r1 = 0 then
    some ((-1000001), h1)
  else
    if x2 < 0 then
      some ((-1000001), h1)
    else
      if x2 ≤ 8 then
        if 4 < x2 then
          if ¬ x2 = 8 then
            bd (f_X0_matchAll 1 h1) fun _ h2 =>
            if ¬ x2 = 7 then
              bd (f_X0_claimMatched x1 h2) fun r3 h3 =>
              if ¬ r3 = (-1) then
                if ¬ x2 = 5 then
                  bd (f_X0_worthOf x1 r3 h3) fun r4 h4 =>
                  some (r4, h4)
                else
                  some (r3, h3)
              else
                some ((-1000004), h3)
            else
              bd (f_X0_claimsSuiting x1 h2) fun r5 h5 =>
              some (r5, h5)
          else
            bd (f_X1_oddnessTogether 1 x1 h1) fun r6 h6 =>
            some (r6, h6)
        else
          bd (f_X2_cell 2 x1 x2 h1) fun r7 h7 =>
          some (r7, h7)
      else
        some ((-1000001), h1)
noncomputable def f_X4_undo  (h : Hp) : Option (Int × Hp) :=
  if (h 0 4) ≤ 0 then
    some ((-1000002), h)
  else
    if (h 0 4) ≤ ((5 : Nat) : Int) then
      lt (hup h 0 4 (wr ((h 0 4) - 1))) fun h1 =>
      if okA h1 27 (h1 0 4) 5 then
        bd (f_X1_become 1 (Int.toNat (h1 27 (Int.toNat (h1 0 4)))) h1) fun _ h3 =>
        some ((h3 0 4), h3)
      else none
    else
      some ((-1000002), h)
noncomputable def f_X4_weeks (x1 : Int) (h : Hp) : Option (Int × Hp) :=
  bd (f_X4_keepState  h) fun _ h1 =>
  bd (f_X1_passWeeks 1 x1 999 h1) fun r2 h2 =>
  bd (f_X4_recorded r2 h2) fun r3 h3 =>
  some (r3, h3)
noncomputable def f_X4_why (x1 : Int) (x2 : Int) (h : Hp) : Option (Int × Hp) :=
  bd (f_X4_isPair x1 x2 h) fun r1 h1 =>
  if ¬ r1 = 0 then
    bd (f_X0_matchAll 1 h1) fun _ h2 =>
    bd (f_X0_reasonAgainst x1 x2 1 h2) fun r3 h3 =>
    some (r3, h3)
  else
    some ((-1000001), h1)
noncomputable def f_X5_in (x0 : Int) (x1 : Int) (x2 : Int) (h : Hp) : Option (Int × Hp) :=
  if x0 < x1 then
    some (0, h)
  else
    if x2 < x0 then
      some (0, h)
    else
      some (1, h)
noncomputable def f_X5_areValues (x0 : Int) (x1 : Int) (x2 : Int) (x3 : Int) (x4 : Int) (h : Hp) : Option (Int × Hp) :=
  bd (f_X5_in x1 x0 9 h) fun r1 h1 =>
  if r1 = 0 then
    some (0, h1)
  else
    bd (f_X5_in x2 x0 9 h1) fun r2 h2 =>
    if r2 = 0 then
      some (0, h2)
    else
      bd (f_X5_in x3 x0 9 h2) fun r3 h3 =>
      if r3 = 0 then
        some (0, h3)
      else
        bd (f_X5_in x4 x0 9 h3) fun r4 h4 =>
        if r4 = 0 then
          some (0, h4)
        else
          some (1, h4)
noncomputable def f_X5_asks_L13 (x1 : Int) (x2 : Int) (x4 : Int) (c59 : Int → Hp → Option (Int × Hp)) (n : Nat) : Int → Int → Hp → Option (Int × Hp) :=
  Nat.rec (motive := fun _ => Int → Int → Hp → Option (Int × Hp)) (fun _ _ _ => none) (fun _ rec x5 x6 h =>
    if 12 ≤ x6 then
      c59 x5 h
    else
      if inb (wr ((wr (12 * x6)) + x1)) 144 then
        if inb (wr ((wr (12 * x4)) + x1)) 144 then
          lv (wr ((h 81 (Int.toNat (wr ((wr (12 * x6)) + x1)))) - (h 81 (Int.toNat (wr ((wr (12 * x4)) + x1)))))) fun y1 =>
          if inb (wr ((wr (12 * x6)) + x1)) 144 then
            if (h 81 (Int.toNat (wr ((wr (12 * x6)) + x1)))) = (-1) then
              lv (wr (x5 + 0)) fun y2 =>
              rec y2 (wr (x6 + 1)) h
            else
              if 0 < y1 then
                lv (wr (x5 + 1)) fun y3 =>
                rec y3 (wr (x6 + 1)) h
              else
                if ¬ y1 = 0 then
                  lv (wr (x5 + 0)) fun y4 =>
                  rec y4 (wr (x6 + 1)) h
                else
                  if x4 ≤ x6 then
                    lv (wr (x5 + 0)) fun y5 =>
                    rec y5 (wr (x6 + 1)) h
                  else
                    lv (wr (x5 + 1)) fun y6 =>
                    rec y6 (wr (x6 + 1)) h
          else none
        else none
      else none) n
theorem f_X5_asks_L13_s (x1 : Int) (x2 : Int) (x4 : Int) (c59 : Int → Hp → Option (Int × Hp)) (n : Nat) (x5 : Int) (x6 : Int) (h : Hp) : f_X5_asks_L13 x1 x2 x4 c59 (n + 1) x5 x6 h =
    if 12 ≤ x6 then
      c59 x5 h
    else
      if inb (wr ((wr (12 * x6)) + x1)) 144 then
        if inb (wr ((wr (12 * x4)) + x1)) 144 then
          lv (wr ((h 81 (Int.toNat (wr ((wr (12 * x6)) + x1)))) - (h 81 (Int.toNat (wr ((wr (12 * x4)) + x1)))))) fun y1 =>
          if inb (wr ((wr (12 * x6)) + x1)) 144 then
            if (h 81 (Int.toNat (wr ((wr (12 * x6)) + x1)))) = (-1) then
              lv (wr (x5 + 0)) fun y2 =>
              f_X5_asks_L13 x1 x2 x4 c59 n y2 (wr (x6 + 1)) h
            else
              if 0 < y1 then
                lv (wr (x5 + 1)) fun y3 =>
                f_X5_asks_L13 x1 x2 x4 c59 n y3 (wr (x6 + 1)) h
              else
                if ¬ y1 = 0 then
                  lv (wr (x5 + 0)) fun y4 =>
                  f_X5_asks_L13 x1 x2 x4 c59 n y4 (wr (x6 + 1)) h
                else
                  if x4 ≤ x6 then
                    lv (wr (x5 + 0)) fun y5 =>
                    f_X5_asks_L13 x1 x2 x4 c59 n y5 (wr (x6 + 1)) h
                  else
                    lv (wr (x5 + 1)) fun y6 =>
                    f_X5_asks_L13 x1 x2 x4 c59 n y6 (wr (x6 + 1)) h
          else none
        else none
      else none := rfl
noncomputable def f_X5_asks_L6 (x1 : Int) (c81 : Int → Hp → Option (Int × Hp)) (n : Nat) : Int → Int → Hp → Option (Int × Hp) :=
  Nat.rec (motive := fun _ => Int → Int → Hp → Option (Int × Hp)) (fun _ _ _ => none) (fun _ rec x2 x4 h =>
    if 12 ≤ x4 then
      c81 x2 h
    else
      (f_X5_asks_L13 x1 x2 x4
        (fun y7 h8 =>
          if inb (wr ((wr (12 * x4)) + x1)) 144 then
            if (h8 81 (Int.toNat (wr ((wr (12 * x4)) + x1)))) = (-1) then
              rec x2 (wr (x4 + 1)) h8
            else
              if inb x1 12 then
                if ¬ y7 = (h8 82 (Int.toNat x1)) then
                  rec x2 (wr (x4 + 1)) h8
                else
                  rec x4 (wr (x4 + 1)) h8
              else none
          else none)
         fu 0 0 h)) n
theorem f_X5_asks_L6_s (x1 : Int) (c81 : Int → Hp → Option (Int × Hp)) (n : Nat) (x2 : Int) (x4 : Int) (h : Hp) : f_X5_asks_L6 x1 c81 (n + 1) x2 x4 h =
    if 12 ≤ x4 then
      c81 x2 h
    else
      (f_X5_asks_L13 x1 x2 x4
        (fun y7 h8 =>
          if inb (wr ((wr (12 * x4)) + x1)) 144 then
            if (h8 81 (Int.toNat (wr ((wr (12 * x4)) + x1)))) = (-1) then
              f_X5_asks_L6 x1 c81 n x2 (wr (x4 + 1)) h8
            else
              if inb x1 12 then
                if ¬ y7 = (h8 82 (Int.toNat x1)) then
                  f_X5_asks_L6 x1 c81 n x2 (wr (x4 + 1)) h8
                else
                  f_X5_asks_L6 x1 c81 n x4 (wr (x4 + 1)) h8
              else none
          else none)
         fu 0 0 h) := rfl
noncomputable def f_X5_asks (x1 : Int) (h : Hp) : Option (Int × Hp) :=
  (f_X5_asks_L6 x1
    (fun y9 h10 =>
      if inb x1 12 then
        if inb x1 12 then
          lt (hup h10 82 (Int.toNat x1) (wr ((h10 82 (Int.toNat x1)) + 1))) fun h11 =>
          some (y9, h11)
        else none
      else none)
     fu (-1) 0 h)
noncomputable def f_X5_asksOn_J34 (c4 : Int → Hp → Option (Int × Hp)) (x1 : Int) (x2 : Int) (x3 : Int) (x4 : Int) (s0 : Int) (h : Hp) : Option (Int × Hp) :=
  if x3 = (-1) then
    if inb x2 12 then
      lt (hup h 79 (Int.toNat x2) x1) fun h4 =>
      some (x3, h4)
    else none
  else
    if s0 < x4 then
      if inb x2 12 then
        lt (hup h 79 (Int.toNat x2) x1) fun h5 =>
        some (x3, h5)
      else none
    else
      if ¬ x4 = s0 then
        bd (f_X5_asks x1 h) fun r6 h6 =>
        c4 r6 h6
      else
        if x3 ≤ x1 then
          bd (f_X5_asks x1 h) fun r7 h7 =>
          c4 r7 h7
        else
          if inb x2 12 then
            lt (hup h 79 (Int.toNat x2) x1) fun h8 =>
            some (x3, h8)
          else none
noncomputable def f_X5_asksOn_L4 (x1 : Int) (n : Nat) : Int → Hp → Option (Int × Hp) :=
  Nat.rec (motive := fun _ => Int → Hp → Option (Int × Hp)) (fun _ _ => none) (fun _ rec x2 h =>
    if x2 = (-1) then
      some ((-1), h)
    else
      if inb x2 12 then
        lv (h 79 (Int.toNat x2)) fun y2 =>
        if inb (wr ((wr (12 * x2)) + x1)) 144 then
          lv (h 81 (Int.toNat (wr ((wr (12 * x2)) + x1)))) fun y3 =>
          if ¬ y2 = (-1) then
            if inb (wr ((wr (12 * x2)) + y2)) 144 then
              f_X5_asksOn_J34 rec x1 x2 y2 y3 (h 81 (Int.toNat (wr ((wr (12 * x2)) + y2)))) h
            else none
          else
            f_X5_asksOn_J34 rec x1 x2 y2 y3 (-1) h
        else none
      else none) n
theorem f_X5_asksOn_L4_s (x1 : Int) (n : Nat) (x2 : Int) (h : Hp) : f_X5_asksOn_L4 x1 (n + 1) x2 h =
    if x2 = (-1) then
      some ((-1), h)
    else
      if inb x2 12 then
        lv (h 79 (Int.toNat x2)) fun y2 =>
        if inb (wr ((wr (12 * x2)) + x1)) 144 then
          lv (h 81 (Int.toNat (wr ((wr (12 * x2)) + x1)))) fun y3 =>
          if ¬ y2 = (-1) then
            if inb (wr ((wr (12 * x2)) + y2)) 144 then
              f_X5_asksOn_J34 (f_X5_asksOn_L4 x1 n) x1 x2 y2 y3 (h 81 (Int.toNat (wr ((wr (12 * x2)) + y2)))) h
            else none
          else
            f_X5_asksOn_J34 (f_X5_asksOn_L4 x1 n) x1 x2 y2 y3 (-1) h
        else none
      else none := rfl
noncomputable def f_X5_asksOn (x1 : Int) (h : Hp) : Option (Int × Hp) :=
  bd (f_X5_asks x1 h) fun r1 h1 =>
  (f_X5_asksOn_L4 x1
     fu r1 h1)
noncomputable def f_X5_book (x1 : Int) (x2 : Int) (h : Hp) : Option (Int × Hp) :=
  if x1 < 0 then
    some ((-1000001), h)
  else
    bd (f_X5_in x2 0 3 h) fun r1 h1 =>
    if ¬ r1 = 0 then
      if inb 17 1330 then
        if (h1 77 (Int.toNat 17)) ≤ x1 then
          some ((-1000004), h1)
        else
          if inb 17 1330 then
            if inb (wr ((wr (150 + (wr (4 * (wr ((wr ((h1 77 (Int.toNat 17)) - 1)) - x1)))))) + x2)) 1330 then
              some ((h1 77 (Int.toNat (wr ((wr (150 + (wr (4 * (wr ((wr ((h1 77 (Int.toNat 17)) - 1)) - x1)))))) + x2)))), h1)
            else none
          else none
      else none
    else
      some ((-1000001), h1)
noncomputable def f_X5_claimAt (x0 : Int) (x1 : Int) (h : Hp) : Option (Int × Hp) :=
  some ((wr ((wr (x0 + 78)) + (wr (6 * x1)))), h)
noncomputable def f_X5_umbrellaAt (x0 : Int) (x1 : Int) (h : Hp) : Option (Int × Hp) :=
  some ((wr ((wr (x0 + 18)) + (wr (5 * x1)))), h)
noncomputable def f_X5_many_L4 (x1 : Int) (x2 : Int) (x3 : Int) (n : Nat) : Int → Int → Hp → Option (Int × Hp) :=
  Nat.rec (motive := fun _ => Int → Int → Hp → Option (Int × Hp)) (fun _ _ _ => none) (fun _ rec x4 x5 h =>
    if inb (wr (x1 + 15)) 1330 then
      if (h 77 (Int.toNat (wr (x1 + 15)))) ≤ x5 then
        some (x4, h)
      else
        bd (f_X5_umbrellaAt x1 x5 h) fun r1 h1 =>
        if inb (wr (r1 + x2)) 1330 then
          if ¬ (h1 77 (Int.toNat (wr (r1 + x2)))) = x3 then
            lv (wr (x4 + 0)) fun y2 =>
            rec y2 (wr (x5 + 1)) h1
          else
            lv (wr (x4 + 1)) fun y3 =>
            rec y3 (wr (x5 + 1)) h1
        else none
    else none) n
theorem f_X5_many_L4_s (x1 : Int) (x2 : Int) (x3 : Int) (n : Nat) (x4 : Int) (x5 : Int) (h : Hp) : f_X5_many_L4 x1 x2 x3 (n + 1) x4 x5 h =
    if inb (wr (x1 + 15)) 1330 then
      if (h 77 (Int.toNat (wr (x1 + 15)))) ≤ x5 then
        some (x4, h)
      else
        bd (f_X5_umbrellaAt x1 x5 h) fun r1 h1 =>
        if inb (wr (r1 + x2)) 1330 then
          if ¬ (h1 77 (Int.toNat (wr (r1 + x2)))) = x3 then
            lv (wr (x4 + 0)) fun y2 =>
            f_X5_many_L4 x1 x2 x3 n y2 (wr (x5 + 1)) h1
          else
            lv (wr (x4 + 1)) fun y3 =>
            f_X5_many_L4 x1 x2 x3 n y3 (wr (x5 + 1)) h1
        else none
    else none := rfl
noncomputable def f_X5_many (x1 : Int) (x2 : Int) (x3 : Int) (h : Hp) : Option (Int × Hp) :=
  (f_X5_many_L4 x1 x2 x3
     fu 0 0 h)
noncomputable def f_X5_misses_L4 (x1 : Int) (x2 : Int) (x3 : Int) (n : Nat) : Int → Int → Hp → Option (Int × Hp) :=
  Nat.rec (motive := fun _ => Int → Int → Hp → Option (Int × Hp)) (fun _ _ _ => none) (fun _ rec x4 x5 h =>
    if 4 ≤ x5 then
      some (x4, h)
    else
      bd (f_X5_claimAt x1 x3 h) fun r1 h1 =>
      if inb (wr (r1 + x5)) 1330 then
        lv (h1 77 (Int.toNat (wr (r1 + x5)))) fun y2 =>
        if y2 = (-1) then
          lv (wr (x4 + 0)) fun y3 =>
          rec y3 (wr (x5 + 1)) h1
        else
          bd (f_X5_umbrellaAt x1 x2 h1) fun r4 h4 =>
          if inb (wr (r4 + x5)) 1330 then
            if y2 = (h4 77 (Int.toNat (wr (r4 + x5)))) then
              lv (wr (x4 + 0)) fun y5 =>
              rec y5 (wr (x5 + 1)) h4
            else
              lv (wr (x4 + 1)) fun y6 =>
              rec y6 (wr (x5 + 1)) h4
          else none
      else none) n
theorem f_X5_misses_L4_s (x1 : Int) (x2 : Int) (x3 : Int) (n : Nat) (x4 : Int) (x5 : Int) (h : Hp) : f_X5_misses_L4 x1 x2 x3 (n + 1) x4 x5 h =
    if 4 ≤ x5 then
      some (x4, h)
    else
      bd (f_X5_claimAt x1 x3 h) fun r1 h1 =>
      if inb (wr (r1 + x5)) 1330 then
        lv (h1 77 (Int.toNat (wr (r1 + x5)))) fun y2 =>
        if y2 = (-1) then
          lv (wr (x4 + 0)) fun y3 =>
          f_X5_misses_L4 x1 x2 x3 n y3 (wr (x5 + 1)) h1
        else
          bd (f_X5_umbrellaAt x1 x2 h1) fun r4 h4 =>
          if inb (wr (r4 + x5)) 1330 then
            if y2 = (h4 77 (Int.toNat (wr (r4 + x5)))) then
              lv (wr (x4 + 0)) fun y5 =>
              f_X5_misses_L4 x1 x2 x3 n y5 (wr (x5 + 1)) h4
            else
              lv (wr (x4 + 1)) fun y6 =>
              f_X5_misses_L4 x1 x2 x3 n y6 (wr (x5 + 1)) h4
          else none
      else none := rfl
noncomputable def f_X5_misses (x1 : Int) (x2 : Int) (x3 : Int) (h : Hp) : Option (Int × Hp) :=
  (f_X5_misses_L4 x1 x2 x3
     fu 0 0 h)
noncomputable def f_X5_pointsOf_L32 (x1 : Int) (x2 : Int) (x3 : Int) (n : Nat) : Int → Int → Hp → Option (Int × Hp) :=
  Nat.rec (motive := fun _ => Int → Int → Hp → Option (Int × Hp)) (fun _ _ _ => none) (fun _ rec x4 x5 h =>
    if 4 ≤ x5 then
      some (x4, h)
    else
      bd (f_X5_umbrellaAt x1 x2 h) fun r4 h4 =>
      if inb (wr (r4 + x5)) 1330 then
        lv (h4 77 (Int.toNat (wr (r4 + x5)))) fun y5 =>
        bd (f_X5_claimAt x1 x3 h4) fun r6 h6 =>
        if inb (wr (r6 + x5)) 1330 then
          if ¬ (h6 77 (Int.toNat (wr (r6 + x5)))) = y5 then
            lv (wr (x4 + 0)) fun y7 =>
            rec y7 (wr (x5 + 1)) h6
          else
            bd (f_X5_many x1 x5 y5 h6) fun r8 h8 =>
            lv (wr (x4 + (wr (13 - r8)))) fun y9 =>
            rec y9 (wr (x5 + 1)) h8
        else none
      else none) n
theorem f_X5_pointsOf_L32_s (x1 : Int) (x2 : Int) (x3 : Int) (n : Nat) (x4 : Int) (x5 : Int) (h : Hp) : f_X5_pointsOf_L32 x1 x2 x3 (n + 1) x4 x5 h =
    if 4 ≤ x5 then
      some (x4, h)
    else
      bd (f_X5_umbrellaAt x1 x2 h) fun r4 h4 =>
      if inb (wr (r4 + x5)) 1330 then
        lv (h4 77 (Int.toNat (wr (r4 + x5)))) fun y5 =>
        bd (f_X5_claimAt x1 x3 h4) fun r6 h6 =>
        if inb (wr (r6 + x5)) 1330 then
          if ¬ (h6 77 (Int.toNat (wr (r6 + x5)))) = y5 then
            lv (wr (x4 + 0)) fun y7 =>
            f_X5_pointsOf_L32 x1 x2 x3 n y7 (wr (x5 + 1)) h6
          else
            bd (f_X5_many x1 x5 y5 h6) fun r8 h8 =>
            lv (wr (x4 + (wr (13 - r8)))) fun y9 =>
            f_X5_pointsOf_L32 x1 x2 x3 n y9 (wr (x5 + 1)) h8
        else none
      else none := rfl
noncomputable def f_X5_pointsOf (x1 : Int) (x2 : Int) (x3 : Int) (h : Hp) : Option (Int × Hp) :=
  if inb (wr (x1 + 2)) 1330 then
    bd (f_X5_misses x1 x2 x3 h) fun r1 h1 =>
    if inb (wr (x1 + 3)) 1330 then
      bd (f_X5_claimAt x1 x3 h1) fun r2 h2 =>
      if inb (wr (r2 + 5)) 1330 then
        lv (wr ((wr ((wr (-(h 77 (Int.toNat (wr (x1 + 2)))))) * r1)) - (wr ((h1 77 (Int.toNat (wr (x1 + 3)))) * (h2 77 (Int.toNat (wr (r2 + 5)))))))) fun y3 =>
        (f_X5_pointsOf_L32 x1 x2 x3
           fu y3 0 h2)
      else none
    else none
  else none
noncomputable def f_X5_suits (x1 : Int) (x2 : Int) (x3 : Int) (h : Hp) : Option (Int × Hp) :=
  bd (f_X5_misses x1 x2 x3 h) fun r1 h1 =>
  if inb (wr (x1 + 1)) 1330 then
    if (h1 77 (Int.toNat (wr (x1 + 1)))) < r1 then
      some (0, h1)
    else
      bd (f_X5_pointsOf x1 x2 x3 h1) fun r2 h2 =>
      if inb (wr (x1 + 4)) 1330 then
        if r2 < (h2 77 (Int.toNat (wr (x1 + 4)))) then
          some (0, h2)
        else
          some (1, h2)
      else none
  else none
noncomputable def f_X5_clears_L2 (x1 : Int) (c22 : Hp → Option (Int × Hp)) (n : Nat) : Int → Hp → Option (Int × Hp) :=
  Nat.rec (motive := fun _ => Int → Hp → Option (Int × Hp)) (fun _ _ => none) (fun _ rec x2 h =>
    if 12 ≤ x2 then
      c22 h
    else
      if inb x2 12 then
        lt (hup h 79 (Int.toNat x2) (-1)) fun h1 =>
        if inb x2 12 then
          lt (hup h1 80 (Int.toNat x2) (-1)) fun h2 =>
          if inb x2 12 then
            lt (hup h2 82 (Int.toNat x2) 0) fun h3 =>
            rec (wr (x2 + 1)) h3
          else none
        else none
      else none) n
theorem f_X5_clears_L2_s (x1 : Int) (c22 : Hp → Option (Int × Hp)) (n : Nat) (x2 : Int) (h : Hp) : f_X5_clears_L2 x1 c22 (n + 1) x2 h =
    if 12 ≤ x2 then
      c22 h
    else
      if inb x2 12 then
        lt (hup h 79 (Int.toNat x2) (-1)) fun h1 =>
        if inb x2 12 then
          lt (hup h1 80 (Int.toNat x2) (-1)) fun h2 =>
          if inb x2 12 then
            lt (hup h2 82 (Int.toNat x2) 0) fun h3 =>
            f_X5_clears_L2 x1 c22 n (wr (x2 + 1)) h3
          else none
        else none
      else none := rfl
noncomputable def f_X5_clears_J50 (c24 : Int → Hp → Option (Int × Hp)) (x1 : Int) (x2 : Int) (s0 : Int) (h : Hp) : Option (Int × Hp) :=
  if s0 = 0 then
    if inb x2 144 then
      lt (hup h 81 (Int.toNat x2) (-1)) fun h5 =>
      c24 (wr (x2 + 1)) h5
    else none
  else
    bd (f_X5_suits x1 (wr (Int.tdiv x2 12)) (wr (x2 - Int.tdiv x2 12 * 12)) h) fun r6 h6 =>
    if r6 = 0 then
      if inb x2 144 then
        lt (hup h6 81 (Int.toNat x2) (-1)) fun h7 =>
        c24 (wr (x2 + 1)) h7
      else none
    else
      bd (f_X5_pointsOf x1 (wr (Int.tdiv x2 12)) (wr (x2 - Int.tdiv x2 12 * 12)) h6) fun r8 h8 =>
      if inb x2 144 then
        lt (hup h8 81 (Int.toNat x2) r8) fun h9 =>
        c24 (wr (x2 + 1)) h9
      else none
noncomputable def f_X5_clears_J49 (c24 : Int → Hp → Option (Int × Hp)) (x1 : Int) (x2 : Int) (h : Hp) : Option (Int × Hp) :=
  f_X5_clears_J50 c24 x1 x2 0 h
noncomputable def f_X5_clears_L24 (x1 : Int) (n : Nat) : Int → Hp → Option (Int × Hp) :=
  Nat.rec (motive := fun _ => Int → Hp → Option (Int × Hp)) (fun _ _ => none) (fun _ rec x2 h =>
    if 144 ≤ x2 then
      some (0, h)
    else
      if inb (wr (x1 + 15)) 1330 then
        if (h 77 (Int.toNat (wr (x1 + 15)))) ≤ (wr (Int.tdiv x2 12)) then
          f_X5_clears_J49 rec x1 x2 h
        else
          if inb (wr (x1 + 16)) 1330 then
            if (h 77 (Int.toNat (wr (x1 + 16)))) ≤ (wr (x2 - Int.tdiv x2 12 * 12)) then
              f_X5_clears_J49 rec x1 x2 h
            else
              f_X5_clears_J50 rec x1 x2 1 h
          else none
      else none) n
theorem f_X5_clears_L24_s (x1 : Int) (n : Nat) (x2 : Int) (h : Hp) : f_X5_clears_L24 x1 (n + 1) x2 h =
    if 144 ≤ x2 then
      some (0, h)
    else
      if inb (wr (x1 + 15)) 1330 then
        if (h 77 (Int.toNat (wr (x1 + 15)))) ≤ (wr (Int.tdiv x2 12)) then
          f_X5_clears_J49 (f_X5_clears_L24 x1 n) x1 x2 h
        else
          if inb (wr (x1 + 16)) 1330 then
            if (h 77 (Int.toNat (wr (x1 + 16)))) ≤ (wr (x2 - Int.tdiv x2 12 * 12)) then
              f_X5_clears_J49 (f_X5_clears_L24 x1 n) x1 x2 h
            else
              f_X5_clears_J50 (f_X5_clears_L24 x1 n) x1 x2 1 h
          else none
      else none := rfl
noncomputable def f_X5_clears (x1 : Int) (h : Hp) : Option (Int × Hp) :=
  (f_X5_clears_L2 x1
    (fun h4 =>
      (f_X5_clears_L24 x1
         fu 0 h4))
     fu 0 h)
noncomputable def f_X5_byAsking_L15 (x1 : Int) (x2 : Int) (c23 : Hp → Option (Int × Hp)) (n : Nat) : Int → Hp → Option (Int × Hp) :=
  Nat.rec (motive := fun _ => Int → Hp → Option (Int × Hp)) (fun _ _ => none) (fun _ rec x3 h =>
    if x3 = (-1) then
      c23 h
    else
      bd (f_X5_asksOn x3 h) fun r2 h2 =>
      rec r2 h2) n
theorem f_X5_byAsking_L15_s (x1 : Int) (x2 : Int) (c23 : Hp → Option (Int × Hp)) (n : Nat) (x3 : Int) (h : Hp) : f_X5_byAsking_L15 x1 x2 c23 (n + 1) x3 h =
    if x3 = (-1) then
      c23 h
    else
      bd (f_X5_asksOn x3 h) fun r2 h2 =>
      f_X5_byAsking_L15 x1 x2 c23 n r2 h2 := rfl
noncomputable def f_X5_byAsking_L5 (x1 : Int) (c25 : Hp → Option (Int × Hp)) (n : Nat) : Int → Hp → Option (Int × Hp) :=
  Nat.rec (motive := fun _ => Int → Hp → Option (Int × Hp)) (fun _ _ => none) (fun _ rec x2 h =>
    if inb (wr (x1 + 16)) 1330 then
      if (h 77 (Int.toNat (wr (x1 + 16)))) ≤ x2 then
        c25 h
      else
        (f_X5_byAsking_L15 x1 x2
          (fun h3 =>
            rec (wr (x2 + 1)) h3)
           fu x2 h)
    else none) n
theorem f_X5_byAsking_L5_s (x1 : Int) (c25 : Hp → Option (Int × Hp)) (n : Nat) (x2 : Int) (h : Hp) : f_X5_byAsking_L5 x1 c25 (n + 1) x2 h =
    if inb (wr (x1 + 16)) 1330 then
      if (h 77 (Int.toNat (wr (x1 + 16)))) ≤ x2 then
        c25 h
      else
        (f_X5_byAsking_L15 x1 x2
          (fun h3 =>
            f_X5_byAsking_L5 x1 c25 n (wr (x2 + 1)) h3)
           fu x2 h)
    else none := rfl
noncomputable def f_X5_byAsking_L29  (n : Nat) : Int → Int → Hp → Option (Int × Hp) :=
  Nat.rec (motive := fun _ => Int → Int → Hp → Option (Int × Hp)) (fun _ _ _ => none) (fun _ rec x2 x3 h =>
    if 12 ≤ x3 then
      some (x2, h)
    else
      if inb x3 12 then
        if ¬ (h 79 (Int.toNat x3)) = (-1) then
          lv (wr (x2 + 1)) fun y5 =>
          rec y5 (wr (x3 + 1)) h
        else
          lv (wr (x2 + 0)) fun y6 =>
          rec y6 (wr (x3 + 1)) h
      else none) n
theorem f_X5_byAsking_L29_s  (n : Nat) (x2 : Int) (x3 : Int) (h : Hp) : f_X5_byAsking_L29  (n + 1) x2 x3 h =
    if 12 ≤ x3 then
      some (x2, h)
    else
      if inb x3 12 then
        if ¬ (h 79 (Int.toNat x3)) = (-1) then
          lv (wr (x2 + 1)) fun y5 =>
          f_X5_byAsking_L29  n y5 (wr (x3 + 1)) h
        else
          lv (wr (x2 + 0)) fun y6 =>
          f_X5_byAsking_L29  n y6 (wr (x3 + 1)) h
      else none := rfl
noncomputable def f_X5_byAsking (x1 : Int) (h : Hp) : Option (Int × Hp) :=
  bd (f_X5_clears x1 h) fun _ h1 =>
  (f_X5_byAsking_L5 x1
    (fun h4 =>
      (f_X5_byAsking_L29 
         fu 0 0 h4))
     fu 0 h1)
noncomputable def f_X5_lays (x1 : Int) (x2 : Int) (x3 : Int) (x4 : Int) (x5 : Int) (h : Hp) : Option (Int × Hp) :=
  if inb x1 1330 then
    lt (hup h 77 (Int.toNat x1) x2) fun h1 =>
    if inb (wr (x1 + 1)) 1330 then
      lt (hup h1 77 (Int.toNat (wr (x1 + 1))) x3) fun h2 =>
      if inb (wr (x1 + 2)) 1330 then
        lt (hup h2 77 (Int.toNat (wr (x1 + 2))) x4) fun h3 =>
        if inb (wr (x1 + 3)) 1330 then
          lt (hup h3 77 (Int.toNat (wr (x1 + 3))) x5) fun h4 =>
          if inb (wr (x1 + 4)) 1330 then
            lt (hup h4 77 (Int.toNat (wr (x1 + 4))) 0) fun h5 =>
            some (0, h5)
          else none
        else none
      else none
    else none
  else none
noncomputable def f_X5_claims (x1 : Int) (x2 : Int) (x3 : Int) (x4 : Int) (x5 : Int) (h : Hp) : Option (Int × Hp) :=
  bd (f_X5_areValues (-1) x2 x3 x4 x5 h) fun r1 h1 =>
  if ¬ r1 = 0 then
    if ¬ (wr ((wr ((wr (x2 + x3)) + x4)) + x5)) = (-4) then
      if inb (wr (x1 + 16)) 1330 then
        if ¬ (h1 77 (Int.toNat (wr (x1 + 16)))) = 12 then
          if inb (wr (x1 + 16)) 1330 then
            bd (f_X5_claimAt x1 (h1 77 (Int.toNat (wr (x1 + 16)))) h1) fun r2 h2 =>
            bd (f_X5_lays r2 x2 x3 x4 x5 h2) fun _ h3 =>
            if inb (wr (x1 + 16)) 1330 then
              bd (f_X5_claimAt x1 (h3 77 (Int.toNat (wr (x1 + 16)))) h3) fun r4 h4 =>
              if inb (wr (r4 + 5)) 1330 then
                lt (hup h4 77 (Int.toNat (wr (r4 + 5))) 0) fun h5 =>
                if inb (wr (x1 + 9)) 1330 then
                  if inb (wr (x1 + 9)) 1330 then
                    lt (hup h5 77 (Int.toNat (wr (x1 + 9))) (wr ((h5 77 (Int.toNat (wr (x1 + 9)))) + 1))) fun h6 =>
                    if inb (wr (x1 + 16)) 1330 then
                      if inb (wr (x1 + 16)) 1330 then
                        lt (hup h6 77 (Int.toNat (wr (x1 + 16))) (wr ((h6 77 (Int.toNat (wr (x1 + 16)))) + 1))) fun h7 =>
                        if inb (wr (x1 + 16)) 1330 then
                          some ((wr ((h7 77 (Int.toNat (wr (x1 + 16)))) - 1)), h7)
                        else none
                      else none
                    else none
                  else none
                else none
              else none
            else none
          else none
        else
          some ((-1000003), h1)
      else none
    else
      some ((-1000002), h1)
  else
    some ((-1000001), h1)
noncomputable def f_X5_copies_L2 (x1 : Int) (x2 : Int) (n : Nat) : Int → Hp → Option (Int × Hp) :=
  Nat.rec (motive := fun _ => Int → Hp → Option (Int × Hp)) (fun _ _ => none) (fun _ rec x3 h =>
    if 190 ≤ x3 then
      some (0, h)
    else
      if inb (wr ((wr (190 * x1)) + x3)) 1330 then
        if inb (wr ((wr (190 * x2)) + x3)) 1330 then
          lt (hup h 77 (Int.toNat (wr ((wr (190 * x2)) + x3))) (h 77 (Int.toNat (wr ((wr (190 * x1)) + x3))))) fun h1 =>
          rec (wr (x3 + 1)) h1
        else none
      else none) n
theorem f_X5_copies_L2_s (x1 : Int) (x2 : Int) (n : Nat) (x3 : Int) (h : Hp) : f_X5_copies_L2 x1 x2 (n + 1) x3 h =
    if 190 ≤ x3 then
      some (0, h)
    else
      if inb (wr ((wr (190 * x1)) + x3)) 1330 then
        if inb (wr ((wr (190 * x2)) + x3)) 1330 then
          lt (hup h 77 (Int.toNat (wr ((wr (190 * x2)) + x3))) (h 77 (Int.toNat (wr ((wr (190 * x1)) + x3))))) fun h1 =>
          f_X5_copies_L2 x1 x2 n (wr (x3 + 1)) h1
        else none
      else none := rfl
noncomputable def f_X5_copies (x1 : Int) (x2 : Int) (h : Hp) : Option (Int × Hp) :=
  (f_X5_copies_L2 x1 x2
     fu 0 h)
noncomputable def f_X5_records_J23  (h : Hp) : Option (Int × Hp) :=
  lt (hup h 76 1 (wr ((h 76 1) + 1))) fun h1 =>
  bd (f_X5_copies 0 (h1 76 1) h1) fun _ h2 =>
  some (0, h2)
noncomputable def f_X5_records_L6 (c17 : Hp → Option (Int × Hp)) (n : Nat) : Int → Hp → Option (Int × Hp) :=
  Nat.rec (motive := fun _ => Int → Hp → Option (Int × Hp)) (fun _ _ => none) (fun _ rec x1 h =>
    if 4 ≤ x1 then
      c17 h
    else
      bd (f_X5_copies (wr (x1 + 1)) x1 h) fun _ h3 =>
      rec (wr (x1 + 1)) h3) n
theorem f_X5_records_L6_s (c17 : Hp → Option (Int × Hp)) (n : Nat) (x1 : Int) (h : Hp) : f_X5_records_L6 c17 (n + 1) x1 h =
    if 4 ≤ x1 then
      c17 h
    else
      bd (f_X5_copies (wr (x1 + 1)) x1 h) fun _ h3 =>
      f_X5_records_L6 c17 n (wr (x1 + 1)) h3 := rfl
noncomputable def f_X5_records  (h : Hp) : Option (Int × Hp) :=
  if ¬ (h 76 1) = 4 then
    f_X5_records_J23  h
  else
    (f_X5_records_L6 
      (fun h4 =>
        lt (hup h4 76 1 (wr ((h4 76 1) - 1))) fun h5 =>
        f_X5_records_J23  h5)
       fu 1 h)
noncomputable def f_X5_done (x1 : Int) (h : Hp) : Option (Int × Hp) :=
  if x1 < 0 then
    some (x1, h)
  else
    bd (f_X5_records  h) fun _ h1 =>
    bd (f_X5_copies 5 0 h1) fun _ h2 =>
    some (x1, h2)
noncomputable def f_X5_tried  (h : Hp) : Option (Int × Hp) :=
  bd (f_X5_copies 0 5 h) fun _ h1 =>
  some (950, h1)
noncomputable def f_X5_claim (x1 : Int) (x2 : Int) (x3 : Int) (x4 : Int) (h : Hp) : Option (Int × Hp) :=
  bd (f_X5_tried  h) fun r1 h1 =>
  bd (f_X5_claims r1 x1 x2 x3 x4 h1) fun r2 h2 =>
  bd (f_X5_done r2 h2) fun r3 h3 =>
  some (r3, h3)
noncomputable def f_X5_claimGoes_L14 (x1 : Int) (n : Nat) : Int → Hp → Option (Int × Hp) :=
  Nat.rec (motive := fun _ => Int → Hp → Option (Int × Hp)) (fun _ _ => none) (fun _ rec x3 h =>
    if inb (wr (x1 + 16)) 1330 then
      bd (f_X5_claimAt x1 (h 77 (Int.toNat (wr (x1 + 16)))) h) fun r3 h3 =>
      if r3 ≤ x3 then
        some (0, h3)
      else
        if inb (wr (x3 + 6)) 1330 then
          if inb x3 1330 then
            lt (hup h3 77 (Int.toNat x3) (h3 77 (Int.toNat (wr (x3 + 6))))) fun h4 =>
            rec (wr (x3 + 1)) h4
          else none
        else none
    else none) n
theorem f_X5_claimGoes_L14_s (x1 : Int) (n : Nat) (x3 : Int) (h : Hp) : f_X5_claimGoes_L14 x1 (n + 1) x3 h =
    if inb (wr (x1 + 16)) 1330 then
      bd (f_X5_claimAt x1 (h 77 (Int.toNat (wr (x1 + 16)))) h) fun r3 h3 =>
      if r3 ≤ x3 then
        some (0, h3)
      else
        if inb (wr (x3 + 6)) 1330 then
          if inb x3 1330 then
            lt (hup h3 77 (Int.toNat x3) (h3 77 (Int.toNat (wr (x3 + 6))))) fun h4 =>
            f_X5_claimGoes_L14 x1 n (wr (x3 + 1)) h4
          else none
        else none
    else none := rfl
noncomputable def f_X5_claimGoes (x1 : Int) (x2 : Int) (h : Hp) : Option (Int × Hp) :=
  if inb (wr (x1 + 16)) 1330 then
    if inb (wr (x1 + 16)) 1330 then
      lt (hup h 77 (Int.toNat (wr (x1 + 16))) (wr ((h 77 (Int.toNat (wr (x1 + 16)))) - 1))) fun h1 =>
      bd (f_X5_claimAt x1 x2 h1) fun r2 h2 =>
      (f_X5_claimGoes_L14 x1
         fu r2 h2)
    else none
  else none
noncomputable def f_X5_isClaim (x1 : Int) (x2 : Int) (h : Hp) : Option (Int × Hp) :=
  if inb (wr (x1 + 16)) 1330 then
    bd (f_X5_in x2 0 (wr ((h 77 (Int.toNat (wr (x1 + 16)))) - 1)) h) fun r1 h1 =>
    if isB r1 then some (r1, h1) else none
  else none
noncomputable def f_X5_matches_J41 (c13 : Int → Int → Hp → Option (Int × Hp)) (x2 : Int) (x4 : Int) (x5 : Int) (s0 : Int) (h : Hp) : Option (Int × Hp) :=
  if s0 = 0 then
    c13 x4 (wr (x5 + 1)) h
  else
    if x4 = (-1) then
      c13 x5 (wr (x5 + 1)) h
    else
      if inb x5 144 then
        if inb x4 144 then
          if (h 81 (Int.toNat x5)) ≤ (h 81 (Int.toNat x4)) then
            c13 x4 (wr (x5 + 1)) h
          else
            c13 x5 (wr (x5 + 1)) h
        else none
      else none
noncomputable def f_X5_matches_J40 (c13 : Int → Int → Hp → Option (Int × Hp)) (x2 : Int) (x4 : Int) (x5 : Int) (h : Hp) : Option (Int × Hp) :=
  f_X5_matches_J41 c13 x2 x4 x5 0 h
noncomputable def f_X5_matches_L13 (x2 : Int) (c62 : Int → Hp → Option (Int × Hp)) (n : Nat) : Int → Int → Hp → Option (Int × Hp) :=
  Nat.rec (motive := fun _ => Int → Int → Hp → Option (Int × Hp)) (fun _ _ _ => none) (fun _ rec x4 x5 h =>
    if 144 ≤ x5 then
      c62 x4 h
    else
      if inb x5 144 then
        if (h 81 (Int.toNat x5)) = (-1) then
          f_X5_matches_J40 rec x2 x4 x5 h
        else
          if inb (wr (Int.tdiv x5 12)) 12 then
            if ¬ (h 79 (Int.toNat (wr (Int.tdiv x5 12)))) = (-1) then
              f_X5_matches_J40 rec x2 x4 x5 h
            else
              if inb (wr (x5 - Int.tdiv x5 12 * 12)) 12 then
                if ¬ (h 80 (Int.toNat (wr (x5 - Int.tdiv x5 12 * 12)))) = (-1) then
                  f_X5_matches_J40 rec x2 x4 x5 h
                else
                  f_X5_matches_J41 rec x2 x4 x5 1 h
              else none
          else none
      else none) n
theorem f_X5_matches_L13_s (x2 : Int) (c62 : Int → Hp → Option (Int × Hp)) (n : Nat) (x4 : Int) (x5 : Int) (h : Hp) : f_X5_matches_L13 x2 c62 (n + 1) x4 x5 h =
    if 144 ≤ x5 then
      c62 x4 h
    else
      if inb x5 144 then
        if (h 81 (Int.toNat x5)) = (-1) then
          f_X5_matches_J40 (f_X5_matches_L13 x2 c62 n) x2 x4 x5 h
        else
          if inb (wr (Int.tdiv x5 12)) 12 then
            if ¬ (h 79 (Int.toNat (wr (Int.tdiv x5 12)))) = (-1) then
              f_X5_matches_J40 (f_X5_matches_L13 x2 c62 n) x2 x4 x5 h
            else
              if inb (wr (x5 - Int.tdiv x5 12 * 12)) 12 then
                if ¬ (h 80 (Int.toNat (wr (x5 - Int.tdiv x5 12 * 12)))) = (-1) then
                  f_X5_matches_J40 (f_X5_matches_L13 x2 c62 n) x2 x4 x5 h
                else
                  f_X5_matches_J41 (f_X5_matches_L13 x2 c62 n) x2 x4 x5 1 h
              else none
          else none
      else none := rfl
noncomputable def f_X5_matches_J68 (c7 : Int → Int → Hp → Option (Int × Hp)) (x2 : Int) (x4 : Int) (s0 : Int) (h : Hp) : Option (Int × Hp) :=
  if s0 = 0 then
    c7 x2 s0 h
  else
    if inb (wr (Int.tdiv x4 12)) 12 then
      lt (hup h 79 (Int.toNat (wr (Int.tdiv x4 12))) (wr (x4 - Int.tdiv x4 12 * 12))) fun h4 =>
      if inb (wr (x4 - Int.tdiv x4 12 * 12)) 12 then
        lt (hup h4 80 (Int.toNat (wr (x4 - Int.tdiv x4 12 * 12))) (wr (Int.tdiv x4 12))) fun h5 =>
        c7 (wr (x2 + 1)) s0 h5
      else none
    else none
noncomputable def f_X5_matches_L7  (n : Nat) : Int → Int → Hp → Option (Int × Hp) :=
  Nat.rec (motive := fun _ => Int → Int → Hp → Option (Int × Hp)) (fun _ _ _ => none) (fun _ rec x2 x3 h =>
    if x3 = 0 then
      some (x2, h)
    else
      (f_X5_matches_L13 x2
        (fun y2 h3 =>
          if y2 = (-1) then
            f_X5_matches_J68 rec x2 y2 0 h3
          else
            f_X5_matches_J68 rec x2 y2 1 h3)
         fu (-1) 0 h)) n
theorem f_X5_matches_L7_s  (n : Nat) (x2 : Int) (x3 : Int) (h : Hp) : f_X5_matches_L7  (n + 1) x2 x3 h =
    if x3 = 0 then
      some (x2, h)
    else
      (f_X5_matches_L13 x2
        (fun y2 h3 =>
          if y2 = (-1) then
            f_X5_matches_J68 (f_X5_matches_L7  n) x2 y2 0 h3
          else
            f_X5_matches_J68 (f_X5_matches_L7  n) x2 y2 1 h3)
         fu (-1) 0 h) := rfl
noncomputable def f_X5_matches (x1 : Int) (h : Hp) : Option (Int × Hp) :=
  bd (f_X5_clears x1 h) fun _ h1 =>
  (f_X5_matches_L7 
     fu 0 1 h1)
noncomputable def f_X5_matchOf (x1 : Int) (x2 : Int) (h : Hp) : Option (Int × Hp) :=
  bd (f_X5_matches x1 h) fun r1 h1 =>
  if inb x2 12 then
    if ¬ (h1 80 (Int.toNat x2)) = (-1) then
      if inb x2 12 then
        some ((h1 80 (Int.toNat x2)), h1)
      else none
    else
      some ((-1000004), h1)
  else none
noncomputable def f_X5_suiting_J30 (c7 : Int → Int → Hp → Option (Int × Hp)) (x1 : Int) (x2 : Int) (x3 : Int) (x4 : Int) (s0 : Int) (h : Hp) : Option (Int × Hp) :=
  if s0 = 0 then
    lv (wr (x3 + 0)) fun y2 =>
    c7 y2 (wr (x4 + 1)) h
  else
    if inb x4 144 then
      if (h 81 (Int.toNat x4)) = (-1) then
        lv (wr (x3 + 0)) fun y3 =>
        c7 y3 (wr (x4 + 1)) h
      else
        lv (wr (x3 + 1)) fun y4 =>
        c7 y4 (wr (x4 + 1)) h
    else none
noncomputable def f_X5_suiting_L7 (x1 : Int) (x2 : Int) (n : Nat) : Int → Int → Hp → Option (Int × Hp) :=
  Nat.rec (motive := fun _ => Int → Int → Hp → Option (Int × Hp)) (fun _ _ _ => none) (fun _ rec x3 x4 h =>
    if 144 ≤ x4 then
      some (x3, h)
    else
      if ¬ x1 = (-1) then
        if ¬ (wr (Int.tdiv x4 12)) = x1 then
          f_X5_suiting_J30 rec x1 x2 x3 x4 0 h
        else
          f_X5_suiting_J30 rec x1 x2 x3 x4 1 h
      else
        if ¬ (wr (x4 - Int.tdiv x4 12 * 12)) = x2 then
          f_X5_suiting_J30 rec x1 x2 x3 x4 0 h
        else
          f_X5_suiting_J30 rec x1 x2 x3 x4 1 h) n
theorem f_X5_suiting_L7_s (x1 : Int) (x2 : Int) (n : Nat) (x3 : Int) (x4 : Int) (h : Hp) : f_X5_suiting_L7 x1 x2 (n + 1) x3 x4 h =
    if 144 ≤ x4 then
      some (x3, h)
    else
      if ¬ x1 = (-1) then
        if ¬ (wr (Int.tdiv x4 12)) = x1 then
          f_X5_suiting_J30 (f_X5_suiting_L7 x1 x2 n) x1 x2 x3 x4 0 h
        else
          f_X5_suiting_J30 (f_X5_suiting_L7 x1 x2 n) x1 x2 x3 x4 1 h
      else
        if ¬ (wr (x4 - Int.tdiv x4 12 * 12)) = x2 then
          f_X5_suiting_J30 (f_X5_suiting_L7 x1 x2 n) x1 x2 x3 x4 0 h
        else
          f_X5_suiting_J30 (f_X5_suiting_L7 x1 x2 n) x1 x2 x3 x4 1 h := rfl
noncomputable def f_X5_suiting (x1 : Int) (x2 : Int) (h : Hp) : Option (Int × Hp) :=
  bd (f_X5_clears 0 h) fun _ h1 =>
  (f_X5_suiting_L7 x1 x2
     fu 0 0 h1)
noncomputable def f_X5_claimOf (x1 : Int) (x2 : Int) (h : Hp) : Option (Int × Hp) :=
  bd (f_X5_isClaim 0 x1 h) fun r1 h1 =>
  if r1 = 0 then
    some ((-1000001), h1)
  else
    bd (f_X5_in x2 0 7 h1) fun r2 h2 =>
    if ¬ r2 = 0 then
      bd (f_X5_claimAt 0 x1 h2) fun r3 h3 =>
      if x2 = 4 then
        if inb (wr (r3 + 4)) 1330 then
          some ((h3 77 (Int.toNat (wr (r3 + 4)))), h3)
        else none
      else
        if x2 = 5 then
          bd (f_X5_matchOf 0 x1 h3) fun r5 h5 =>
          some (r5, h5)
        else
          if x2 = 6 then
            bd (f_X5_suiting (-1) x1 h3) fun r7 h7 =>
            some (r7, h7)
          else
            if x2 = 7 then
              if inb (wr (r3 + 5)) 1330 then
                some ((h3 77 (Int.toNat (wr (r3 + 5)))), h3)
              else none
            else
              if inb (wr (r3 + x2)) 1330 then
                if ¬ (h3 77 (Int.toNat (wr (r3 + x2)))) = (-1) then
                  if inb (wr (r3 + x2)) 1330 then
                    some ((h3 77 (Int.toNat (wr (r3 + x2)))), h3)
                  else none
                else
                  some ((-1000004), h3)
              else none
    else
      some ((-1000001), h2)
noncomputable def f_X5_clearText  (h : Hp) : Option (Int × Hp) :=
  lv (h 76 3) fun y1 =>
  lt (hup h 76 3 0) fun h2 =>
  some (y1, h2)
noncomputable def f_X5_count (x1 : Int) (h : Hp) : Option (Int × Hp) :=
  bd (f_X5_in x1 20 26 h) fun r1 h1 =>
  if r1 = 0 then
    if x1 = 0 then
      if inb 0 1330 then
        some ((h1 77 (Int.toNat 0)), h1)
      else none
    else
      if x1 = 1 then
        if inb (wr ((wr (15 + x1)) - 1)) 1330 then
          some ((h1 77 (Int.toNat (wr ((wr (15 + x1)) - 1)))), h1)
        else none
      else
        if x1 = 2 then
          if inb (wr ((wr (15 + x1)) - 1)) 1330 then
            some ((h1 77 (Int.toNat (wr ((wr (15 + x1)) - 1)))), h1)
          else none
        else
          if x1 = 3 then
            bd (f_X5_matches 0 h1) fun r5 h5 =>
            some (r5, h5)
          else
            if x1 = 4 then
              bd (f_X5_byAsking 0 h1) fun r7 h7 =>
              some (r7, h7)
            else
              if x1 = 5 then
                if inb (wr ((wr (8 + x1)) - 5)) 1330 then
                  some ((h1 77 (Int.toNat (wr ((wr (8 + x1)) - 5)))), h1)
                else none
              else
                if x1 = 6 then
                  if inb (wr ((wr (8 + x1)) - 5)) 1330 then
                    some ((h1 77 (Int.toNat (wr ((wr (8 + x1)) - 5)))), h1)
                  else none
                else
                  if x1 = 7 then
                    if inb (wr ((wr (8 + x1)) - 5)) 1330 then
                      some ((h1 77 (Int.toNat (wr ((wr (8 + x1)) - 5)))), h1)
                    else none
                  else
                    if x1 = 8 then
                      if inb (wr ((wr (8 + x1)) - 5)) 1330 then
                        some ((h1 77 (Int.toNat (wr ((wr (8 + x1)) - 5)))), h1)
                      else none
                    else
                      if x1 = 9 then
                        if inb (wr ((wr (8 + x1)) - 5)) 1330 then
                          some ((h1 77 (Int.toNat (wr ((wr (8 + x1)) - 5)))), h1)
                        else none
                      else
                        if x1 = 10 then
                          if inb (wr ((wr (8 + x1)) - 5)) 1330 then
                            some ((h1 77 (Int.toNat (wr ((wr (8 + x1)) - 5)))), h1)
                          else none
                        else
                          if x1 = 11 then
                            if inb (wr ((wr (8 + x1)) - 5)) 1330 then
                              some ((h1 77 (Int.toNat (wr ((wr (8 + x1)) - 5)))), h1)
                            else none
                          else
                            if x1 = 12 then
                              if inb 17 1330 then
                                some ((h1 77 (Int.toNat 17)), h1)
                              else none
                            else
                              if x1 = 13 then
                                some ((h1 76 1), h1)
                              else
                                if x1 = 14 then
                                  some ((h1 76 3), h1)
                                else
                                  some ((-1000001), h1)
  else
    if inb (wr ((wr (1 + x1)) - 20)) 1330 then
      some ((h1 77 (Int.toNat (wr ((wr (1 + x1)) - 20)))), h1)
    else none
noncomputable def f_X5_finds (x1 : Int) (x2 : Int) (x3 : Int) (x4 : Int) (x5 : Int) (h : Hp) : Option (Int × Hp) :=
  bd (f_X5_areValues 0 x2 x3 x4 x5 h) fun r1 h1 =>
  if ¬ r1 = 0 then
    if inb (wr (x1 + 15)) 1330 then
      if ¬ (h1 77 (Int.toNat (wr (x1 + 15)))) = 12 then
        if inb (wr (x1 + 15)) 1330 then
          bd (f_X5_umbrellaAt x1 (h1 77 (Int.toNat (wr (x1 + 15)))) h1) fun r2 h2 =>
          bd (f_X5_lays r2 x2 x3 x4 x5 h2) fun _ h3 =>
          if inb (wr (x1 + 8)) 1330 then
            if inb (wr (x1 + 8)) 1330 then
              lt (hup h3 77 (Int.toNat (wr (x1 + 8))) (wr ((h3 77 (Int.toNat (wr (x1 + 8)))) + 1))) fun h4 =>
              if inb (wr (x1 + 15)) 1330 then
                if inb (wr (x1 + 15)) 1330 then
                  lt (hup h4 77 (Int.toNat (wr (x1 + 15))) (wr ((h4 77 (Int.toNat (wr (x1 + 15)))) + 1))) fun h5 =>
                  if inb (wr (x1 + 15)) 1330 then
                    some ((wr ((h5 77 (Int.toNat (wr (x1 + 15)))) - 1)), h5)
                  else none
                else none
              else none
            else none
          else none
        else none
      else
        some ((-1000003), h1)
    else none
  else
    some ((-1000001), h1)
noncomputable def f_X5_umbrellaGoes_L14 (x1 : Int) (n : Nat) : Int → Hp → Option (Int × Hp) :=
  Nat.rec (motive := fun _ => Int → Hp → Option (Int × Hp)) (fun _ _ => none) (fun _ rec x3 h =>
    if inb (wr (x1 + 15)) 1330 then
      bd (f_X5_umbrellaAt x1 (h 77 (Int.toNat (wr (x1 + 15)))) h) fun r3 h3 =>
      if r3 ≤ x3 then
        some (0, h3)
      else
        if inb (wr (x3 + 5)) 1330 then
          if inb x3 1330 then
            lt (hup h3 77 (Int.toNat x3) (h3 77 (Int.toNat (wr (x3 + 5))))) fun h4 =>
            rec (wr (x3 + 1)) h4
          else none
        else none
    else none) n
theorem f_X5_umbrellaGoes_L14_s (x1 : Int) (n : Nat) (x3 : Int) (h : Hp) : f_X5_umbrellaGoes_L14 x1 (n + 1) x3 h =
    if inb (wr (x1 + 15)) 1330 then
      bd (f_X5_umbrellaAt x1 (h 77 (Int.toNat (wr (x1 + 15)))) h) fun r3 h3 =>
      if r3 ≤ x3 then
        some (0, h3)
      else
        if inb (wr (x3 + 5)) 1330 then
          if inb x3 1330 then
            lt (hup h3 77 (Int.toNat x3) (h3 77 (Int.toNat (wr (x3 + 5))))) fun h4 =>
            f_X5_umbrellaGoes_L14 x1 n (wr (x3 + 1)) h4
          else none
        else none
    else none := rfl
noncomputable def f_X5_umbrellaGoes (x1 : Int) (x2 : Int) (h : Hp) : Option (Int × Hp) :=
  if inb (wr (x1 + 15)) 1330 then
    if inb (wr (x1 + 15)) 1330 then
      lt (hup h 77 (Int.toNat (wr (x1 + 15))) (wr ((h 77 (Int.toNat (wr (x1 + 15)))) - 1))) fun h1 =>
      bd (f_X5_umbrellaAt x1 x2 h1) fun r2 h2 =>
      (f_X5_umbrellaGoes_L14 x1
         fu r2 h2)
    else none
  else none
noncomputable def f_X5_writes_J41 (x1 : Int) (x2 : Int) (x3 : Int) (x4 : Int) (h : Hp) : Option (Int × Hp) :=
  if inb (wr (x1 + 17)) 1330 then
    lv (wr ((wr (x1 + 150)) + (wr (4 * (h 77 (Int.toNat (wr (x1 + 17)))))))) fun y1 =>
    if inb (wr (x1 + 0)) 1330 then
      if inb y1 1330 then
        lt (hup h 77 (Int.toNat y1) (h 77 (Int.toNat (wr (x1 + 0))))) fun h2 =>
        if inb (wr (y1 + 1)) 1330 then
          lt (hup h2 77 (Int.toNat (wr (y1 + 1))) x2) fun h3 =>
          if inb (wr (y1 + 2)) 1330 then
            lt (hup h3 77 (Int.toNat (wr (y1 + 2))) x3) fun h4 =>
            if inb (wr (y1 + 3)) 1330 then
              lt (hup h4 77 (Int.toNat (wr (y1 + 3))) x4) fun h5 =>
              if inb (wr (x1 + 17)) 1330 then
                if inb (wr (x1 + 17)) 1330 then
                  lt (hup h5 77 (Int.toNat (wr (x1 + 17))) (wr ((h5 77 (Int.toNat (wr (x1 + 17)))) + 1))) fun h6 =>
                  if inb (wr (x1 + 13)) 1330 then
                    if inb (wr (x1 + 13)) 1330 then
                      lt (hup h6 77 (Int.toNat (wr (x1 + 13))) (wr ((h6 77 (Int.toNat (wr (x1 + 13)))) + x4))) fun h7 =>
                      some (0, h7)
                    else none
                  else none
                else none
              else none
            else none
          else none
        else none
      else none
    else none
  else none
noncomputable def f_X5_writes_L12 (x1 : Int) (x2 : Int) (x3 : Int) (x4 : Int) (c31 : Hp → Option (Int × Hp)) (n : Nat) : Int → Hp → Option (Int × Hp) :=
  Nat.rec (motive := fun _ => Int → Hp → Option (Int × Hp)) (fun _ _ => none) (fun _ rec x5 h =>
    if (wr ((wr (x1 + 150)) + 36)) ≤ x5 then
      c31 h
    else
      if inb (wr (x5 + 4)) 1330 then
        if inb x5 1330 then
          lt (hup h 77 (Int.toNat x5) (h 77 (Int.toNat (wr (x5 + 4))))) fun h9 =>
          rec (wr (x5 + 1)) h9
        else none
      else none) n
theorem f_X5_writes_L12_s (x1 : Int) (x2 : Int) (x3 : Int) (x4 : Int) (c31 : Hp → Option (Int × Hp)) (n : Nat) (x5 : Int) (h : Hp) : f_X5_writes_L12 x1 x2 x3 x4 c31 (n + 1) x5 h =
    if (wr ((wr (x1 + 150)) + 36)) ≤ x5 then
      c31 h
    else
      if inb (wr (x5 + 4)) 1330 then
        if inb x5 1330 then
          lt (hup h 77 (Int.toNat x5) (h 77 (Int.toNat (wr (x5 + 4))))) fun h9 =>
          f_X5_writes_L12 x1 x2 x3 x4 c31 n (wr (x5 + 1)) h9
        else none
      else none := rfl
noncomputable def f_X5_writes (x1 : Int) (x2 : Int) (x3 : Int) (x4 : Int) (h : Hp) : Option (Int × Hp) :=
  if inb (wr (x1 + 17)) 1330 then
    if ¬ (h 77 (Int.toNat (wr (x1 + 17)))) = 10 then
      f_X5_writes_J41 x1 x2 x3 x4 h
    else
      lv (wr (x1 + 150)) fun y8 =>
      (f_X5_writes_L12 x1 x2 x3 x4
        (fun h10 =>
          if inb (wr (x1 + 17)) 1330 then
            if inb (wr (x1 + 17)) 1330 then
              lt (hup h10 77 (Int.toNat (wr (x1 + 17))) (wr ((h10 77 (Int.toNat (wr (x1 + 17)))) - 1))) fun h11 =>
              f_X5_writes_J41 x1 x2 x3 x4 h11
            else none
          else none)
         fu y8 h)
  else none
noncomputable def f_X5_handsOut_L6 (x1 : Int) (x2 : Int) (c44 : Hp → Option (Int × Hp)) (n : Nat) : Int → Hp → Option (Int × Hp) :=
  Nat.rec (motive := fun _ => Int → Hp → Option (Int × Hp)) (fun _ _ => none) (fun _ rec x3 h =>
    if inb (wr (x1 + 15)) 1330 then
      if (h 77 (Int.toNat (wr (x1 + 15)))) ≤ x3 then
        c44 h
      else
        if inb x3 12 then
          if (h 79 (Int.toNat x3)) = (-1) then
            rec (wr (x3 + 1)) h
          else
            bd (f_X5_umbrellaAt x1 x3 h) fun r2 h2 =>
            if inb (wr (r2 + 4)) 1330 then
              lv (h2 77 (Int.toNat (wr (r2 + 4)))) fun y3 =>
              if inb (wr (x1 + 5)) 1330 then
                bd (f_X5_writes x1 0 y3 (wr (y3 * (h2 77 (Int.toNat (wr (x1 + 5)))))) h2) fun _ h4 =>
                rec (wr (x3 + 1)) h4
              else none
            else none
        else none
    else none) n
theorem f_X5_handsOut_L6_s (x1 : Int) (x2 : Int) (c44 : Hp → Option (Int × Hp)) (n : Nat) (x3 : Int) (h : Hp) : f_X5_handsOut_L6 x1 x2 c44 (n + 1) x3 h =
    if inb (wr (x1 + 15)) 1330 then
      if (h 77 (Int.toNat (wr (x1 + 15)))) ≤ x3 then
        c44 h
      else
        if inb x3 12 then
          if (h 79 (Int.toNat x3)) = (-1) then
            f_X5_handsOut_L6 x1 x2 c44 n (wr (x3 + 1)) h
          else
            bd (f_X5_umbrellaAt x1 x3 h) fun r2 h2 =>
            if inb (wr (r2 + 4)) 1330 then
              lv (h2 77 (Int.toNat (wr (r2 + 4)))) fun y3 =>
              if inb (wr (x1 + 5)) 1330 then
                bd (f_X5_writes x1 0 y3 (wr (y3 * (h2 77 (Int.toNat (wr (x1 + 5)))))) h2) fun _ h4 =>
                f_X5_handsOut_L6 x1 x2 c44 n (wr (x3 + 1)) h4
              else none
            else none
        else none
    else none := rfl
noncomputable def f_X5_handsOut_J58 (c46 : Int → Hp → Option (Int × Hp)) (x1 : Int) (x2 : Int) (x3 : Int) (h : Hp) : Option (Int × Hp) :=
  if inb x3 12 then
    if (h 80 (Int.toNat x3)) = (-1) then
      c46 (wr (x3 + (-1))) h
    else
      bd (f_X5_claimGoes x1 x3 h) fun _ h6 =>
      c46 (wr (x3 + (-1))) h6
  else none
noncomputable def f_X5_handsOut_L46 (x1 : Int) (x2 : Int) (c70 : Hp → Option (Int × Hp)) (n : Nat) : Int → Hp → Option (Int × Hp) :=
  Nat.rec (motive := fun _ => Int → Hp → Option (Int × Hp)) (fun _ _ => none) (fun _ rec x3 h =>
    if x3 < 0 then
      c70 h
    else
      if inb x3 12 then
        if (h 79 (Int.toNat x3)) = (-1) then
          f_X5_handsOut_J58 rec x1 x2 x3 h
        else
          bd (f_X5_umbrellaGoes x1 x3 h) fun _ h7 =>
          f_X5_handsOut_J58 rec x1 x2 x3 h7
      else none) n
theorem f_X5_handsOut_L46_s (x1 : Int) (x2 : Int) (c70 : Hp → Option (Int × Hp)) (n : Nat) (x3 : Int) (h : Hp) : f_X5_handsOut_L46 x1 x2 c70 (n + 1) x3 h =
    if x3 < 0 then
      c70 h
    else
      if inb x3 12 then
        if (h 79 (Int.toNat x3)) = (-1) then
          f_X5_handsOut_J58 (f_X5_handsOut_L46 x1 x2 c70 n) x1 x2 x3 h
        else
          bd (f_X5_umbrellaGoes x1 x3 h) fun _ h7 =>
          f_X5_handsOut_J58 (f_X5_handsOut_L46 x1 x2 c70 n) x1 x2 x3 h7
      else none := rfl
noncomputable def f_X5_handsOut (x1 : Int) (h : Hp) : Option (Int × Hp) :=
  bd (f_X5_matches x1 h) fun r1 h1 =>
  (f_X5_handsOut_L6 x1 r1
    (fun h5 =>
      (f_X5_handsOut_L46 x1 r1
        (fun h8 =>
          if inb (wr (x1 + 10)) 1330 then
            if inb (wr (x1 + 10)) 1330 then
              lt (hup h8 77 (Int.toNat (wr (x1 + 10))) (wr ((h8 77 (Int.toNat (wr (x1 + 10)))) + r1))) fun h9 =>
              some (r1, h9)
            else none
          else none)
         fu 11 h5))
     fu 0 h1)
noncomputable def f_X5_isDetail (x0 : Int) (x1 : Int) (h : Hp) : Option (Int × Hp) :=
  bd (f_X5_in x0 0 3 h) fun r1 h1 =>
  if r1 = 0 then
    some (0, h1)
  else
    bd (f_X5_in x1 0 9 h1) fun r2 h2 =>
    if r2 = 0 then
      some (0, h2)
    else
      some (1, h2)
noncomputable def f_X5_tells_J41 (x3 : Int) (x4 : Int) (x5 : Int) (s1 : Int) (s2 : Int) (s3 : Int) (h : Hp) : Option (Int × Hp) :=
  if inb s1 1330 then
    lt (hup h 77 (Int.toNat s1) (wr (s2 + s3))) fun h4 =>
    if inb (wr (x5 + x3)) 1330 then
      lt (hup h4 77 (Int.toNat (wr (x5 + x3))) x4) fun h5 =>
      if inb (wr (x5 + 5)) 1330 then
        some ((h5 77 (Int.toNat (wr (x5 + 5)))), h5)
      else none
    else none
  else none
noncomputable def f_X5_tells_J40 (x3 : Int) (x4 : Int) (x5 : Int) (s1 : Int) (s2 : Int) (h : Hp) : Option (Int × Hp) :=
  f_X5_tells_J41 x3 x4 x5 s1 s2 0 h
noncomputable def f_X5_tells (x1 : Int) (x2 : Int) (x3 : Int) (x4 : Int) (h : Hp) : Option (Int × Hp) :=
  bd (f_X5_isClaim x1 x2 h) fun r1 h1 =>
  if r1 = 0 then
    some ((-1000001), h1)
  else
    bd (f_X5_isDetail x3 x4 h1) fun r2 h2 =>
    if ¬ r2 = 0 then
      bd (f_X5_claimAt x1 x2 h2) fun r3 h3 =>
      if inb (wr (r3 + 5)) 1330 then
        if inb (wr (r3 + x3)) 1330 then
          if (h3 77 (Int.toNat (wr (r3 + x3)))) = (-1) then
            f_X5_tells_J40 x3 x4 r3 (wr (r3 + 5)) (h3 77 (Int.toNat (wr (r3 + 5)))) h3
          else
            if inb (wr (r3 + x3)) 1330 then
              if (h3 77 (Int.toNat (wr (r3 + x3)))) = x4 then
                f_X5_tells_J40 x3 x4 r3 (wr (r3 + 5)) (h3 77 (Int.toNat (wr (r3 + 5)))) h3
              else
                f_X5_tells_J41 x3 x4 r3 (wr (r3 + 5)) (h3 77 (Int.toNat (wr (r3 + 5)))) 1 h3
            else none
        else none
      else none
    else
      some ((-1000001), h2)
noncomputable def f_X5_lapses_L2 (x1 : Int) (n : Nat) : Int → Hp → Option (Int × Hp) :=
  Nat.rec (motive := fun _ => Int → Hp → Option (Int × Hp)) (fun _ _ => none) (fun _ rec x2 h =>
    if inb (wr (x1 + 16)) 1330 then
      if (h 77 (Int.toNat (wr (x1 + 16)))) ≤ x2 then
        some (0, h)
      else
        bd (f_X5_claimAt x1 x2 h) fun r1 h1 =>
        if inb (wr (r1 + 4)) 1330 then
          lv (h1 77 (Int.toNat (wr (r1 + 4)))) fun y2 =>
          if inb (wr (x1 + 6)) 1330 then
            if y2 < (h1 77 (Int.toNat (wr (x1 + 6)))) then
              rec (wr (x2 + 1)) h1
            else
              bd (f_X5_writes x1 2 y2 0 h1) fun _ h3 =>
              if inb (wr (x1 + 12)) 1330 then
                if inb (wr (x1 + 12)) 1330 then
                  lt (hup h3 77 (Int.toNat (wr (x1 + 12))) (wr ((h3 77 (Int.toNat (wr (x1 + 12)))) + 1))) fun h4 =>
                  bd (f_X5_claimGoes x1 x2 h4) fun _ h5 =>
                  rec x2 h5
                else none
              else none
          else none
        else none
    else none) n
theorem f_X5_lapses_L2_s (x1 : Int) (n : Nat) (x2 : Int) (h : Hp) : f_X5_lapses_L2 x1 (n + 1) x2 h =
    if inb (wr (x1 + 16)) 1330 then
      if (h 77 (Int.toNat (wr (x1 + 16)))) ≤ x2 then
        some (0, h)
      else
        bd (f_X5_claimAt x1 x2 h) fun r1 h1 =>
        if inb (wr (r1 + 4)) 1330 then
          lv (h1 77 (Int.toNat (wr (r1 + 4)))) fun y2 =>
          if inb (wr (x1 + 6)) 1330 then
            if y2 < (h1 77 (Int.toNat (wr (x1 + 6)))) then
              f_X5_lapses_L2 x1 n (wr (x2 + 1)) h1
            else
              bd (f_X5_writes x1 2 y2 0 h1) fun _ h3 =>
              if inb (wr (x1 + 12)) 1330 then
                if inb (wr (x1 + 12)) 1330 then
                  lt (hup h3 77 (Int.toNat (wr (x1 + 12))) (wr ((h3 77 (Int.toNat (wr (x1 + 12)))) + 1))) fun h4 =>
                  bd (f_X5_claimGoes x1 x2 h4) fun _ h5 =>
                  f_X5_lapses_L2 x1 n x2 h5
                else none
              else none
          else none
        else none
    else none := rfl
noncomputable def f_X5_lapses (x1 : Int) (h : Hp) : Option (Int × Hp) :=
  (f_X5_lapses_L2 x1
     fu 0 h)
noncomputable def f_X5_sells_L2 (x1 : Int) (n : Nat) : Int → Hp → Option (Int × Hp) :=
  Nat.rec (motive := fun _ => Int → Hp → Option (Int × Hp)) (fun _ _ => none) (fun _ rec x2 h =>
    if inb (wr (x1 + 15)) 1330 then
      if (h 77 (Int.toNat (wr (x1 + 15)))) ≤ x2 then
        some (0, h)
      else
        bd (f_X5_umbrellaAt x1 x2 h) fun r1 h1 =>
        if inb (wr (r1 + 4)) 1330 then
          lv (h1 77 (Int.toNat (wr (r1 + 4)))) fun y2 =>
          if inb (wr (x1 + 6)) 1330 then
            if y2 < (h1 77 (Int.toNat (wr (x1 + 6)))) then
              rec (wr (x2 + 1)) h1
            else
              if inb (wr (x1 + 7)) 1330 then
                bd (f_X5_writes x1 1 y2 (h1 77 (Int.toNat (wr (x1 + 7)))) h1) fun _ h3 =>
                if inb (wr (x1 + 11)) 1330 then
                  if inb (wr (x1 + 11)) 1330 then
                    lt (hup h3 77 (Int.toNat (wr (x1 + 11))) (wr ((h3 77 (Int.toNat (wr (x1 + 11)))) + 1))) fun h4 =>
                    bd (f_X5_umbrellaGoes x1 x2 h4) fun _ h5 =>
                    rec x2 h5
                  else none
                else none
              else none
          else none
        else none
    else none) n
theorem f_X5_sells_L2_s (x1 : Int) (n : Nat) (x2 : Int) (h : Hp) : f_X5_sells_L2 x1 (n + 1) x2 h =
    if inb (wr (x1 + 15)) 1330 then
      if (h 77 (Int.toNat (wr (x1 + 15)))) ≤ x2 then
        some (0, h)
      else
        bd (f_X5_umbrellaAt x1 x2 h) fun r1 h1 =>
        if inb (wr (r1 + 4)) 1330 then
          lv (h1 77 (Int.toNat (wr (r1 + 4)))) fun y2 =>
          if inb (wr (x1 + 6)) 1330 then
            if y2 < (h1 77 (Int.toNat (wr (x1 + 6)))) then
              f_X5_sells_L2 x1 n (wr (x2 + 1)) h1
            else
              if inb (wr (x1 + 7)) 1330 then
                bd (f_X5_writes x1 1 y2 (h1 77 (Int.toNat (wr (x1 + 7)))) h1) fun _ h3 =>
                if inb (wr (x1 + 11)) 1330 then
                  if inb (wr (x1 + 11)) 1330 then
                    lt (hup h3 77 (Int.toNat (wr (x1 + 11))) (wr ((h3 77 (Int.toNat (wr (x1 + 11)))) + 1))) fun h4 =>
                    bd (f_X5_umbrellaGoes x1 x2 h4) fun _ h5 =>
                    f_X5_sells_L2 x1 n x2 h5
                  else none
                else none
              else none
          else none
        else none
    else none := rfl
noncomputable def f_X5_sells (x1 : Int) (h : Hp) : Option (Int × Hp) :=
  (f_X5_sells_L2 x1
     fu 0 h)
noncomputable def f_X5_goBy_L24 (x1 : Int) (x2 : Int) (x3 : Int) (x4 : Int) (c53 : Hp → Option (Int × Hp)) (n : Nat) : Int → Hp → Option (Int × Hp) :=
  Nat.rec (motive := fun _ => Int → Hp → Option (Int × Hp)) (fun _ _ => none) (fun _ rec x5 h =>
    if 12 ≤ x5 then
      c53 h
    else
      bd (f_X5_umbrellaAt x1 x5 h) fun r3 h3 =>
      if inb (wr (r3 + 4)) 1330 then
        if inb (wr (r3 + 4)) 1330 then
          lt (hup h3 77 (Int.toNat (wr (r3 + 4))) (wr ((h3 77 (Int.toNat (wr (r3 + 4)))) + 1))) fun h4 =>
          bd (f_X5_claimAt x1 x5 h4) fun r5 h5 =>
          if inb (wr (r5 + 4)) 1330 then
            if inb (wr (r5 + 4)) 1330 then
              lt (hup h5 77 (Int.toNat (wr (r5 + 4))) (wr ((h5 77 (Int.toNat (wr (r5 + 4)))) + 1))) fun h6 =>
              rec (wr (x5 + 1)) h6
            else none
          else none
        else none
      else none) n
theorem f_X5_goBy_L24_s (x1 : Int) (x2 : Int) (x3 : Int) (x4 : Int) (c53 : Hp → Option (Int × Hp)) (n : Nat) (x5 : Int) (h : Hp) : f_X5_goBy_L24 x1 x2 x3 x4 c53 (n + 1) x5 h =
    if 12 ≤ x5 then
      c53 h
    else
      bd (f_X5_umbrellaAt x1 x5 h) fun r3 h3 =>
      if inb (wr (r3 + 4)) 1330 then
        if inb (wr (r3 + 4)) 1330 then
          lt (hup h3 77 (Int.toNat (wr (r3 + 4))) (wr ((h3 77 (Int.toNat (wr (r3 + 4)))) + 1))) fun h4 =>
          bd (f_X5_claimAt x1 x5 h4) fun r5 h5 =>
          if inb (wr (r5 + 4)) 1330 then
            if inb (wr (r5 + 4)) 1330 then
              lt (hup h5 77 (Int.toNat (wr (r5 + 4))) (wr ((h5 77 (Int.toNat (wr (r5 + 4)))) + 1))) fun h6 =>
              f_X5_goBy_L24 x1 x2 x3 x4 c53 n (wr (x5 + 1)) h6
            else none
          else none
        else none
      else none := rfl
noncomputable def f_X5_goBy_L9 (x1 : Int) (x2 : Int) (x3 : Int) (c61 : Hp → Option (Int × Hp)) (n : Nat) : Int → Hp → Option (Int × Hp) :=
  Nat.rec (motive := fun _ => Int → Hp → Option (Int × Hp)) (fun _ _ => none) (fun _ rec x4 h =>
    if x2 ≤ x4 then
      c61 h
    else
      if inb (wr (x1 + 0)) 1330 then
        if inb (wr (x1 + 0)) 1330 then
          lt (hup h 77 (Int.toNat (wr (x1 + 0))) (wr ((h 77 (Int.toNat (wr (x1 + 0)))) + 1))) fun h2 =>
          (f_X5_goBy_L24 x1 x2 x3 x4
            (fun h7 =>
              bd (f_X5_sells x1 h7) fun _ h8 =>
              bd (f_X5_lapses x1 h8) fun _ h9 =>
              rec (wr (x4 + 1)) h9)
             fu 0 h2)
        else none
      else none) n
theorem f_X5_goBy_L9_s (x1 : Int) (x2 : Int) (x3 : Int) (c61 : Hp → Option (Int × Hp)) (n : Nat) (x4 : Int) (h : Hp) : f_X5_goBy_L9 x1 x2 x3 c61 (n + 1) x4 h =
    if x2 ≤ x4 then
      c61 h
    else
      if inb (wr (x1 + 0)) 1330 then
        if inb (wr (x1 + 0)) 1330 then
          lt (hup h 77 (Int.toNat (wr (x1 + 0))) (wr ((h 77 (Int.toNat (wr (x1 + 0)))) + 1))) fun h2 =>
          (f_X5_goBy_L24 x1 x2 x3 x4
            (fun h7 =>
              bd (f_X5_sells x1 h7) fun _ h8 =>
              bd (f_X5_lapses x1 h8) fun _ h9 =>
              f_X5_goBy_L9 x1 x2 x3 c61 n (wr (x4 + 1)) h9)
             fu 0 h2)
        else none
      else none := rfl
noncomputable def f_X5_goBy (x1 : Int) (x2 : Int) (h : Hp) : Option (Int × Hp) :=
  if inb (wr (x1 + 11)) 1330 then
    lv (h 77 (Int.toNat (wr (x1 + 11)))) fun y1 =>
    (f_X5_goBy_L9 x1 x2 y1
      (fun h10 =>
        if inb (wr (x1 + 11)) 1330 then
          some ((wr ((h10 77 (Int.toNat (wr (x1 + 11)))) - y1)), h10)
        else none)
       fu 0 h)
  else none
noncomputable def f_X5_weeksIn (x1 : Int) (x2 : Int) (h : Hp) : Option (Int × Hp) :=
  bd (f_X5_in x2 1 20 h) fun r1 h1 =>
  if ¬ r1 = 0 then
    if inb (wr (x1 + 0)) 1330 then
      if (wr ((h1 77 (Int.toNat (wr (x1 + 0)))) + x2)) ≤ 999 then
        bd (f_X5_goBy x1 x2 h1) fun r2 h2 =>
        some (r2, h2)
      else
        some ((-1000003), h1)
    else none
  else
    some ((-1000001), h1)
noncomputable def f_X5_does (x1 : Int) (h : Hp) : Option (Int × Hp) :=
  if (h 76 9) = 99 then
    if inb 0 4 then
      if inb 1 4 then
        if inb 2 4 then
          if inb 3 4 then
            bd (f_X5_claims x1 (h 83 (Int.toNat 0)) (h 83 (Int.toNat 1)) (h 83 (Int.toNat 2)) (h 83 (Int.toNat 3)) h) fun r1 h1 =>
            some (r1, h1)
          else none
        else none
      else none
    else none
  else
    if (h 76 9) = 102 then
      if inb 0 4 then
        if inb 1 4 then
          if inb 2 4 then
            if inb 3 4 then
              bd (f_X5_finds x1 (h 83 (Int.toNat 0)) (h 83 (Int.toNat 1)) (h 83 (Int.toNat 2)) (h 83 (Int.toNat 3)) h) fun r3 h3 =>
              some (r3, h3)
            else none
          else none
        else none
      else none
    else
      if (h 76 9) = 116 then
        if inb 0 4 then
          if inb 1 4 then
            if inb 2 4 then
              bd (f_X5_tells x1 (h 83 (Int.toNat 0)) (h 83 (Int.toNat 1)) (h 83 (Int.toNat 2)) h) fun r5 h5 =>
              some (r5, h5)
            else none
          else none
        else none
      else
        if (h 76 9) = 119 then
          if inb 0 4 then
            bd (f_X5_weeksIn x1 (h 83 (Int.toNat 0)) h) fun r7 h7 =>
            some (r7, h7)
          else none
        else
          bd (f_X5_handsOut x1 h) fun r9 h9 =>
          some (r9, h9)
noncomputable def f_X5_drop (x1 : Int) (h : Hp) : Option (Int × Hp) :=
  bd (f_X5_isClaim 0 x1 h) fun r1 h1 =>
  if ¬ r1 = 0 then
    bd (f_X5_records  h1) fun _ h2 =>
    bd (f_X5_claimGoes 0 x1 h2) fun _ h3 =>
    if inb 14 1330 then
      if inb 14 1330 then
        lt (hup h3 77 (Int.toNat 14) (wr ((h3 77 (Int.toNat 14)) + 1))) fun h4 =>
        if inb 16 1330 then
          some ((h4 77 (Int.toNat 16)), h4)
        else none
      else none
    else none
  else
    some ((-1000001), h1)
noncomputable def f_X5_isDigit  (h : Hp) : Option (Int × Hp) :=
  if (h 76 3) ≤ (h 76 8) then
    some (0, h)
  else
    if inb (h 76 8) 60 then
      bd (f_X5_in (h 78 (Int.toNat (h 76 8))) 48 57 h) fun r1 h1 =>
      if r1 = 0 then
        some (0, h1)
      else
        some (1, h1)
    else none
noncomputable def f_X5_readsNumber_L8 (x1 : Int) (x2 : Int) (n : Nat) : Hp → Option (Int × Hp) :=
  Nat.rec (motive := fun _ => Hp → Option (Int × Hp)) (fun  _ => none) (fun _ rec  h =>
    bd (f_X5_isDigit  h) fun r3 h3 =>
    if r3 = 0 then
      if (h3 76 8) ≤ x2 then
        some (0, h3)
      else
        some (1, h3)
    else
      if (wr (x2 + 2)) ≤ (h3 76 8) then
        if (h3 76 8) ≤ x2 then
          some (0, h3)
        else
          some (1, h3)
      else
        if inb x1 4 then
          if inb (h3 76 8) 60 then
            if inb x1 4 then
              lt (hup h3 83 (Int.toNat x1) (wr ((wr ((wr (10 * (h3 83 (Int.toNat x1)))) + (h3 78 (Int.toNat (h3 76 8))))) - 48))) fun h4 =>
              lt (hup h4 76 8 (wr ((h4 76 8) + 1))) fun h5 =>
              rec h5
            else none
          else none
        else none) n
theorem f_X5_readsNumber_L8_s (x1 : Int) (x2 : Int) (n : Nat)  (h : Hp) : f_X5_readsNumber_L8 x1 x2 (n + 1)  h =
    bd (f_X5_isDigit  h) fun r3 h3 =>
    if r3 = 0 then
      if (h3 76 8) ≤ x2 then
        some (0, h3)
      else
        some (1, h3)
    else
      if (wr (x2 + 2)) ≤ (h3 76 8) then
        if (h3 76 8) ≤ x2 then
          some (0, h3)
        else
          some (1, h3)
      else
        if inb x1 4 then
          if inb (h3 76 8) 60 then
            if inb x1 4 then
              lt (hup h3 83 (Int.toNat x1) (wr ((wr ((wr (10 * (h3 83 (Int.toNat x1)))) + (h3 78 (Int.toNat (h3 76 8))))) - 48))) fun h4 =>
              lt (hup h4 76 8 (wr ((h4 76 8) + 1))) fun h5 =>
              f_X5_readsNumber_L8 x1 x2 n h5
            else none
          else none
        else none := rfl
noncomputable def f_X5_readsNumber (x1 : Int) (h : Hp) : Option (Int × Hp) :=
  if inb x1 4 then
    lt (hup h 83 (Int.toNat x1) 0) fun h1 =>
    lv (h1 76 8) fun y2 =>
    (f_X5_readsNumber_L8 x1 y2
       fu  h1)
  else none
noncomputable def f_X5_takes_J15 (s0 : Int) (h : Hp) : Option (Int × Hp) :=
  if s0 = 0 then
    lt (hup h 76 8 (wr ((h 76 8) + 0))) fun h1 =>
    if isB s0 then some (s0, h1) else none
  else
    lt (hup h 76 8 (wr ((h 76 8) + 1))) fun h2 =>
    if isB s0 then some (s0, h2) else none
noncomputable def f_X5_takes_J14  (h : Hp) : Option (Int × Hp) :=
  f_X5_takes_J15 0 h
noncomputable def f_X5_takes (x1 : Int) (h : Hp) : Option (Int × Hp) :=
  if (h 76 3) ≤ (h 76 8) then
    f_X5_takes_J14  h
  else
    if inb (h 76 8) 60 then
      if ¬ (h 78 (Int.toNat (h 76 8))) = x1 then
        f_X5_takes_J14  h
      else
        f_X5_takes_J15 1 h
    else none
noncomputable def f_X5_readsValue (x1 : Int) (x2 : Int) (h : Hp) : Option (Int × Hp) :=
  if ¬ x2 = 0 then
    bd (f_X5_readsNumber x1 h) fun r1 h1 =>
    if isB r1 then some (r1, h1) else none
  else
    bd (f_X5_takes 45 h) fun r2 h2 =>
    if r2 = 0 then
      bd (f_X5_readsNumber x1 h2) fun r3 h3 =>
      if isB r3 then some (r3, h3) else none
    else
      if inb x1 4 then
        lt (hup h2 83 (Int.toNat x1) (-1)) fun h4 =>
        some (1, h4)
      else none
noncomputable def f_X5_readsRow_L7 (x1 : Int) (x2 : Int) (n : Nat) : Int → Int → Hp → Option (Int × Hp) :=
  Nat.rec (motive := fun _ => Int → Int → Hp → Option (Int × Hp)) (fun _ _ _ => none) (fun _ rec x3 x4 h =>
    if x1 ≤ x4 then
      if isB x3 then some (x3, h) else none
    else
      if x3 = 0 then
        if isB x3 then some (x3, h) else none
      else
        bd (f_X5_takes 44 h) fun r2 h2 =>
        if r2 = 0 then
          rec 0 (wr (x4 + 1)) h2
        else
          bd (f_X5_readsValue x4 x2 h2) fun r3 h3 =>
          if r3 = 0 then
            rec 0 (wr (x4 + 1)) h3
          else
            rec 1 (wr (x4 + 1)) h3) n
theorem f_X5_readsRow_L7_s (x1 : Int) (x2 : Int) (n : Nat) (x3 : Int) (x4 : Int) (h : Hp) : f_X5_readsRow_L7 x1 x2 (n + 1) x3 x4 h =
    if x1 ≤ x4 then
      if isB x3 then some (x3, h) else none
    else
      if x3 = 0 then
        if isB x3 then some (x3, h) else none
      else
        bd (f_X5_takes 44 h) fun r2 h2 =>
        if r2 = 0 then
          f_X5_readsRow_L7 x1 x2 n 0 (wr (x4 + 1)) h2
        else
          bd (f_X5_readsValue x4 x2 h2) fun r3 h3 =>
          if r3 = 0 then
            f_X5_readsRow_L7 x1 x2 n 0 (wr (x4 + 1)) h3
          else
            f_X5_readsRow_L7 x1 x2 n 1 (wr (x4 + 1)) h3 := rfl
noncomputable def f_X5_readsRow (x1 : Int) (x2 : Int) (h : Hp) : Option (Int × Hp) :=
  bd (f_X5_readsValue 0 x2 h) fun r1 h1 =>
  (f_X5_readsRow_L7 x1 x2
     fu r1 1 h1)
noncomputable def f_X5_takesWord_L4 (x1 : Int64) (n : Nat) : Int → Int → Hp → Option (Int × Hp) :=
  Nat.rec (motive := fun _ => Int → Int → Hp → Option (Int × Hp)) (fun _ _ _ => none) (fun _ rec x3 x4 h =>
    if x4 < 0 then
      if isB x3 then some (x3, h) else none
    else
      if x3 = 0 then
        if isB x3 then some (x3, h) else none
      else
        lv (Int64.toInt32 ((x1 >>> ((Int32.ofInt x4).toInt64 &&& 63)) &&& 255)).toInt fun y1 =>
        if y1 = 0 then
          rec 1 (wr (x4 + (-8))) h
        else
          bd (f_X5_takes y1 h) fun r2 h2 =>
          if r2 = 0 then
            rec 0 (wr (x4 + (-8))) h2
          else
            rec 1 (wr (x4 + (-8))) h2) n
theorem f_X5_takesWord_L4_s (x1 : Int64) (n : Nat) (x3 : Int) (x4 : Int) (h : Hp) : f_X5_takesWord_L4 x1 (n + 1) x3 x4 h =
    if x4 < 0 then
      if isB x3 then some (x3, h) else none
    else
      if x3 = 0 then
        if isB x3 then some (x3, h) else none
      else
        lv (Int64.toInt32 ((x1 >>> ((Int32.ofInt x4).toInt64 &&& 63)) &&& 255)).toInt fun y1 =>
        if y1 = 0 then
          f_X5_takesWord_L4 x1 n 1 (wr (x4 + (-8))) h
        else
          bd (f_X5_takes y1 h) fun r2 h2 =>
          if r2 = 0 then
            f_X5_takesWord_L4 x1 n 0 (wr (x4 + (-8))) h2
          else
            f_X5_takesWord_L4 x1 n 1 (wr (x4 + (-8))) h2 := rfl
noncomputable def f_X5_takesWord (x1 : Int64) (h : Hp) : Option (Int × Hp) :=
  (f_X5_takesWord_L4 x1
     fu 1 40 h)
noncomputable def f_X5_readsOrder_J13 (s1 : Int) (h : Hp) : Option (Int × Hp) :=
  lt (hup h 76 9 s1) fun h1 =>
  if (h1 76 9) = 99 then
    bd (f_X5_takesWord 109317141916960 h1) fun r2 h2 =>
    if r2 = 0 then
      some (0, h2)
    else
      bd (f_X5_readsRow 4 0 h2) fun r3 h3 =>
      if r3 = 0 then
        some (0, h3)
      else
        bd (f_X5_takes 59 h3) fun r4 h4 =>
        if r4 = 0 then
          some (0, h4)
        else
          some (1, h4)
  else
    if (h1 76 9) = 102 then
      bd (f_X5_takesWord 439855506464 h1) fun r6 h6 =>
      if r6 = 0 then
        some (0, h6)
      else
        bd (f_X5_readsRow 4 1 h6) fun r7 h7 =>
        if r7 = 0 then
          some (0, h7)
        else
          bd (f_X5_takes 59 h7) fun r8 h8 =>
          if r8 = 0 then
            some (0, h8)
          else
            some (1, h8)
    else
      if (h1 76 9) = 104 then
        bd (f_X5_takesWord 1751215716 h1) fun r10 h10 =>
        if r10 = 0 then
          some (0, h10)
        else
          bd (f_X5_takes 59 h10) fun r11 h11 =>
          if r11 = 0 then
            some (0, h11)
          else
            some (1, h11)
      else
        if (h1 76 9) = 116 then
          bd (f_X5_takesWord 499917810720 h1) fun r13 h13 =>
          if r13 = 0 then
            some (0, h13)
          else
            bd (f_X5_readsRow 3 1 h13) fun r14 h14 =>
            if r14 = 0 then
              some (0, h14)
            else
              bd (f_X5_takes 59 h14) fun r15 h15 =>
              if r15 = 0 then
                some (0, h15)
              else
                some (1, h15)
        else
          if (h1 76 9) = 119 then
            bd (f_X5_takesWord 512802253600 h1) fun r17 h17 =>
            if r17 = 0 then
              some (0, h17)
            else
              bd (f_X5_readsRow 1 1 h17) fun r18 h18 =>
              if r18 = 0 then
                some (0, h18)
              else
                bd (f_X5_takes 59 h18) fun r19 h19 =>
                if r19 = 0 then
                  some (0, h19)
                else
                  some (1, h19)
          else
            some (0, h1)
noncomputable def f_X5_readsOrder  (h : Hp) : Option (Int × Hp) :=
  if (h 76 3) ≤ (h 76 8) then
    f_X5_readsOrder_J13 0 h
  else
    if inb (h 76 8) 60 then
      f_X5_readsOrder_J13 (h 78 (Int.toNat (h 76 8))) h
    else none
noncomputable def f_X5_looks_J57 (c12 : Int → Hp → Option (Int × Hp)) (x1 : Int) (s1 : Int) (h : Hp) : Option (Int × Hp) :=
  lt (hup h 76 13 s1) fun h8 =>
  if ¬ (h8 76 12) = 0 then
    lv (wr (x1 + 0)) fun y9 =>
    c12 y9 h8
  else
    lv (wr (x1 + 1)) fun y10 =>
    c12 y10 h8
noncomputable def f_X5_looks_J44 (c12 : Int → Hp → Option (Int × Hp)) (x1 : Int) (x2 : Int) (x3 : Int) (x4 : Int) (s1 : Int) (h : Hp) : Option (Int × Hp) :=
  lt (hup h 76 12 s1) fun h6 =>
  lt (hup h6 76 11 x2) fun h7 =>
  if x3 = 0 then
    f_X5_looks_J57 c12 x1 (wr ((h7 76 8) - x2)) h7
  else
    f_X5_looks_J57 c12 x1 x4 h7
noncomputable def f_X5_looks_J33 (c12 : Int → Hp → Option (Int × Hp)) (x1 : Int) (x2 : Int) (x3 : Int) (s0 : Int) (h : Hp) : Option (Int × Hp) :=
  if ¬ x3 = 0 then
    if 0 ≤ s0 then
      f_X5_looks_J44 c12 x1 x2 x3 s0 0 h
    else
      f_X5_looks_J44 c12 x1 x2 x3 s0 2 h
  else
    f_X5_looks_J44 c12 x1 x2 x3 s0 1 h
noncomputable def f_X5_looks_L12  (n : Nat) : Int → Hp → Option (Int × Hp) :=
  Nat.rec (motive := fun _ => Int → Hp → Option (Int × Hp)) (fun _ _ => none) (fun _ rec x1 h =>
    if ¬ (h 76 12) = 0 then
      some (x1, h)
    else
      if (h 76 3) ≤ (h 76 8) then
        some (x1, h)
      else
        lv (h 76 8) fun y4 =>
        bd (f_X5_readsOrder  h) fun r5 h5 =>
        if r5 = 0 then
          f_X5_looks_J33 rec x1 y4 r5 0 h5
        else
          bd (f_X5_does 1140 h5) fun r11 h11 =>
          f_X5_looks_J33 rec x1 y4 r5 r11 h11) n
theorem f_X5_looks_L12_s  (n : Nat) (x1 : Int) (h : Hp) : f_X5_looks_L12  (n + 1) x1 h =
    if ¬ (h 76 12) = 0 then
      some (x1, h)
    else
      if (h 76 3) ≤ (h 76 8) then
        some (x1, h)
      else
        lv (h 76 8) fun y4 =>
        bd (f_X5_readsOrder  h) fun r5 h5 =>
        if r5 = 0 then
          f_X5_looks_J33 (f_X5_looks_L12  n) x1 y4 r5 0 h5
        else
          bd (f_X5_does 1140 h5) fun r11 h11 =>
          f_X5_looks_J33 (f_X5_looks_L12  n) x1 y4 r5 r11 h11 := rfl
noncomputable def f_X5_looks  (h : Hp) : Option (Int × Hp) :=
  bd (f_X5_copies 0 6 h) fun _ h1 =>
  lt (hup h1 76 8 0) fun h2 =>
  lt (hup h2 76 12 0) fun h3 =>
  (f_X5_looks_L12 
     fu 0 h3)
noncomputable def f_X5_fault (x1 : Int) (h : Hp) : Option (Int × Hp) :=
  bd (f_X5_in x1 0 2 h) fun r1 h1 =>
  if ¬ r1 = 0 then
    bd (f_X5_looks  h1) fun r2 h2 =>
    if ¬ (h2 76 12) = 0 then
      if ¬ x1 = 0 then
        if ¬ x1 = 1 then
          some ((h2 76 13), h2)
        else
          some ((h2 76 12), h2)
      else
        some ((h2 76 11), h2)
    else
      some ((-1000004), h2)
  else
    some ((-1000001), h1)
noncomputable def f_X5_find (x1 : Int) (x2 : Int) (x3 : Int) (x4 : Int) (h : Hp) : Option (Int × Hp) :=
  bd (f_X5_tried  h) fun r1 h1 =>
  bd (f_X5_finds r1 x1 x2 x3 x4 h1) fun r2 h2 =>
  bd (f_X5_done r2 h2) fun r3 h3 =>
  some (r3, h3)
noncomputable def f_X5_hand  (h : Hp) : Option (Int × Hp) :=
  bd (f_X5_tried  h) fun r1 h1 =>
  bd (f_X5_handsOut r1 h1) fun r2 h2 =>
  bd (f_X5_done r2 h2) fun r3 h3 =>
  some (r3, h3)
noncomputable def f_X5_having (x1 : Int) (x2 : Int) (h : Hp) : Option (Int × Hp) :=
  bd (f_X5_isDetail x1 x2 h) fun r1 h1 =>
  if r1 = 0 then
    some ((-1000001), h1)
  else
    bd (f_X5_many 0 x1 x2 h1) fun r2 h2 =>
    some (r2, h2)
noncomputable def f_X5_ifTold (x1 : Int) (x2 : Int) (x3 : Int) (h : Hp) : Option (Int × Hp) :=
  bd (f_X5_tried  h) fun r1 h1 =>
  bd (f_X5_tells r1 x1 x2 x3 h1) fun r2 h2 =>
  if ¬ r2 = (-1000001) then
    bd (f_X5_matchOf r1 x1 h2) fun r3 h3 =>
    some (r3, h3)
  else
    some ((-1000001), h2)
noncomputable def f_X5_ifWeeks (x1 : Int) (x2 : Int) (h : Hp) : Option (Int × Hp) :=
  bd (f_X5_in x1 1 20 h) fun r1 h1 =>
  if r1 = 0 then
    some ((-1000001), h1)
  else
    bd (f_X5_in x2 0 2 h1) fun r2 h2 =>
    if ¬ r2 = 0 then
      bd (f_X5_tried  h2) fun r3 h3 =>
      bd (f_X5_goBy r3 x1 h3) fun r4 h4 =>
      if ¬ x2 = 0 then
        if ¬ x2 = 1 then
          bd (f_X5_matches r3 h4) fun r5 h5 =>
          some (r5, h5)
        else
          if inb (wr (r3 + 12)) 1330 then
            if inb 12 1330 then
              some ((wr ((h4 77 (Int.toNat (wr (r3 + 12)))) - (h4 77 (Int.toNat 12)))), h4)
            else none
          else none
      else
        some (r4, h4)
    else
      some ((-1000001), h2)
noncomputable def f_X5_isSetting (x0 : Int) (x1 : Int) (h : Hp) : Option (Int × Hp) :=
  if x0 = 0 then
    bd (f_X5_in x1 0 3 h) fun r1 h1 =>
    if isB r1 then some (r1, h1) else none
  else
    if x0 = 1 then
      bd (f_X5_in x1 0 20 h) fun r3 h3 =>
      if isB r3 then some (r3, h3) else none
    else
      if x0 = 2 then
        bd (f_X5_in x1 0 20 h) fun r5 h5 =>
        if isB r5 then some (r5, h5) else none
      else
        if x0 = 3 then
          bd (f_X5_in x1 1 48 h) fun r7 h7 =>
          if isB r7 then some (r7, h7) else none
        else
          if x0 = 4 then
            bd (f_X5_in x1 0 9 h) fun r9 h9 =>
            if isB r9 then some (r9, h9) else none
          else
            if x0 = 5 then
              bd (f_X5_in x1 1 20 h) fun r11 h11 =>
              if isB r11 then some (r11, h11) else none
            else
              if x0 = 6 then
                bd (f_X5_in x1 1 20 h) fun r13 h13 =>
                if isB r13 then some (r13, h13) else none
              else
                some (0, h)
noncomputable def f_X5_isUmbrella (x1 : Int) (h : Hp) : Option (Int × Hp) :=
  if inb 15 1330 then
    bd (f_X5_in x1 0 (wr ((h 77 (Int.toNat 15)) - 1)) h) fun r1 h1 =>
    if isB r1 then some (r1, h1) else none
  else none
noncomputable def f_X5_mateOf (x1 : Int) (x2 : Int) (h : Hp) : Option (Int × Hp) :=
  bd (f_X5_matches 0 h) fun r1 h1 =>
  if inb x1 12 then
    lv (h1 79 (Int.toNat x1)) fun y2 =>
    if ¬ y2 = (-1) then
      if x2 = 0 then
        bd (f_X5_pointsOf 0 x1 y2 h1) fun r3 h3 =>
        some (r3, h3)
      else
        some (y2, h1)
    else
      some ((-1000004), h1)
  else none
noncomputable def f_X5_mean_L8 (x1 : Int) (c35 : Int → Hp → Option (Int × Hp)) (n : Nat) : Int → Int → Hp → Option (Int × Hp) :=
  Nat.rec (motive := fun _ => Int → Int → Hp → Option (Int × Hp)) (fun _ _ _ => none) (fun _ rec x2 x3 h =>
    if 12 ≤ x3 then
      c35 x2 h
    else
      if inb x3 12 then
        if ¬ (h 79 (Int.toNat x3)) = (-1) then
          if inb x3 12 then
            if inb (wr ((wr (12 * x3)) + (h 79 (Int.toNat x3)))) 144 then
              lv (wr (x2 + (h 81 (Int.toNat (wr ((wr (12 * x3)) + (h 79 (Int.toNat x3)))))))) fun y2 =>
              rec y2 (wr (x3 + 1)) h
            else none
          else none
        else
          lv (wr (x2 + 0)) fun y3 =>
          rec y3 (wr (x3 + 1)) h
      else none) n
theorem f_X5_mean_L8_s (x1 : Int) (c35 : Int → Hp → Option (Int × Hp)) (n : Nat) (x2 : Int) (x3 : Int) (h : Hp) : f_X5_mean_L8 x1 c35 (n + 1) x2 x3 h =
    if 12 ≤ x3 then
      c35 x2 h
    else
      if inb x3 12 then
        if ¬ (h 79 (Int.toNat x3)) = (-1) then
          if inb x3 12 then
            if inb (wr ((wr (12 * x3)) + (h 79 (Int.toNat x3)))) 144 then
              lv (wr (x2 + (h 81 (Int.toNat (wr ((wr (12 * x3)) + (h 79 (Int.toNat x3)))))))) fun y2 =>
              f_X5_mean_L8 x1 c35 n y2 (wr (x3 + 1)) h
            else none
          else none
        else
          lv (wr (x2 + 0)) fun y3 =>
          f_X5_mean_L8 x1 c35 n y3 (wr (x3 + 1)) h
      else none := rfl
noncomputable def f_X5_mean  (h : Hp) : Option (Int × Hp) :=
  bd (f_X5_matches 0 h) fun r1 h1 =>
  (f_X5_mean_L8 r1
    (fun y4 h5 =>
      if ¬ r1 = 0 then
        if nN (FP.fdiv (FP.i2f (Int32.ofInt y4)) (FP.i2f (Int32.ofInt r1))) then
          bd (f_J_floatToIntBits (FP.fdiv (FP.i2f (Int32.ofInt y4)) (FP.i2f (Int32.ofInt r1))) h5) fun r6 h6 =>
          some (r6, h6)
        else none
      else
        some ((-1000004), h5))
     fu 0 0 h1)
noncomputable def f_X5_oddness_L4 (x1 : Int) (n : Nat) : Int → Int → Hp → Option (Int × Hp) :=
  Nat.rec (motive := fun _ => Int → Int → Hp → Option (Int × Hp)) (fun _ _ _ => none) (fun _ rec x2 x3 h =>
    if 4 ≤ x3 then
      some (x2, h)
    else
      bd (f_X5_umbrellaAt 0 x1 h) fun r1 h1 =>
      if inb (wr (r1 + x3)) 1330 then
        bd (f_X5_many 0 x3 (h1 77 (Int.toNat (wr (r1 + x3)))) h1) fun r2 h2 =>
        lv (wr (x2 + (wr (13 - r2)))) fun y3 =>
        rec y3 (wr (x3 + 1)) h2
      else none) n
theorem f_X5_oddness_L4_s (x1 : Int) (n : Nat) (x2 : Int) (x3 : Int) (h : Hp) : f_X5_oddness_L4 x1 (n + 1) x2 x3 h =
    if 4 ≤ x3 then
      some (x2, h)
    else
      bd (f_X5_umbrellaAt 0 x1 h) fun r1 h1 =>
      if inb (wr (r1 + x3)) 1330 then
        bd (f_X5_many 0 x3 (h1 77 (Int.toNat (wr (r1 + x3)))) h1) fun r2 h2 =>
        lv (wr (x2 + (wr (13 - r2)))) fun y3 =>
        f_X5_oddness_L4 x1 n y3 (wr (x3 + 1)) h2
      else none := rfl
noncomputable def f_X5_oddness (x1 : Int) (h : Hp) : Option (Int × Hp) :=
  (f_X5_oddness_L4 x1
     fu 0 0 h)
noncomputable def f_X5_oddest_L4  (n : Nat) : Int → Int → Hp → Option (Int × Hp) :=
  Nat.rec (motive := fun _ => Int → Int → Hp → Option (Int × Hp)) (fun _ _ _ => none) (fun _ rec x1 x2 h =>
    if inb 15 1330 then
      if (h 77 (Int.toNat 15)) ≤ x2 then
        some (x1, h)
      else
        if x1 = (-1000004) then
          rec x2 (wr (x2 + 1)) h
        else
          bd (f_X5_oddness x2 h) fun r1 h1 =>
          bd (f_X5_oddness x1 h1) fun r2 h2 =>
          if r1 ≤ r2 then
            rec x1 (wr (x2 + 1)) h2
          else
            rec x2 (wr (x2 + 1)) h2
    else none) n
theorem f_X5_oddest_L4_s  (n : Nat) (x1 : Int) (x2 : Int) (h : Hp) : f_X5_oddest_L4  (n + 1) x1 x2 h =
    if inb 15 1330 then
      if (h 77 (Int.toNat 15)) ≤ x2 then
        some (x1, h)
      else
        if x1 = (-1000004) then
          f_X5_oddest_L4  n x2 (wr (x2 + 1)) h
        else
          bd (f_X5_oddness x2 h) fun r1 h1 =>
          bd (f_X5_oddness x1 h1) fun r2 h2 =>
          if r1 ≤ r2 then
            f_X5_oddest_L4  n x1 (wr (x2 + 1)) h2
          else
            f_X5_oddest_L4  n x2 (wr (x2 + 1)) h2
    else none := rfl
noncomputable def f_X5_oddest  (h : Hp) : Option (Int × Hp) :=
  (f_X5_oddest_L4 
     fu (-1000004) 0 h)
noncomputable def f_X5_play  (h : Hp) : Option (Int × Hp) :=
  bd (f_X5_looks  h) fun r1 h1 =>
  if (h1 76 12) ≤ 0 then
    bd (f_X5_records  h1) fun _ h2 =>
    bd (f_X5_copies 6 0 h2) fun _ h3 =>
    some (r1, h3)
  else
    some ((-1000002), h1)
noncomputable def f_X5_points (x1 : Int) (x2 : Int) (h : Hp) : Option (Int × Hp) :=
  bd (f_X5_isUmbrella x1 h) fun r1 h1 =>
  if r1 = 0 then
    some ((-1000001), h1)
  else
    bd (f_X5_isClaim 0 x2 h1) fun r2 h2 =>
    if r2 = 0 then
      some ((-1000001), h2)
    else
      bd (f_X5_pointsOf 0 x1 x2 h2) fun r3 h3 =>
      some ((wr (1000 + r3)), h3)
noncomputable def f_X5_set (x1 : Int) (x2 : Int) (h : Hp) : Option (Int × Hp) :=
  bd (f_X5_isSetting x1 x2 h) fun r1 h1 =>
  if ¬ r1 = 0 then
    bd (f_X5_records  h1) fun _ h2 =>
    if inb (wr (1 + x1)) 1330 then
      lv (h2 77 (Int.toNat (wr (1 + x1)))) fun y3 =>
      if inb (wr (1 + x1)) 1330 then
        lt (hup h2 77 (Int.toNat (wr (1 + x1))) x2) fun h4 =>
        some (y3, h4)
      else none
    else none
  else
    some ((-1000001), h1)
noncomputable def f_X5_tell (x1 : Int) (x2 : Int) (x3 : Int) (h : Hp) : Option (Int × Hp) :=
  bd (f_X5_tried  h) fun r1 h1 =>
  bd (f_X5_tells r1 x1 x2 x3 h1) fun r2 h2 =>
  bd (f_X5_done r2 h2) fun r3 h3 =>
  some (r3, h3)
noncomputable def f_X5_type (x1 : Int) (h : Hp) : Option (Int × Hp) :=
  bd (f_X5_in x1 32 126 h) fun r1 h1 =>
  if ¬ r1 = 0 then
    if ¬ (h1 76 3) = 60 then
      if inb (h1 76 3) 60 then
        lt (hup h1 78 (Int.toNat (h1 76 3)) x1) fun h2 =>
        lt (hup h2 76 3 (wr ((h2 76 3) + 1))) fun h3 =>
        some ((h3 76 3), h3)
      else none
    else
      some ((-1000003), h1)
  else
    some ((-1000001), h1)
noncomputable def f_X5_umbrella (x1 : Int) (x2 : Int) (h : Hp) : Option (Int × Hp) :=
  bd (f_X5_isUmbrella x1 h) fun r1 h1 =>
  if r1 = 0 then
    some ((-1000001), h1)
  else
    bd (f_X5_in x2 0 8 h1) fun r2 h2 =>
    if ¬ r2 = 0 then
      if x2 = 5 then
        if ¬ x2 = 5 then
          bd (f_X5_mateOf x1 0 h2) fun r3 h3 =>
          some (r3, h3)
        else
          bd (f_X5_mateOf x1 1 h2) fun r4 h4 =>
          some (r4, h4)
      else
        if x2 = 6 then
          if ¬ x2 = 5 then
            bd (f_X5_mateOf x1 0 h2) fun r6 h6 =>
            some (r6, h6)
          else
            bd (f_X5_mateOf x1 1 h2) fun r7 h7 =>
            some (r7, h7)
        else
          if x2 = 7 then
            bd (f_X5_suiting x1 (-1) h2) fun r9 h9 =>
            some (r9, h9)
          else
            if x2 = 8 then
              bd (f_X5_oddness x1 h2) fun r11 h11 =>
              some (r11, h11)
            else
              bd (f_X5_umbrellaAt 0 x1 h2) fun r13 h13 =>
              if inb (wr (r13 + x2)) 1330 then
                some ((h13 77 (Int.toNat (wr (r13 + x2)))), h13)
              else none
    else
      some ((-1000001), h2)
noncomputable def f_X5_undo  (h : Hp) : Option (Int × Hp) :=
  if ¬ (h 76 1) = 0 then
    bd (f_X5_copies (h 76 1) 0 h) fun _ h1 =>
    lt (hup h1 76 1 (wr ((h1 76 1) - 1))) fun h2 =>
    some ((h2 76 1), h2)
  else
    some ((-1000002), h)
noncomputable def f_X5_weeks (x1 : Int) (h : Hp) : Option (Int × Hp) :=
  bd (f_X5_tried  h) fun r1 h1 =>
  bd (f_X5_weeksIn r1 x1 h1) fun r2 h2 =>
  bd (f_X5_done r2 h2) fun r3 h3 =>
  some (r3, h3)
noncomputable def f_X5_why_J80  (h : Hp) : Option (Int × Hp) :=
  if (1 : Int) = 0 then
    some (4, h)
  else
    some (3, h)
noncomputable def f_X5_why (x1 : Int) (x2 : Int) (h : Hp) : Option (Int × Hp) :=
  bd (f_X5_isUmbrella x1 h) fun r1 h1 =>
  if r1 = 0 then
    some ((-1000001), h1)
  else
    bd (f_X5_isClaim 0 x2 h1) fun r2 h2 =>
    if ¬ r2 = 0 then
      bd (f_X5_matches 0 h2) fun r3 h3 =>
      if inb x1 12 then
        if ¬ (h3 79 (Int.toNat x1)) = x2 then
          bd (f_X5_misses 0 x1 x2 h3) fun r4 h4 =>
          if inb 1 1330 then
            if r4 ≤ (h4 77 (Int.toNat 1)) then
              bd (f_X5_pointsOf 0 x1 x2 h4) fun r5 h5 =>
              if inb 4 1330 then
                if (h5 77 (Int.toNat 4)) ≤ r5 then
                  if inb x1 12 then
                    lv (h5 79 (Int.toNat x1)) fun y6 =>
                    if y6 = (-1) then
                      if (0 : Int) = 0 then
                        some (4, h5)
                      else
                        some (3, h5)
                    else
                      if inb (wr ((wr (12 * x1)) + y6)) 144 then
                        if r5 < (h5 81 (Int.toNat (wr ((wr (12 * x1)) + y6)))) then
                          f_X5_why_J80  h5
                        else
                          if inb (wr ((wr (12 * x1)) + y6)) 144 then
                            if ¬ (h5 81 (Int.toNat (wr ((wr (12 * x1)) + y6)))) = r5 then
                              if (0 : Int) = 0 then
                                some (4, h5)
                              else
                                some (3, h5)
                            else
                              if x2 ≤ y6 then
                                if (0 : Int) = 0 then
                                  some (4, h5)
                                else
                                  some (3, h5)
                              else
                                f_X5_why_J80  h5
                          else none
                      else none
                  else none
                else
                  some (2, h5)
              else none
            else
              some (1, h4)
          else none
        else
          some (0, h3)
      else none
    else
      some ((-1000001), h2)
end
section
/-! printed by wip/gen/gen.py: the bytecode does what the functions say -/
set_option maxRecDepth 20000 in
set_option maxHeartbeats 1000000 in
theorem t_J_isLatin1 (x0 : Nat) (n0 : Nat) (k0 : kd x0 = (31, n0)) (h : Hp) : Ct M_J_isLatin1 [vr x0] h (f_J_isLatin1 x0 n0 h) := by
  refine Ct.mk ok_J_isLatin1 pl_J_isLatin1 rfl rfl ?_
  show Z M_J_isLatin1 0 [some (vr x0)] [] h (f_J_isLatin1 x0 n0 h)
  unfold f_J_isLatin1
  refine z_comp sf_J0_38 rfl ?_
  refine z_if_eq rfl ?_ ?_
  · refine z_iconst rfl rfl ?_
    exact z_zret0 rfl rfl
  · refine z_aload_n rfl rfl ?_
    refine z_scod k0 sf_J0_15 rfl ?_
    refine z_if_ne rfl ?_ ?_
    · refine z_iconst rfl rfl ?_
      exact z_zret0 rfl rfl
    · refine z_iconst rfl rfl ?_
      refine z_goto rfl ?_
      exact z_zret1 rfl rfl
set_option maxRecDepth 20000 in
set_option maxHeartbeats 1000000 in
theorem t_J_preCheck (x0 : Int) (x1 : Int) (x2 : Value) (hv_x2 : x2.category = 1) (h : Hp) : Ct M_J_preCheck [vi x0, vi x1, vx x2] h (f_J_preCheck x0 x1 h) := by
  have e9 : lsA [vi x0, vi x1, vx x2] = [some (vi x0), some (vi x1), some (vx x2)] := by simp [lsA, acat, hv_x2]
  refine Ct.mk ok_J_preCheck pl_J_preCheck rfl (by rw [e9]; rfl) ?_
  rw [e9]
  show Z M_J_preCheck 0 [some (vi x0), some (vi x1), some (vx x2)] [] h (f_J_preCheck x0 x1 h)
  unfold f_J_preCheck
  refine z_iload_n rfl rfl ?_
  refine z_if_lt rfl ?_ ?_
  · exact Z.nix
  · refine z_iload_n rfl rfl ?_
    refine z_iload_n rfl rfl ?_
    refine z_icmp_lt rfl ?_ ?_
    · refine z_iload_n rfl rfl ?_
      exact z_ireturn rfl rfl
    · exact Z.nix
set_option maxRecDepth 20000 in
set_option maxHeartbeats 1000000 in
theorem t_J_checkIndex (x0 : Int) (x1 : Int) (h : Hp) : Ct M_J_checkIndex [vi x0, vi x1] h (f_J_checkIndex x0 x1 h) := by
  refine Ct.mk ok_J_checkIndex pl_J_checkIndex rfl rfl ?_
  show Z M_J_checkIndex 0 [some (vi x0), some (vi x1)] [] h (f_J_checkIndex x0 x1 h)
  unfold f_J_checkIndex
  refine z_iload_n rfl rfl ?_
  refine z_iload_n rfl rfl ?_
  refine z_sioo sf_J0_1053 rfl (fun v1 hv1 => ?_)
  refine z_S3i ms_J0_1059 (t_J_preCheck _ _ _ hv1 _) rfl rfl rfl rfl (fun r2 h2 => ?_)
  refine z_pop rfl rfl ?_
  exact z_return rfl rfl
set_option maxRecDepth 20000 in
set_option maxHeartbeats 1000000 in
theorem t_J_latinAt (x0 : Nat) (n0 : Nat) (k0 : kd x0 = (32, n0)) (x1 : Int) (h : Hp) : Ct M_J_latinAt [vr x0, vi x1] h (f_J_latinAt x0 n0 x1 h) := by
  refine Ct.mk ok_J_latinAt pl_J_latinAt rfl rfl ?_
  show Z M_J_latinAt 0 [some (vr x0), some (vi x1)] [] h (f_J_latinAt x0 n0 x1 h)
  unfold f_J_latinAt
  refine z_iload_n rfl rfl ?_
  refine z_aload_n rfl rfl ?_
  refine z_blen k0 rfl ?_
  refine z_S2v ms_J1_9 (t_J_checkIndex _ _ _) rfl rfl rfl rfl (fun _ h1 => ?_)
  refine z_aload_n rfl rfl ?_
  refine z_iload_n rfl rfl ?_
  refine z_bald k0 rfl ?_
  refine z_sipush rfl rfl ?_
  refine z_iand255 rfl ?_
  refine z_i2c rfl ?_
  exact z_cret rfl rfl
set_option maxRecDepth 20000 in
set_option maxHeartbeats 1000000 in
theorem t_J_charAt (x0 : Nat) (n0 : Nat) (k0 : kd x0 = (31, n0)) (x1 : Int) (h : Hp) : Ct M_J_charAt [vr x0, vi x1] h (f_J_charAt x0 n0 x1 h) := by
  refine Ct.mk ok_J_charAt pl_J_charAt rfl rfl ?_
  show Z M_J_charAt 0 [some (vr x0), some (vi x1)] [] h (f_J_charAt x0 n0 x1 h)
  unfold f_J_charAt
  refine z_aload_n rfl rfl ?_
  refine z_T0i mv_J0_492 k0 (t_J_isLatin1 x0 n0 k0 _) rfl rfl rfl rfl rfl (fun r1 h1 => ?_)
  refine z_if_eq rfl ?_ ?_
  · exact Z.nix
  · refine z_aload_n rfl rfl ?_
    refine z_sval k0 sf_J0_9 rfl ?_
    refine z_iload_n rfl rfl ?_
    refine z_S2i ms_J0_495 (t_J_latinAt (x0 + 5) n0 (kT_5 k0) _ _) rfl rfl rfl rfl (fun r2 h2 => ?_)
    exact z_cret rfl rfl
set_option maxRecDepth 20000 in
set_option maxHeartbeats 1000000 in
theorem t_J_coder (x0 : Nat) (n0 : Nat) (k0 : kd x0 = (31, n0)) (h : Hp) : Ct M_J_coder [vr x0] h (f_J_coder x0 n0 h) := by
  refine Ct.mk ok_J_coder pl_J_coder rfl rfl ?_
  show Z M_J_coder 0 [some (vr x0)] [] h (f_J_coder x0 n0 h)
  unfold f_J_coder
  refine z_comp sf_J0_38 rfl ?_
  refine z_if_eq rfl ?_ ?_
  · refine z_iconst rfl rfl ?_
    exact z_ret rfl rfl rfl
  · refine z_aload_n rfl rfl ?_
    refine z_scod k0 sf_J0_15 rfl ?_
    refine z_goto rfl ?_
    exact z_ret rfl rfl rfl
set_option maxRecDepth 20000 in
set_option maxHeartbeats 1000000 in
theorem t_J_length (x0 : Nat) (n0 : Nat) (k0 : kd x0 = (31, n0)) (h : Hp) : Ct M_J_length [vr x0] h (f_J_length x0 n0 h) := by
  refine Ct.mk ok_J_length pl_J_length rfl rfl ?_
  show Z M_J_length 0 [some (vr x0)] [] h (f_J_length x0 n0 h)
  unfold f_J_length
  refine z_aload_n rfl rfl ?_
  refine z_sval k0 sf_J0_9 rfl ?_
  refine z_blen (kT_5 k0) rfl ?_
  refine z_aload_n rfl rfl ?_
  refine z_T0i mv_J0_335 k0 (t_J_coder x0 n0 k0 _) rfl rfl rfl rfl rfl (fun r1 h1 => ?_)
  refine z_ishrG rfl ?_
  exact z_ireturn rfl rfl
set_option maxRecDepth 20000 in
set_option maxHeartbeats 1000000 in
theorem t_J_min (x0 : Int) (x1 : Int) (h : Hp) : Ct M_J_min [vi x0, vi x1] h (f_J_min x0 x1 h) := by
  refine Ct.mk ok_J_min pl_J_min rfl rfl ?_
  show Z M_J_min 0 [some (vi x0), some (vi x1)] [] h (f_J_min x0 x1 h)
  unfold f_J_min
  refine z_iload_n rfl rfl ?_
  refine z_iload_n rfl rfl ?_
  refine z_icmp_gt rfl ?_ ?_
  · refine z_iload_n rfl rfl ?_
    exact z_ireturn rfl rfl
  · refine z_iload_n rfl rfl ?_
    refine z_goto rfl ?_
    exact z_ireturn rfl rfl
set_option maxRecDepth 20000 in
set_option maxHeartbeats 1000000 in
theorem t_J_isNaN (x0 : UInt32) (h : Hp) : Ct M_J_isNaN [vx (.float x0)] h (f_J_isNaN x0 h) := by
  refine Ct.mk ok_J_isNaN pl_J_isNaN rfl rfl ?_
  show Z M_J_isNaN 0 [some (vx (.float x0))] [] h (f_J_isNaN x0 h)
  unfold f_J_isNaN
  refine z_fload_n rfl rfl ?_
  refine z_fload_n rfl rfl ?_
  refine z_fcmp rfl ?_
  refine z_if_eq rfl ?_ ?_
  · refine z_iconst rfl rfl ?_
    exact z_zret0 rfl rfl
  · refine z_iconst rfl rfl ?_
    refine z_goto rfl ?_
    exact z_zret1 rfl rfl
set_option maxRecDepth 20000 in
set_option maxHeartbeats 1000000 in
theorem t_J_floatToIntBits (x0 : UInt32) (h : Hp) : Ct M_J_floatToIntBits [vx (.float x0)] h (f_J_floatToIntBits x0 h) := by
  refine Ct.mk ok_J_floatToIntBits pl_J_floatToIntBits rfl rfl ?_
  show Z M_J_floatToIntBits 0 [some (vx (.float x0))] [] h (f_J_floatToIntBits x0 h)
  unfold f_J_floatToIntBits
  refine z_fload_n rfl rfl ?_
  refine z_S1i ms_Jxf58ca_59 (t_J_isNaN _ _) rfl rfl rfl rfl (fun r1 h1 => ?_)
  refine z_if_ne rfl ?_ ?_
  · refine z_ldc rfl cst_Jxf58ca_77 rfl ?_
    exact z_ireturn rfl rfl
  · refine z_fload_n rfl rfl ?_
    refine z_rawbits rb_Jxf58ca_74 rfl rfl rfl ?_
    exact z_ireturn rfl rfl
set_option maxRecDepth 20000 in
set_option maxHeartbeats 1000000 in
theorem t_X0_aheadOf (x1 : Int) (x2 : Int) (h : Hp) : Ct M_X0_aheadOf [vr 19, vi x1, vi x2] h (f_X0_aheadOf x1 x2 h) := by
  refine Ct.mk ok_X0_aheadOf pl_X0_aheadOf rfl rfl ?_
  show Z M_X0_aheadOf 0 [some (vr 19), some (vi x1), some (vi x2)] [] h (f_X0_aheadOf x1 x2 h)
  unfold f_X0_aheadOf
  refine z_iload_n rfl rfl ?_
  refine z_if_lt rfl ?_ ?_
  · refine z_iload_n rfl rfl ?_
    exact z_ireturn rfl rfl
  · refine z_iload_n rfl rfl ?_
    refine z_sipush rfl rfl ?_
    refine z_icmp_lt rfl ?_ ?_
    · refine z_iload_n rfl rfl ?_
      refine z_if_lt rfl ?_ ?_
      · refine z_iload_n rfl rfl ?_
        exact z_ireturn rfl rfl
      · refine z_iload_n rfl rfl ?_
        refine z_sipush rfl rfl ?_
        refine z_icmp_lt rfl ?_ ?_
        · refine z_aload_n rfl rfl ?_
          refine z_getRn (m := 21) rfl fl_X0_15 rfl kd_19 rfl ?_
          refine z_iload_n rfl rfl ?_
          refine z_iaload rfl kd_21 ?_
          refine z_aload_n rfl rfl ?_
          refine z_getRn (m := 21) rfl fl_X0_15 rfl kd_19 rfl ?_
          refine z_iload_n rfl rfl ?_
          refine z_iaload rfl kd_21 ?_
          refine z_icmp_eq rfl ?_ ?_
          · refine z_iload_n rfl rfl ?_
            refine z_iload_n rfl rfl ?_
            refine z_S2i ms_X0_54 (t_J_min _ _ _) rfl rfl rfl rfl (fun r1 h1 => ?_)
            exact z_ireturn rfl rfl
          · refine z_aload_n rfl rfl ?_
            refine z_getRn (m := 21) rfl fl_X0_15 rfl kd_19 rfl ?_
            refine z_iload_n rfl rfl ?_
            refine z_iaload rfl kd_21 ?_
            refine z_aload_n rfl rfl ?_
            refine z_getRn (m := 21) rfl fl_X0_15 rfl kd_19 rfl ?_
            refine z_iload_n rfl rfl ?_
            refine z_iaload rfl kd_21 ?_
            refine z_icmp_le rfl ?_ ?_
            · refine z_iload_n rfl rfl ?_
              exact z_ireturn rfl rfl
            · refine z_iload_n rfl rfl ?_
              refine z_goto rfl ?_
              exact z_ireturn rfl rfl
        · refine z_iload_n rfl rfl ?_
          exact z_ireturn rfl rfl
    · refine z_iload_n rfl rfl ?_
      exact z_ireturn rfl rfl
set_option maxRecDepth 20000 in
set_option maxHeartbeats 1000000 in
theorem t_X0_claimMatched (x1 : Int) (h : Hp) : Ct M_X0_claimMatched [vr 19, vi x1] h (f_X0_claimMatched x1 h) := by
  refine Ct.mk ok_X0_claimMatched pl_X0_claimMatched rfl rfl ?_
  show Z M_X0_claimMatched 0 [some (vr 19), some (vi x1)] [] h (f_X0_claimMatched x1 h)
  unfold f_X0_claimMatched
  refine z_iload_n rfl rfl ?_
  refine z_if_lt rfl ?_ ?_
  · refine z_iconst rfl rfl ?_
    exact z_ireturn rfl rfl
  · refine z_iload_n rfl rfl ?_
    refine z_bipush rfl rfl ?_
    refine z_icmp_ge rfl ?_ ?_
    · refine z_iconst rfl rfl ?_
      exact z_ireturn rfl rfl
    · refine z_aload_n rfl rfl ?_
      refine z_getRn (m := 25) rfl fl_X0_28 rfl kd_19 rfl ?_
      refine z_iload_n rfl rfl ?_
      refine z_iaload rfl kd_25 ?_
      refine z_goto rfl ?_
      exact z_ireturn rfl rfl
set_option maxRecDepth 20000 in
set_option maxHeartbeats 1000000 in
theorem t_X0_join (x1 : Int) (x2 : Int) (h : Hp) : Ct M_X0_join [vr 19, vi x1, vi x2] h (f_X0_join x1 x2 h) := by
  refine Ct.mk ok_X0_join pl_X0_join rfl rfl ?_
  show Z M_X0_join 0 [some (vr 19), some (vi x1), some (vi x2)] [] h (f_X0_join x1 x2 h)
  unfold f_X0_join
  refine z_iload_n rfl rfl ?_
  refine z_if_lt rfl ?_ ?_
  · exact z_return rfl rfl
  · refine z_iload_n rfl rfl ?_
    refine z_bipush rfl rfl ?_
    refine z_icmp_ge rfl ?_ ?_
    · exact z_return rfl rfl
    · refine z_iload_n rfl rfl ?_
      refine z_if_lt rfl ?_ ?_
      · exact z_return rfl rfl
      · refine z_iload_n rfl rfl ?_
        refine z_bipush rfl rfl ?_
        refine z_icmp_ge rfl ?_ ?_
        · exact z_return rfl rfl
        · refine z_aload_n rfl rfl ?_
          refine z_getRn (m := 25) rfl fl_X0_28 rfl kd_19 rfl ?_
          refine z_iload_n rfl rfl ?_
          refine z_iload_n rfl rfl ?_
          refine z_iastoreL kd_25 rfl (fun h1 => ?_)
          refine z_aload_n rfl rfl ?_
          refine z_getRn (m := 26) rfl fl_X0_31 rfl kd_19 rfl ?_
          refine z_iload_n rfl rfl ?_
          refine z_iload_n rfl rfl ?_
          refine z_iastoreL kd_26 rfl (fun h2 => ?_)
          refine z_aload_n rfl rfl ?_
          refine z_dup rfl rfl ?_
          refine z_getI rfl fl_X0_41 rfl kd_19 ?_
          refine z_iconst rfl rfl ?_
          refine z_iadd rfl ?_
          refine z_putL fi_X0_41 rfl kd_19 rfl (fun h3 => ?_)
          exact z_return rfl rfl
set_option maxRecDepth 20000 in
set_option maxHeartbeats 1000000 in
theorem t_X0_pairOf (x1 : Int) (x2 : Int) (h : Hp) : Ct M_X0_pairOf [vr 19, vi x1, vi x2] h (f_X0_pairOf x1 x2 h) := by
  refine Ct.mk ok_X0_pairOf pl_X0_pairOf rfl rfl ?_
  show Z M_X0_pairOf 0 [some (vr 19), some (vi x1), some (vi x2), none] [] h (f_X0_pairOf x1 x2 h)
  unfold f_X0_pairOf
  refine z_iload_n rfl rfl ?_
  refine z_if_lt rfl ?_ ?_
  · refine z_iconst rfl rfl ?_
    exact z_ireturn rfl rfl
  · refine z_iload_n rfl rfl ?_
    refine z_aload_n rfl rfl ?_
    refine z_getI rfl fl_X0_34 rfl kd_19 ?_
    refine z_icmp_ge rfl ?_ ?_
    · refine z_iconst rfl rfl ?_
      exact z_ireturn rfl rfl
    · refine z_iload_n rfl rfl ?_
      refine z_if_lt rfl ?_ ?_
      · refine z_iconst rfl rfl ?_
        exact z_ireturn rfl rfl
      · refine z_iload_n rfl rfl ?_
        refine z_aload_n rfl rfl ?_
        refine z_getI rfl fl_X0_38 rfl kd_19 ?_
        refine z_icmp_lt rfl ?_ ?_
        · refine z_iload_n rfl rfl ?_
          refine z_bipush rfl rfl ?_
          refine z_imul rfl ?_
          refine z_iload_n rfl rfl ?_
          refine z_iadd rfl ?_
          refine z_istore_nL rfl rfl (fun y1 => ?_)
          refine z_iload_n rfl rfl ?_
          refine z_if_lt rfl ?_ ?_
          · refine z_iconst rfl rfl ?_
            exact z_ireturn rfl rfl
          · refine z_iload_n rfl rfl ?_
            refine z_sipush rfl rfl ?_
            refine z_icmp_ge rfl ?_ ?_
            · refine z_iconst rfl rfl ?_
              exact z_ireturn rfl rfl
            · refine z_iload_n rfl rfl ?_
              refine z_goto rfl ?_
              exact z_ireturn rfl rfl
        · refine z_iconst rfl rfl ?_
          exact z_ireturn rfl rfl
set_option maxRecDepth 20000 in
set_option maxHeartbeats 1000000 in
theorem t_X0_part (x1 : Int) (x2 : Int) (h : Hp) : Ct M_X0_part [vr 19, vi x1, vi x2] h (f_X0_part x1 x2 h) := by
  refine Ct.mk ok_X0_part pl_X0_part rfl rfl ?_
  show Z M_X0_part 0 [some (vr 19), some (vi x1), some (vi x2)] [] h (f_X0_part x1 x2 h)
  unfold f_X0_part
  refine z_iload_n rfl rfl ?_
  refine z_if_lt rfl ?_ ?_
  · exact z_return rfl rfl
  · refine z_iload_n rfl rfl ?_
    refine z_bipush rfl rfl ?_
    refine z_icmp_ge rfl ?_ ?_
    · exact z_return rfl rfl
    · refine z_iload_n rfl rfl ?_
      refine z_if_lt rfl ?_ ?_
      · exact z_return rfl rfl
      · refine z_iload_n rfl rfl ?_
        refine z_bipush rfl rfl ?_
        refine z_icmp_ge rfl ?_ ?_
        · exact z_return rfl rfl
        · refine z_aload_n rfl rfl ?_
          refine z_getRn (m := 25) rfl fl_X0_28 rfl kd_19 rfl ?_
          refine z_iload_n rfl rfl ?_
          refine z_iconst rfl rfl ?_
          refine z_iastoreL kd_25 rfl (fun h1 => ?_)
          refine z_aload_n rfl rfl ?_
          refine z_getRn (m := 26) rfl fl_X0_31 rfl kd_19 rfl ?_
          refine z_iload_n rfl rfl ?_
          refine z_iconst rfl rfl ?_
          refine z_iastoreL kd_26 rfl (fun h2 => ?_)
          refine z_aload_n rfl rfl ?_
          refine z_dup rfl rfl ?_
          refine z_getI rfl fl_X0_41 rfl kd_19 ?_
          refine z_iconst rfl rfl ?_
          refine z_isub rfl ?_
          refine z_putL fi_X0_41 rfl kd_19 rfl (fun h3 => ?_)
          exact z_return rfl rfl
set_option maxRecDepth 20000 in
set_option maxHeartbeats 1000000 in
theorem t_X0_askFor_J36 (x1 : Int) (x2 : Int) (h : Hp) : Z M_X0_askFor 36 [some (vr 19), some (vi x1), some (vi x2), none] [] h (f_X0_askFor_J36 x1 x2 h) := by
  unfold f_X0_askFor_J36
  refine z_aload_n rfl rfl ?_
  refine z_iload_n rfl rfl ?_
  refine z_iload_n rfl rfl ?_
  refine z_bipush rfl rfl ?_
  refine z_irem rfl rfl ?_
  refine z_V2v ko0 mv_X0_98 kd_19 (t_X0_join _ _ _) rfl rfl rfl rfl rfl (fun _ h4 => ?_)
  exact z_return rfl rfl
set_option maxRecDepth 20000 in
set_option maxHeartbeats 1000000 in
theorem t_X0_askFor (x1 : Int) (h : Hp) : Ct M_X0_askFor [vr 19, vi x1] h (f_X0_askFor x1 h) := by
  refine Ct.mk ok_X0_askFor pl_X0_askFor rfl rfl ?_
  show Z M_X0_askFor 0 [some (vr 19), some (vi x1), none, none] [] h (f_X0_askFor x1 h)
  unfold f_X0_askFor
  refine z_iload_n rfl rfl ?_
  refine z_if_lt rfl ?_ ?_
  · exact z_return rfl rfl
  · refine z_iload_n rfl rfl ?_
    refine z_sipush rfl rfl ?_
    refine z_icmp_lt rfl ?_ ?_
    · refine z_aload_n rfl rfl ?_
      refine z_getRn (m := 23) rfl fl_X0_22 rfl kd_19 rfl ?_
      refine z_iload_n rfl rfl ?_
      refine z_iconst rfl rfl ?_
      refine z_bastoreL kd_23 rfl (fun h1 => ?_)
      refine z_iload_n rfl rfl ?_
      refine z_bipush rfl rfl ?_
      refine z_idiv rfl rfl ?_
      refine z_istore_nL rfl rfl (fun y2 => ?_)
      refine z_aload_n rfl rfl ?_
      refine z_iload_n rfl rfl ?_
      refine z_V1i ko0 mv_X0_102 kd_19 (t_X0_claimMatched _ _) rfl rfl rfl rfl rfl (fun r3 h3 => ?_)
      refine z_istore_n rfl rfl ?_
      refine z_iload_n rfl rfl ?_
      refine z_iconst rfl rfl ?_
      refine z_icmp_eq rfl ?_ ?_
      · refine Z.weak ?_ (t_X0_askFor_J36  _ _  _)
        exact wkL_c (wkL_c (wkL_c (wkL_n (wkL_nil _))))
      · refine z_aload_n rfl rfl ?_
        refine z_iload_n rfl rfl ?_
        refine z_aload_n rfl rfl ?_
        refine z_iload_n rfl rfl ?_
        refine z_iload_n rfl rfl ?_
        refine z_V2i ko0 mv_X0_81 kd_19 (t_X0_pairOf _ _ _) rfl rfl rfl rfl rfl (fun r5 h5 => ?_)
        refine z_V2i ko0 mv_X0_108 kd_19 (t_X0_aheadOf _ _ _) rfl rfl rfl rfl rfl (fun r6 h6 => ?_)
        refine z_iload_n rfl rfl ?_
        refine z_icmp_eq rfl ?_ ?_
        · refine z_aload_n rfl rfl ?_
          refine z_iload_n rfl rfl ?_
          refine z_iload_n rfl rfl ?_
          refine z_V2v ko0 mv_X0_124 kd_19 (t_X0_part _ _ _) rfl rfl rfl rfl rfl (fun _ h7 => ?_)
          refine Z.weak ?_ (t_X0_askFor_J36  _ _  _)
          exact wkL_c (wkL_c (wkL_c (wkL_n (wkL_nil _))))
        · exact z_return rfl rfl
    · exact z_return rfl rfl
set_option maxRecDepth 20000 in
set_option maxHeartbeats 1000000 in
theorem t_X0_suits (x1 : Int) (x2 : Int) (h : Hp) : Ct M_X0_suits [vr 19, vi x1, vi x2] h (f_X0_suits x1 x2 h) := by
  refine Ct.mk ok_X0_suits pl_X0_suits rfl rfl ?_
  show Z M_X0_suits 0 [some (vr 19), some (vi x1), some (vi x2), none] [] h (f_X0_suits x1 x2 h)
  unfold f_X0_suits
  refine z_aload_n rfl rfl ?_
  refine z_iload_n rfl rfl ?_
  refine z_iload_n rfl rfl ?_
  refine z_V2i ko0 mv_X0_81 kd_19 (t_X0_pairOf _ _ _) rfl rfl rfl rfl rfl (fun r1 h1 => ?_)
  refine z_istore_n rfl rfl ?_
  refine z_iload_n rfl rfl ?_
  refine z_if_lt rfl ?_ ?_
  · refine z_iconst rfl rfl ?_
    exact z_zret0 rfl rfl
  · refine z_iload_n rfl rfl ?_
    refine z_sipush rfl rfl ?_
    refine z_icmp_ge rfl ?_ ?_
    · refine z_iconst rfl rfl ?_
      exact z_zret0 rfl rfl
    · refine z_aload_n rfl rfl ?_
      refine z_getRn (m := 22) rfl fl_X0_18 rfl kd_19 rfl ?_
      refine z_iload_n rfl rfl ?_
      refine z_baload rfl kd_22 ?_
      refine z_if_eq rfl ?_ ?_
      · refine z_iconst rfl rfl ?_
        exact z_zret0 rfl rfl
      · refine z_iconst rfl rfl ?_
        refine z_goto rfl ?_
        exact z_zret1 rfl rfl
set_option maxRecDepth 20000 in
set_option maxHeartbeats 1000000 in
theorem t_X0_umbrellaMatched (x1 : Int) (h : Hp) : Ct M_X0_umbrellaMatched [vr 19, vi x1] h (f_X0_umbrellaMatched x1 h) := by
  refine Ct.mk ok_X0_umbrellaMatched pl_X0_umbrellaMatched rfl rfl ?_
  show Z M_X0_umbrellaMatched 0 [some (vr 19), some (vi x1)] [] h (f_X0_umbrellaMatched x1 h)
  unfold f_X0_umbrellaMatched
  refine z_iload_n rfl rfl ?_
  refine z_if_lt rfl ?_ ?_
  · refine z_iconst rfl rfl ?_
    exact z_ireturn rfl rfl
  · refine z_iload_n rfl rfl ?_
    refine z_bipush rfl rfl ?_
    refine z_icmp_ge rfl ?_ ?_
    · refine z_iconst rfl rfl ?_
      exact z_ireturn rfl rfl
    · refine z_aload_n rfl rfl ?_
      refine z_getRn (m := 26) rfl fl_X0_31 rfl kd_19 rfl ?_
      refine z_iload_n rfl rfl ?_
      refine z_iaload rfl kd_26 ?_
      refine z_goto rfl ?_
      exact z_ireturn rfl rfl
set_option maxRecDepth 20000 in
set_option maxHeartbeats 1000000 in
theorem t_X0_bestFreePair_L16 (x2 : Int) (c40 : Int → Hp → Option (Int × Hp)) (hc40 : ∀ (y1 : Int) (h : Hp), Z M_X0_bestFreePair 40 [some (vr 19), some (vi y1), some (vi x2), none] [] h (c40 y1 h)) : ∀ (n : Nat) (x1 : Int) (x3 : Int) (h : Hp), Z M_X0_bestFreePair 16 [some (vr 19), some (vi x1), some (vi x2), some (vi x3)] [] h (f_X0_bestFreePair_L16 x2 c40 n x1 x3 h) := by
  intro n
  induction n with
  | zero => intro x1 x3 h; exact Z.nix
  | succ n ih =>
    intro x1 x3 h
    rw [f_X0_bestFreePair_L16_s]
    refine z_iload_n rfl rfl ?_
    refine z_aload_n rfl rfl ?_
    refine z_getI rfl fl_X0_38 rfl kd_19 ?_
    refine z_icmp_ge rfl ?_ ?_
    · refine Z.weak ?_ (hc40 _ _)
      exact wkL_c (wkL_c (wkL_c (wkL_n (wkL_nil _))))
    · refine z_aload_n rfl rfl ?_
      refine z_iload_n rfl rfl ?_
      refine z_V1i ko0 mv_X0_105 kd_19 (t_X0_umbrellaMatched _ _) rfl rfl rfl rfl rfl (fun r2 h2 => ?_)
      refine z_iconst rfl rfl ?_
      refine z_icmp_ne rfl ?_ ?_
      · refine z_iinc rfl rfl rfl ?_
        refine z_goto rfl ?_
        refine Z.weak ?_ (ih _ _ _)
        exact wkL_c (wkL_c (wkL_c (wkL_c (wkL_nil _))))
      · refine z_aload_n rfl rfl ?_
        refine z_iload_n rfl rfl ?_
        refine z_iload_n rfl rfl ?_
        refine z_V2i ko0 mv_X0_84 kd_19 (t_X0_suits _ _ _) rfl rfl rfl rfl rfl (fun r3 h3 => ?_)
        refine z_if_eq rfl ?_ ?_
        · refine z_iinc rfl rfl rfl ?_
          refine z_goto rfl ?_
          refine Z.weak ?_ (ih _ _ _)
          exact wkL_c (wkL_c (wkL_c (wkL_c (wkL_nil _))))
        · refine z_aload_n rfl rfl ?_
          refine z_aload_n rfl rfl ?_
          refine z_iload_n rfl rfl ?_
          refine z_iload_n rfl rfl ?_
          refine z_V2i ko0 mv_X0_81 kd_19 (t_X0_pairOf _ _ _) rfl rfl rfl rfl rfl (fun r4 h4 => ?_)
          refine z_iload_n rfl rfl ?_
          refine z_V2i ko0 mv_X0_108 kd_19 (t_X0_aheadOf _ _ _) rfl rfl rfl rfl rfl (fun r5 h5 => ?_)
          refine z_istore_n rfl rfl ?_
          refine z_iinc rfl rfl rfl ?_
          refine z_goto rfl ?_
          refine Z.weak ?_ (ih _ _ _)
          exact wkL_c (wkL_c (wkL_c (wkL_c (wkL_nil _))))
set_option maxRecDepth 20000 in
set_option maxHeartbeats 1000000 in
theorem t_X0_bestFreePair_L4  : ∀ (n : Nat) (x1 : Int) (x2 : Int) (h : Hp), Z M_X0_bestFreePair 4 [some (vr 19), some (vi x1), some (vi x2), none] [] h (f_X0_bestFreePair_L4  n x1 x2 h) := by
  intro n
  induction n with
  | zero => intro x1 x2 h; exact Z.nix
  | succ n ih =>
    intro x1 x2 h
    rw [f_X0_bestFreePair_L4_s]
    refine z_iload_n rfl rfl ?_
    refine z_aload_n rfl rfl ?_
    refine z_getI rfl fl_X0_34 rfl kd_19 ?_
    refine z_icmp_ge rfl ?_ ?_
    · refine z_iload_n rfl rfl ?_
      exact z_ireturn rfl rfl
    · refine z_aload_n rfl rfl ?_
      refine z_iload_n rfl rfl ?_
      refine z_V1i ko0 mv_X0_102 kd_19 (t_X0_claimMatched _ _) rfl rfl rfl rfl rfl (fun r1 h1 => ?_)
      refine z_iconst rfl rfl ?_
      refine z_icmp_eq rfl ?_ ?_
      · refine z_iconst rfl rfl ?_
        refine z_istore_n rfl rfl ?_
        refine Z.weak ?_ (t_X0_bestFreePair_L16  _  _  ?_  fu _ _ _)
        · exact wkL_c (wkL_c (wkL_c (wkL_c (wkL_nil _))))
        · intro y6 h7
          refine z_iinc rfl rfl rfl ?_
          refine z_goto rfl ?_
          refine Z.weak ?_ (ih _ _ _)
          exact wkL_c (wkL_c (wkL_c (wkL_n (wkL_nil _))))
      · refine z_goto rfl ?_
        refine z_iinc rfl rfl rfl ?_
        refine z_goto rfl ?_
        refine Z.weak ?_ (ih _ _ _)
        exact wkL_c (wkL_c (wkL_c (wkL_n (wkL_nil _))))
set_option maxRecDepth 20000 in
set_option maxHeartbeats 1000000 in
theorem t_X0_bestFreePair  (h : Hp) : Ct M_X0_bestFreePair [vr 19] h (f_X0_bestFreePair  h) := by
  refine Ct.mk ok_X0_bestFreePair pl_X0_bestFreePair rfl rfl ?_
  show Z M_X0_bestFreePair 0 [some (vr 19), none, none, none] [] h (f_X0_bestFreePair  h)
  unfold f_X0_bestFreePair
  refine z_iconst rfl rfl ?_
  refine z_istore_n rfl rfl ?_
  refine z_iconst rfl rfl ?_
  refine z_istore_n rfl rfl ?_
  refine Z.weak ?_ (t_X0_bestFreePair_L4      fu _ _ _)
  · exact wkL_c (wkL_c (wkL_c (wkL_n (wkL_nil _))))
set_option maxRecDepth 20000 in
set_option maxHeartbeats 1000000 in
theorem t_X0_claimsSuiting_L4 (x1 : Int) : ∀ (n : Nat) (x2 : Int) (x3 : Int) (h : Hp), Z M_X0_claimsSuiting 4 [some (vr 19), some (vi x1), some (vi x2), some (vi x3)] [] h (f_X0_claimsSuiting_L4 x1 n x2 x3 h) := by
  intro n
  induction n with
  | zero => intro x2 x3 h; exact Z.nix
  | succ n ih =>
    intro x2 x3 h
    rw [f_X0_claimsSuiting_L4_s]
    refine z_iload_n rfl rfl ?_
    refine z_aload_n rfl rfl ?_
    refine z_getI rfl fl_X0_38 rfl kd_19 ?_
    refine z_icmp_ge rfl ?_ ?_
    · refine z_iload_n rfl rfl ?_
      exact z_ireturn rfl rfl
    · refine z_aload_n rfl rfl ?_
      refine z_iload_n rfl rfl ?_
      refine z_iload_n rfl rfl ?_
      refine z_V2i ko0 mv_X0_84 kd_19 (t_X0_suits _ _ _) rfl rfl rfl rfl rfl (fun r1 h1 => ?_)
      refine z_if_eq rfl ?_ ?_
      · refine z_iinc rfl rfl rfl ?_
        refine z_goto rfl ?_
        refine Z.weak ?_ (ih _ _ _)
        exact wkL_c (wkL_c (wkL_c (wkL_c (wkL_nil _))))
      · refine z_iinc rfl rfl rfl ?_
        refine z_iinc rfl rfl rfl ?_
        refine z_goto rfl ?_
        refine Z.weak ?_ (ih _ _ _)
        exact wkL_c (wkL_c (wkL_c (wkL_c (wkL_nil _))))
set_option maxRecDepth 20000 in
set_option maxHeartbeats 1000000 in
theorem t_X0_claimsSuiting (x1 : Int) (h : Hp) : Ct M_X0_claimsSuiting [vr 19, vi x1] h (f_X0_claimsSuiting x1 h) := by
  refine Ct.mk ok_X0_claimsSuiting pl_X0_claimsSuiting rfl rfl ?_
  show Z M_X0_claimsSuiting 0 [some (vr 19), some (vi x1), none, none] [] h (f_X0_claimsSuiting x1 h)
  unfold f_X0_claimsSuiting
  refine z_iconst rfl rfl ?_
  refine z_istore_n rfl rfl ?_
  refine z_iconst rfl rfl ?_
  refine z_istore_n rfl rfl ?_
  refine Z.weak ?_ (t_X0_claimsSuiting_L4  _     fu _ _ _)
  · exact wkL_c (wkL_c (wkL_c (wkL_c (wkL_nil _))))
set_option maxRecDepth 20000 in
set_option maxHeartbeats 1000000 in
theorem t_X0_matchNone_L2 (c14 : Hp → Option (Int × Hp)) (hc14 : ∀ (h : Hp), Z M_X0_matchNone 14 [some (vr 19), none] [] h (c14  h)) : ∀ (n : Nat) (x1 : Int) (h : Hp), Z M_X0_matchNone 2 [some (vr 19), some (vi x1)] [] h (f_X0_matchNone_L2 c14 n x1 h) := by
  intro n
  induction n with
  | zero => intro x1 h; exact Z.nix
  | succ n ih =>
    intro x1 h
    rw [f_X0_matchNone_L2_s]
    refine z_iload_n rfl rfl ?_
    refine z_aload_n rfl rfl ?_
    refine z_getRn (m := 25) rfl fl_X0_28 rfl kd_19 rfl ?_
    refine z_alen (c := 0) rfl kd_25 (by omega) ?_
    refine z_icmp_ge rfl ?_ ?_
    · refine Z.weak ?_ (hc14 _)
      exact wkL_c (wkL_n (wkL_nil _))
    · refine z_aload_n rfl rfl ?_
      refine z_getRn (m := 25) rfl fl_X0_28 rfl kd_19 rfl ?_
      refine z_iload_n rfl rfl ?_
      refine z_iconst rfl rfl ?_
      refine z_iastoreL kd_25 rfl (fun h1 => ?_)
      refine z_iinc rfl rfl rfl ?_
      refine z_goto rfl ?_
      refine Z.weak ?_ (ih _ _)
      exact wkL_c (wkL_c (wkL_nil _))
set_option maxRecDepth 20000 in
set_option maxHeartbeats 1000000 in
theorem t_X0_matchNone_L16  : ∀ (n : Nat) (x1 : Int) (h : Hp), Z M_X0_matchNone 16 [some (vr 19), some (vi x1)] [] h (f_X0_matchNone_L16  n x1 h) := by
  intro n
  induction n with
  | zero => intro x1 h; exact Z.nix
  | succ n ih =>
    intro x1 h
    rw [f_X0_matchNone_L16_s]
    refine z_iload_n rfl rfl ?_
    refine z_aload_n rfl rfl ?_
    refine z_getRn (m := 26) rfl fl_X0_31 rfl kd_19 rfl ?_
    refine z_alen (c := 0) rfl kd_26 (by omega) ?_
    refine z_icmp_ge rfl ?_ ?_
    · refine z_aload_n rfl rfl ?_
      refine z_iconst rfl rfl ?_
      refine z_putL fi_X0_41 rfl kd_19 rfl (fun h3 => ?_)
      exact z_return rfl rfl
    · refine z_aload_n rfl rfl ?_
      refine z_getRn (m := 26) rfl fl_X0_31 rfl kd_19 rfl ?_
      refine z_iload_n rfl rfl ?_
      refine z_iconst rfl rfl ?_
      refine z_iastoreL kd_26 rfl (fun h4 => ?_)
      refine z_iinc rfl rfl rfl ?_
      refine z_goto rfl ?_
      refine Z.weak ?_ (ih _ _)
      exact wkL_c (wkL_c (wkL_nil _))
set_option maxRecDepth 20000 in
set_option maxHeartbeats 1000000 in
theorem t_X0_matchNone  (h : Hp) : Ct M_X0_matchNone [vr 19] h (f_X0_matchNone  h) := by
  refine Ct.mk ok_X0_matchNone pl_X0_matchNone rfl rfl ?_
  show Z M_X0_matchNone 0 [some (vr 19), none] [] h (f_X0_matchNone  h)
  unfold f_X0_matchNone
  refine z_iconst rfl rfl ?_
  refine z_istore_n rfl rfl ?_
  refine Z.weak ?_ (t_X0_matchNone_L2   _  ?_  fu _ _)
  · exact wkL_c (wkL_c (wkL_nil _))
  · intro h2
    refine z_iconst rfl rfl ?_
    refine z_istore_n rfl rfl ?_
    refine Z.weak ?_ (t_X0_matchNone_L16      fu _ _)
    · exact wkL_c (wkL_c (wkL_nil _))
set_option maxRecDepth 20000 in
set_option maxHeartbeats 1000000 in
theorem t_X2_cell (x0 : Nat) (k0 : kd x0 = (2, 0)) (x1 : Int) (x2 : Int) (h : Hp) : Ct M_X2_cell [vr x0, vi x1, vi x2] h (f_X2_cell x0 x1 x2 h) := by
  refine Ct.mk ok_X2_cell pl_X2_cell rfl rfl ?_
  show Z M_X2_cell 0 [some (vr x0), some (vi x1), some (vi x2), none] [] h (f_X2_cell x0 x1 x2 h)
  unfold f_X2_cell
  refine z_iload_n rfl rfl ?_
  refine z_if_lt rfl ?_ ?_
  · refine z_iconst rfl rfl ?_
    exact z_ireturn rfl rfl
  · refine z_iload_n rfl rfl ?_
    refine z_aload_n rfl rfl ?_
    refine z_getI rfl fl_X2_15 rfl k0 ?_
    refine z_icmp_ge rfl ?_ ?_
    · refine z_iconst rfl rfl ?_
      exact z_ireturn rfl rfl
    · refine z_iload_n rfl rfl ?_
      refine z_if_lt rfl ?_ ?_
      · refine z_iconst rfl rfl ?_
        exact z_ireturn rfl rfl
      · refine z_iload_n rfl rfl ?_
        refine z_bipush rfl rfl ?_
        refine z_icmp_lt rfl ?_ ?_
        · refine z_iload_n rfl rfl ?_
          refine z_bipush rfl rfl ?_
          refine z_imul rfl ?_
          refine z_iload_n rfl rfl ?_
          refine z_iadd rfl ?_
          refine z_istore_nL rfl rfl (fun y1 => ?_)
          refine z_iload_n rfl rfl ?_
          refine z_if_lt rfl ?_ ?_
          · refine z_iconst rfl rfl ?_
            exact z_ireturn rfl rfl
          · refine z_iload_n rfl rfl ?_
            refine z_aload_n rfl rfl ?_
            refine z_getR rfl fl_X2_9 rfl k0 ?_
            refine z_alen (c := 0) rfl (kR_1 k0) (by omega) ?_
            refine z_icmp_ge rfl ?_ ?_
            · refine z_iconst rfl rfl ?_
              exact z_ireturn rfl rfl
            · refine z_aload_n rfl rfl ?_
              refine z_getR rfl fl_X2_9 rfl k0 ?_
              refine z_iload_n rfl rfl ?_
              refine z_iaload rfl (kR_1 k0) ?_
              refine z_goto rfl ?_
              exact z_ireturn rfl rfl
        · refine z_iconst rfl rfl ?_
          exact z_ireturn rfl rfl
set_option maxRecDepth 20000 in
set_option maxHeartbeats 1000000 in
theorem t_X0_noteOddness_L2 (x1 : Nat) (k1 : kd x1 = (1, 0)) (c14 : Hp → Option (Int × Hp)) (hc14 : ∀ (h : Hp), Z M_X0_noteOddness 14 [some (vr 19), some (vr x1), none, none, none] [] h (c14  h)) : ∀ (n : Nat) (x2 : Int) (h : Hp), Z M_X0_noteOddness 2 [some (vr 19), some (vr x1), some (vi x2), none, none] [] h (f_X0_noteOddness_L2 x1 c14 n x2 h) := by
  intro n
  induction n with
  | zero => intro x2 h; exact Z.nix
  | succ n ih =>
    intro x2 h
    rw [f_X0_noteOddness_L2_s]
    refine z_iload_n rfl rfl ?_
    refine z_aload_n rfl rfl ?_
    refine z_getRn (m := 24) rfl fl_X0_25 rfl kd_19 rfl ?_
    refine z_alen (c := 0) rfl kd_24 (by omega) ?_
    refine z_icmp_ge rfl ?_ ?_
    · refine Z.weak ?_ (hc14 _)
      exact wkL_c (wkL_c (wkL_n (wkL_n (wkL_n (wkL_nil _)))))
    · refine z_aload_n rfl rfl ?_
      refine z_getRn (m := 24) rfl fl_X0_25 rfl kd_19 rfl ?_
      refine z_iload_n rfl rfl ?_
      refine z_bipush rfl rfl ?_
      refine z_iastoreL kd_24 rfl (fun h1 => ?_)
      refine z_iinc rfl rfl rfl ?_
      refine z_goto rfl ?_
      refine Z.weak ?_ (ih _ _)
      exact wkL_c (wkL_c (wkL_c (wkL_n (wkL_n (wkL_nil _)))))
set_option maxRecDepth 20000 in
set_option maxHeartbeats 1000000 in
theorem t_X0_noteOddness_L22 (x1 : Nat) (k1 : kd x1 = (1, 0)) (x2 : Int) (c52 : Hp → Option (Int × Hp)) (hc52 : ∀ (h : Hp), Z M_X0_noteOddness 52 [some (vr 19), some (vr x1), some (vi x2), none, none] [] h (c52  h)) : ∀ (n : Nat) (x3 : Int) (h : Hp), Z M_X0_noteOddness 22 [some (vr 19), some (vr x1), some (vi x2), some (vi x3), none] [] h (f_X0_noteOddness_L22 x1 x2 c52 n x3 h) := by
  intro n
  induction n with
  | zero => intro x3 h; exact Z.nix
  | succ n ih =>
    intro x3 h
    rw [f_X0_noteOddness_L22_s]
    refine z_iload_n rfl rfl ?_
    refine z_iconst rfl rfl ?_
    refine z_icmp_ge rfl ?_ ?_
    · refine Z.weak ?_ (hc52 _)
      exact wkL_c (wkL_c (wkL_c (wkL_n (wkL_n (wkL_nil _)))))
    · refine z_iload_n rfl rfl ?_
      refine z_bipush rfl rfl ?_
      refine z_imul rfl ?_
      refine z_aload_n rfl rfl ?_
      refine z_getR rfl fl_X0_44 rfl k1 ?_
      refine z_iload_n rfl rfl ?_
      refine z_iload_n rfl rfl ?_
      refine z_V2i ko2 mv_X0_70 (kO_1 k1) (t_X2_cell (x1 + 1) (kO_1 k1) _ _ _) rfl rfl rfl rfl rfl (fun r3 h3 => ?_)
      refine z_iadd rfl ?_
      refine z_istoreL rfl rfl (fun y4 => ?_)
      refine z_iload rfl rfl ?_
      refine z_if_lt rfl ?_ ?_
      · refine z_iinc rfl rfl rfl ?_
        refine z_goto rfl ?_
        refine Z.weak ?_ (ih _ _)
        exact wkL_c (wkL_c (wkL_c (wkL_c (wkL_n (wkL_nil _)))))
      · refine z_iload rfl rfl ?_
        refine z_aload_n rfl rfl ?_
        refine z_getRn (m := 24) rfl fl_X0_25 rfl kd_19 rfl ?_
        refine z_alen (c := 0) rfl kd_24 (by omega) ?_
        refine z_icmp_ge rfl ?_ ?_
        · refine z_iinc rfl rfl rfl ?_
          refine z_goto rfl ?_
          refine Z.weak ?_ (ih _ _)
          exact wkL_c (wkL_c (wkL_c (wkL_c (wkL_n (wkL_nil _)))))
        · refine z_aload_n rfl rfl ?_
          refine z_getRn (m := 24) rfl fl_X0_25 rfl kd_19 rfl ?_
          refine z_iload rfl rfl ?_
          refine z_dup2 rfl rfl rfl ?_
          refine z_iaload rfl kd_24 ?_
          refine z_iconst rfl rfl ?_
          refine z_isub rfl ?_
          refine z_iastoreL kd_24 rfl (fun h5 => ?_)
          refine z_iinc rfl rfl rfl ?_
          refine z_goto rfl ?_
          refine Z.weak ?_ (ih _ _)
          exact wkL_c (wkL_c (wkL_c (wkL_c (wkL_n (wkL_nil _)))))
set_option maxRecDepth 20000 in
set_option maxHeartbeats 1000000 in
theorem t_X0_noteOddness_L16 (x1 : Nat) (k1 : kd x1 = (1, 0)) : ∀ (n : Nat) (x2 : Int) (h : Hp), Z M_X0_noteOddness 16 [some (vr 19), some (vr x1), some (vi x2), none, none] [] h (f_X0_noteOddness_L16 x1 n x2 h) := by
  intro n
  induction n with
  | zero => intro x2 h; exact Z.nix
  | succ n ih =>
    intro x2 h
    rw [f_X0_noteOddness_L16_s]
    refine z_iload_n rfl rfl ?_
    refine z_aload_n rfl rfl ?_
    refine z_getI rfl fl_X0_34 rfl kd_19 ?_
    refine z_icmp_ge rfl ?_ ?_
    · exact z_return rfl rfl
    · refine z_iconst rfl rfl ?_
      refine z_istore_n rfl rfl ?_
      refine Z.weak ?_ (t_X0_noteOddness_L22 x1 k1 _  _  ?_  fu _ _)
      · exact wkL_c (wkL_c (wkL_c (wkL_c (wkL_n (wkL_nil _)))))
      · intro h6
        refine z_iinc rfl rfl rfl ?_
        refine z_goto rfl ?_
        refine Z.weak ?_ (ih _ _)
        exact wkL_c (wkL_c (wkL_c (wkL_n (wkL_n (wkL_nil _)))))
set_option maxRecDepth 20000 in
set_option maxHeartbeats 1000000 in
theorem t_X0_noteOddness (x1 : Nat) (k1 : kd x1 = (1, 0)) (h : Hp) : Ct M_X0_noteOddness [vr 19, vr x1] h (f_X0_noteOddness x1 h) := by
  refine Ct.mk ok_X0_noteOddness pl_X0_noteOddness rfl rfl ?_
  show Z M_X0_noteOddness 0 [some (vr 19), some (vr x1), none, none, none] [] h (f_X0_noteOddness x1 h)
  unfold f_X0_noteOddness
  refine z_iconst rfl rfl ?_
  refine z_istore_n rfl rfl ?_
  refine Z.weak ?_ (t_X0_noteOddness_L2 x1 k1  _  ?_  fu _ _)
  · exact wkL_c (wkL_c (wkL_c (wkL_n (wkL_n (wkL_nil _)))))
  · intro h2
    refine z_iconst rfl rfl ?_
    refine z_istore_n rfl rfl ?_
    refine Z.weak ?_ (t_X0_noteOddness_L16 x1 k1     fu _ _)
    · exact wkL_c (wkL_c (wkL_c (wkL_n (wkL_n (wkL_nil _)))))
set_option maxRecDepth 20000 in
set_option maxHeartbeats 1000000 in
theorem t_X4_numberAt (x0 : Nat) (n0 : Nat) (k0 : kd x0 = (10, n0) ∨ kd x0 = (30, n0)) (x1 : Int) (h : Hp) : Ct M_X4_numberAt [vr x0, vi x1] h (f_X4_numberAt x0 n0 x1 h) := by
  refine Ct.mk ok_X4_numberAt pl_X4_numberAt rfl rfl ?_
  show Z M_X4_numberAt 0 [some (vr x0), some (vi x1)] [] h (f_X4_numberAt x0 n0 x1 h)
  unfold f_X4_numberAt
  refine z_iload_n rfl rfl ?_
  refine z_if_lt rfl ?_ ?_
  · refine z_iconst rfl rfl ?_
    exact z_ireturn rfl rfl
  · refine z_iload_n rfl rfl ?_
    refine z_aload_n rfl rfl ?_
    refine z_alenX k0 rfl ?_
    refine z_icmp_ge rfl ?_ ?_
    · refine z_iconst rfl rfl ?_
      exact z_ireturn rfl rfl
    · refine z_aload_n rfl rfl ?_
      refine z_iload_n rfl rfl ?_
      refine z_ialoadX k0 rfl ?_
      refine z_goto rfl ?_
      exact z_ireturn rfl rfl
set_option maxRecDepth 20000 in
set_option maxHeartbeats 1000000 in
theorem t_X1_setting (x0 : Nat) (k0 : kd x0 = (1, 0)) (x1 : Int) (h : Hp) : Ct M_X1_setting [vr x0, vi x1] h (f_X1_setting x0 x1 h) := by
  refine Ct.mk ok_X1_setting pl_X1_setting rfl rfl ?_
  show Z M_X1_setting 0 [some (vr x0), some (vi x1)] [] h (f_X1_setting x0 x1 h)
  unfold f_X1_setting
  refine z_iload_n rfl rfl ?_
  refine z_if_lt rfl ?_ ?_
  · refine z_iconst rfl rfl ?_
    exact z_ireturn rfl rfl
  · refine z_iload_n rfl rfl ?_
    refine z_aload_n rfl rfl ?_
    refine z_getR rfl fl_X1_24 rfl k0 ?_
    refine z_alen (c := 0) rfl (kO_7 k0) (by omega) ?_
    refine z_icmp_ge rfl ?_ ?_
    · refine z_iconst rfl rfl ?_
      exact z_ireturn rfl rfl
    · refine z_aload_n rfl rfl ?_
      refine z_getR rfl fl_X1_24 rfl k0 ?_
      refine z_iload_n rfl rfl ?_
      refine z_iaload rfl (kO_7 k0) ?_
      refine z_goto rfl ?_
      exact z_ireturn rfl rfl
set_option maxRecDepth 20000 in
set_option maxHeartbeats 1000000 in
theorem t_X0_weigh_L6 (x3 : Nat) (k3 : kd x3 = (1, 0)) (x1 : Int) (x2 : Int) (c40 : Int → Int → Hp → Option (Int × Hp)) (hc40 : ∀ (y4 : Int) (y5 : Int) (h : Hp), Z M_X0_weigh 40 [some (vr 19), some (vi x1), some (vi x2), some (vr x3), some (vi y4), some (vi y5), none, none] [] h (c40 y4 y5 h)) : ∀ (n : Nat) (x4 : Int) (x5 : Int) (x6 : Int) (h : Hp), Z M_X0_weigh 6 [some (vr 19), some (vi x1), some (vi x2), some (vr x3), some (vi x4), some (vi x5), some (vi x6), none] [] h (f_X0_weigh_L6 x3 x1 x2 c40 n x4 x5 x6 h) := by
  intro n
  induction n with
  | zero => intro x4 x5 x6 h; exact Z.nix
  | succ n ih =>
    intro x4 x5 x6 h
    rw [f_X0_weigh_L6_s]
    refine z_iload rfl rfl ?_
    refine z_iconst rfl rfl ?_
    refine z_icmp_ge rfl ?_ ?_
    · refine Z.weak ?_ (hc40 _ _ _)
      exact wkL_c (wkL_c (wkL_c (wkL_c (wkL_c (wkL_c (wkL_n (wkL_n (wkL_nil _))))))))
    · refine z_aload_n rfl rfl ?_
      refine z_getR rfl fl_X0_60 rfl k3 ?_
      refine z_iload_n rfl rfl ?_
      refine z_iload rfl rfl ?_
      refine z_V2i ko2 mv_X0_70 (kO_3 k3) (t_X2_cell (x3 + 3) (kO_3 k3) _ _ _) rfl rfl rfl rfl rfl (fun r1 h1 => ?_)
      refine z_istore rfl rfl ?_
      refine z_iload rfl rfl ?_
      refine z_aload_n rfl rfl ?_
      refine z_getR rfl fl_X0_44 rfl k3 ?_
      refine z_iload_n rfl rfl ?_
      refine z_iload rfl rfl ?_
      refine z_V2i ko2 mv_X0_70 (kO_1 k3) (t_X2_cell (x3 + 1) (kO_1 k3) _ _ _) rfl rfl rfl rfl rfl (fun r2 h2 => ?_)
      refine z_icmp_ne rfl ?_ ?_
      · refine z_iload rfl rfl ?_
        refine z_iconst rfl rfl ?_
        refine z_icmp_eq rfl ?_ ?_
        · refine z_iinc rfl rfl rfl ?_
          refine z_goto rfl ?_
          refine Z.weak ?_ (ih _ _ _ _)
          exact wkL_c (wkL_c (wkL_c (wkL_c (wkL_c (wkL_c (wkL_c (wkL_n (wkL_nil _))))))))
        · refine z_iinc rfl rfl rfl ?_
          refine z_iinc rfl rfl rfl ?_
          refine z_goto rfl ?_
          refine Z.weak ?_ (ih _ _ _ _)
          exact wkL_c (wkL_c (wkL_c (wkL_c (wkL_c (wkL_c (wkL_c (wkL_n (wkL_nil _))))))))
      · refine z_iload rfl rfl ?_
        refine z_aload_n rfl rfl ?_
        refine z_getRn (m := 24) rfl fl_X0_25 rfl kd_19 rfl ?_
        refine z_iload rfl rfl ?_
        refine z_bipush rfl rfl ?_
        refine z_imul rfl ?_
        refine z_iload rfl rfl ?_
        refine z_iadd rfl ?_
        refine z_N2i mn_X0_73 (t_X4_numberAt 24 40 (Or.inl kd_24) _ _) rfl rfl rfl rfl (fun r3 h3 => ?_)
        refine z_iadd rfl ?_
        refine z_istoreL rfl rfl (fun y4 => ?_)
        refine z_goto rfl ?_
        refine z_iinc rfl rfl rfl ?_
        refine z_goto rfl ?_
        refine Z.weak ?_ (ih _ _ _ _)
        exact wkL_c (wkL_c (wkL_c (wkL_c (wkL_c (wkL_c (wkL_c (wkL_n (wkL_nil _))))))))
set_option maxRecDepth 20000 in
set_option maxHeartbeats 1000000 in
theorem t_X0_weigh (x1 : Int) (x2 : Int) (x3 : Nat) (k3 : kd x3 = (1, 0)) (h : Hp) : Ct M_X0_weigh [vr 19, vi x1, vi x2, vr x3] h (f_X0_weigh x1 x2 x3 h) := by
  refine Ct.mk ok_X0_weigh pl_X0_weigh rfl rfl ?_
  show Z M_X0_weigh 0 [some (vr 19), some (vi x1), some (vi x2), some (vr x3), none, none, none, none] [] h (f_X0_weigh x1 x2 x3 h)
  unfold f_X0_weigh
  refine z_iconst rfl rfl ?_
  refine z_istore rfl rfl ?_
  refine z_iconst rfl rfl ?_
  refine z_istore rfl rfl ?_
  refine z_iconst rfl rfl ?_
  refine z_istore rfl rfl ?_
  refine Z.weak ?_ (t_X0_weigh_L6 x3 k3 _ _  _  ?_  fu _ _ _ _)
  · exact wkL_c (wkL_c (wkL_c (wkL_c (wkL_c (wkL_c (wkL_c (wkL_n (wkL_nil _))))))))
  · intro y5 y6 h7
    refine z_iload rfl rfl ?_
    refine z_iload rfl rfl ?_
    refine z_aload_n rfl rfl ?_
    refine z_iconst rfl rfl ?_
    refine z_V1i ko1 mv_X0_77 k3 (t_X1_setting x3 k3 _ _) rfl rfl rfl rfl rfl (fun r8 h8 => ?_)
    refine z_imul rfl ?_
    refine z_isub rfl ?_
    refine z_aload_n rfl rfl ?_
    refine z_getR rfl fl_X0_60 rfl k3 ?_
    refine z_iload_n rfl rfl ?_
    refine z_iconst rfl rfl ?_
    refine z_V2i ko2 mv_X0_70 (kO_3 k3) (t_X2_cell (x3 + 3) (kO_3 k3) _ _ _) rfl rfl rfl rfl rfl (fun r9 h9 => ?_)
    refine z_aload_n rfl rfl ?_
    refine z_iconst rfl rfl ?_
    refine z_V1i ko1 mv_X0_77 k3 (t_X1_setting x3 k3 _ _) rfl rfl rfl rfl rfl (fun r10 h10 => ?_)
    refine z_imul rfl ?_
    refine z_isub rfl ?_
    refine z_istoreL rfl rfl (fun y11 => ?_)
    refine z_aload_n rfl rfl ?_
    refine z_iload_n rfl rfl ?_
    refine z_iload_n rfl rfl ?_
    refine z_V2i ko0 mv_X0_81 kd_19 (t_X0_pairOf _ _ _) rfl rfl rfl rfl rfl (fun r12 h12 => ?_)
    refine z_istore rfl rfl ?_
    refine z_iload rfl rfl ?_
    refine z_if_lt rfl ?_ ?_
    · exact z_return rfl rfl
    · refine z_iload rfl rfl ?_
      refine z_sipush rfl rfl ?_
      refine z_icmp_ge rfl ?_ ?_
      · exact z_return rfl rfl
      · refine z_aload_n rfl rfl ?_
        refine z_getRn (m := 20) rfl fl_X0_9 rfl kd_19 rfl ?_
        refine z_iload rfl rfl ?_
        refine z_iload rfl rfl ?_
        refine z_iastoreL kd_20 rfl (fun h13 => ?_)
        refine z_aload_n rfl rfl ?_
        refine z_getRn (m := 21) rfl fl_X0_15 rfl kd_19 rfl ?_
        refine z_iload rfl rfl ?_
        refine z_iload rfl rfl ?_
        refine z_iastoreL kd_21 rfl (fun h14 => ?_)
        refine z_aload_n rfl rfl ?_
        refine z_getRn (m := 22) rfl fl_X0_18 rfl kd_19 rfl ?_
        refine z_iload rfl rfl ?_
        refine z_iload rfl rfl ?_
        refine z_aload_n rfl rfl ?_
        refine z_iconst rfl rfl ?_
        refine z_V1i ko1 mv_X0_77 k3 (t_X1_setting x3 k3 _ _) rfl rfl rfl rfl rfl (fun r15 h15 => ?_)
        refine z_icmp_gt rfl ?_ ?_
        · refine z_iconst rfl rfl ?_
          refine z_bastoreL kd_22 rfl (fun h16 => ?_)
          exact z_return rfl rfl
        · refine z_iload rfl rfl ?_
          refine z_aload_n rfl rfl ?_
          refine z_iconst rfl rfl ?_
          refine z_V1i ko1 mv_X0_77 k3 (t_X1_setting x3 k3 _ _) rfl rfl rfl rfl rfl (fun r17 h17 => ?_)
          refine z_icmp_lt rfl ?_ ?_
          · refine z_iconst rfl rfl ?_
            refine z_bastoreL kd_22 rfl (fun h18 => ?_)
            exact z_return rfl rfl
          · refine z_iconst rfl rfl ?_
            refine z_goto rfl ?_
            refine z_bastoreL kd_22 rfl (fun h19 => ?_)
            exact z_return rfl rfl
set_option maxRecDepth 20000 in
set_option maxHeartbeats 1000000 in
theorem t_X0_weighAll_L25 (x1 : Nat) (k1 : kd x1 = (1, 0)) (x2 : Int) (c36 : Hp → Option (Int × Hp)) (hc36 : ∀ (h : Hp), Z M_X0_weighAll 36 [some (vr 19), some (vr x1), some (vi x2), none] [] h (c36  h)) : ∀ (n : Nat) (x3 : Int) (h : Hp), Z M_X0_weighAll 25 [some (vr 19), some (vr x1), some (vi x2), some (vi x3)] [] h (f_X0_weighAll_L25 x1 x2 c36 n x3 h) := by
  intro n
  induction n with
  | zero => intro x3 h; exact Z.nix
  | succ n ih =>
    intro x3 h
    rw [f_X0_weighAll_L25_s]
    refine z_iload_n rfl rfl ?_
    refine z_aload_n rfl rfl ?_
    refine z_getI rfl fl_X0_38 rfl kd_19 ?_
    refine z_icmp_ge rfl ?_ ?_
    · refine Z.weak ?_ (hc36 _)
      exact wkL_c (wkL_c (wkL_c (wkL_n (wkL_nil _))))
    · refine z_aload_n rfl rfl ?_
      refine z_iload_n rfl rfl ?_
      refine z_iload_n rfl rfl ?_
      refine z_aload_n rfl rfl ?_
      refine z_V3v ko0 mv_X0_66 kd_19 (t_X0_weigh _ _ x1 k1 _) rfl rfl rfl rfl rfl (fun _ h6 => ?_)
      refine z_iinc rfl rfl rfl ?_
      refine z_goto rfl ?_
      refine Z.weak ?_ (ih _ _)
      exact wkL_c (wkL_c (wkL_c (wkL_c (wkL_nil _))))
set_option maxRecDepth 20000 in
set_option maxHeartbeats 1000000 in
theorem t_X0_weighAll_L19 (x1 : Nat) (k1 : kd x1 = (1, 0)) : ∀ (n : Nat) (x2 : Int) (h : Hp), Z M_X0_weighAll 19 [some (vr 19), some (vr x1), some (vi x2), none] [] h (f_X0_weighAll_L19 x1 n x2 h) := by
  intro n
  induction n with
  | zero => intro x2 h; exact Z.nix
  | succ n ih =>
    intro x2 h
    rw [f_X0_weighAll_L19_s]
    refine z_iload_n rfl rfl ?_
    refine z_aload_n rfl rfl ?_
    refine z_getI rfl fl_X0_34 rfl kd_19 ?_
    refine z_icmp_ge rfl ?_ ?_
    · exact z_return rfl rfl
    · refine z_iconst rfl rfl ?_
      refine z_istore_n rfl rfl ?_
      refine Z.weak ?_ (t_X0_weighAll_L25 x1 k1 _  _  ?_  fu _ _)
      · exact wkL_c (wkL_c (wkL_c (wkL_c (wkL_nil _))))
      · intro h7
        refine z_iinc rfl rfl rfl ?_
        refine z_goto rfl ?_
        refine Z.weak ?_ (ih _ _)
        exact wkL_c (wkL_c (wkL_c (wkL_n (wkL_nil _))))
set_option maxRecDepth 20000 in
set_option maxHeartbeats 1000000 in
theorem t_X0_weighAll (x1 : Nat) (k1 : kd x1 = (1, 0)) (h : Hp) : Ct M_X0_weighAll [vr 19, vr x1] h (f_X0_weighAll x1 h) := by
  refine Ct.mk ok_X0_weighAll pl_X0_weighAll rfl rfl ?_
  show Z M_X0_weighAll 0 [some (vr 19), some (vr x1), none, none] [] h (f_X0_weighAll x1 h)
  unfold f_X0_weighAll
  refine z_aload_n rfl rfl ?_
  refine z_aload_n rfl rfl ?_
  refine z_getR rfl fl_X0_44 rfl k1 ?_
  refine z_getI rfl fl_X0_49 rfl (kO_1 k1) ?_
  refine z_bipush rfl rfl ?_
  refine z_S2i ms_X0_54 (t_J_min _ _ _) rfl rfl rfl rfl (fun r1 h1 => ?_)
  refine z_putL fi_X0_34 rfl kd_19 rfl (fun h2 => ?_)
  refine z_aload_n rfl rfl ?_
  refine z_aload_n rfl rfl ?_
  refine z_getR rfl fl_X0_60 rfl k1 ?_
  refine z_getI rfl fl_X0_49 rfl (kO_3 k1) ?_
  refine z_bipush rfl rfl ?_
  refine z_S2i ms_X0_54 (t_J_min _ _ _) rfl rfl rfl rfl (fun r3 h3 => ?_)
  refine z_putL fi_X0_38 rfl kd_19 rfl (fun h4 => ?_)
  refine z_aload_n rfl rfl ?_
  refine z_aload_n rfl rfl ?_
  refine z_V1v ko0 mv_X0_62 kd_19 (t_X0_noteOddness x1 k1 _) rfl rfl rfl rfl rfl (fun _ h5 => ?_)
  refine z_iconst rfl rfl ?_
  refine z_istore_n rfl rfl ?_
  refine Z.weak ?_ (t_X0_weighAll_L19 x1 k1     fu _ _)
  · exact wkL_c (wkL_c (wkL_c (wkL_n (wkL_nil _))))
set_option maxRecDepth 20000 in
set_option maxHeartbeats 1000000 in
theorem t_X0_matchAll_L7 (x1 : Nat) (k1 : kd x1 = (1, 0)) : ∀ (n : Nat) (x2 : Int) (h : Hp), Z M_X0_matchAll 7 [some (vr 19), none, some (vi x2), none] [] h (f_X0_matchAll_L7 x1 n x2 h) := by
  intro n
  induction n with
  | zero => intro x2 h; exact Z.nix
  | succ n ih =>
    intro x2 h
    rw [f_X0_matchAll_L7_s]
    refine z_iload_n rfl rfl ?_
    refine z_bipush rfl rfl ?_
    refine z_icmp_ge rfl ?_ ?_
    · exact z_return rfl rfl
    · refine z_aload_n rfl rfl ?_
      refine z_V0i ko0 mv_X0_94 kd_19 (t_X0_bestFreePair  _) rfl rfl rfl rfl rfl (fun r3 h3 => ?_)
      refine z_istore_n rfl rfl ?_
      refine z_iload_n rfl rfl ?_
      refine z_iconst rfl rfl ?_
      refine z_icmp_ne rfl ?_ ?_
      · refine z_aload_n rfl rfl ?_
        refine z_iload_n rfl rfl ?_
        refine z_bipush rfl rfl ?_
        refine z_idiv rfl rfl ?_
        refine z_iload_n rfl rfl ?_
        refine z_bipush rfl rfl ?_
        refine z_irem rfl rfl ?_
        refine z_V2v ko0 mv_X0_98 kd_19 (t_X0_join _ _ _) rfl rfl rfl rfl rfl (fun _ h4 => ?_)
        refine z_iinc rfl rfl rfl ?_
        refine z_goto rfl ?_
        refine Z.weak ?_ (ih _ _)
        exact wkL_c (wkL_n (wkL_c (wkL_n (wkL_nil _))))
      · exact z_return rfl rfl
set_option maxRecDepth 20000 in
set_option maxHeartbeats 1000000 in
theorem t_X0_matchAll (x1 : Nat) (k1 : kd x1 = (1, 0)) (h : Hp) : Ct M_X0_matchAll [vr 19, vr x1] h (f_X0_matchAll x1 h) := by
  refine Ct.mk ok_X0_matchAll pl_X0_matchAll rfl rfl ?_
  show Z M_X0_matchAll 0 [some (vr 19), some (vr x1), none, none] [] h (f_X0_matchAll x1 h)
  unfold f_X0_matchAll
  refine z_aload_n rfl rfl ?_
  refine z_aload_n rfl rfl ?_
  refine z_V1v ko0 mv_X0_88 kd_19 (t_X0_weighAll x1 k1 _) rfl rfl rfl rfl rfl (fun _ h1 => ?_)
  refine z_aload_n rfl rfl ?_
  refine z_V0v ko0 mv_X0_91 kd_19 (t_X0_matchNone  _) rfl rfl rfl rfl rfl (fun _ h2 => ?_)
  refine z_iconst rfl rfl ?_
  refine z_istore_n rfl rfl ?_
  refine Z.weak ?_ (t_X0_matchAll_L7 x1 k1     fu _ _)
  · exact wkL_c (wkL_n (wkL_c (wkL_n (wkL_nil _))))
set_option maxRecDepth 20000 in
set_option maxHeartbeats 1000000 in
theorem t_X0_nextPairOf_L4 (x1 : Int) : ∀ (n : Nat) (x2 : Int) (x3 : Int) (h : Hp), Z M_X0_nextPairOf 4 [some (vr 19), some (vi x1), some (vi x2), some (vi x3), none] [] h (f_X0_nextPairOf_L4 x1 n x2 x3 h) := by
  intro n
  induction n with
  | zero => intro x2 x3 h; exact Z.nix
  | succ n ih =>
    intro x2 x3 h
    rw [f_X0_nextPairOf_L4_s]
    refine z_iload_n rfl rfl ?_
    refine z_aload_n rfl rfl ?_
    refine z_getI rfl fl_X0_34 rfl kd_19 ?_
    refine z_icmp_ge rfl ?_ ?_
    · refine z_iload_n rfl rfl ?_
      exact z_ireturn rfl rfl
    · refine z_aload_n rfl rfl ?_
      refine z_iload_n rfl rfl ?_
      refine z_iload_n rfl rfl ?_
      refine z_V2i ko0 mv_X0_81 kd_19 (t_X0_pairOf _ _ _) rfl rfl rfl rfl rfl (fun r1 h1 => ?_)
      refine z_istore rfl rfl ?_
      refine z_iload rfl rfl ?_
      refine z_if_lt rfl ?_ ?_
      · refine z_iinc rfl rfl rfl ?_
        refine z_goto rfl ?_
        refine Z.weak ?_ (ih _ _ _)
        exact wkL_c (wkL_c (wkL_c (wkL_c (wkL_n (wkL_nil _)))))
      · refine z_iload rfl rfl ?_
        refine z_sipush rfl rfl ?_
        refine z_icmp_ge rfl ?_ ?_
        · refine z_iinc rfl rfl rfl ?_
          refine z_goto rfl ?_
          refine Z.weak ?_ (ih _ _ _)
          exact wkL_c (wkL_c (wkL_c (wkL_c (wkL_n (wkL_nil _)))))
        · refine z_aload_n rfl rfl ?_
          refine z_getRn (m := 22) rfl fl_X0_18 rfl kd_19 rfl ?_
          refine z_iload rfl rfl ?_
          refine z_baload rfl kd_22 ?_
          refine z_if_eq rfl ?_ ?_
          · refine z_iinc rfl rfl rfl ?_
            refine z_goto rfl ?_
            refine Z.weak ?_ (ih _ _ _)
            exact wkL_c (wkL_c (wkL_c (wkL_c (wkL_n (wkL_nil _)))))
          · refine z_aload_n rfl rfl ?_
            refine z_getRn (m := 23) rfl fl_X0_22 rfl kd_19 rfl ?_
            refine z_iload rfl rfl ?_
            refine z_baload rfl kd_23 ?_
            refine z_if_ne rfl ?_ ?_
            · refine z_iinc rfl rfl rfl ?_
              refine z_goto rfl ?_
              refine Z.weak ?_ (ih _ _ _)
              exact wkL_c (wkL_c (wkL_c (wkL_c (wkL_n (wkL_nil _)))))
            · refine z_aload_n rfl rfl ?_
              refine z_iload rfl rfl ?_
              refine z_iload_n rfl rfl ?_
              refine z_V2i ko0 mv_X0_108 kd_19 (t_X0_aheadOf _ _ _) rfl rfl rfl rfl rfl (fun r2 h2 => ?_)
              refine z_istore_n rfl rfl ?_
              refine z_iinc rfl rfl rfl ?_
              refine z_goto rfl ?_
              refine Z.weak ?_ (ih _ _ _)
              exact wkL_c (wkL_c (wkL_c (wkL_c (wkL_n (wkL_nil _)))))
set_option maxRecDepth 20000 in
set_option maxHeartbeats 1000000 in
theorem t_X0_nextPairOf (x1 : Int) (h : Hp) : Ct M_X0_nextPairOf [vr 19, vi x1] h (f_X0_nextPairOf x1 h) := by
  refine Ct.mk ok_X0_nextPairOf pl_X0_nextPairOf rfl rfl ?_
  show Z M_X0_nextPairOf 0 [some (vr 19), some (vi x1), none, none, none] [] h (f_X0_nextPairOf x1 h)
  unfold f_X0_nextPairOf
  refine z_iconst rfl rfl ?_
  refine z_istore_n rfl rfl ?_
  refine z_iconst rfl rfl ?_
  refine z_istore_n rfl rfl ?_
  refine Z.weak ?_ (t_X0_nextPairOf_L4  _     fu _ _ _)
  · exact wkL_c (wkL_c (wkL_c (wkL_c (wkL_n (wkL_nil _)))))
set_option maxRecDepth 20000 in
set_option maxHeartbeats 1000000 in
theorem t_X0_nextAsk_L2  : ∀ (n : Nat) (x1 : Int) (h : Hp), Z M_X0_nextAsk 2 [some (vr 19), some (vi x1), none] [] h (f_X0_nextAsk_L2  n x1 h) := by
  intro n
  induction n with
  | zero => intro x1 h; exact Z.nix
  | succ n ih =>
    intro x1 h
    rw [f_X0_nextAsk_L2_s]
    refine z_iload_n rfl rfl ?_
    refine z_aload_n rfl rfl ?_
    refine z_getI rfl fl_X0_38 rfl kd_19 ?_
    refine z_icmp_ge rfl ?_ ?_
    · refine z_iconst rfl rfl ?_
      exact z_ireturn rfl rfl
    · refine z_aload_n rfl rfl ?_
      refine z_iload_n rfl rfl ?_
      refine z_V1i ko0 mv_X0_105 kd_19 (t_X0_umbrellaMatched _ _) rfl rfl rfl rfl rfl (fun r1 h1 => ?_)
      refine z_iconst rfl rfl ?_
      refine z_icmp_ne rfl ?_ ?_
      · refine z_iinc rfl rfl rfl ?_
        refine z_goto rfl ?_
        refine Z.weak ?_ (ih _ _)
        exact wkL_c (wkL_c (wkL_n (wkL_nil _)))
      · refine z_aload_n rfl rfl ?_
        refine z_iload_n rfl rfl ?_
        refine z_V1i ko0 mv_X0_121 kd_19 (t_X0_nextPairOf _ _) rfl rfl rfl rfl rfl (fun r2 h2 => ?_)
        refine z_istore_n rfl rfl ?_
        refine z_iload_n rfl rfl ?_
        refine z_iconst rfl rfl ?_
        refine z_icmp_eq rfl ?_ ?_
        · refine z_iinc rfl rfl rfl ?_
          refine z_goto rfl ?_
          refine Z.weak ?_ (ih _ _)
          exact wkL_c (wkL_c (wkL_n (wkL_nil _)))
        · refine z_iload_n rfl rfl ?_
          exact z_ireturn rfl rfl
set_option maxRecDepth 20000 in
set_option maxHeartbeats 1000000 in
theorem t_X0_nextAsk  (h : Hp) : Ct M_X0_nextAsk [vr 19] h (f_X0_nextAsk  h) := by
  refine Ct.mk ok_X0_nextAsk pl_X0_nextAsk rfl rfl ?_
  show Z M_X0_nextAsk 0 [some (vr 19), none, none] [] h (f_X0_nextAsk  h)
  unfold f_X0_nextAsk
  refine z_iconst rfl rfl ?_
  refine z_istore_n rfl rfl ?_
  refine Z.weak ?_ (t_X0_nextAsk_L2      fu _ _)
  · exact wkL_c (wkL_c (wkL_n (wkL_nil _)))
set_option maxRecDepth 20000 in
set_option maxHeartbeats 1000000 in
theorem t_X0_matchByAsking_L7 (x1 : Nat) (k1 : kd x1 = (1, 0)) (c19 : Hp → Option (Int × Hp)) (hc19 : ∀ (h : Hp), Z M_X0_matchByAsking 19 [some (vr 19), none, none, none] [] h (c19  h)) : ∀ (n : Nat) (x2 : Int) (h : Hp), Z M_X0_matchByAsking 7 [some (vr 19), none, some (vi x2), none] [] h (f_X0_matchByAsking_L7 x1 c19 n x2 h) := by
  intro n
  induction n with
  | zero => intro x2 h; exact Z.nix
  | succ n ih =>
    intro x2 h
    rw [f_X0_matchByAsking_L7_s]
    refine z_iload_n rfl rfl ?_
    refine z_aload_n rfl rfl ?_
    refine z_getRn (m := 23) rfl fl_X0_22 rfl kd_19 rfl ?_
    refine z_alen (c := 1) rfl kd_23 (by omega) ?_
    refine z_icmp_ge rfl ?_ ?_
    · refine Z.weak ?_ (hc19 _)
      exact wkL_c (wkL_n (wkL_n (wkL_n (wkL_nil _))))
    · refine z_aload_n rfl rfl ?_
      refine z_getRn (m := 23) rfl fl_X0_22 rfl kd_19 rfl ?_
      refine z_iload_n rfl rfl ?_
      refine z_iconst rfl rfl ?_
      refine z_bastoreL kd_23 rfl (fun h3 => ?_)
      refine z_iinc rfl rfl rfl ?_
      refine z_goto rfl ?_
      refine Z.weak ?_ (ih _ _)
      exact wkL_c (wkL_n (wkL_c (wkL_n (wkL_nil _))))
set_option maxRecDepth 20000 in
set_option maxHeartbeats 1000000 in
theorem t_X0_matchByAsking_L21 (x1 : Nat) (k1 : kd x1 = (1, 0)) : ∀ (n : Nat) (x2 : Int) (h : Hp), Z M_X0_matchByAsking 21 [some (vr 19), none, some (vi x2), none] [] h (f_X0_matchByAsking_L21 x1 n x2 h) := by
  intro n
  induction n with
  | zero => intro x2 h; exact Z.nix
  | succ n ih =>
    intro x2 h
    rw [f_X0_matchByAsking_L21_s]
    refine z_iload_n rfl rfl ?_
    refine z_sipush rfl rfl ?_
    refine z_icmp_ge rfl ?_ ?_
    · exact z_return rfl rfl
    · refine z_aload_n rfl rfl ?_
      refine z_V0i ko0 mv_X0_114 kd_19 (t_X0_nextAsk  _) rfl rfl rfl rfl rfl (fun r5 h5 => ?_)
      refine z_istore_n rfl rfl ?_
      refine z_iload_n rfl rfl ?_
      refine z_iconst rfl rfl ?_
      refine z_icmp_ne rfl ?_ ?_
      · refine z_aload_n rfl rfl ?_
        refine z_iload_n rfl rfl ?_
        refine z_V1v ko0 mv_X0_117 kd_19 (t_X0_askFor _ _) rfl rfl rfl rfl rfl (fun _ h6 => ?_)
        refine z_iinc rfl rfl rfl ?_
        refine z_goto rfl ?_
        refine Z.weak ?_ (ih _ _)
        exact wkL_c (wkL_n (wkL_c (wkL_n (wkL_nil _))))
      · exact z_return rfl rfl
set_option maxRecDepth 20000 in
set_option maxHeartbeats 1000000 in
theorem t_X0_matchByAsking (x1 : Nat) (k1 : kd x1 = (1, 0)) (h : Hp) : Ct M_X0_matchByAsking [vr 19, vr x1] h (f_X0_matchByAsking x1 h) := by
  refine Ct.mk ok_X0_matchByAsking pl_X0_matchByAsking rfl rfl ?_
  show Z M_X0_matchByAsking 0 [some (vr 19), some (vr x1), none, none] [] h (f_X0_matchByAsking x1 h)
  unfold f_X0_matchByAsking
  refine z_aload_n rfl rfl ?_
  refine z_aload_n rfl rfl ?_
  refine z_V1v ko0 mv_X0_88 kd_19 (t_X0_weighAll x1 k1 _) rfl rfl rfl rfl rfl (fun _ h1 => ?_)
  refine z_aload_n rfl rfl ?_
  refine z_V0v ko0 mv_X0_91 kd_19 (t_X0_matchNone  _) rfl rfl rfl rfl rfl (fun _ h2 => ?_)
  refine z_iconst rfl rfl ?_
  refine z_istore_n rfl rfl ?_
  refine Z.weak ?_ (t_X0_matchByAsking_L7 x1 k1  _  ?_  fu _ _)
  · exact wkL_c (wkL_n (wkL_c (wkL_n (wkL_nil _))))
  · intro h4
    refine z_iconst rfl rfl ?_
    refine z_istore_n rfl rfl ?_
    refine Z.weak ?_ (t_X0_matchByAsking_L21 x1 k1     fu _ _)
    · exact wkL_c (wkL_n (wkL_c (wkL_n (wkL_nil _))))
set_option maxRecDepth 20000 in
set_option maxHeartbeats 1000000 in
theorem t_X0_reasonAgainst (x1 : Int) (x2 : Int) (x3 : Nat) (k3 : kd x3 = (1, 0)) (h : Hp) : Ct M_X0_reasonAgainst [vr 19, vi x1, vi x2, vr x3] h (f_X0_reasonAgainst x1 x2 x3 h) := by
  refine Ct.mk ok_X0_reasonAgainst pl_X0_reasonAgainst rfl rfl ?_
  show Z M_X0_reasonAgainst 0 [some (vr 19), some (vi x1), some (vi x2), some (vr x3), none, none] [] h (f_X0_reasonAgainst x1 x2 x3 h)
  unfold f_X0_reasonAgainst
  refine z_aload_n rfl rfl ?_
  refine z_iload_n rfl rfl ?_
  refine z_iload_n rfl rfl ?_
  refine z_V2i ko0 mv_X0_81 kd_19 (t_X0_pairOf _ _ _) rfl rfl rfl rfl rfl (fun r1 h1 => ?_)
  refine z_istore rfl rfl ?_
  refine z_aload_n rfl rfl ?_
  refine z_iload_n rfl rfl ?_
  refine z_V1i ko0 mv_X0_102 kd_19 (t_X0_claimMatched _ _) rfl rfl rfl rfl rfl (fun r2 h2 => ?_)
  refine z_istore rfl rfl ?_
  refine z_iload rfl rfl ?_
  refine z_if_lt rfl ?_ ?_
  · refine z_iconst rfl rfl ?_
    exact z_ireturn rfl rfl
  · refine z_iload rfl rfl ?_
    refine z_sipush rfl rfl ?_
    refine z_icmp_ge rfl ?_ ?_
    · refine z_iconst rfl rfl ?_
      exact z_ireturn rfl rfl
    · refine z_iload rfl rfl ?_
      refine z_iload_n rfl rfl ?_
      refine z_icmp_ne rfl ?_ ?_
      · refine z_aload_n rfl rfl ?_
        refine z_getRn (m := 20) rfl fl_X0_9 rfl kd_19 rfl ?_
        refine z_iload rfl rfl ?_
        refine z_iaload rfl kd_20 ?_
        refine z_aload_n rfl rfl ?_
        refine z_iconst rfl rfl ?_
        refine z_V1i ko1 mv_X0_77 k3 (t_X1_setting x3 k3 _ _) rfl rfl rfl rfl rfl (fun r3 h3 => ?_)
        refine z_icmp_le rfl ?_ ?_
        · refine z_aload_n rfl rfl ?_
          refine z_getRn (m := 22) rfl fl_X0_18 rfl kd_19 rfl ?_
          refine z_iload rfl rfl ?_
          refine z_baload rfl kd_22 ?_
          refine z_if_ne rfl ?_ ?_
          · refine z_aload_n rfl rfl ?_
            refine z_aload_n rfl rfl ?_
            refine z_iload_n rfl rfl ?_
            refine z_iload rfl rfl ?_
            refine z_V2i ko0 mv_X0_81 kd_19 (t_X0_pairOf _ _ _) rfl rfl rfl rfl rfl (fun r4 h4 => ?_)
            refine z_iload rfl rfl ?_
            refine z_V2i ko0 mv_X0_108 kd_19 (t_X0_aheadOf _ _ _) rfl rfl rfl rfl rfl (fun r5 h5 => ?_)
            refine z_iload rfl rfl ?_
            refine z_icmp_ne rfl ?_ ?_
            · refine z_iconst rfl rfl ?_
              exact z_ireturn rfl rfl
            · refine z_iconst rfl rfl ?_
              refine z_goto rfl ?_
              exact z_ireturn rfl rfl
          · refine z_iconst rfl rfl ?_
            exact z_ireturn rfl rfl
        · refine z_iconst rfl rfl ?_
          exact z_ireturn rfl rfl
      · refine z_iconst rfl rfl ?_
        exact z_ireturn rfl rfl
set_option maxRecDepth 20000 in
set_option maxHeartbeats 1000000 in
theorem t_X0_umbrellasSuiting_L4 (x1 : Int) : ∀ (n : Nat) (x2 : Int) (x3 : Int) (h : Hp), Z M_X0_umbrellasSuiting 4 [some (vr 19), some (vi x1), some (vi x2), some (vi x3)] [] h (f_X0_umbrellasSuiting_L4 x1 n x2 x3 h) := by
  intro n
  induction n with
  | zero => intro x2 x3 h; exact Z.nix
  | succ n ih =>
    intro x2 x3 h
    rw [f_X0_umbrellasSuiting_L4_s]
    refine z_iload_n rfl rfl ?_
    refine z_aload_n rfl rfl ?_
    refine z_getI rfl fl_X0_34 rfl kd_19 ?_
    refine z_icmp_ge rfl ?_ ?_
    · refine z_iload_n rfl rfl ?_
      exact z_ireturn rfl rfl
    · refine z_aload_n rfl rfl ?_
      refine z_iload_n rfl rfl ?_
      refine z_iload_n rfl rfl ?_
      refine z_V2i ko0 mv_X0_84 kd_19 (t_X0_suits _ _ _) rfl rfl rfl rfl rfl (fun r1 h1 => ?_)
      refine z_if_eq rfl ?_ ?_
      · refine z_iinc rfl rfl rfl ?_
        refine z_goto rfl ?_
        refine Z.weak ?_ (ih _ _ _)
        exact wkL_c (wkL_c (wkL_c (wkL_c (wkL_nil _))))
      · refine z_iinc rfl rfl rfl ?_
        refine z_iinc rfl rfl rfl ?_
        refine z_goto rfl ?_
        refine Z.weak ?_ (ih _ _ _)
        exact wkL_c (wkL_c (wkL_c (wkL_c (wkL_nil _))))
set_option maxRecDepth 20000 in
set_option maxHeartbeats 1000000 in
theorem t_X0_umbrellasSuiting (x1 : Int) (h : Hp) : Ct M_X0_umbrellasSuiting [vr 19, vi x1] h (f_X0_umbrellasSuiting x1 h) := by
  refine Ct.mk ok_X0_umbrellasSuiting pl_X0_umbrellasSuiting rfl rfl ?_
  show Z M_X0_umbrellasSuiting 0 [some (vr 19), some (vi x1), none, none] [] h (f_X0_umbrellasSuiting x1 h)
  unfold f_X0_umbrellasSuiting
  refine z_iconst rfl rfl ?_
  refine z_istore_n rfl rfl ?_
  refine z_iconst rfl rfl ?_
  refine z_istore_n rfl rfl ?_
  refine Z.weak ?_ (t_X0_umbrellasSuiting_L4  _     fu _ _ _)
  · exact wkL_c (wkL_c (wkL_c (wkL_c (wkL_nil _))))
set_option maxRecDepth 20000 in
set_option maxHeartbeats 1000000 in
theorem t_X0_worthOf (x1 : Int) (x2 : Int) (h : Hp) : Ct M_X0_worthOf [vr 19, vi x1, vi x2] h (f_X0_worthOf x1 x2 h) := by
  refine Ct.mk ok_X0_worthOf pl_X0_worthOf rfl rfl ?_
  show Z M_X0_worthOf 0 [some (vr 19), some (vi x1), some (vi x2)] [] h (f_X0_worthOf x1 x2 h)
  unfold f_X0_worthOf
  refine z_aload_n rfl rfl ?_
  refine z_getRn (m := 21) rfl fl_X0_15 rfl kd_19 rfl ?_
  refine z_aload_n rfl rfl ?_
  refine z_iload_n rfl rfl ?_
  refine z_iload_n rfl rfl ?_
  refine z_V2i ko0 mv_X0_81 kd_19 (t_X0_pairOf _ _ _) rfl rfl rfl rfl rfl (fun r1 h1 => ?_)
  refine z_N2i mn_X0_73 (t_X4_numberAt 21 144 (Or.inl kd_21) _ _) rfl rfl rfl rfl (fun r2 h2 => ?_)
  exact z_ireturn rfl rfl
set_option maxRecDepth 20000 in
set_option maxHeartbeats 1000000 in
theorem t_X0_worthOfMatched_L4  : ∀ (n : Nat) (x1 : Int) (x2 : Int) (h : Hp), Z M_X0_worthOfMatched 4 [some (vr 19), some (vi x1), some (vi x2), none] [] h (f_X0_worthOfMatched_L4  n x1 x2 h) := by
  intro n
  induction n with
  | zero => intro x1 x2 h; exact Z.nix
  | succ n ih =>
    intro x1 x2 h
    rw [f_X0_worthOfMatched_L4_s]
    refine z_iload_n rfl rfl ?_
    refine z_aload_n rfl rfl ?_
    refine z_getI rfl fl_X0_34 rfl kd_19 ?_
    refine z_icmp_ge rfl ?_ ?_
    · refine z_iload_n rfl rfl ?_
      exact z_ireturn rfl rfl
    · refine z_aload_n rfl rfl ?_
      refine z_iload_n rfl rfl ?_
      refine z_V1i ko0 mv_X0_102 kd_19 (t_X0_claimMatched _ _) rfl rfl rfl rfl rfl (fun r1 h1 => ?_)
      refine z_istore_n rfl rfl ?_
      refine z_iload_n rfl rfl ?_
      refine z_iconst rfl rfl ?_
      refine z_icmp_eq rfl ?_ ?_
      · refine z_iinc rfl rfl rfl ?_
        refine z_goto rfl ?_
        refine Z.weak ?_ (ih _ _ _)
        exact wkL_c (wkL_c (wkL_c (wkL_n (wkL_nil _))))
      · refine z_iload_n rfl rfl ?_
        refine z_aload_n rfl rfl ?_
        refine z_iload_n rfl rfl ?_
        refine z_iload_n rfl rfl ?_
        refine z_V2i ko0 mv_X0_111 kd_19 (t_X0_worthOf _ _ _) rfl rfl rfl rfl rfl (fun r2 h2 => ?_)
        refine z_iadd rfl ?_
        refine z_istore_nL rfl rfl (fun y3 => ?_)
        refine z_iinc rfl rfl rfl ?_
        refine z_goto rfl ?_
        refine Z.weak ?_ (ih _ _ _)
        exact wkL_c (wkL_c (wkL_c (wkL_n (wkL_nil _))))
set_option maxRecDepth 20000 in
set_option maxHeartbeats 1000000 in
theorem t_X0_worthOfMatched  (h : Hp) : Ct M_X0_worthOfMatched [vr 19] h (f_X0_worthOfMatched  h) := by
  refine Ct.mk ok_X0_worthOfMatched pl_X0_worthOfMatched rfl rfl ?_
  show Z M_X0_worthOfMatched 0 [some (vr 19), none, none, none] [] h (f_X0_worthOfMatched  h)
  unfold f_X0_worthOfMatched
  refine z_iconst rfl rfl ?_
  refine z_istore_n rfl rfl ?_
  refine z_iconst rfl rfl ?_
  refine z_istore_n rfl rfl ?_
  refine Z.weak ?_ (t_X0_worthOfMatched_L4      fu _ _ _)
  · exact wkL_c (wkL_c (wkL_c (wkL_n (wkL_nil _))))
set_option maxRecDepth 20000 in
set_option maxHeartbeats 1000000 in
theorem t_X1_addTo (x0 : Nat) (k0 : kd x0 = (1, 0)) (x1 : Int) (x2 : Int) (h : Hp) : Ct M_X1_addTo [vr x0, vi x1, vi x2] h (f_X1_addTo x0 x1 x2 h) := by
  refine Ct.mk ok_X1_addTo pl_X1_addTo rfl rfl ?_
  show Z M_X1_addTo 0 [some (vr x0), some (vi x1), some (vi x2)] [] h (f_X1_addTo x0 x1 x2 h)
  unfold f_X1_addTo
  refine z_iload_n rfl rfl ?_
  refine z_if_lt rfl ?_ ?_
  · exact z_return rfl rfl
  · refine z_iload_n rfl rfl ?_
    refine z_aload_n rfl rfl ?_
    refine z_getR rfl fl_X1_28 rfl k0 ?_
    refine z_alen (c := 0) rfl (kO_8 k0) (by omega) ?_
    refine z_icmp_ge rfl ?_ ?_
    · exact z_return rfl rfl
    · refine z_aload_n rfl rfl ?_
      refine z_getR rfl fl_X1_28 rfl k0 ?_
      refine z_iload_n rfl rfl ?_
      refine z_dup2 rfl rfl rfl ?_
      refine z_iaload rfl (kO_8 k0) ?_
      refine z_iload_n rfl rfl ?_
      refine z_iadd rfl ?_
      refine z_iastoreL (kO_8 k0) rfl (fun h1 => ?_)
      exact z_return rfl rfl
set_option maxRecDepth 20000 in
set_option maxHeartbeats 1000000 in
theorem t_X2_become (x0 : Nat) (k0 : kd x0 = (2, 0)) (x1 : Nat) (k1 : kd x1 = (2, 0)) (h : Hp) : Ct M_X2_become [vr x0, vr x1] h (f_X2_become x0 x1 h) := by
  refine Ct.mk ok_X2_become pl_X2_become rfl rfl ?_
  show Z M_X2_become 0 [some (vr x0), some (vr x1)] [] h (f_X2_become x0 x1 h)
  unfold f_X2_become
  refine z_aload_n rfl rfl ?_
  refine z_ifnull rfl ?_
  refine z_aload_n rfl rfl ?_
  refine z_getR rfl fl_X2_9 rfl k1 ?_
  refine z_iconst rfl rfl ?_
  refine z_aload_n rfl rfl ?_
  refine z_getR rfl fl_X2_9 rfl k0 ?_
  refine z_iconst rfl rfl ?_
  refine z_bipush rfl rfl ?_
  refine z_copy (n := 72) (kR_1 k1) (kR_1 k0) cp_X2_19 rfl rfl rfl (fun h1 => ?_)
  refine z_aload_n rfl rfl ?_
  refine z_aload_n rfl rfl ?_
  refine z_getI rfl fl_X2_15 rfl k1 ?_
  refine z_putL fi_X2_15 rfl k0 rfl (fun h2 => ?_)
  exact z_return rfl rfl
end
section
/-! printed by wip/gen/gen.py: the bytecode does what the functions say -/
set_option maxRecDepth 20000 in
set_option maxHeartbeats 1000000 in
theorem t_X1_become (x0 : Nat) (k0 : kd x0 = (1, 0)) (x1 : Nat) (k1 : kd x1 = (1, 0)) (h : Hp) : Ct M_X1_become [vr x0, vr x1] h (f_X1_become x0 x1 h) := by
  refine Ct.mk ok_X1_become pl_X1_become rfl rfl ?_
  show Z M_X1_become 0 [some (vr x0), some (vr x1)] [] h (f_X1_become x0 x1 h)
  unfold f_X1_become
  refine z_aload_n rfl rfl ?_
  refine z_ifnull rfl ?_
  refine z_aload_n rfl rfl ?_
  refine z_getR rfl fl_X1_12 rfl k0 ?_
  refine z_aload_n rfl rfl ?_
  refine z_getR rfl fl_X1_12 rfl k1 ?_
  refine z_V1v ko2 mv_X1_40 (kO_1 k0) (t_X2_become (x0 + 1) (kO_1 k0) (x1 + 1) (kO_1 k1) _) rfl rfl rfl rfl rfl (fun _ h1 => ?_)
  refine z_aload_n rfl rfl ?_
  refine z_getR rfl fl_X1_18 rfl k0 ?_
  refine z_aload_n rfl rfl ?_
  refine z_getR rfl fl_X1_18 rfl k1 ?_
  refine z_V1v ko2 mv_X1_40 (kO_3 k0) (t_X2_become (x0 + 3) (kO_3 k0) (x1 + 3) (kO_3 k1) _) rfl rfl rfl rfl rfl (fun _ h2 => ?_)
  refine z_aload_n rfl rfl ?_
  refine z_getR rfl fl_X1_21 rfl k0 ?_
  refine z_aload_n rfl rfl ?_
  refine z_getR rfl fl_X1_21 rfl k1 ?_
  refine z_V1v ko2 mv_X1_40 (kO_5 k0) (t_X2_become (x0 + 5) (kO_5 k0) (x1 + 5) (kO_5 k1) _) rfl rfl rfl rfl rfl (fun _ h3 => ?_)
  refine z_aload_n rfl rfl ?_
  refine z_getR rfl fl_X1_24 rfl k1 ?_
  refine z_iconst rfl rfl ?_
  refine z_aload_n rfl rfl ?_
  refine z_getR rfl fl_X1_24 rfl k0 ?_
  refine z_iconst rfl rfl ?_
  refine z_bipush rfl rfl ?_
  refine z_copy (n := 7) (kO_7 k1) (kO_7 k0) cp_X1_34 rfl rfl rfl (fun h4 => ?_)
  refine z_aload_n rfl rfl ?_
  refine z_getR rfl fl_X1_28 rfl k1 ?_
  refine z_iconst rfl rfl ?_
  refine z_aload_n rfl rfl ?_
  refine z_getR rfl fl_X1_28 rfl k0 ?_
  refine z_iconst rfl rfl ?_
  refine z_bipush rfl rfl ?_
  refine z_copy (n := 12) (kO_8 k1) (kO_8 k0) cp_X1_34 rfl rfl rfl (fun h5 => ?_)
  exact z_return rfl rfl
set_option maxRecDepth 20000 in
set_option maxHeartbeats 1000000 in
theorem t_X1_changeSetting (x0 : Nat) (k0 : kd x0 = (1, 0)) (x1 : Int) (x2 : Int) (h : Hp) : Ct M_X1_changeSetting [vr x0, vi x1, vi x2] h (f_X1_changeSetting x0 x1 x2 h) := by
  refine Ct.mk ok_X1_changeSetting pl_X1_changeSetting rfl rfl ?_
  show Z M_X1_changeSetting 0 [some (vr x0), some (vi x1), some (vi x2), none] [] h (f_X1_changeSetting x0 x1 x2 h)
  unfold f_X1_changeSetting
  refine z_iload_n rfl rfl ?_
  refine z_if_lt rfl ?_ ?_
  · refine z_ldc rfl cst_X1_59 rfl ?_
    exact z_ireturn rfl rfl
  · refine z_iload_n rfl rfl ?_
    refine z_aload_n rfl rfl ?_
    refine z_getR rfl fl_X1_24 rfl k0 ?_
    refine z_alen (c := 0) rfl (kO_7 k0) (by omega) ?_
    refine z_icmp_ge rfl ?_ ?_
    · refine z_ldc rfl cst_X1_59 rfl ?_
      exact z_ireturn rfl rfl
    · refine z_iload_n rfl rfl ?_
      refine z_sget (i := 85) fs_X1_87 rfl rfl ?_
      refine z_iload_n rfl rfl ?_
      refine z_N2i mn_X1_90 (t_X4_numberAt 85 7 (Or.inr kd_85) _ _) rfl rfl rfl rfl (fun r1 h1 => ?_)
      refine z_icmp_lt rfl ?_ ?_
      · refine z_ldc rfl cst_X1_59 rfl ?_
        exact z_ireturn rfl rfl
      · refine z_iload_n rfl rfl ?_
        refine z_sget (i := 86) fs_X1_94 rfl rfl ?_
        refine z_iload_n rfl rfl ?_
        refine z_N2i mn_X1_90 (t_X4_numberAt 86 7 (Or.inr kd_86) _ _) rfl rfl rfl rfl (fun r2 h2 => ?_)
        refine z_icmp_le rfl ?_ ?_
        · refine z_aload_n rfl rfl ?_
          refine z_getR rfl fl_X1_24 rfl k0 ?_
          refine z_iload_n rfl rfl ?_
          refine z_iaload rfl (kO_7 k0) ?_
          refine z_istore_nL rfl rfl (fun y3 => ?_)
          refine z_aload_n rfl rfl ?_
          refine z_getR rfl fl_X1_24 rfl k0 ?_
          refine z_iload_n rfl rfl ?_
          refine z_iload_n rfl rfl ?_
          refine z_iastoreL (kO_7 k0) rfl (fun h4 => ?_)
          refine z_iload_n rfl rfl ?_
          exact z_ireturn rfl rfl
        · refine z_ldc rfl cst_X1_59 rfl ?_
          exact z_ireturn rfl rfl
set_option maxRecDepth 20000 in
set_option maxHeartbeats 1000000 in
theorem t_X2_has (x0 : Nat) (k0 : kd x0 = (2, 0)) (x1 : Int) (h : Hp) : Ct M_X2_has [vr x0, vi x1] h (f_X2_has x0 x1 h) := by
  refine Ct.mk ok_X2_has pl_X2_has rfl rfl ?_
  show Z M_X2_has 0 [some (vr x0), some (vi x1)] [] h (f_X2_has x0 x1 h)
  unfold f_X2_has
  refine z_iload_n rfl rfl ?_
  refine z_if_lt rfl ?_ ?_
  · refine z_iconst rfl rfl ?_
    exact z_zret0 rfl rfl
  · refine z_iload_n rfl rfl ?_
    refine z_aload_n rfl rfl ?_
    refine z_getI rfl fl_X2_15 rfl k0 ?_
    refine z_icmp_ge rfl ?_ ?_
    · refine z_iconst rfl rfl ?_
      exact z_zret0 rfl rfl
    · refine z_iconst rfl rfl ?_
      refine z_goto rfl ?_
      exact z_zret1 rfl rfl
set_option maxRecDepth 20000 in
set_option maxHeartbeats 1000000 in
theorem t_X2_remove_L11 (x0 : Nat) (k0 : kd x0 = (2, 0)) : ∀ (n : Nat) (x2 : Int) (h : Hp), Z M_X2_remove 11 [some (vr x0), none, some (vi x2)] [] h (f_X2_remove_L11 x0 n x2 h) := by
  intro n
  induction n with
  | zero => intro x2 h; exact Z.nix
  | succ n ih =>
    intro x2 h
    rw [f_X2_remove_L11_s]
    refine z_iload_n rfl rfl ?_
    refine z_bipush rfl rfl ?_
    refine z_iadd rfl ?_
    refine z_aload_n rfl rfl ?_
    refine z_getR rfl fl_X2_9 rfl k0 ?_
    refine z_alen (c := 0) rfl (kR_1 k0) (by omega) ?_
    refine z_icmp_ge rfl ?_ ?_
    · refine z_aload_n rfl rfl ?_
      refine z_dup rfl rfl ?_
      refine z_getI rfl fl_X2_15 rfl k0 ?_
      refine z_iconst rfl rfl ?_
      refine z_isub rfl ?_
      refine z_putL fi_X2_15 rfl k0 rfl (fun h2 => ?_)
      exact z_return rfl rfl
    · refine z_aload_n rfl rfl ?_
      refine z_getR rfl fl_X2_9 rfl k0 ?_
      refine z_iload_n rfl rfl ?_
      refine z_aload_n rfl rfl ?_
      refine z_getR rfl fl_X2_9 rfl k0 ?_
      refine z_iload_n rfl rfl ?_
      refine z_bipush rfl rfl ?_
      refine z_iadd rfl ?_
      refine z_iaload rfl (kR_1 k0) ?_
      refine z_iastoreL (kR_1 k0) rfl (fun h3 => ?_)
      refine z_iinc rfl rfl rfl ?_
      refine z_goto rfl ?_
      refine Z.weak ?_ (ih _ _)
      exact wkL_c (wkL_n (wkL_c (wkL_nil _)))
set_option maxRecDepth 20000 in
set_option maxHeartbeats 1000000 in
theorem t_X2_remove (x0 : Nat) (k0 : kd x0 = (2, 0)) (x1 : Int) (h : Hp) : Ct M_X2_remove [vr x0, vi x1] h (f_X2_remove x0 x1 h) := by
  refine Ct.mk ok_X2_remove pl_X2_remove rfl rfl ?_
  show Z M_X2_remove 0 [some (vr x0), some (vi x1), none] [] h (f_X2_remove x0 x1 h)
  unfold f_X2_remove
  refine z_iload_n rfl rfl ?_
  refine z_if_lt rfl ?_ ?_
  · exact z_return rfl rfl
  · refine z_iload_n rfl rfl ?_
    refine z_aload_n rfl rfl ?_
    refine z_getI rfl fl_X2_15 rfl k0 ?_
    refine z_icmp_lt rfl ?_ ?_
    · refine z_iload_n rfl rfl ?_
      refine z_bipush rfl rfl ?_
      refine z_imul rfl ?_
      refine z_istore_nL rfl rfl (fun y1 => ?_)
      refine Z.weak ?_ (t_X2_remove_L11 x0 k0     fu _ _)
      · exact wkL_c (wkL_n (wkL_c (wkL_nil _)))
    · exact z_return rfl rfl
set_option maxRecDepth 20000 in
set_option maxHeartbeats 1000000 in
theorem t_X1_dropClaim (x0 : Nat) (k0 : kd x0 = (1, 0)) (x1 : Int) (h : Hp) : Ct M_X1_dropClaim [vr x0, vi x1] h (f_X1_dropClaim x0 x1 h) := by
  refine Ct.mk ok_X1_dropClaim pl_X1_dropClaim rfl rfl ?_
  show Z M_X1_dropClaim 0 [some (vr x0), some (vi x1)] [] h (f_X1_dropClaim x0 x1 h)
  unfold f_X1_dropClaim
  refine z_aload_n rfl rfl ?_
  refine z_getR rfl fl_X1_18 rfl k0 ?_
  refine z_iload_n rfl rfl ?_
  refine z_V1i ko2 mv_X1_73 (kO_3 k0) (t_X2_has (x0 + 3) (kO_3 k0) _ _) rfl rfl rfl rfl rfl (fun r1 h1 => ?_)
  refine z_if_ne rfl ?_ ?_
  · refine z_aload_n rfl rfl ?_
    refine z_getR rfl fl_X1_18 rfl k0 ?_
    refine z_iload_n rfl rfl ?_
    refine z_V1v ko2 mv_X1_83 (kO_3 k0) (t_X2_remove (x0 + 3) (kO_3 k0) _ _) rfl rfl rfl rfl rfl (fun _ h2 => ?_)
    refine z_aload_n rfl rfl ?_
    refine z_bipush rfl rfl ?_
    refine z_iconst rfl rfl ?_
    refine z_V2v ko1 mv_X1_61 k0 (t_X1_addTo x0 k0 _ _ _) rfl rfl rfl rfl rfl (fun _ h3 => ?_)
    refine z_aload_n rfl rfl ?_
    refine z_getR rfl fl_X1_18 rfl k0 ?_
    refine z_getI rfl fl_X1_44 rfl (kO_3 k0) ?_
    exact z_ireturn rfl rfl
  · refine z_ldc rfl cst_X1_59 rfl ?_
    exact z_ireturn rfl rfl
set_option maxRecDepth 20000 in
set_option maxHeartbeats 1000000 in
theorem t_X1_sum (x0 : Nat) (k0 : kd x0 = (1, 0)) (x1 : Int) (h : Hp) : Ct M_X1_sum [vr x0, vi x1] h (f_X1_sum x0 x1 h) := by
  refine Ct.mk ok_X1_sum pl_X1_sum rfl rfl ?_
  show Z M_X1_sum 0 [some (vr x0), some (vi x1)] [] h (f_X1_sum x0 x1 h)
  unfold f_X1_sum
  refine z_iload_n rfl rfl ?_
  refine z_if_lt rfl ?_ ?_
  · refine z_iconst rfl rfl ?_
    exact z_ireturn rfl rfl
  · refine z_iload_n rfl rfl ?_
    refine z_aload_n rfl rfl ?_
    refine z_getR rfl fl_X1_28 rfl k0 ?_
    refine z_alen (c := 0) rfl (kO_8 k0) (by omega) ?_
    refine z_icmp_ge rfl ?_ ?_
    · refine z_iconst rfl rfl ?_
      exact z_ireturn rfl rfl
    · refine z_aload_n rfl rfl ?_
      refine z_getR rfl fl_X1_28 rfl k0 ?_
      refine z_iload_n rfl rfl ?_
      refine z_iaload rfl (kO_8 k0) ?_
      refine z_goto rfl ?_
      exact z_ireturn rfl rfl
set_option maxRecDepth 20000 in
set_option maxHeartbeats 1000000 in
theorem t_X2_append (x0 : Nat) (k0 : kd x0 = (2, 0)) (x1 : Int) (x2 : Int) (x3 : Int) (x4 : Int) (h : Hp) : Ct M_X2_append [vr x0, vi x1, vi x2, vi x3, vi x4] h (f_X2_append x0 x1 x2 x3 x4 h) := by
  refine Ct.mk ok_X2_append pl_X2_append rfl rfl ?_
  show Z M_X2_append 0 [some (vr x0), some (vi x1), some (vi x2), some (vi x3), some (vi x4), none] [] h (f_X2_append x0 x1 x2 x3 x4 h)
  unfold f_X2_append
  refine z_aload_n rfl rfl ?_
  refine z_getI rfl fl_X2_15 rfl k0 ?_
  refine z_bipush rfl rfl ?_
  refine z_imul rfl ?_
  refine z_istoreL rfl rfl (fun y1 => ?_)
  refine z_iload rfl rfl ?_
  refine z_if_lt rfl ?_ ?_
  · refine z_iconst rfl rfl ?_
    exact z_ireturn rfl rfl
  · refine z_iload rfl rfl ?_
    refine z_bipush rfl rfl ?_
    refine z_iadd rfl ?_
    refine z_aload_n rfl rfl ?_
    refine z_getR rfl fl_X2_9 rfl k0 ?_
    refine z_alen (c := 0) rfl (kR_1 k0) (by omega) ?_
    refine z_icmp_le rfl ?_ ?_
    · refine z_aload_n rfl rfl ?_
      refine z_getR rfl fl_X2_9 rfl k0 ?_
      refine z_iload rfl rfl ?_
      refine z_iload_n rfl rfl ?_
      refine z_iastoreL (kR_1 k0) rfl (fun h2 => ?_)
      refine z_aload_n rfl rfl ?_
      refine z_getR rfl fl_X2_9 rfl k0 ?_
      refine z_iload rfl rfl ?_
      refine z_iconst rfl rfl ?_
      refine z_iadd rfl ?_
      refine z_iload_n rfl rfl ?_
      refine z_iastoreL (kR_1 k0) rfl (fun h3 => ?_)
      refine z_aload_n rfl rfl ?_
      refine z_getR rfl fl_X2_9 rfl k0 ?_
      refine z_iload rfl rfl ?_
      refine z_iconst rfl rfl ?_
      refine z_iadd rfl ?_
      refine z_iload_n rfl rfl ?_
      refine z_iastoreL (kR_1 k0) rfl (fun h4 => ?_)
      refine z_aload_n rfl rfl ?_
      refine z_getR rfl fl_X2_9 rfl k0 ?_
      refine z_iload rfl rfl ?_
      refine z_iconst rfl rfl ?_
      refine z_iadd rfl ?_
      refine z_iload rfl rfl ?_
      refine z_iastoreL (kR_1 k0) rfl (fun h5 => ?_)
      refine z_aload_n rfl rfl ?_
      refine z_getR rfl fl_X2_9 rfl k0 ?_
      refine z_iload rfl rfl ?_
      refine z_iconst rfl rfl ?_
      refine z_iadd rfl ?_
      refine z_iconst rfl rfl ?_
      refine z_iastoreL (kR_1 k0) rfl (fun h6 => ?_)
      refine z_aload_n rfl rfl ?_
      refine z_getR rfl fl_X2_9 rfl k0 ?_
      refine z_iload rfl rfl ?_
      refine z_iconst rfl rfl ?_
      refine z_iadd rfl ?_
      refine z_iconst rfl rfl ?_
      refine z_iastoreL (kR_1 k0) rfl (fun h7 => ?_)
      refine z_aload_n rfl rfl ?_
      refine z_dup rfl rfl ?_
      refine z_getI rfl fl_X2_15 rfl k0 ?_
      refine z_iconst rfl rfl ?_
      refine z_iadd rfl ?_
      refine z_putL fi_X2_15 rfl k0 rfl (fun h8 => ?_)
      refine z_aload_n rfl rfl ?_
      refine z_getI rfl fl_X2_15 rfl k0 ?_
      refine z_iconst rfl rfl ?_
      refine z_isub rfl ?_
      exact z_ireturn rfl rfl
    · refine z_iconst rfl rfl ?_
      exact z_ireturn rfl rfl
set_option maxRecDepth 20000 in
set_option maxHeartbeats 1000000 in
theorem t_X1_enter_J9 (x0 : Nat) (k0 : kd x0 = (1, 0)) (x1 : Int) (x2 : Int) (x3 : Int) (h : Hp) : Z M_X1_enter 9 [some (vr x0), some (vi x1), some (vi x2), some (vi x3)] [] h (f_X1_enter_J9 x0 x1 x2 x3 h) := by
  unfold f_X1_enter_J9
  refine z_aload_n rfl rfl ?_
  refine z_getR rfl fl_X1_21 rfl k0 ?_
  refine z_aload_n rfl rfl ?_
  refine z_iconst rfl rfl ?_
  refine z_V1i ko1 mv_X1_100 k0 (t_X1_sum x0 k0 _ _) rfl rfl rfl rfl rfl (fun r1 h1 => ?_)
  refine z_iload_n rfl rfl ?_
  refine z_iload_n rfl rfl ?_
  refine z_iload_n rfl rfl ?_
  refine z_V4i ko2 mv_X1_65 (kO_5 k0) (t_X2_append (x0 + 5) (kO_5 k0) _ _ _ _ _) rfl rfl rfl rfl rfl (fun r2 h2 => ?_)
  refine z_pop rfl rfl ?_
  refine z_aload_n rfl rfl ?_
  refine z_bipush rfl rfl ?_
  refine z_iload_n rfl rfl ?_
  refine z_V2v ko1 mv_X1_61 k0 (t_X1_addTo x0 k0 _ _ _) rfl rfl rfl rfl rfl (fun _ h3 => ?_)
  exact z_return rfl rfl
set_option maxRecDepth 20000 in
set_option maxHeartbeats 1000000 in
theorem t_X1_enter (x0 : Nat) (k0 : kd x0 = (1, 0)) (x1 : Int) (x2 : Int) (x3 : Int) (h : Hp) : Ct M_X1_enter [vr x0, vi x1, vi x2, vi x3] h (f_X1_enter x0 x1 x2 x3 h) := by
  refine Ct.mk ok_X1_enter pl_X1_enter rfl rfl ?_
  show Z M_X1_enter 0 [some (vr x0), some (vi x1), some (vi x2), some (vi x3)] [] h (f_X1_enter x0 x1 x2 x3 h)
  unfold f_X1_enter
  refine z_aload_n rfl rfl ?_
  refine z_getR rfl fl_X1_21 rfl k0 ?_
  refine z_getI rfl fl_X1_44 rfl (kO_5 k0) ?_
  refine z_bipush rfl rfl ?_
  refine z_icmp_lt rfl ?_ ?_
  · refine Z.weak ?_ (t_X1_enter_J9 x0 k0 _ _ _  _)
    exact wkL_c (wkL_c (wkL_c (wkL_c (wkL_nil _))))
  · refine z_aload_n rfl rfl ?_
    refine z_getR rfl fl_X1_21 rfl k0 ?_
    refine z_iconst rfl rfl ?_
    refine z_V1v ko2 mv_X1_83 (kO_5 k0) (t_X2_remove (x0 + 5) (kO_5 k0) _ _) rfl rfl rfl rfl rfl (fun _ h4 => ?_)
    refine Z.weak ?_ (t_X1_enter_J9 x0 k0 _ _ _  _)
    exact wkL_c (wkL_c (wkL_c (wkL_c (wkL_nil _))))
set_option maxRecDepth 20000 in
set_option maxHeartbeats 1000000 in
theorem t_X1_endOld_L5 (x0 : Nat) (k0 : kd x0 = (1, 0)) (x1 : Nat) (k1 : kd x1 = (2, 0)) (x2 : Int) (x3 : Int) (x4 : Int) : ∀ (n : Nat) (x5 : Int) (x6 : Int) (h : Hp), Z M_X1_endOld 5 [some (vr x0), some (vr x1), some (vi x2), some (vi x3), some (vi x4), some (vi x5), some (vi x6), none] [] h (f_X1_endOld_L5 x0 x1 x2 x3 x4 n x5 x6 h) := by
  intro n
  induction n with
  | zero => intro x5 x6 h; exact Z.nix
  | succ n ih =>
    intro x5 x6 h
    rw [f_X1_endOld_L5_s]
    refine z_iload rfl rfl ?_
    refine z_if_le rfl ?_ ?_
    · exact z_return rfl rfl
    · refine z_aload_n rfl rfl ?_
      refine z_iload rfl rfl ?_
      refine z_iconst rfl rfl ?_
      refine z_V2i ko2 mv_X1_48 k1 (t_X2_cell x1 k1 _ _ _) rfl rfl rfl rfl rfl (fun r2 h2 => ?_)
      refine z_istore rfl rfl ?_
      refine z_iload rfl rfl ?_
      refine z_aload_n rfl rfl ?_
      refine z_iconst rfl rfl ?_
      refine z_V1i ko1 mv_X1_107 k0 (t_X1_setting x0 k0 _ _) rfl rfl rfl rfl rfl (fun r3 h3 => ?_)
      refine z_icmp_ge rfl ?_ ?_
      · refine z_aload_n rfl rfl ?_
        refine z_iload rfl rfl ?_
        refine z_V1v ko2 mv_X1_83 k1 (t_X2_remove x1 k1 _ _) rfl rfl rfl rfl rfl (fun _ h4 => ?_)
        refine z_aload_n rfl rfl ?_
        refine z_iload_n rfl rfl ?_
        refine z_iconst rfl rfl ?_
        refine z_V2v ko1 mv_X1_61 k0 (t_X1_addTo x0 k0 _ _ _) rfl rfl rfl rfl rfl (fun _ h5 => ?_)
        refine z_aload_n rfl rfl ?_
        refine z_iload_n rfl rfl ?_
        refine z_iload rfl rfl ?_
        refine z_iload rfl rfl ?_
        refine z_V3v ko1 mv_X1_114 k0 (t_X1_enter x0 k0 _ _ _ _) rfl rfl rfl rfl rfl (fun _ h6 => ?_)
        refine z_iinc rfl rfl rfl ?_
        refine z_goto rfl ?_
        refine Z.weak ?_ (ih _ _ _)
        exact wkL_c (wkL_c (wkL_c (wkL_c (wkL_c (wkL_c (wkL_c (wkL_n (wkL_nil _))))))))
      · refine z_iinc rfl rfl rfl ?_
        refine z_goto rfl ?_
        refine z_iinc rfl rfl rfl ?_
        refine z_goto rfl ?_
        refine Z.weak ?_ (ih _ _ _)
        exact wkL_c (wkL_c (wkL_c (wkL_c (wkL_c (wkL_c (wkL_c (wkL_n (wkL_nil _))))))))
set_option maxRecDepth 20000 in
set_option maxHeartbeats 1000000 in
theorem t_X1_endOld (x0 : Nat) (k0 : kd x0 = (1, 0)) (x1 : Nat) (k1 : kd x1 = (2, 0)) (x2 : Int) (x3 : Int) (x4 : Int) (h : Hp) : Ct M_X1_endOld [vr x0, vr x1, vi x2, vi x3, vi x4] h (f_X1_endOld x0 x1 x2 x3 x4 h) := by
  refine Ct.mk ok_X1_endOld pl_X1_endOld rfl rfl ?_
  show Z M_X1_endOld 0 [some (vr x0), some (vr x1), some (vi x2), some (vi x3), some (vi x4), none, none, none] [] h (f_X1_endOld x0 x1 x2 x3 x4 h)
  unfold f_X1_endOld
  refine z_iconst rfl rfl ?_
  refine z_istore rfl rfl ?_
  refine z_aload_n rfl rfl ?_
  refine z_getI rfl fl_X1_44 rfl k1 ?_
  refine z_istoreL rfl rfl (fun y1 => ?_)
  refine Z.weak ?_ (t_X1_endOld_L5 x0 k0 x1 k1 _ _ _     fu _ _ _)
  · exact wkL_c (wkL_c (wkL_c (wkL_c (wkL_c (wkL_c (wkL_c (wkL_n (wkL_nil _))))))))
set_option maxRecDepth 20000 in
set_option maxHeartbeats 1000000 in
theorem t_X2_put (x0 : Nat) (k0 : kd x0 = (2, 0)) (x1 : Int) (x2 : Int) (x3 : Int) (h : Hp) : Ct M_X2_put [vr x0, vi x1, vi x2, vi x3] h (f_X2_put x0 x1 x2 x3 h) := by
  refine Ct.mk ok_X2_put pl_X2_put rfl rfl ?_
  show Z M_X2_put 0 [some (vr x0), some (vi x1), some (vi x2), some (vi x3), none] [] h (f_X2_put x0 x1 x2 x3 h)
  unfold f_X2_put
  refine z_iload_n rfl rfl ?_
  refine z_if_lt rfl ?_ ?_
  · exact z_return rfl rfl
  · refine z_iload_n rfl rfl ?_
    refine z_aload_n rfl rfl ?_
    refine z_getI rfl fl_X2_15 rfl k0 ?_
    refine z_icmp_ge rfl ?_ ?_
    · exact z_return rfl rfl
    · refine z_iload_n rfl rfl ?_
      refine z_if_lt rfl ?_ ?_
      · exact z_return rfl rfl
      · refine z_iload_n rfl rfl ?_
        refine z_bipush rfl rfl ?_
        refine z_icmp_lt rfl ?_ ?_
        · refine z_iload_n rfl rfl ?_
          refine z_bipush rfl rfl ?_
          refine z_imul rfl ?_
          refine z_iload_n rfl rfl ?_
          refine z_iadd rfl ?_
          refine z_istoreL rfl rfl (fun y1 => ?_)
          refine z_iload rfl rfl ?_
          refine z_if_lt rfl ?_ ?_
          · exact z_return rfl rfl
          · refine z_iload rfl rfl ?_
            refine z_aload_n rfl rfl ?_
            refine z_getR rfl fl_X2_9 rfl k0 ?_
            refine z_alen (c := 0) rfl (kR_1 k0) (by omega) ?_
            refine z_icmp_ge rfl ?_ ?_
            · exact z_return rfl rfl
            · refine z_aload_n rfl rfl ?_
              refine z_getR rfl fl_X2_9 rfl k0 ?_
              refine z_iload rfl rfl ?_
              refine z_iload_n rfl rfl ?_
              refine z_iastoreL (kR_1 k0) rfl (fun h2 => ?_)
              exact z_return rfl rfl
        · exact z_return rfl rfl
set_option maxRecDepth 20000 in
set_option maxHeartbeats 1000000 in
theorem t_X1_growOlder_L2 (x0 : Nat) (k0 : kd x0 = (1, 0)) (x1 : Nat) (k1 : kd x1 = (2, 0)) : ∀ (n : Nat) (x2 : Int) (h : Hp), Z M_X1_growOlder 2 [none, some (vr x1), some (vi x2)] [] h (f_X1_growOlder_L2 x0 x1 n x2 h) := by
  intro n
  induction n with
  | zero => intro x2 h; exact Z.nix
  | succ n ih =>
    intro x2 h
    rw [f_X1_growOlder_L2_s]
    refine z_iload_n rfl rfl ?_
    refine z_aload_n rfl rfl ?_
    refine z_getI rfl fl_X1_44 rfl k1 ?_
    refine z_icmp_ge rfl ?_ ?_
    · exact z_return rfl rfl
    · refine z_aload_n rfl rfl ?_
      refine z_iload_n rfl rfl ?_
      refine z_iconst rfl rfl ?_
      refine z_aload_n rfl rfl ?_
      refine z_iload_n rfl rfl ?_
      refine z_iconst rfl rfl ?_
      refine z_V2i ko2 mv_X1_48 k1 (t_X2_cell x1 k1 _ _ _) rfl rfl rfl rfl rfl (fun r1 h1 => ?_)
      refine z_iconst rfl rfl ?_
      refine z_iadd rfl ?_
      refine z_V3v ko2 mv_X1_79 k1 (t_X2_put x1 k1 _ _ _ _) rfl rfl rfl rfl rfl (fun _ h2 => ?_)
      refine z_iinc rfl rfl rfl ?_
      refine z_goto rfl ?_
      refine Z.weak ?_ (ih _ _)
      exact wkL_n (wkL_c (wkL_c (wkL_nil _)))
set_option maxRecDepth 20000 in
set_option maxHeartbeats 1000000 in
theorem t_X1_growOlder (x0 : Nat) (k0 : kd x0 = (1, 0)) (x1 : Nat) (k1 : kd x1 = (2, 0)) (h : Hp) : Ct M_X1_growOlder [vr x0, vr x1] h (f_X1_growOlder x0 x1 h) := by
  refine Ct.mk ok_X1_growOlder pl_X1_growOlder rfl rfl ?_
  show Z M_X1_growOlder 0 [some (vr x0), some (vr x1), none] [] h (f_X1_growOlder x0 x1 h)
  unfold f_X1_growOlder
  refine z_iconst rfl rfl ?_
  refine z_istore_n rfl rfl ?_
  refine Z.weak ?_ (t_X1_growOlder_L2 x0 k0 x1 k1     fu _ _)
  · exact wkL_n (wkL_c (wkL_c (wkL_nil _)))
set_option maxRecDepth 20000 in
set_option maxHeartbeats 1000000 in
theorem t_X1_handOut_L2 (x0 : Nat) (k0 : kd x0 = (1, 0)) (c33 : Hp → Option (Int × Hp)) (hc33 : ∀ (h : Hp), Z M_X1_handOut 33 [some (vr x0), some (vr 19), none, none] [] h (c33  h)) : ∀ (n : Nat) (x2 : Int) (h : Hp), Z M_X1_handOut 2 [some (vr x0), some (vr 19), some (vi x2), none] [] h (f_X1_handOut_L2 x0 c33 n x2 h) := by
  intro n
  induction n with
  | zero => intro x2 h; exact Z.nix
  | succ n ih =>
    intro x2 h
    rw [f_X1_handOut_L2_s]
    refine z_iload_n rfl rfl ?_
    refine z_aload_n rfl rfl ?_
    refine z_getR rfl fl_X1_12 rfl k0 ?_
    refine z_getI rfl fl_X1_44 rfl (kO_1 k0) ?_
    refine z_icmp_ge rfl ?_ ?_
    · refine Z.weak ?_ (hc33 _)
      exact wkL_c (wkL_c (wkL_n (wkL_n (wkL_nil _))))
    · refine z_aload_n rfl rfl ?_
      refine z_iload_n rfl rfl ?_
      refine z_V1i ko0 mv_X1_117 kd_19 (t_X0_claimMatched _ _) rfl rfl rfl rfl rfl (fun r1 h1 => ?_)
      refine z_iconst rfl rfl ?_
      refine z_icmp_eq rfl ?_ ?_
      · refine z_iinc rfl rfl rfl ?_
        refine z_goto rfl ?_
        refine Z.weak ?_ (ih _ _)
        exact wkL_c (wkL_c (wkL_c (wkL_n (wkL_nil _))))
      · refine z_aload_n rfl rfl ?_
        refine z_getR rfl fl_X1_12 rfl k0 ?_
        refine z_iload_n rfl rfl ?_
        refine z_iconst rfl rfl ?_
        refine z_V2i ko2 mv_X1_48 (kO_1 k0) (t_X2_cell (x0 + 1) (kO_1 k0) _ _ _) rfl rfl rfl rfl rfl (fun r2 h2 => ?_)
        refine z_istore_n rfl rfl ?_
        refine z_aload_n rfl rfl ?_
        refine z_iconst rfl rfl ?_
        refine z_iload_n rfl rfl ?_
        refine z_iload_n rfl rfl ?_
        refine z_aload_n rfl rfl ?_
        refine z_iconst rfl rfl ?_
        refine z_V1i ko1 mv_X1_107 k0 (t_X1_setting x0 k0 _ _) rfl rfl rfl rfl rfl (fun r3 h3 => ?_)
        refine z_imul rfl ?_
        refine z_V3v ko1 mv_X1_114 k0 (t_X1_enter x0 k0 _ _ _ _) rfl rfl rfl rfl rfl (fun _ h4 => ?_)
        refine z_aload_n rfl rfl ?_
        refine z_bipush rfl rfl ?_
        refine z_iconst rfl rfl ?_
        refine z_V2v ko1 mv_X1_61 k0 (t_X1_addTo x0 k0 _ _ _) rfl rfl rfl rfl rfl (fun _ h5 => ?_)
        refine z_iinc rfl rfl rfl ?_
        refine z_goto rfl ?_
        refine Z.weak ?_ (ih _ _)
        exact wkL_c (wkL_c (wkL_c (wkL_n (wkL_nil _))))
set_option maxRecDepth 20000 in
set_option maxHeartbeats 1000000 in
theorem t_X1_handOut_L39 (x0 : Nat) (k0 : kd x0 = (1, 0)) (c52 : Hp → Option (Int × Hp)) (hc52 : ∀ (h : Hp), Z M_X1_handOut 52 [some (vr x0), some (vr 19), none, none] [] h (c52  h)) : ∀ (n : Nat) (x2 : Int) (h : Hp), Z M_X1_handOut 39 [some (vr x0), some (vr 19), some (vi x2), none] [] h (f_X1_handOut_L39 x0 c52 n x2 h) := by
  intro n
  induction n with
  | zero => intro x2 h; exact Z.nix
  | succ n ih =>
    intro x2 h
    rw [f_X1_handOut_L39_s]
    refine z_iload_n rfl rfl ?_
    refine z_if_lt rfl ?_ ?_
    · refine Z.weak ?_ (hc52 _)
      exact wkL_c (wkL_c (wkL_n (wkL_n (wkL_nil _))))
    · refine z_aload_n rfl rfl ?_
      refine z_iload_n rfl rfl ?_
      refine z_V1i ko0 mv_X1_117 kd_19 (t_X0_claimMatched _ _) rfl rfl rfl rfl rfl (fun r8 h8 => ?_)
      refine z_iconst rfl rfl ?_
      refine z_icmp_eq rfl ?_ ?_
      · refine z_iinc rfl rfl rfl ?_
        refine z_goto rfl ?_
        refine Z.weak ?_ (ih _ _)
        exact wkL_c (wkL_c (wkL_c (wkL_n (wkL_nil _))))
      · refine z_aload_n rfl rfl ?_
        refine z_getR rfl fl_X1_12 rfl k0 ?_
        refine z_iload_n rfl rfl ?_
        refine z_V1v ko2 mv_X1_83 (kO_1 k0) (t_X2_remove (x0 + 1) (kO_1 k0) _ _) rfl rfl rfl rfl rfl (fun _ h9 => ?_)
        refine z_iinc rfl rfl rfl ?_
        refine z_goto rfl ?_
        refine Z.weak ?_ (ih _ _)
        exact wkL_c (wkL_c (wkL_c (wkL_n (wkL_nil _))))
set_option maxRecDepth 20000 in
set_option maxHeartbeats 1000000 in
theorem t_X1_handOut_L58 (x0 : Nat) (k0 : kd x0 = (1, 0)) : ∀ (n : Nat) (x2 : Int) (h : Hp), Z M_X1_handOut 58 [some (vr x0), some (vr 19), some (vi x2), none] [] h (f_X1_handOut_L58 x0 n x2 h) := by
  intro n
  induction n with
  | zero => intro x2 h; exact Z.nix
  | succ n ih =>
    intro x2 h
    rw [f_X1_handOut_L58_s]
    refine z_iload_n rfl rfl ?_
    refine z_if_lt rfl ?_ ?_
    · refine z_aload_n rfl rfl ?_
      refine z_getI rfl fl_X1_125 rfl kd_19 ?_
      exact z_ireturn rfl rfl
    · refine z_aload_n rfl rfl ?_
      refine z_iload_n rfl rfl ?_
      refine z_V1i ko0 mv_X1_122 kd_19 (t_X0_umbrellaMatched _ _) rfl rfl rfl rfl rfl (fun r12 h12 => ?_)
      refine z_iconst rfl rfl ?_
      refine z_icmp_eq rfl ?_ ?_
      · refine z_iinc rfl rfl rfl ?_
        refine z_goto rfl ?_
        refine Z.weak ?_ (ih _ _)
        exact wkL_c (wkL_c (wkL_c (wkL_n (wkL_nil _))))
      · refine z_aload_n rfl rfl ?_
        refine z_getR rfl fl_X1_18 rfl k0 ?_
        refine z_iload_n rfl rfl ?_
        refine z_V1v ko2 mv_X1_83 (kO_3 k0) (t_X2_remove (x0 + 3) (kO_3 k0) _ _) rfl rfl rfl rfl rfl (fun _ h13 => ?_)
        refine z_iinc rfl rfl rfl ?_
        refine z_goto rfl ?_
        refine Z.weak ?_ (ih _ _)
        exact wkL_c (wkL_c (wkL_c (wkL_n (wkL_nil _))))
set_option maxRecDepth 20000 in
set_option maxHeartbeats 1000000 in
theorem t_X1_handOut (x0 : Nat) (k0 : kd x0 = (1, 0)) (h : Hp) : Ct M_X1_handOut [vr x0, vr 19] h (f_X1_handOut x0 h) := by
  refine Ct.mk ok_X1_handOut pl_X1_handOut rfl rfl ?_
  show Z M_X1_handOut 0 [some (vr x0), some (vr 19), none, none] [] h (f_X1_handOut x0 h)
  unfold f_X1_handOut
  refine z_iconst rfl rfl ?_
  refine z_istore_n rfl rfl ?_
  refine Z.weak ?_ (t_X1_handOut_L2 x0 k0  _  ?_  fu _ _)
  · exact wkL_c (wkL_c (wkL_c (wkL_n (wkL_nil _))))
  · intro h6
    refine z_aload_n rfl rfl ?_
    refine z_getR rfl fl_X1_12 rfl k0 ?_
    refine z_getI rfl fl_X1_44 rfl (kO_1 k0) ?_
    refine z_iconst rfl rfl ?_
    refine z_isub rfl ?_
    refine z_istore_nL rfl rfl (fun y7 => ?_)
    refine Z.weak ?_ (t_X1_handOut_L39 x0 k0  _  ?_  fu _ _)
    · exact wkL_c (wkL_c (wkL_c (wkL_n (wkL_nil _))))
    · intro h10
      refine z_aload_n rfl rfl ?_
      refine z_getR rfl fl_X1_18 rfl k0 ?_
      refine z_getI rfl fl_X1_44 rfl (kO_3 k0) ?_
      refine z_iconst rfl rfl ?_
      refine z_isub rfl ?_
      refine z_istore_nL rfl rfl (fun y11 => ?_)
      refine Z.weak ?_ (t_X1_handOut_L58 x0 k0     fu _ _)
      · exact wkL_c (wkL_c (wkL_c (wkL_n (wkL_nil _))))
set_option maxRecDepth 20000 in
set_option maxHeartbeats 1000000 in
theorem t_X4_isDetail (x0 : Int) (h : Hp) : Ct M_X4_isDetail [vi x0] h (f_X4_isDetail x0 h) := by
  refine Ct.mk ok_X4_isDetail pl_X4_isDetail rfl rfl ?_
  show Z M_X4_isDetail 0 [some (vi x0)] [] h (f_X4_isDetail x0 h)
  unfold f_X4_isDetail
  refine z_iload_n rfl rfl ?_
  refine z_if_lt rfl ?_ ?_
  · refine z_iconst rfl rfl ?_
    exact z_zret0 rfl rfl
  · refine z_iload_n rfl rfl ?_
    refine z_iconst rfl rfl ?_
    refine z_icmp_ge rfl ?_ ?_
    · refine z_iconst rfl rfl ?_
      exact z_zret0 rfl rfl
    · refine z_iconst rfl rfl ?_
      refine z_goto rfl ?_
      exact z_zret1 rfl rfl
set_option maxRecDepth 20000 in
set_option maxHeartbeats 1000000 in
theorem t_X4_isValue (x0 : Int) (h : Hp) : Ct M_X4_isValue [vi x0] h (f_X4_isValue x0 h) := by
  refine Ct.mk ok_X4_isValue pl_X4_isValue rfl rfl ?_
  show Z M_X4_isValue 0 [some (vi x0)] [] h (f_X4_isValue x0 h)
  unfold f_X4_isValue
  refine z_iload_n rfl rfl ?_
  refine z_if_lt rfl ?_ ?_
  · refine z_iconst rfl rfl ?_
    exact z_zret0 rfl rfl
  · refine z_iload_n rfl rfl ?_
    refine z_bipush rfl rfl ?_
    refine z_icmp_ge rfl ?_ ?_
    · refine z_iconst rfl rfl ?_
      exact z_zret0 rfl rfl
    · refine z_iconst rfl rfl ?_
      refine z_goto rfl ?_
      exact z_zret1 rfl rfl
set_option maxRecDepth 20000 in
set_option maxHeartbeats 1000000 in
theorem t_X1_noteDetail_J32 (x0 : Nat) (k0 : kd x0 = (1, 0)) (x1 : Int) (x2 : Int) (x3 : Int) (x5 : Int) (h : Hp) : Z M_X1_noteDetail 32 [some (vr x0), some (vi x1), some (vi x2), some (vi x3), none, some (vi x5)] [] h (f_X1_noteDetail_J32 x0 x1 x2 x3 x5 h) := by
  unfold f_X1_noteDetail_J32
  refine z_aload_n rfl rfl ?_
  refine z_getR rfl fl_X1_18 rfl k0 ?_
  refine z_iload_n rfl rfl ?_
  refine z_iload_n rfl rfl ?_
  refine z_iload_n rfl rfl ?_
  refine z_V3v ko2 mv_X1_79 (kO_3 k0) (t_X2_put (x0 + 3) (kO_3 k0) _ _ _ _) rfl rfl rfl rfl rfl (fun _ h6 => ?_)
  refine z_aload_n rfl rfl ?_
  refine z_getR rfl fl_X1_18 rfl k0 ?_
  refine z_iload_n rfl rfl ?_
  refine z_iconst rfl rfl ?_
  refine z_iload rfl rfl ?_
  refine z_V3v ko2 mv_X1_79 (kO_3 k0) (t_X2_put (x0 + 3) (kO_3 k0) _ _ _ _) rfl rfl rfl rfl rfl (fun _ h7 => ?_)
  refine z_iload rfl rfl ?_
  exact z_ireturn rfl rfl
set_option maxRecDepth 20000 in
set_option maxHeartbeats 1000000 in
theorem t_X1_noteDetail (x0 : Nat) (k0 : kd x0 = (1, 0)) (x1 : Int) (x2 : Int) (x3 : Int) (h : Hp) : Ct M_X1_noteDetail [vr x0, vi x1, vi x2, vi x3] h (f_X1_noteDetail x0 x1 x2 x3 h) := by
  refine Ct.mk ok_X1_noteDetail pl_X1_noteDetail rfl rfl ?_
  show Z M_X1_noteDetail 0 [some (vr x0), some (vi x1), some (vi x2), some (vi x3), none, none] [] h (f_X1_noteDetail x0 x1 x2 x3 h)
  unfold f_X1_noteDetail
  refine z_aload_n rfl rfl ?_
  refine z_getR rfl fl_X1_18 rfl k0 ?_
  refine z_iload_n rfl rfl ?_
  refine z_V1i ko2 mv_X1_73 (kO_3 k0) (t_X2_has (x0 + 3) (kO_3 k0) _ _) rfl rfl rfl rfl rfl (fun r1 h1 => ?_)
  refine z_if_eq rfl ?_ ?_
  · refine z_ldc rfl cst_X1_59 rfl ?_
    exact z_ireturn rfl rfl
  · refine z_iload_n rfl rfl ?_
    refine z_N1i mn_X1_76 (t_X4_isDetail _ _) rfl rfl rfl rfl (fun r2 h2 => ?_)
    refine z_if_eq rfl ?_ ?_
    · refine z_ldc rfl cst_X1_59 rfl ?_
      exact z_ireturn rfl rfl
    · refine z_iload_n rfl rfl ?_
      refine z_N1i mn_X1_55 (t_X4_isValue _ _) rfl rfl rfl rfl (fun r3 h3 => ?_)
      refine z_if_ne rfl ?_ ?_
      · refine z_aload_n rfl rfl ?_
        refine z_getR rfl fl_X1_18 rfl k0 ?_
        refine z_iload_n rfl rfl ?_
        refine z_iload_n rfl rfl ?_
        refine z_V2i ko2 mv_X1_48 (kO_3 k0) (t_X2_cell (x0 + 3) (kO_3 k0) _ _ _) rfl rfl rfl rfl rfl (fun r4 h4 => ?_)
        refine z_istore rfl rfl ?_
        refine z_aload_n rfl rfl ?_
        refine z_getR rfl fl_X1_18 rfl k0 ?_
        refine z_iload_n rfl rfl ?_
        refine z_iconst rfl rfl ?_
        refine z_V2i ko2 mv_X1_48 (kO_3 k0) (t_X2_cell (x0 + 3) (kO_3 k0) _ _ _) rfl rfl rfl rfl rfl (fun r5 h5 => ?_)
        refine z_istore rfl rfl ?_
        refine z_iload rfl rfl ?_
        refine z_iconst rfl rfl ?_
        refine z_icmp_eq rfl ?_ ?_
        · refine Z.weak ?_ (t_X1_noteDetail_J32 x0 k0 _ _ _ _  _)
          exact wkL_c (wkL_c (wkL_c (wkL_c (wkL_n (wkL_c (wkL_nil _))))))
        · refine z_iload rfl rfl ?_
          refine z_iload_n rfl rfl ?_
          refine z_icmp_eq rfl ?_ ?_
          · refine Z.weak ?_ (t_X1_noteDetail_J32 x0 k0 _ _ _ _  _)
            exact wkL_c (wkL_c (wkL_c (wkL_c (wkL_n (wkL_c (wkL_nil _))))))
          · refine z_iinc rfl rfl rfl ?_
            refine Z.weak ?_ (t_X1_noteDetail_J32 x0 k0 _ _ _ _  _)
            exact wkL_c (wkL_c (wkL_c (wkL_c (wkL_n (wkL_c (wkL_nil _))))))
      · refine z_ldc rfl cst_X1_59 rfl ?_
        exact z_ireturn rfl rfl
set_option maxRecDepth 20000 in
set_option maxHeartbeats 1000000 in
theorem t_X1_umbrellasWith_L4 (x0 : Nat) (k0 : kd x0 = (1, 0)) (x1 : Int) (x2 : Int) : ∀ (n : Nat) (x3 : Int) (x4 : Int) (h : Hp), Z M_X1_umbrellasWith 4 [some (vr x0), some (vi x1), some (vi x2), some (vi x3), some (vi x4)] [] h (f_X1_umbrellasWith_L4 x0 x1 x2 n x3 x4 h) := by
  intro n
  induction n with
  | zero => intro x3 x4 h; exact Z.nix
  | succ n ih =>
    intro x3 x4 h
    rw [f_X1_umbrellasWith_L4_s]
    refine z_iload rfl rfl ?_
    refine z_aload_n rfl rfl ?_
    refine z_getR rfl fl_X1_12 rfl k0 ?_
    refine z_getI rfl fl_X1_44 rfl (kO_1 k0) ?_
    refine z_icmp_ge rfl ?_ ?_
    · refine z_iload_n rfl rfl ?_
      exact z_ireturn rfl rfl
    · refine z_aload_n rfl rfl ?_
      refine z_getR rfl fl_X1_12 rfl k0 ?_
      refine z_iload rfl rfl ?_
      refine z_iload_n rfl rfl ?_
      refine z_V2i ko2 mv_X1_48 (kO_1 k0) (t_X2_cell (x0 + 1) (kO_1 k0) _ _ _) rfl rfl rfl rfl rfl (fun r1 h1 => ?_)
      refine z_iload_n rfl rfl ?_
      refine z_icmp_ne rfl ?_ ?_
      · refine z_iinc rfl rfl rfl ?_
        refine z_goto rfl ?_
        refine Z.weak ?_ (ih _ _ _)
        exact wkL_c (wkL_c (wkL_c (wkL_c (wkL_c (wkL_nil _)))))
      · refine z_iinc rfl rfl rfl ?_
        refine z_iinc rfl rfl rfl ?_
        refine z_goto rfl ?_
        refine Z.weak ?_ (ih _ _ _)
        exact wkL_c (wkL_c (wkL_c (wkL_c (wkL_c (wkL_nil _)))))
set_option maxRecDepth 20000 in
set_option maxHeartbeats 1000000 in
theorem t_X1_umbrellasWith (x0 : Nat) (k0 : kd x0 = (1, 0)) (x1 : Int) (x2 : Int) (h : Hp) : Ct M_X1_umbrellasWith [vr x0, vi x1, vi x2] h (f_X1_umbrellasWith x0 x1 x2 h) := by
  refine Ct.mk ok_X1_umbrellasWith pl_X1_umbrellasWith rfl rfl ?_
  show Z M_X1_umbrellasWith 0 [some (vr x0), some (vi x1), some (vi x2), none, none] [] h (f_X1_umbrellasWith x0 x1 x2 h)
  unfold f_X1_umbrellasWith
  refine z_iconst rfl rfl ?_
  refine z_istore_n rfl rfl ?_
  refine z_iconst rfl rfl ?_
  refine z_istore rfl rfl ?_
  refine Z.weak ?_ (t_X1_umbrellasWith_L4 x0 k0 _ _     fu _ _ _)
  · exact wkL_c (wkL_c (wkL_c (wkL_c (wkL_c (wkL_nil _)))))
set_option maxRecDepth 20000 in
set_option maxHeartbeats 1000000 in
theorem t_X1_oddnessTogether_L4 (x0 : Nat) (k0 : kd x0 = (1, 0)) (x1 : Int) : ∀ (n : Nat) (x2 : Int) (x3 : Int) (h : Hp), Z M_X1_oddnessTogether 4 [some (vr x0), some (vi x1), some (vi x2), some (vi x3)] [] h (f_X1_oddnessTogether_L4 x0 x1 n x2 x3 h) := by
  intro n
  induction n with
  | zero => intro x2 x3 h; exact Z.nix
  | succ n ih =>
    intro x2 x3 h
    rw [f_X1_oddnessTogether_L4_s]
    refine z_iload_n rfl rfl ?_
    refine z_iconst rfl rfl ?_
    refine z_icmp_ge rfl ?_ ?_
    · refine z_iload_n rfl rfl ?_
      exact z_ireturn rfl rfl
    · refine z_iload_n rfl rfl ?_
      refine z_bipush rfl rfl ?_
      refine z_aload_n rfl rfl ?_
      refine z_iload_n rfl rfl ?_
      refine z_aload_n rfl rfl ?_
      refine z_getR rfl fl_X1_12 rfl k0 ?_
      refine z_iload_n rfl rfl ?_
      refine z_iload_n rfl rfl ?_
      refine z_V2i ko2 mv_X1_48 (kO_1 k0) (t_X2_cell (x0 + 1) (kO_1 k0) _ _ _) rfl rfl rfl rfl rfl (fun r1 h1 => ?_)
      refine z_V2i ko1 mv_X1_52 k0 (t_X1_umbrellasWith x0 k0 _ _ _) rfl rfl rfl rfl rfl (fun r2 h2 => ?_)
      refine z_isub rfl ?_
      refine z_iadd rfl ?_
      refine z_istore_nL rfl rfl (fun y3 => ?_)
      refine z_iinc rfl rfl rfl ?_
      refine z_goto rfl ?_
      refine Z.weak ?_ (ih _ _ _)
      exact wkL_c (wkL_c (wkL_c (wkL_c (wkL_nil _))))
set_option maxRecDepth 20000 in
set_option maxHeartbeats 1000000 in
theorem t_X1_oddnessTogether (x0 : Nat) (k0 : kd x0 = (1, 0)) (x1 : Int) (h : Hp) : Ct M_X1_oddnessTogether [vr x0, vi x1] h (f_X1_oddnessTogether x0 x1 h) := by
  refine Ct.mk ok_X1_oddnessTogether pl_X1_oddnessTogether rfl rfl ?_
  show Z M_X1_oddnessTogether 0 [some (vr x0), some (vi x1), none, none] [] h (f_X1_oddnessTogether x0 x1 h)
  unfold f_X1_oddnessTogether
  refine z_iconst rfl rfl ?_
  refine z_istore_n rfl rfl ?_
  refine z_iconst rfl rfl ?_
  refine z_istore_n rfl rfl ?_
  refine Z.weak ?_ (t_X1_oddnessTogether_L4 x0 k0 _     fu _ _ _)
  · exact wkL_c (wkL_c (wkL_c (wkL_c (wkL_nil _))))
set_option maxRecDepth 20000 in
set_option maxHeartbeats 1000000 in
theorem t_X4_isWeeksAtOnce (x0 : Int) (h : Hp) : Ct M_X4_isWeeksAtOnce [vi x0] h (f_X4_isWeeksAtOnce x0 h) := by
  refine Ct.mk ok_X4_isWeeksAtOnce pl_X4_isWeeksAtOnce rfl rfl ?_
  show Z M_X4_isWeeksAtOnce 0 [some (vi x0)] [] h (f_X4_isWeeksAtOnce x0 h)
  unfold f_X4_isWeeksAtOnce
  refine z_iload_n rfl rfl ?_
  refine z_iconst rfl rfl ?_
  refine z_icmp_lt rfl ?_ ?_
  · refine z_iconst rfl rfl ?_
    exact z_zret0 rfl rfl
  · refine z_iload_n rfl rfl ?_
    refine z_bipush rfl rfl ?_
    refine z_icmp_gt rfl ?_ ?_
    · refine z_iconst rfl rfl ?_
      exact z_zret0 rfl rfl
    · refine z_iconst rfl rfl ?_
      refine z_goto rfl ?_
      exact z_zret1 rfl rfl
set_option maxRecDepth 20000 in
set_option maxHeartbeats 1000000 in
theorem t_X1_passWeeks_L20 (x0 : Nat) (k0 : kd x0 = (1, 0)) (x1 : Int) (x3 : Int) : ∀ (n : Nat) (x4 : Int) (h : Hp), Z M_X1_passWeeks 20 [some (vr x0), some (vi x1), none, some (vi x3), some (vi x4)] [] h (f_X1_passWeeks_L20 x0 x1 x3 n x4 h) := by
  intro n
  induction n with
  | zero => intro x4 h; exact Z.nix
  | succ n ih =>
    intro x4 h
    rw [f_X1_passWeeks_L20_s]
    refine z_iload rfl rfl ?_
    refine z_iload_n rfl rfl ?_
    refine z_icmp_ge rfl ?_ ?_
    · refine z_aload_n rfl rfl ?_
      refine z_bipush rfl rfl ?_
      refine z_V1i ko1 mv_X1_100 k0 (t_X1_sum x0 k0 _ _) rfl rfl rfl rfl rfl (fun r4 h4 => ?_)
      refine z_iload_n rfl rfl ?_
      refine z_isub rfl ?_
      exact z_ireturn rfl rfl
    · refine z_aload_n rfl rfl ?_
      refine z_iconst rfl rfl ?_
      refine z_iconst rfl rfl ?_
      refine z_V2v ko1 mv_X1_61 k0 (t_X1_addTo x0 k0 _ _ _) rfl rfl rfl rfl rfl (fun _ h5 => ?_)
      refine z_aload_n rfl rfl ?_
      refine z_aload_n rfl rfl ?_
      refine z_getR rfl fl_X1_12 rfl k0 ?_
      refine z_V1v ko1 mv_X1_104 k0 (t_X1_growOlder x0 k0 (x0 + 1) (kO_1 k0) _) rfl rfl rfl rfl rfl (fun _ h6 => ?_)
      refine z_aload_n rfl rfl ?_
      refine z_aload_n rfl rfl ?_
      refine z_getR rfl fl_X1_18 rfl k0 ?_
      refine z_V1v ko1 mv_X1_104 k0 (t_X1_growOlder x0 k0 (x0 + 3) (kO_3 k0) _) rfl rfl rfl rfl rfl (fun _ h7 => ?_)
      refine z_aload_n rfl rfl ?_
      refine z_aload_n rfl rfl ?_
      refine z_getR rfl fl_X1_12 rfl k0 ?_
      refine z_iconst rfl rfl ?_
      refine z_bipush rfl rfl ?_
      refine z_aload_n rfl rfl ?_
      refine z_bipush rfl rfl ?_
      refine z_V1i ko1 mv_X1_107 k0 (t_X1_setting x0 k0 _ _) rfl rfl rfl rfl rfl (fun r8 h8 => ?_)
      refine z_V4v ko1 mv_X1_110 k0 (t_X1_endOld x0 k0 (x0 + 1) (kO_1 k0) _ _ _ _) rfl rfl rfl rfl rfl (fun _ h9 => ?_)
      refine z_aload_n rfl rfl ?_
      refine z_aload_n rfl rfl ?_
      refine z_getR rfl fl_X1_18 rfl k0 ?_
      refine z_iconst rfl rfl ?_
      refine z_bipush rfl rfl ?_
      refine z_iconst rfl rfl ?_
      refine z_V4v ko1 mv_X1_110 k0 (t_X1_endOld x0 k0 (x0 + 3) (kO_3 k0) _ _ _ _) rfl rfl rfl rfl rfl (fun _ h10 => ?_)
      refine z_iinc rfl rfl rfl ?_
      refine z_goto rfl ?_
      refine Z.weak ?_ (ih _ _)
      exact wkL_c (wkL_c (wkL_n (wkL_c (wkL_c (wkL_nil _)))))
set_option maxRecDepth 20000 in
set_option maxHeartbeats 1000000 in
theorem t_X1_passWeeks (x0 : Nat) (k0 : kd x0 = (1, 0)) (x1 : Int) (x2 : Int) (h : Hp) : Ct M_X1_passWeeks [vr x0, vi x1, vi x2] h (f_X1_passWeeks x0 x1 x2 h) := by
  refine Ct.mk ok_X1_passWeeks pl_X1_passWeeks rfl rfl ?_
  show Z M_X1_passWeeks 0 [some (vr x0), some (vi x1), some (vi x2), none, none] [] h (f_X1_passWeeks x0 x1 x2 h)
  unfold f_X1_passWeeks
  refine z_iload_n rfl rfl ?_
  refine z_N1i mn_X1_97 (t_X4_isWeeksAtOnce _ _) rfl rfl rfl rfl (fun r1 h1 => ?_)
  refine z_if_ne rfl ?_ ?_
  · refine z_aload_n rfl rfl ?_
    refine z_iconst rfl rfl ?_
    refine z_V1i ko1 mv_X1_100 k0 (t_X1_sum x0 k0 _ _) rfl rfl rfl rfl rfl (fun r2 h2 => ?_)
    refine z_iload_n rfl rfl ?_
    refine z_iadd rfl ?_
    refine z_iload_n rfl rfl ?_
    refine z_icmp_le rfl ?_ ?_
    · refine z_aload_n rfl rfl ?_
      refine z_bipush rfl rfl ?_
      refine z_V1i ko1 mv_X1_100 k0 (t_X1_sum x0 k0 _ _) rfl rfl rfl rfl rfl (fun r3 h3 => ?_)
      refine z_istore_n rfl rfl ?_
      refine z_iconst rfl rfl ?_
      refine z_istore rfl rfl ?_
      refine Z.weak ?_ (t_X1_passWeeks_L20 x0 k0 _ _     fu _ _)
      · exact wkL_c (wkL_c (wkL_n (wkL_c (wkL_c (wkL_nil _)))))
    · refine z_ldc rfl cst_X1_60 rfl ?_
      exact z_ireturn rfl rfl
  · refine z_ldc rfl cst_X1_59 rfl ?_
    exact z_ireturn rfl rfl
set_option maxRecDepth 20000 in
set_option maxHeartbeats 1000000 in
theorem t_X4_isValueOrNotTold (x0 : Int) (h : Hp) : Ct M_X4_isValueOrNotTold [vi x0] h (f_X4_isValueOrNotTold x0 h) := by
  refine Ct.mk ok_X4_isValueOrNotTold pl_X4_isValueOrNotTold rfl rfl ?_
  show Z M_X4_isValueOrNotTold 0 [some (vi x0)] [] h (f_X4_isValueOrNotTold x0 h)
  unfold f_X4_isValueOrNotTold
  refine z_iload_n rfl rfl ?_
  refine z_iconst rfl rfl ?_
  refine z_icmp_eq rfl ?_ ?_
  · refine z_iconst rfl rfl ?_
    refine z_goto rfl ?_
    exact z_zret1 rfl rfl
  · refine z_iload_n rfl rfl ?_
    refine z_S1i ms_X4_138 (t_X4_isValue _ _) rfl rfl rfl rfl (fun r1 h1 => ?_)
    refine z_if_eq rfl ?_ ?_
    · refine z_iconst rfl rfl ?_
      exact z_zret0 rfl rfl
    · refine z_iconst rfl rfl ?_
      refine z_goto rfl ?_
      exact z_zret1 rfl rfl
set_option maxRecDepth 20000 in
set_option maxHeartbeats 1000000 in
theorem t_X1_takeClaim_J28 (x0 : Nat) (k0 : kd x0 = (1, 0)) (x1 : Int) (x2 : Int) (x3 : Int) (x4 : Int) (h : Hp) : Z M_X1_takeClaim 28 [some (vr x0), some (vi x1), some (vi x2), some (vi x3), some (vi x4)] [] h (f_X1_takeClaim_J28 x0 x1 x2 x3 x4 h) := by
  unfold f_X1_takeClaim_J28
  refine z_aload_n rfl rfl ?_
  refine z_getR rfl fl_X1_18 rfl k0 ?_
  refine z_getI rfl fl_X1_44 rfl (kO_3 k0) ?_
  refine z_bipush rfl rfl ?_
  refine z_icmp_lt rfl ?_ ?_
  · refine z_aload_n rfl rfl ?_
    refine z_bipush rfl rfl ?_
    refine z_iconst rfl rfl ?_
    refine z_V2v ko1 mv_X1_61 k0 (t_X1_addTo x0 k0 _ _ _) rfl rfl rfl rfl rfl (fun _ h5 => ?_)
    refine z_aload_n rfl rfl ?_
    refine z_getR rfl fl_X1_18 rfl k0 ?_
    refine z_iload_n rfl rfl ?_
    refine z_iload_n rfl rfl ?_
    refine z_iload_n rfl rfl ?_
    refine z_iload rfl rfl ?_
    refine z_V4i ko2 mv_X1_65 (kO_3 k0) (t_X2_append (x0 + 3) (kO_3 k0) _ _ _ _ _) rfl rfl rfl rfl rfl (fun r6 h6 => ?_)
    exact z_ireturn rfl rfl
  · refine z_ldc rfl cst_X1_60 rfl ?_
    exact z_ireturn rfl rfl
set_option maxRecDepth 20000 in
set_option maxHeartbeats 1000000 in
theorem t_X1_takeClaim (x0 : Nat) (k0 : kd x0 = (1, 0)) (x1 : Int) (x2 : Int) (x3 : Int) (x4 : Int) (h : Hp) : Ct M_X1_takeClaim [vr x0, vi x1, vi x2, vi x3, vi x4] h (f_X1_takeClaim x0 x1 x2 x3 x4 h) := by
  refine Ct.mk ok_X1_takeClaim pl_X1_takeClaim rfl rfl ?_
  show Z M_X1_takeClaim 0 [some (vr x0), some (vi x1), some (vi x2), some (vi x3), some (vi x4)] [] h (f_X1_takeClaim x0 x1 x2 x3 x4 h)
  unfold f_X1_takeClaim
  refine z_iload_n rfl rfl ?_
  refine z_N1i mn_X1_69 (t_X4_isValueOrNotTold _ _) rfl rfl rfl rfl (fun r1 h1 => ?_)
  refine z_if_eq rfl ?_ ?_
  · refine z_ldc rfl cst_X1_59 rfl ?_
    exact z_ireturn rfl rfl
  · refine z_iload_n rfl rfl ?_
    refine z_N1i mn_X1_69 (t_X4_isValueOrNotTold _ _) rfl rfl rfl rfl (fun r2 h2 => ?_)
    refine z_if_eq rfl ?_ ?_
    · refine z_ldc rfl cst_X1_59 rfl ?_
      exact z_ireturn rfl rfl
    · refine z_iload_n rfl rfl ?_
      refine z_N1i mn_X1_69 (t_X4_isValueOrNotTold _ _) rfl rfl rfl rfl (fun r3 h3 => ?_)
      refine z_if_eq rfl ?_ ?_
      · refine z_ldc rfl cst_X1_59 rfl ?_
        exact z_ireturn rfl rfl
      · refine z_iload rfl rfl ?_
        refine z_N1i mn_X1_69 (t_X4_isValueOrNotTold _ _) rfl rfl rfl rfl (fun r4 h4 => ?_)
        refine z_if_ne rfl ?_ ?_
        · refine z_iload_n rfl rfl ?_
          refine z_iconst rfl rfl ?_
          refine z_icmp_ne rfl ?_ ?_
          · refine Z.weak ?_ (t_X1_takeClaim_J28 x0 k0 _ _ _ _  _)
            exact wkL_c (wkL_c (wkL_c (wkL_c (wkL_c (wkL_nil _)))))
          · refine z_iload_n rfl rfl ?_
            refine z_iconst rfl rfl ?_
            refine z_icmp_ne rfl ?_ ?_
            · refine Z.weak ?_ (t_X1_takeClaim_J28 x0 k0 _ _ _ _  _)
              exact wkL_c (wkL_c (wkL_c (wkL_c (wkL_c (wkL_nil _)))))
            · refine z_iload_n rfl rfl ?_
              refine z_iconst rfl rfl ?_
              refine z_icmp_ne rfl ?_ ?_
              · refine Z.weak ?_ (t_X1_takeClaim_J28 x0 k0 _ _ _ _  _)
                exact wkL_c (wkL_c (wkL_c (wkL_c (wkL_c (wkL_nil _)))))
              · refine z_iload rfl rfl ?_
                refine z_iconst rfl rfl ?_
                refine z_icmp_ne rfl ?_ ?_
                · refine Z.weak ?_ (t_X1_takeClaim_J28 x0 k0 _ _ _ _  _)
                  exact wkL_c (wkL_c (wkL_c (wkL_c (wkL_c (wkL_nil _)))))
                · refine z_ldc rfl cst_X1_72 rfl ?_
                  exact z_ireturn rfl rfl
        · refine z_ldc rfl cst_X1_59 rfl ?_
          exact z_ireturn rfl rfl
set_option maxRecDepth 20000 in
set_option maxHeartbeats 1000000 in
theorem t_X1_takeUmbrella (x0 : Nat) (k0 : kd x0 = (1, 0)) (x1 : Int) (x2 : Int) (x3 : Int) (x4 : Int) (h : Hp) : Ct M_X1_takeUmbrella [vr x0, vi x1, vi x2, vi x3, vi x4] h (f_X1_takeUmbrella x0 x1 x2 x3 x4 h) := by
  refine Ct.mk ok_X1_takeUmbrella pl_X1_takeUmbrella rfl rfl ?_
  show Z M_X1_takeUmbrella 0 [some (vr x0), some (vi x1), some (vi x2), some (vi x3), some (vi x4)] [] h (f_X1_takeUmbrella x0 x1 x2 x3 x4 h)
  unfold f_X1_takeUmbrella
  refine z_iload_n rfl rfl ?_
  refine z_N1i mn_X1_55 (t_X4_isValue _ _) rfl rfl rfl rfl (fun r1 h1 => ?_)
  refine z_if_eq rfl ?_ ?_
  · refine z_ldc rfl cst_X1_59 rfl ?_
    exact z_ireturn rfl rfl
  · refine z_iload_n rfl rfl ?_
    refine z_N1i mn_X1_55 (t_X4_isValue _ _) rfl rfl rfl rfl (fun r2 h2 => ?_)
    refine z_if_eq rfl ?_ ?_
    · refine z_ldc rfl cst_X1_59 rfl ?_
      exact z_ireturn rfl rfl
    · refine z_iload_n rfl rfl ?_
      refine z_N1i mn_X1_55 (t_X4_isValue _ _) rfl rfl rfl rfl (fun r3 h3 => ?_)
      refine z_if_eq rfl ?_ ?_
      · refine z_ldc rfl cst_X1_59 rfl ?_
        exact z_ireturn rfl rfl
      · refine z_iload rfl rfl ?_
        refine z_N1i mn_X1_55 (t_X4_isValue _ _) rfl rfl rfl rfl (fun r4 h4 => ?_)
        refine z_if_ne rfl ?_ ?_
        · refine z_aload_n rfl rfl ?_
          refine z_getR rfl fl_X1_12 rfl k0 ?_
          refine z_getI rfl fl_X1_44 rfl (kO_1 k0) ?_
          refine z_bipush rfl rfl ?_
          refine z_icmp_lt rfl ?_ ?_
          · refine z_aload_n rfl rfl ?_
            refine z_iconst rfl rfl ?_
            refine z_iconst rfl rfl ?_
            refine z_V2v ko1 mv_X1_61 k0 (t_X1_addTo x0 k0 _ _ _) rfl rfl rfl rfl rfl (fun _ h5 => ?_)
            refine z_aload_n rfl rfl ?_
            refine z_getR rfl fl_X1_12 rfl k0 ?_
            refine z_iload_n rfl rfl ?_
            refine z_iload_n rfl rfl ?_
            refine z_iload_n rfl rfl ?_
            refine z_iload rfl rfl ?_
            refine z_V4i ko2 mv_X1_65 (kO_1 k0) (t_X2_append (x0 + 1) (kO_1 k0) _ _ _ _ _) rfl rfl rfl rfl rfl (fun r6 h6 => ?_)
            exact z_ireturn rfl rfl
          · refine z_ldc rfl cst_X1_60 rfl ?_
            exact z_ireturn rfl rfl
        · refine z_ldc rfl cst_X1_59 rfl ?_
          exact z_ireturn rfl rfl
set_option maxRecDepth 20000 in
set_option maxHeartbeats 1000000 in
theorem t_X3_append (x1 : Int) (h : Hp) : Ct M_X3_append [vr 28, vi x1] h (f_X3_append x1 h) := by
  refine Ct.mk ok_X3_append pl_X3_append rfl rfl ?_
  show Z M_X3_append 0 [some (vr 28), some (vi x1)] [] h (f_X3_append x1 h)
  unfold f_X3_append
  refine z_aload_n rfl rfl ?_
  refine z_getI rfl fl_X3_15 rfl kd_28 ?_
  refine z_if_lt rfl ?_ ?_
  · refine z_iconst rfl rfl ?_
    exact z_zret0 rfl rfl
  · refine z_aload_n rfl rfl ?_
    refine z_getI rfl fl_X3_15 rfl kd_28 ?_
    refine z_aload_n rfl rfl ?_
    refine z_getRn (m := 29) rfl fl_X3_9 rfl kd_28 rfl ?_
    refine z_alen (c := 2) rfl kd_29 (by omega) ?_
    refine z_icmp_lt rfl ?_ ?_
    · refine z_aload_n rfl rfl ?_
      refine z_getRn (m := 29) rfl fl_X3_9 rfl kd_28 rfl ?_
      refine z_aload_n rfl rfl ?_
      refine z_getI rfl fl_X3_15 rfl kd_28 ?_
      refine z_iload_n rfl rfl ?_
      refine z_castoreL kd_29 rfl (fun h1 => ?_)
      refine z_aload_n rfl rfl ?_
      refine z_dup rfl rfl ?_
      refine z_getI rfl fl_X3_15 rfl kd_28 ?_
      refine z_iconst rfl rfl ?_
      refine z_iadd rfl ?_
      refine z_putL fi_X3_15 rfl kd_28 rfl (fun h2 => ?_)
      refine z_iconst rfl rfl ?_
      exact z_zret1 rfl rfl
    · refine z_iconst rfl rfl ?_
      exact z_zret0 rfl rfl
set_option maxRecDepth 20000 in
set_option maxHeartbeats 1000000 in
theorem t_X3_signHere  (h : Hp) : Ct M_X3_signHere [vr 28] h (f_X3_signHere  h) := by
  refine Ct.mk ok_X3_signHere pl_X3_signHere rfl rfl ?_
  show Z M_X3_signHere 0 [some (vr 28)] [] h (f_X3_signHere  h)
  unfold f_X3_signHere
  refine z_aload_n rfl rfl ?_
  refine z_getI rfl fl_X3_19 rfl kd_28 ?_
  refine z_if_lt rfl ?_ ?_
  · refine z_iconst rfl rfl ?_
    exact z_cret rfl rfl
  · refine z_aload_n rfl rfl ?_
    refine z_getI rfl fl_X3_19 rfl kd_28 ?_
    refine z_aload_n rfl rfl ?_
    refine z_getI rfl fl_X3_15 rfl kd_28 ?_
    refine z_icmp_ge rfl ?_ ?_
    · refine z_iconst rfl rfl ?_
      exact z_cret rfl rfl
    · refine z_aload_n rfl rfl ?_
      refine z_getI rfl fl_X3_19 rfl kd_28 ?_
      refine z_aload_n rfl rfl ?_
      refine z_getRn (m := 29) rfl fl_X3_9 rfl kd_28 rfl ?_
      refine z_alen (c := 2) rfl kd_29 (by omega) ?_
      refine z_icmp_ge rfl ?_ ?_
      · refine z_iconst rfl rfl ?_
        exact z_cret rfl rfl
      · refine z_aload_n rfl rfl ?_
        refine z_getRn (m := 29) rfl fl_X3_9 rfl kd_28 rfl ?_
        refine z_aload_n rfl rfl ?_
        refine z_getI rfl fl_X3_19 rfl kd_28 ?_
        refine z_caload rfl kd_29 ?_
        refine z_goto rfl ?_
        exact z_cret rfl rfl
set_option maxRecDepth 20000 in
set_option maxHeartbeats 1000000 in
theorem t_X3_digitHere  (h : Hp) : Ct M_X3_digitHere [vr 28] h (f_X3_digitHere  h) := by
  refine Ct.mk ok_X3_digitHere pl_X3_digitHere rfl rfl ?_
  show Z M_X3_digitHere 0 [some (vr 28), none] [] h (f_X3_digitHere  h)
  unfold f_X3_digitHere
  refine z_aload_n rfl rfl ?_
  refine z_V0i ko3 mv_X3_33 kd_28 (t_X3_signHere  _) rfl rfl rfl rfl rfl (fun r1 h1 => ?_)
  refine z_istore_n rfl rfl ?_
  refine z_iload_n rfl rfl ?_
  refine z_bipush rfl rfl ?_
  refine z_icmp_lt rfl ?_ ?_
  · refine z_iconst rfl rfl ?_
    exact z_ireturn rfl rfl
  · refine z_iload_n rfl rfl ?_
    refine z_bipush rfl rfl ?_
    refine z_icmp_gt rfl ?_ ?_
    · refine z_iconst rfl rfl ?_
      exact z_ireturn rfl rfl
    · refine z_iload_n rfl rfl ?_
      refine z_bipush rfl rfl ?_
      refine z_isub rfl ?_
      refine z_goto rfl ?_
      exact z_ireturn rfl rfl
set_option maxRecDepth 20000 in
set_option maxHeartbeats 1000000 in
theorem t_X3_number (x1 : Int) (h : Hp) : Ct M_X3_number [vr 28, vi x1] h (f_X3_number x1 h) := by
  refine Ct.mk ok_X3_number pl_X3_number rfl rfl ?_
  show Z M_X3_number 0 [some (vr 28), some (vi x1)] [] h (f_X3_number x1 h)
  unfold f_X3_number
  refine z_aload_n rfl rfl ?_
  refine z_getRn (m := 30) rfl fl_X3_25 rfl kd_28 rfl ?_
  refine z_iload_n rfl rfl ?_
  refine z_N2i mn_X3_29 (t_X4_numberAt 30 4 (Or.inl kd_30) _ _) rfl rfl rfl rfl (fun r1 h1 => ?_)
  exact z_ireturn rfl rfl
set_option maxRecDepth 20000 in
set_option maxHeartbeats 1000000 in
theorem t_X3_readNumber  (h : Hp) : Ct M_X3_readNumber [vr 28] h (f_X3_readNumber  h) := by
  refine Ct.mk ok_X3_readNumber pl_X3_readNumber rfl rfl ?_
  show Z M_X3_readNumber 0 [some (vr 28), none, none] [] h (f_X3_readNumber  h)
  unfold f_X3_readNumber
  refine z_aload_n rfl rfl ?_
  refine z_V0i ko3 mv_X3_68 kd_28 (t_X3_digitHere  _) rfl rfl rfl rfl rfl (fun r1 h1 => ?_)
  refine z_istore_n rfl rfl ?_
  refine z_aload_n rfl rfl ?_
  refine z_dup rfl rfl ?_
  refine z_getI rfl fl_X3_19 rfl kd_28 ?_
  refine z_iconst rfl rfl ?_
  refine z_iadd rfl ?_
  refine z_putL fi_X3_19 rfl kd_28 rfl (fun h2 => ?_)
  refine z_aload_n rfl rfl ?_
  refine z_V0i ko3 mv_X3_68 kd_28 (t_X3_digitHere  _) rfl rfl rfl rfl rfl (fun r3 h3 => ?_)
  refine z_istore_n rfl rfl ?_
  refine z_iload_n rfl rfl ?_
  refine z_iconst rfl rfl ?_
  refine z_icmp_eq rfl ?_ ?_
  · refine z_iload_n rfl rfl ?_
    exact z_ireturn rfl rfl
  · refine z_iload_n rfl rfl ?_
    refine z_bipush rfl rfl ?_
    refine z_imul rfl ?_
    refine z_iload_n rfl rfl ?_
    refine z_iadd rfl ?_
    refine z_istore_nL rfl rfl (fun y4 => ?_)
    refine z_aload_n rfl rfl ?_
    refine z_dup rfl rfl ?_
    refine z_getI rfl fl_X3_19 rfl kd_28 ?_
    refine z_iconst rfl rfl ?_
    refine z_iadd rfl ?_
    refine z_putL fi_X3_19 rfl kd_28 rfl (fun h5 => ?_)
    refine z_iload_n rfl rfl ?_
    exact z_ireturn rfl rfl
set_option maxRecDepth 20000 in
set_option maxHeartbeats 1000000 in
theorem t_X3_readSign (x1 : Int) (h : Hp) : Ct M_X3_readSign [vr 28, vi x1] h (f_X3_readSign x1 h) := by
  refine Ct.mk ok_X3_readSign pl_X3_readSign rfl rfl ?_
  show Z M_X3_readSign 0 [some (vr 28), some (vi x1)] [] h (f_X3_readSign x1 h)
  unfold f_X3_readSign
  refine z_aload_n rfl rfl ?_
  refine z_V0i ko3 mv_X3_33 kd_28 (t_X3_signHere  _) rfl rfl rfl rfl rfl (fun r1 h1 => ?_)
  refine z_iload_n rfl rfl ?_
  refine z_icmp_eq rfl ?_ ?_
  · refine z_aload_n rfl rfl ?_
    refine z_dup rfl rfl ?_
    refine z_getI rfl fl_X3_19 rfl kd_28 ?_
    refine z_iconst rfl rfl ?_
    refine z_iadd rfl ?_
    refine z_putL fi_X3_19 rfl kd_28 rfl (fun h2 => ?_)
    refine z_iconst rfl rfl ?_
    exact z_zret1 rfl rfl
  · refine z_iconst rfl rfl ?_
    exact z_zret0 rfl rfl
set_option maxRecDepth 20000 in
set_option maxHeartbeats 1000000 in
theorem t_X3_readNumbers_J30 (c2 : Int → Hp → Option (Int × Hp)) (x1 : Int) (x2 : Int) (x3 : Int) (hc2 : ∀ (y3 : Int) (h : Hp), Z M_X3_readNumbers 2 [some (vr 28), some (vi x1), some (vi x2), some (vi y3)] [] h (c2 y3 h)) (h : Hp) : Z M_X3_readNumbers 30 [some (vr 28), some (vi x1), some (vi x2), some (vi x3)] [] h (f_X3_readNumbers_J30 c2 x1 x2 x3 h) := by
  unfold f_X3_readNumbers_J30
  refine z_aload_n rfl rfl ?_
  refine z_V0i ko3 mv_X3_68 kd_28 (t_X3_digitHere  _) rfl rfl rfl rfl rfl (fun r1 h1 => ?_)
  refine z_iconst rfl rfl ?_
  refine z_icmp_eq rfl ?_ ?_
  · refine z_iconst rfl rfl ?_
    exact z_zret0 rfl rfl
  · refine z_aload_n rfl rfl ?_
    refine z_getRn (m := 30) rfl fl_X3_25 rfl kd_28 rfl ?_
    refine z_iload_n rfl rfl ?_
    refine z_aload_n rfl rfl ?_
    refine z_V0i ko3 mv_X3_71 kd_28 (t_X3_readNumber  _) rfl rfl rfl rfl rfl (fun r2 h2 => ?_)
    refine z_iastoreL kd_30 rfl (fun h3 => ?_)
    refine z_goto rfl ?_
    refine z_iinc rfl rfl rfl ?_
    refine z_goto rfl ?_
    refine Z.weak ?_ (hc2 _ _)
    exact wkL_c (wkL_c (wkL_c (wkL_c (wkL_nil _))))
set_option maxRecDepth 20000 in
set_option maxHeartbeats 1000000 in
theorem t_X3_readNumbers_J18 (c2 : Int → Hp → Option (Int × Hp)) (x1 : Int) (x2 : Int) (x3 : Int) (hc2 : ∀ (y3 : Int) (h : Hp), Z M_X3_readNumbers 2 [some (vr 28), some (vi x1), some (vi x2), some (vi y3)] [] h (c2 y3 h)) (h : Hp) : Z M_X3_readNumbers 18 [some (vr 28), some (vi x1), some (vi x2), some (vi x3)] [] h (f_X3_readNumbers_J18 c2 x1 x2 x3 h) := by
  unfold f_X3_readNumbers_J18
  refine z_iload_n rfl rfl ?_
  refine z_if_eq rfl ?_ ?_
  · refine Z.weak ?_ (t_X3_readNumbers_J30  _ _ _ _ hc2 _)
    exact wkL_c (wkL_c (wkL_c (wkL_c (wkL_nil _))))
  · refine z_aload_n rfl rfl ?_
    refine z_bipush rfl rfl ?_
    refine z_V1i ko3 mv_X3_47 kd_28 (t_X3_readSign _ _) rfl rfl rfl rfl rfl (fun r4 h4 => ?_)
    refine z_if_eq rfl ?_ ?_
    · refine Z.weak ?_ (t_X3_readNumbers_J30  _ _ _ _ hc2 _)
      exact wkL_c (wkL_c (wkL_c (wkL_c (wkL_nil _))))
    · refine z_aload_n rfl rfl ?_
      refine z_getRn (m := 30) rfl fl_X3_25 rfl kd_28 rfl ?_
      refine z_iload_n rfl rfl ?_
      refine z_iconst rfl rfl ?_
      refine z_iastoreL kd_30 rfl (fun h5 => ?_)
      refine z_goto rfl ?_
      refine z_iinc rfl rfl rfl ?_
      refine z_goto rfl ?_
      refine Z.weak ?_ (hc2 _ _)
      exact wkL_c (wkL_c (wkL_c (wkL_c (wkL_nil _))))
set_option maxRecDepth 20000 in
set_option maxHeartbeats 1000000 in
theorem t_X3_readNumbers_L2 (x1 : Int) (x2 : Int) : ∀ (n : Nat) (x3 : Int) (h : Hp), Z M_X3_readNumbers 2 [some (vr 28), some (vi x1), some (vi x2), some (vi x3)] [] h (f_X3_readNumbers_L2 x1 x2 n x3 h) := by
  intro n
  induction n with
  | zero => intro x3 h; exact Z.nix
  | succ n ih =>
    intro x3 h
    rw [f_X3_readNumbers_L2_s]
    refine z_iload_n rfl rfl ?_
    refine z_iload_n rfl rfl ?_
    refine z_icmp_ge rfl ?_ ?_
    · refine z_iconst rfl rfl ?_
      exact z_zret1 rfl rfl
    · refine z_iload_n rfl rfl ?_
      refine z_aload_n rfl rfl ?_
      refine z_getRn (m := 30) rfl fl_X3_25 rfl kd_28 rfl ?_
      refine z_alen (c := 0) rfl kd_30 (by omega) ?_
      refine z_icmp_ge rfl ?_ ?_
      · refine z_iconst rfl rfl ?_
        exact z_zret1 rfl rfl
      · refine z_iload_n rfl rfl ?_
        refine z_if_le rfl ?_ ?_
        · refine Z.weak ?_ (t_X3_readNumbers_J18  _ _ _ _ ih _)
          exact wkL_c (wkL_c (wkL_c (wkL_c (wkL_nil _))))
        · refine z_aload_n rfl rfl ?_
          refine z_bipush rfl rfl ?_
          refine z_V1i ko3 mv_X3_47 kd_28 (t_X3_readSign _ _) rfl rfl rfl rfl rfl (fun r6 h6 => ?_)
          refine z_if_ne rfl ?_ ?_
          · refine Z.weak ?_ (t_X3_readNumbers_J18  _ _ _ _ ih _)
            exact wkL_c (wkL_c (wkL_c (wkL_c (wkL_nil _))))
          · refine z_iconst rfl rfl ?_
            exact z_zret0 rfl rfl
set_option maxRecDepth 20000 in
set_option maxHeartbeats 1000000 in
theorem t_X3_readNumbers (x1 : Int) (x2 : Int) (h : Hp) : Ct M_X3_readNumbers [vr 28, vi x1, vi x2] h (f_X3_readNumbers x1 x2 h) := by
  refine Ct.mk ok_X3_readNumbers pl_X3_readNumbers rfl rfl ?_
  show Z M_X3_readNumbers 0 [some (vr 28), some (vi x1), some (vi x2), none] [] h (f_X3_readNumbers x1 x2 h)
  unfold f_X3_readNumbers
  refine z_iconst rfl rfl ?_
  refine z_istore_n rfl rfl ?_
  refine Z.weak ?_ (t_X3_readNumbers_L2  _ _     fu _ _)
  · exact wkL_c (wkL_c (wkL_c (wkL_c (wkL_nil _))))
set_option maxRecDepth 20000 in
set_option maxHeartbeats 1000000 in
theorem t_X3_readWord_L2 (x1 : Nat) (n1 : Nat) (k1 : kd x1 = (31, n1)) : ∀ (n : Nat) (x2 : Int) (h : Hp), Z M_X3_readWord 2 [some (vr 28), some (vr x1), some (vi x2)] [] h (f_X3_readWord_L2 x1 n1 n x2 h) := by
  intro n
  induction n with
  | zero => intro x2 h; exact Z.nix
  | succ n ih =>
    intro x2 h
    rw [f_X3_readWord_L2_s]
    refine z_iload_n rfl rfl ?_
    refine z_aload_n rfl rfl ?_
    refine z_T0i mv_X3_59 k1 (t_J_length x1 n1 k1 _) rfl rfl rfl rfl rfl (fun r1 h1 => ?_)
    refine z_icmp_ge rfl ?_ ?_
    · refine z_iconst rfl rfl ?_
      exact z_zret1 rfl rfl
    · refine z_aload_n rfl rfl ?_
      refine z_aload_n rfl rfl ?_
      refine z_iload_n rfl rfl ?_
      refine z_T1i mv_X3_64 k1 (t_J_charAt x1 n1 k1 _ _) rfl rfl rfl rfl rfl (fun r2 h2 => ?_)
      refine z_V1i ko3 mv_X3_47 kd_28 (t_X3_readSign _ _) rfl rfl rfl rfl rfl (fun r3 h3 => ?_)
      refine z_if_ne rfl ?_ ?_
      · refine z_iinc rfl rfl rfl ?_
        refine z_goto rfl ?_
        refine Z.weak ?_ (ih _ _)
        exact wkL_c (wkL_c (wkL_c (wkL_nil _)))
      · refine z_iconst rfl rfl ?_
        exact z_zret0 rfl rfl
set_option maxRecDepth 20000 in
set_option maxHeartbeats 1000000 in
theorem t_X3_readWord (x1 : Nat) (n1 : Nat) (k1 : kd x1 = (31, n1)) (h : Hp) : Ct M_X3_readWord [vr 28, vr x1] h (f_X3_readWord x1 n1 h) := by
  refine Ct.mk ok_X3_readWord pl_X3_readWord rfl rfl ?_
  show Z M_X3_readWord 0 [some (vr 28), some (vr x1), none] [] h (f_X3_readWord x1 n1 h)
  unfold f_X3_readWord
  refine z_iconst rfl rfl ?_
  refine z_istore_n rfl rfl ?_
  refine Z.weak ?_ (t_X3_readWord_L2 x1 n1 k1     fu _ _)
  · exact wkL_c (wkL_c (wkL_c (wkL_nil _)))
end
section
/-! printed by wip/gen/gen.py: the bytecode does what the functions say -/
set_option maxRecDepth 20000 in
set_option maxHeartbeats 1000000 in
theorem t_X3_readOrder (x1 : Int) (h : Hp) : Ct M_X3_readOrder [vr 28, vi x1] h (f_X3_readOrder x1 h) := by
  refine Ct.mk ok_X3_readOrder pl_X3_readOrder rfl rfl ?_
  show Z M_X3_readOrder 0 [some (vr 28), some (vi x1)] [] h (f_X3_readOrder x1 h)
  unfold f_X3_readOrder
  refine z_aload_n rfl rfl ?_
  refine z_iload_n rfl rfl ?_
  refine z_putL fi_X3_19 rfl kd_28 rfl (fun h1 => ?_)
  refine z_aload_n rfl rfl ?_
  refine z_V0i ko3 mv_X3_33 kd_28 (t_X3_signHere  _) rfl rfl rfl rfl rfl (fun r2 h2 => ?_)
  refine Z.ite (fun e7 => ?_) (fun e7 => ?_)
  · refine z_look (tg := 26) rfl rfl (o := 89) (by rw [e7]; rfl) rfl ?_
    refine z_aload_n rfl rfl ?_
    refine z_iconst rfl rfl ?_
    refine z_putL fi_X3_22 rfl kd_28 rfl (fun h3 => ?_)
    refine z_aload_n rfl rfl ?_
    refine z_ldcS rfl (fun _ _ _ w => w.2.2.1.2.1) ?_
    refine z_V1i ko3 mv_X3_39 kd_28 (t_X3_readWord 88 6 kd_88 _) rfl rfl rfl rfl rfl (fun r4 h4 => ?_)
    refine z_if_eq rfl ?_ ?_
    · refine z_iconst rfl rfl ?_
      exact z_zret0 rfl rfl
    · refine z_aload_n rfl rfl ?_
      refine z_iconst rfl rfl ?_
      refine z_iconst rfl rfl ?_
      refine z_V2i ko3 mv_X3_43 kd_28 (t_X3_readNumbers _ _ _) rfl rfl rfl rfl rfl (fun r5 h5 => ?_)
      refine z_if_eq rfl ?_ ?_
      · refine z_iconst rfl rfl ?_
        exact z_zret0 rfl rfl
      · refine z_aload_n rfl rfl ?_
        refine z_bipush rfl rfl ?_
        refine z_V1i ko3 mv_X3_47 kd_28 (t_X3_readSign _ _) rfl rfl rfl rfl rfl (fun r6 h6 => ?_)
        refine z_if_eq rfl ?_ ?_
        · refine z_iconst rfl rfl ?_
          exact z_zret0 rfl rfl
        · refine z_iconst rfl rfl ?_
          refine z_goto rfl ?_
          exact z_zret1 rfl rfl
  refine Z.ite (fun e12 => ?_) (fun e12 => ?_)
  · refine z_look (tg := 6) rfl rfl (o := 51) (by rw [e12]; rfl) rfl ?_
    refine z_aload_n rfl rfl ?_
    refine z_iconst rfl rfl ?_
    refine z_putL fi_X3_22 rfl kd_28 rfl (fun h8 => ?_)
    refine z_aload_n rfl rfl ?_
    refine z_ldcS rfl (fun _ _ _ w => w.2.2.1.1) ?_
    refine z_V1i ko3 mv_X3_39 kd_28 (t_X3_readWord 87 5 kd_87 _) rfl rfl rfl rfl rfl (fun r9 h9 => ?_)
    refine z_if_eq rfl ?_ ?_
    · refine z_iconst rfl rfl ?_
      exact z_zret0 rfl rfl
    · refine z_aload_n rfl rfl ?_
      refine z_iconst rfl rfl ?_
      refine z_iconst rfl rfl ?_
      refine z_V2i ko3 mv_X3_43 kd_28 (t_X3_readNumbers _ _ _) rfl rfl rfl rfl rfl (fun r10 h10 => ?_)
      refine z_if_eq rfl ?_ ?_
      · refine z_iconst rfl rfl ?_
        exact z_zret0 rfl rfl
      · refine z_aload_n rfl rfl ?_
        refine z_bipush rfl rfl ?_
        refine z_V1i ko3 mv_X3_47 kd_28 (t_X3_readSign _ _) rfl rfl rfl rfl rfl (fun r11 h11 => ?_)
        refine z_if_eq rfl ?_ ?_
        · refine z_iconst rfl rfl ?_
          exact z_zret0 rfl rfl
        · refine z_iconst rfl rfl ?_
          refine z_goto rfl ?_
          exact z_zret1 rfl rfl
  refine Z.ite (fun e16 => ?_) (fun e16 => ?_)
  · refine z_look (tg := 86) rfl rfl (o := 203) (by rw [e16]; rfl) rfl ?_
    refine z_aload_n rfl rfl ?_
    refine z_iconst rfl rfl ?_
    refine z_putL fi_X3_22 rfl kd_28 rfl (fun h13 => ?_)
    refine z_aload_n rfl rfl ?_
    refine z_ldcS rfl (fun _ _ _ w => w.2.2.1.2.2.2.2) ?_
    refine z_V1i ko3 mv_X3_39 kd_28 (t_X3_readWord 91 4 kd_91 _) rfl rfl rfl rfl rfl (fun r14 h14 => ?_)
    refine z_if_eq rfl ?_ ?_
    · refine z_iconst rfl rfl ?_
      exact z_zret0 rfl rfl
    · refine z_aload_n rfl rfl ?_
      refine z_bipush rfl rfl ?_
      refine z_V1i ko3 mv_X3_47 kd_28 (t_X3_readSign _ _) rfl rfl rfl rfl rfl (fun r15 h15 => ?_)
      refine z_if_eq rfl ?_ ?_
      · refine z_iconst rfl rfl ?_
        exact z_zret0 rfl rfl
      · refine z_iconst rfl rfl ?_
        refine z_goto rfl ?_
        exact z_zret1 rfl rfl
  refine Z.ite (fun e21 => ?_) (fun e21 => ?_)
  · refine z_look (tg := 46) rfl rfl (o := 127) (by rw [e21]; rfl) rfl ?_
    refine z_aload_n rfl rfl ?_
    refine z_iconst rfl rfl ?_
    refine z_putL fi_X3_22 rfl kd_28 rfl (fun h17 => ?_)
    refine z_aload_n rfl rfl ?_
    refine z_ldcS rfl (fun _ _ _ w => w.2.2.1.2.2.1) ?_
    refine z_V1i ko3 mv_X3_39 kd_28 (t_X3_readWord 89 5 kd_89 _) rfl rfl rfl rfl rfl (fun r18 h18 => ?_)
    refine z_if_eq rfl ?_ ?_
    · refine z_iconst rfl rfl ?_
      exact z_zret0 rfl rfl
    · refine z_aload_n rfl rfl ?_
      refine z_iconst rfl rfl ?_
      refine z_iconst rfl rfl ?_
      refine z_V2i ko3 mv_X3_43 kd_28 (t_X3_readNumbers _ _ _) rfl rfl rfl rfl rfl (fun r19 h19 => ?_)
      refine z_if_eq rfl ?_ ?_
      · refine z_iconst rfl rfl ?_
        exact z_zret0 rfl rfl
      · refine z_aload_n rfl rfl ?_
        refine z_bipush rfl rfl ?_
        refine z_V1i ko3 mv_X3_47 kd_28 (t_X3_readSign _ _) rfl rfl rfl rfl rfl (fun r20 h20 => ?_)
        refine z_if_eq rfl ?_ ?_
        · refine z_iconst rfl rfl ?_
          exact z_zret0 rfl rfl
        · refine z_iconst rfl rfl ?_
          refine z_goto rfl ?_
          exact z_zret1 rfl rfl
  refine Z.ite (fun e26 => ?_) (fun e26 => ?_)
  · refine z_look (tg := 66) rfl rfl (o := 165) (by rw [e26]; rfl) rfl ?_
    refine z_aload_n rfl rfl ?_
    refine z_iconst rfl rfl ?_
    refine z_putL fi_X3_22 rfl kd_28 rfl (fun h22 => ?_)
    refine z_aload_n rfl rfl ?_
    refine z_ldcS rfl (fun _ _ _ w => w.2.2.1.2.2.2.1) ?_
    refine z_V1i ko3 mv_X3_39 kd_28 (t_X3_readWord 90 5 kd_90 _) rfl rfl rfl rfl rfl (fun r23 h23 => ?_)
    refine z_if_eq rfl ?_ ?_
    · refine z_iconst rfl rfl ?_
      exact z_zret0 rfl rfl
    · refine z_aload_n rfl rfl ?_
      refine z_iconst rfl rfl ?_
      refine z_iconst rfl rfl ?_
      refine z_V2i ko3 mv_X3_43 kd_28 (t_X3_readNumbers _ _ _) rfl rfl rfl rfl rfl (fun r24 h24 => ?_)
      refine z_if_eq rfl ?_ ?_
      · refine z_iconst rfl rfl ?_
        exact z_zret0 rfl rfl
      · refine z_aload_n rfl rfl ?_
        refine z_bipush rfl rfl ?_
        refine z_V1i ko3 mv_X3_47 kd_28 (t_X3_readSign _ _) rfl rfl rfl rfl rfl (fun r25 h25 => ?_)
        refine z_if_eq rfl ?_ ?_
        · refine z_iconst rfl rfl ?_
          exact z_zret0 rfl rfl
        · refine z_iconst rfl rfl ?_
          refine z_goto rfl ?_
          exact z_zret1 rfl rfl
  refine z_look (tg := 101) rfl rfl (o := 232) (by simp only [Op.lookupswitch.offset]; rw [if_neg (fun q => e7 q.symm)]; rw [if_neg (fun q => e12 q.symm)]; rw [if_neg (fun q => e16 q.symm)]; rw [if_neg (fun q => e21 q.symm)]; rw [if_neg (fun q => e26 q.symm)]) rfl ?_
  refine z_iconst rfl rfl ?_
  exact z_zret0 rfl rfl
set_option maxRecDepth 20000 in
set_option maxHeartbeats 1000000 in
theorem t_X4_bitsOf_L6 (c20 : UInt32 → Int → Hp → Option (Int × Hp)) (hc20 : ∀ (y1 : UInt32) (y2 : Int) (h : Hp), Z M_X4_bitsOf 20 [none, some (vx (.float y1)), some (vi y2), none] [] h (c20 y1 y2 h)) : ∀ (n : Nat) (x1 : UInt32) (x2 : Int) (x3 : Int) (h : Hp), Z M_X4_bitsOf 6 [none, some (vx (.float x1)), some (vi x2), some (vi x3)] [] h (f_X4_bitsOf_L6 c20 n x1 x2 x3 h) := by
  intro n
  induction n with
  | zero => intro x1 x2 x3 h; exact Z.nix
  | succ n ih =>
    intro x1 x2 x3 h
    rw [f_X4_bitsOf_L6_s]
    refine z_iload_n rfl rfl ?_
    refine z_bipush rfl rfl ?_
    refine z_icmp_ge rfl ?_ ?_
    · refine Z.weak ?_ (hc20 _ _ _)
      exact wkL_n (wkL_c (wkL_c (wkL_n (wkL_nil _))))
    · refine z_fload_n rfl rfl ?_
      refine z_fconst2 rfl ?_
      refine z_fcmp rfl ?_
      refine z_if_lt rfl ?_ ?_
      · refine Z.weak ?_ (hc20 _ _ _)
        exact wkL_n (wkL_c (wkL_c (wkL_n (wkL_nil _))))
      · refine z_fload_n rfl rfl ?_
        refine z_fconst2 rfl ?_
        refine z_fdiv rfl ?_
        refine z_fstore_n rfl rfl ?_
        refine z_iinc rfl rfl rfl ?_
        refine z_iinc rfl rfl rfl ?_
        refine z_goto rfl ?_
        refine Z.weak ?_ (ih _ _ _ _)
        exact wkL_n (wkL_c (wkL_c (wkL_c (wkL_nil _))))
set_option maxRecDepth 20000 in
set_option maxHeartbeats 1000000 in
theorem t_X4_bitsOf (x0 : UInt32) (h : Hp) : Ct M_X4_bitsOf [vx (.float x0)] h (f_X4_bitsOf x0 h) := by
  refine Ct.mk ok_X4_bitsOf pl_X4_bitsOf rfl rfl ?_
  show Z M_X4_bitsOf 0 [some (vx (.float x0)), none, none, none] [] h (f_X4_bitsOf x0 h)
  unfold f_X4_bitsOf
  refine z_fload_n rfl rfl ?_
  refine z_fstore_n rfl rfl ?_
  refine z_bipush rfl rfl ?_
  refine z_istore_n rfl rfl ?_
  refine z_iconst rfl rfl ?_
  refine z_istore_n rfl rfl ?_
  refine Z.weak ?_ (t_X4_bitsOf_L6   _  ?_  fu _ _ _ _)
  · exact wkL_n (wkL_c (wkL_c (wkL_c (wkL_nil _))))
  · intro y1 y2 h3
    refine z_fload_n rfl rfl ?_
    refine z_fconst1 rfl ?_
    refine z_fsub rfl ?_
    refine z_ldcf cst_X4_215 rfl ?_
    refine z_fmul rfl ?_
    refine z_f2i rfl ?_
    refine z_istore_nL rfl rfl (fun y4 => ?_)
    refine z_iload_n rfl rfl ?_
    refine z_bipush rfl rfl ?_
    refine z_ishl rfl ?_
    refine z_iload_n rfl rfl ?_
    refine z_ior rfl ?_
    exact z_ireturn rfl rfl
set_option maxRecDepth 20000 in
set_option maxHeartbeats 1000000 in
theorem t_X4_book (x1 : Int) (x2 : Int) (h : Hp) : Ct M_X4_book [vr 0, vi x1, vi x2] h (f_X4_book x1 x2 h) := by
  refine Ct.mk ok_X4_book pl_X4_book rfl rfl ?_
  show Z M_X4_book 0 [some (vr 0), some (vi x1), some (vi x2), none] [] h (f_X4_book x1 x2 h)
  unfold f_X4_book
  refine z_iload_n rfl rfl ?_
  refine z_if_lt rfl ?_ ?_
  · refine z_ldc rfl cst_X4_99 rfl ?_
    exact z_ireturn rfl rfl
  · refine z_iload_n rfl rfl ?_
    refine z_if_lt rfl ?_ ?_
    · refine z_ldc rfl cst_X4_99 rfl ?_
      exact z_ireturn rfl rfl
    · refine z_iload_n rfl rfl ?_
      refine z_iconst rfl rfl ?_
      refine z_icmp_lt rfl ?_ ?_
      · refine z_aload_n rfl rfl ?_
        refine z_getRn (m := 1) rfl fl_X4_10 rfl kd_0 rfl ?_
        refine z_getRn (m := 6) rfl fl_X4_144 rfl kd_1 rfl ?_
        refine z_getI rfl fl_X4_147 rfl kd_6 ?_
        refine z_iconst rfl rfl ?_
        refine z_isub rfl ?_
        refine z_iload_n rfl rfl ?_
        refine z_isub rfl ?_
        refine z_istore_nL rfl rfl (fun y1 => ?_)
        refine z_iload_n rfl rfl ?_
        refine z_if_ge rfl ?_ ?_
        · refine z_aload_n rfl rfl ?_
          refine z_getRn (m := 1) rfl fl_X4_10 rfl kd_0 rfl ?_
          refine z_getRn (m := 6) rfl fl_X4_144 rfl kd_1 rfl ?_
          refine z_iload_n rfl rfl ?_
          refine z_iload_n rfl rfl ?_
          refine z_V2i ko2 mv_X4_100 kd_6 (t_X2_cell 6 kd_6 _ _ _) rfl rfl rfl rfl rfl (fun r2 h2 => ?_)
          exact z_ireturn rfl rfl
        · refine z_ldc rfl cst_X4_112 rfl ?_
          refine z_goto rfl ?_
          exact z_ireturn rfl rfl
      · refine z_ldc rfl cst_X4_99 rfl ?_
        exact z_ireturn rfl rfl
set_option maxRecDepth 20000 in
set_option maxHeartbeats 1000000 in
theorem t_X4_keepState  (h : Hp) : Ct M_X4_keepState [vr 0] h (f_X4_keepState  h) := by
  refine Ct.mk ok_X4_keepState pl_X4_keepState rfl rfl ?_
  show Z M_X4_keepState 0 [some (vr 0)] [] h (f_X4_keepState  h)
  unfold f_X4_keepState
  refine z_aload_n rfl rfl ?_
  refine z_getI rfl fl_X4_30 rfl kd_0 ?_
  refine z_if_lt rfl ?_ ?_
  · exact z_return rfl rfl
  · refine z_aload_n rfl rfl ?_
    refine z_getI rfl fl_X4_30 rfl kd_0 ?_
    refine z_aload_n rfl rfl ?_
    refine z_getRn (m := 27) rfl fl_X4_26 rfl kd_0 rfl ?_
    refine z_alen (c := 3) rfl kd_27 (by omega) ?_
    refine z_icmp_ge rfl ?_ ?_
    · exact z_return rfl rfl
    · refine z_aload_n rfl rfl ?_
      refine z_getRn (m := 27) rfl fl_X4_26 rfl kd_0 rfl ?_
      refine z_aload_n rfl rfl ?_
      refine z_getI rfl fl_X4_30 rfl kd_0 ?_
      refine z_aaload rfl kd_27 (fun q1 => ?_)
      refine z_ifnull rfl ?_
      refine z_aload_n rfl rfl ?_
      refine z_getRn (m := 27) rfl fl_X4_26 rfl kd_0 rfl ?_
      refine z_aload_n rfl rfl ?_
      refine z_getI rfl fl_X4_30 rfl kd_0 ?_
      refine z_aaload rfl kd_27 (fun q2 => ?_)
      refine z_aload_n rfl rfl ?_
      refine z_getRn (m := 1) rfl fl_X4_10 rfl kd_0 rfl ?_
      refine z_V1v ko1 mv_X4_154 q2 (t_X1_become (Int.toNat (h 27 (Int.toNat (h 0 4)))) q2 1 kd_1 _) rfl rfl rfl rfl rfl (fun _ h3 => ?_)
      exact z_return rfl rfl
set_option maxRecDepth 20000 in
set_option maxHeartbeats 1000000 in
theorem t_X4_forgetOldestState_L7 (y2 : Nat) (ky2 : kd y2 = (1, 0)) (c24 : Hp → Option (Int × Hp)) (hc24 : ∀ (h : Hp), Z M_X4_forgetOldestState 24 [some (vr 0), some (vr y2), none] [] h (c24  h)) : ∀ (n : Nat) (x2 : Int) (h : Hp), Z M_X4_forgetOldestState 7 [some (vr 0), some (vr y2), some (vi x2)] [] h (f_X4_forgetOldestState_L7 y2 c24 n x2 h) := by
  intro n
  induction n with
  | zero => intro x2 h; exact Z.nix
  | succ n ih =>
    intro x2 h
    rw [f_X4_forgetOldestState_L7_s]
    refine z_iload_n rfl rfl ?_
    refine z_aload_n rfl rfl ?_
    refine z_getRn (m := 27) rfl fl_X4_26 rfl kd_0 rfl ?_
    refine z_alen (c := 3) rfl kd_27 (by omega) ?_
    refine z_icmp_ge rfl ?_ ?_
    · refine Z.weak ?_ (hc24 _)
      exact wkL_c (wkL_c (wkL_n (wkL_nil _)))
    · refine z_aload_n rfl rfl ?_
      refine z_getRn (m := 27) rfl fl_X4_26 rfl kd_0 rfl ?_
      refine z_iload_n rfl rfl ?_
      refine z_iconst rfl rfl ?_
      refine z_isub rfl ?_
      refine z_aload_n rfl rfl ?_
      refine z_getRn (m := 27) rfl fl_X4_26 rfl kd_0 rfl ?_
      refine z_iload_n rfl rfl ?_
      refine z_aaload rfl kd_27 (fun q3 => ?_)
      refine z_aastoreL kd_27 q3 rfl (fun h4 => ?_)
      refine z_iinc rfl rfl rfl ?_
      refine z_goto rfl ?_
      refine Z.weak ?_ (ih _ _)
      exact wkL_c (wkL_c (wkL_c (wkL_nil _)))
set_option maxRecDepth 20000 in
set_option maxHeartbeats 1000000 in
theorem t_X4_forgetOldestState  (h : Hp) : Ct M_X4_forgetOldestState [vr 0] h (f_X4_forgetOldestState  h) := by
  refine Ct.mk ok_X4_forgetOldestState pl_X4_forgetOldestState rfl rfl ?_
  show Z M_X4_forgetOldestState 0 [some (vr 0), none, none] [] h (f_X4_forgetOldestState  h)
  unfold f_X4_forgetOldestState
  refine z_aload_n rfl rfl ?_
  refine z_getRn (m := 27) rfl fl_X4_26 rfl kd_0 rfl ?_
  refine z_iconst rfl rfl ?_
  refine z_aaload rfl kd_27 (fun q1 => ?_)
  refine z_astore_nQ q1 rfl rfl (fun y2 ky2 => ?_)
  refine z_iconst rfl rfl ?_
  refine z_istore_n rfl rfl ?_
  refine Z.weak ?_ (t_X4_forgetOldestState_L7 y2 ky2  _  ?_  fu _ _)
  · exact wkL_c (wkL_c (wkL_c (wkL_nil _)))
  · intro h5
    refine z_aload_n rfl rfl ?_
    refine z_getRn (m := 27) rfl fl_X4_26 rfl kd_0 rfl ?_
    refine z_aload_n rfl rfl ?_
    refine z_getRn (m := 27) rfl fl_X4_26 rfl kd_0 rfl ?_
    refine z_alen (c := 3) rfl kd_27 (by omega) ?_
    refine z_iconst rfl rfl ?_
    refine z_isub rfl ?_
    refine z_aload_n rfl rfl ?_
    refine z_aastoreL kd_27 ky2 rfl (fun h6 => ?_)
    refine z_aload_n rfl rfl ?_
    refine z_dup rfl rfl ?_
    refine z_getI rfl fl_X4_30 rfl kd_0 ?_
    refine z_iconst rfl rfl ?_
    refine z_isub rfl ?_
    refine z_putL fi_X4_30 rfl kd_0 rfl (fun h7 => ?_)
    exact z_return rfl rfl
set_option maxRecDepth 20000 in
set_option maxHeartbeats 1000000 in
theorem t_X4_recorded (x1 : Int) (h : Hp) : Ct M_X4_recorded [vr 0, vi x1] h (f_X4_recorded x1 h) := by
  refine Ct.mk ok_X4_recorded pl_X4_recorded rfl rfl ?_
  show Z M_X4_recorded 0 [some (vr 0), some (vi x1)] [] h (f_X4_recorded x1 h)
  unfold f_X4_recorded
  refine z_iload_n rfl rfl ?_
  refine z_if_lt rfl ?_ ?_
  · refine z_iload_n rfl rfl ?_
    exact z_ireturn rfl rfl
  · refine z_aload_n rfl rfl ?_
    refine z_dup rfl rfl ?_
    refine z_getI rfl fl_X4_30 rfl kd_0 ?_
    refine z_iconst rfl rfl ?_
    refine z_iadd rfl ?_
    refine z_putL fi_X4_30 rfl kd_0 rfl (fun h1 => ?_)
    refine z_aload_n rfl rfl ?_
    refine z_getI rfl fl_X4_30 rfl kd_0 ?_
    refine z_iconst rfl rfl ?_
    refine z_icmp_le rfl ?_ ?_
    · refine z_iload_n rfl rfl ?_
      exact z_ireturn rfl rfl
    · refine z_aload_n rfl rfl ?_
      refine z_V0v ko4 mv_X4_192 kd_0 (t_X4_forgetOldestState  _) rfl rfl rfl rfl rfl (fun _ h2 => ?_)
      refine z_iload_n rfl rfl ?_
      exact z_ireturn rfl rfl
set_option maxRecDepth 20000 in
set_option maxHeartbeats 1000000 in
theorem t_X4_claim (x1 : Int) (x2 : Int) (x3 : Int) (x4 : Int) (h : Hp) : Ct M_X4_claim [vr 0, vi x1, vi x2, vi x3, vi x4] h (f_X4_claim x1 x2 x3 x4 h) := by
  refine Ct.mk ok_X4_claim pl_X4_claim rfl rfl ?_
  show Z M_X4_claim 0 [some (vr 0), some (vi x1), some (vi x2), some (vi x3), some (vi x4)] [] h (f_X4_claim x1 x2 x3 x4 h)
  unfold f_X4_claim
  refine z_aload_n rfl rfl ?_
  refine z_V0v ko4 mv_X4_53 kd_0 (t_X4_keepState  _) rfl rfl rfl rfl rfl (fun _ h1 => ?_)
  refine z_aload_n rfl rfl ?_
  refine z_aload_n rfl rfl ?_
  refine z_getRn (m := 1) rfl fl_X4_10 rfl kd_0 rfl ?_
  refine z_iload_n rfl rfl ?_
  refine z_iload_n rfl rfl ?_
  refine z_iload_n rfl rfl ?_
  refine z_iload rfl rfl ?_
  refine z_V4i ko1 mv_X4_64 kd_1 (t_X1_takeClaim 1 kd_1 _ _ _ _ _) rfl rfl rfl rfl rfl (fun r2 h2 => ?_)
  refine z_V1i ko4 mv_X4_60 kd_0 (t_X4_recorded _ _) rfl rfl rfl rfl rfl (fun r3 h3 => ?_)
  exact z_ireturn rfl rfl
set_option maxRecDepth 20000 in
set_option maxHeartbeats 1000000 in
theorem t_X4_orNotFound (x0 : Int) (h : Hp) : Ct M_X4_orNotFound [vi x0] h (f_X4_orNotFound x0 h) := by
  refine Ct.mk ok_X4_orNotFound pl_X4_orNotFound rfl rfl ?_
  show Z M_X4_orNotFound 0 [some (vi x0)] [] h (f_X4_orNotFound x0 h)
  unfold f_X4_orNotFound
  refine z_iload_n rfl rfl ?_
  refine z_iconst rfl rfl ?_
  refine z_icmp_ne rfl ?_ ?_
  · refine z_iload_n rfl rfl ?_
    exact z_ireturn rfl rfl
  · refine z_ldc rfl cst_X4_112 rfl ?_
    refine z_goto rfl ?_
    exact z_ireturn rfl rfl
set_option maxRecDepth 20000 in
set_option maxHeartbeats 1000000 in
theorem t_X4_claimOf (x1 : Int) (x2 : Int) (h : Hp) : Ct M_X4_claimOf [vr 0, vi x1, vi x2] h (f_X4_claimOf x1 x2 h) := by
  refine Ct.mk ok_X4_claimOf pl_X4_claimOf rfl rfl ?_
  show Z M_X4_claimOf 0 [some (vr 0), some (vi x1), some (vi x2), none] [] h (f_X4_claimOf x1 x2 h)
  unfold f_X4_claimOf
  refine z_aload_n rfl rfl ?_
  refine z_getRn (m := 1) rfl fl_X4_10 rfl kd_0 rfl ?_
  refine z_getRn (m := 4) rfl fl_X4_116 rfl kd_1 rfl ?_
  refine z_iload_n rfl rfl ?_
  refine z_V1i ko2 mv_X4_93 kd_4 (t_X2_has 4 kd_4 _ _) rfl rfl rfl rfl rfl (fun r1 h1 => ?_)
  refine z_if_eq rfl ?_ ?_
  · refine z_ldc rfl cst_X4_99 rfl ?_
    exact z_ireturn rfl rfl
  · refine z_iload_n rfl rfl ?_
    refine z_if_lt rfl ?_ ?_
    · refine z_ldc rfl cst_X4_99 rfl ?_
      exact z_ireturn rfl rfl
    · refine z_iload_n rfl rfl ?_
      refine z_bipush rfl rfl ?_
      refine z_icmp_le rfl ?_ ?_
      · refine z_iload_n rfl rfl ?_
        refine z_iconst rfl rfl ?_
        refine z_icmp_ge rfl ?_ ?_
        · refine z_iload_n rfl rfl ?_
          refine z_iconst rfl rfl ?_
          refine z_icmp_ne rfl ?_ ?_
          · refine z_iload_n rfl rfl ?_
            refine z_bipush rfl rfl ?_
            refine z_icmp_ne rfl ?_ ?_
            · refine z_aload_n rfl rfl ?_
              refine z_getRn (m := 19) rfl fl_X4_22 rfl kd_0 rfl ?_
              refine z_aload_n rfl rfl ?_
              refine z_getRn (m := 1) rfl fl_X4_10 rfl kd_0 rfl ?_
              refine z_V1v ko0 mv_X4_78 kd_19 (t_X0_matchAll 1 kd_1 _) rfl rfl rfl rfl rfl (fun _ h2 => ?_)
              refine z_iload_n rfl rfl ?_
              refine z_iconst rfl rfl ?_
              refine z_icmp_ne rfl ?_ ?_
              · refine z_aload_n rfl rfl ?_
                refine z_getRn (m := 19) rfl fl_X4_22 rfl kd_0 rfl ?_
                refine z_iload_n rfl rfl ?_
                refine z_V1i ko0 mv_X4_125 kd_19 (t_X0_umbrellasSuiting _ _) rfl rfl rfl rfl rfl (fun r3 h3 => ?_)
                exact z_ireturn rfl rfl
              · refine z_aload_n rfl rfl ?_
                refine z_getRn (m := 19) rfl fl_X4_22 rfl kd_0 rfl ?_
                refine z_iload_n rfl rfl ?_
                refine z_V1i ko0 mv_X4_119 kd_19 (t_X0_umbrellaMatched _ _) rfl rfl rfl rfl rfl (fun r4 h4 => ?_)
                refine z_S1i ms_X4_122 (t_X4_orNotFound _ _) rfl rfl rfl rfl (fun r5 h5 => ?_)
                refine z_goto rfl ?_
                exact z_ireturn rfl rfl
            · refine z_aload_n rfl rfl ?_
              refine z_getRn (m := 1) rfl fl_X4_10 rfl kd_0 rfl ?_
              refine z_getRn (m := 4) rfl fl_X4_116 rfl kd_1 rfl ?_
              refine z_iload_n rfl rfl ?_
              refine z_iconst rfl rfl ?_
              refine z_V2i ko2 mv_X4_100 kd_4 (t_X2_cell 4 kd_4 _ _ _) rfl rfl rfl rfl rfl (fun r6 h6 => ?_)
              exact z_ireturn rfl rfl
          · refine z_aload_n rfl rfl ?_
            refine z_getRn (m := 1) rfl fl_X4_10 rfl kd_0 rfl ?_
            refine z_getRn (m := 4) rfl fl_X4_116 rfl kd_1 rfl ?_
            refine z_iload_n rfl rfl ?_
            refine z_iconst rfl rfl ?_
            refine z_V2i ko2 mv_X4_100 kd_4 (t_X2_cell 4 kd_4 _ _ _) rfl rfl rfl rfl rfl (fun r7 h7 => ?_)
            exact z_ireturn rfl rfl
        · refine z_aload_n rfl rfl ?_
          refine z_getRn (m := 1) rfl fl_X4_10 rfl kd_0 rfl ?_
          refine z_getRn (m := 4) rfl fl_X4_116 rfl kd_1 rfl ?_
          refine z_iload_n rfl rfl ?_
          refine z_iload_n rfl rfl ?_
          refine z_V2i ko2 mv_X4_100 kd_4 (t_X2_cell 4 kd_4 _ _ _) rfl rfl rfl rfl rfl (fun r8 h8 => ?_)
          refine z_istore_n rfl rfl ?_
          refine z_iload_n rfl rfl ?_
          refine z_iconst rfl rfl ?_
          refine z_icmp_ne rfl ?_ ?_
          · refine z_iload_n rfl rfl ?_
            exact z_ireturn rfl rfl
          · refine z_ldc rfl cst_X4_112 rfl ?_
            refine z_goto rfl ?_
            exact z_ireturn rfl rfl
      · refine z_ldc rfl cst_X4_99 rfl ?_
        exact z_ireturn rfl rfl
set_option maxRecDepth 20000 in
set_option maxHeartbeats 1000000 in
theorem t_X4_clearText  (h : Hp) : Ct M_X4_clearText [vr 0] h (f_X4_clearText  h) := by
  refine Ct.mk ok_X4_clearText pl_X4_clearText rfl rfl ?_
  show Z M_X4_clearText 0 [some (vr 0), none] [] h (f_X4_clearText  h)
  unfold f_X4_clearText
  refine z_aload_n rfl rfl ?_
  refine z_getRn (m := 28) rfl fl_X4_37 rfl kd_0 rfl ?_
  refine z_getI rfl fl_X4_180 rfl kd_28 ?_
  refine z_istore_nL rfl rfl (fun y1 => ?_)
  refine z_aload_n rfl rfl ?_
  refine z_getRn (m := 28) rfl fl_X4_37 rfl kd_0 rfl ?_
  refine z_iconst rfl rfl ?_
  refine z_putL fi_X4_180 rfl kd_28 rfl (fun h2 => ?_)
  refine z_iload_n rfl rfl ?_
  exact z_ireturn rfl rfl
set_option maxRecDepth 20000 in
set_option maxHeartbeats 1000000 in
theorem t_X4_count_J13 (x1 : Int) (h : Hp) : Z M_X4_count 13 [some (vr 0), some (vi x1)] [] h (f_X4_count_J13 x1 h) := by
  unfold f_X4_count_J13
  refine z_iload_n rfl rfl ?_
  refine Z.ite (fun e1 => ?_) (fun e1 => ?_)
  · refine z_table (tg := 15) rfl (o := 71) (by rw [e1]; rfl) rfl ?_
    refine z_aload_n rfl rfl ?_
    refine z_getRn (m := 1) rfl fl_X4_10 rfl kd_0 rfl ?_
    refine z_getRn (m := 2) rfl fl_X4_89 rfl kd_1 rfl ?_
    refine z_getI rfl fl_X4_147 rfl kd_2 ?_
    exact z_ireturn rfl rfl
  refine Z.ite (fun e2 => ?_) (fun e2 => ?_)
  · refine z_table (tg := 20) rfl (o := 82) (by rw [e2]; rfl) rfl ?_
    refine z_aload_n rfl rfl ?_
    refine z_getRn (m := 1) rfl fl_X4_10 rfl kd_0 rfl ?_
    refine z_getRn (m := 4) rfl fl_X4_116 rfl kd_1 rfl ?_
    refine z_getI rfl fl_X4_147 rfl kd_4 ?_
    exact z_ireturn rfl rfl
  refine Z.ite (fun e4 => ?_) (fun e4 => ?_)
  · refine z_table (tg := 25) rfl (o := 93) (by rw [e4]; rfl) rfl ?_
    refine z_aload_n rfl rfl ?_
    refine z_getRn (m := 19) rfl fl_X4_22 rfl kd_0 rfl ?_
    refine z_aload_n rfl rfl ?_
    refine z_getRn (m := 1) rfl fl_X4_10 rfl kd_0 rfl ?_
    refine z_V1v ko0 mv_X4_78 kd_19 (t_X0_matchAll 1 kd_1 _) rfl rfl rfl rfl rfl (fun _ h3 => ?_)
    refine z_aload_n rfl rfl ?_
    refine z_getRn (m := 19) rfl fl_X4_22 rfl kd_0 rfl ?_
    refine z_getI rfl fl_X4_163 rfl kd_19 ?_
    exact z_ireturn rfl rfl
  refine Z.ite (fun e6 => ?_) (fun e6 => ?_)
  · refine z_table (tg := 34) rfl (o := 112) (by rw [e6]; rfl) rfl ?_
    refine z_aload_n rfl rfl ?_
    refine z_getRn (m := 19) rfl fl_X4_22 rfl kd_0 rfl ?_
    refine z_aload_n rfl rfl ?_
    refine z_getRn (m := 1) rfl fl_X4_10 rfl kd_0 rfl ?_
    refine z_V1v ko0 mv_X4_177 kd_19 (t_X0_matchByAsking 1 kd_1 _) rfl rfl rfl rfl rfl (fun _ h5 => ?_)
    refine z_aload_n rfl rfl ?_
    refine z_getRn (m := 19) rfl fl_X4_22 rfl kd_0 rfl ?_
    refine z_getI rfl fl_X4_163 rfl kd_19 ?_
    exact z_ireturn rfl rfl
  refine Z.ite (fun e8 => ?_) (fun e8 => ?_)
  · refine z_table (tg := 55) rfl (o := 155) (by rw [e8]; rfl) rfl ?_
    refine z_iload_n rfl rfl ?_
    refine z_if_lt rfl ?_ ?_
    · refine z_ldc rfl cst_X4_99 rfl ?_
      exact z_ireturn rfl rfl
    · refine z_iload_n rfl rfl ?_
      refine z_bipush rfl rfl ?_
      refine z_icmp_ge rfl ?_ ?_
      · refine z_ldc rfl cst_X4_99 rfl ?_
        exact z_ireturn rfl rfl
      · refine z_aload_n rfl rfl ?_
        refine z_getRn (m := 1) rfl fl_X4_10 rfl kd_0 rfl ?_
        refine z_iload_n rfl rfl ?_
        refine z_V1i ko1 mv_X4_160 kd_1 (t_X1_sum 1 kd_1 _ _) rfl rfl rfl rfl rfl (fun r7 h7 => ?_)
        refine z_goto rfl ?_
        exact z_ireturn rfl rfl
  refine Z.ite (fun e10 => ?_) (fun e10 => ?_)
  · refine z_table (tg := 55) rfl (o := 155) (by rw [e10]; rfl) rfl ?_
    refine z_iload_n rfl rfl ?_
    refine z_if_lt rfl ?_ ?_
    · refine z_ldc rfl cst_X4_99 rfl ?_
      exact z_ireturn rfl rfl
    · refine z_iload_n rfl rfl ?_
      refine z_bipush rfl rfl ?_
      refine z_icmp_ge rfl ?_ ?_
      · refine z_ldc rfl cst_X4_99 rfl ?_
        exact z_ireturn rfl rfl
      · refine z_aload_n rfl rfl ?_
        refine z_getRn (m := 1) rfl fl_X4_10 rfl kd_0 rfl ?_
        refine z_iload_n rfl rfl ?_
        refine z_V1i ko1 mv_X4_160 kd_1 (t_X1_sum 1 kd_1 _ _) rfl rfl rfl rfl rfl (fun r9 h9 => ?_)
        refine z_goto rfl ?_
        exact z_ireturn rfl rfl
  refine Z.ite (fun e12 => ?_) (fun e12 => ?_)
  · refine z_table (tg := 55) rfl (o := 155) (by rw [e12]; rfl) rfl ?_
    refine z_iload_n rfl rfl ?_
    refine z_if_lt rfl ?_ ?_
    · refine z_ldc rfl cst_X4_99 rfl ?_
      exact z_ireturn rfl rfl
    · refine z_iload_n rfl rfl ?_
      refine z_bipush rfl rfl ?_
      refine z_icmp_ge rfl ?_ ?_
      · refine z_ldc rfl cst_X4_99 rfl ?_
        exact z_ireturn rfl rfl
      · refine z_aload_n rfl rfl ?_
        refine z_getRn (m := 1) rfl fl_X4_10 rfl kd_0 rfl ?_
        refine z_iload_n rfl rfl ?_
        refine z_V1i ko1 mv_X4_160 kd_1 (t_X1_sum 1 kd_1 _ _) rfl rfl rfl rfl rfl (fun r11 h11 => ?_)
        refine z_goto rfl ?_
        exact z_ireturn rfl rfl
  refine Z.ite (fun e14 => ?_) (fun e14 => ?_)
  · refine z_table (tg := 55) rfl (o := 155) (by rw [e14]; rfl) rfl ?_
    refine z_iload_n rfl rfl ?_
    refine z_if_lt rfl ?_ ?_
    · refine z_ldc rfl cst_X4_99 rfl ?_
      exact z_ireturn rfl rfl
    · refine z_iload_n rfl rfl ?_
      refine z_bipush rfl rfl ?_
      refine z_icmp_ge rfl ?_ ?_
      · refine z_ldc rfl cst_X4_99 rfl ?_
        exact z_ireturn rfl rfl
      · refine z_aload_n rfl rfl ?_
        refine z_getRn (m := 1) rfl fl_X4_10 rfl kd_0 rfl ?_
        refine z_iload_n rfl rfl ?_
        refine z_V1i ko1 mv_X4_160 kd_1 (t_X1_sum 1 kd_1 _ _) rfl rfl rfl rfl rfl (fun r13 h13 => ?_)
        refine z_goto rfl ?_
        exact z_ireturn rfl rfl
  refine Z.ite (fun e16 => ?_) (fun e16 => ?_)
  · refine z_table (tg := 55) rfl (o := 155) (by rw [e16]; rfl) rfl ?_
    refine z_iload_n rfl rfl ?_
    refine z_if_lt rfl ?_ ?_
    · refine z_ldc rfl cst_X4_99 rfl ?_
      exact z_ireturn rfl rfl
    · refine z_iload_n rfl rfl ?_
      refine z_bipush rfl rfl ?_
      refine z_icmp_ge rfl ?_ ?_
      · refine z_ldc rfl cst_X4_99 rfl ?_
        exact z_ireturn rfl rfl
      · refine z_aload_n rfl rfl ?_
        refine z_getRn (m := 1) rfl fl_X4_10 rfl kd_0 rfl ?_
        refine z_iload_n rfl rfl ?_
        refine z_V1i ko1 mv_X4_160 kd_1 (t_X1_sum 1 kd_1 _ _) rfl rfl rfl rfl rfl (fun r15 h15 => ?_)
        refine z_goto rfl ?_
        exact z_ireturn rfl rfl
  refine Z.ite (fun e18 => ?_) (fun e18 => ?_)
  · refine z_table (tg := 55) rfl (o := 155) (by rw [e18]; rfl) rfl ?_
    refine z_iload_n rfl rfl ?_
    refine z_if_lt rfl ?_ ?_
    · refine z_ldc rfl cst_X4_99 rfl ?_
      exact z_ireturn rfl rfl
    · refine z_iload_n rfl rfl ?_
      refine z_bipush rfl rfl ?_
      refine z_icmp_ge rfl ?_ ?_
      · refine z_ldc rfl cst_X4_99 rfl ?_
        exact z_ireturn rfl rfl
      · refine z_aload_n rfl rfl ?_
        refine z_getRn (m := 1) rfl fl_X4_10 rfl kd_0 rfl ?_
        refine z_iload_n rfl rfl ?_
        refine z_V1i ko1 mv_X4_160 kd_1 (t_X1_sum 1 kd_1 _ _) rfl rfl rfl rfl rfl (fun r17 h17 => ?_)
        refine z_goto rfl ?_
        exact z_ireturn rfl rfl
  refine Z.ite (fun e20 => ?_) (fun e20 => ?_)
  · refine z_table (tg := 55) rfl (o := 155) (by rw [e20]; rfl) rfl ?_
    refine z_iload_n rfl rfl ?_
    refine z_if_lt rfl ?_ ?_
    · refine z_ldc rfl cst_X4_99 rfl ?_
      exact z_ireturn rfl rfl
    · refine z_iload_n rfl rfl ?_
      refine z_bipush rfl rfl ?_
      refine z_icmp_ge rfl ?_ ?_
      · refine z_ldc rfl cst_X4_99 rfl ?_
        exact z_ireturn rfl rfl
      · refine z_aload_n rfl rfl ?_
        refine z_getRn (m := 1) rfl fl_X4_10 rfl kd_0 rfl ?_
        refine z_iload_n rfl rfl ?_
        refine z_V1i ko1 mv_X4_160 kd_1 (t_X1_sum 1 kd_1 _ _) rfl rfl rfl rfl rfl (fun r19 h19 => ?_)
        refine z_goto rfl ?_
        exact z_ireturn rfl rfl
  refine Z.ite (fun e21 => ?_) (fun e21 => ?_)
  · refine z_table (tg := 43) rfl (o := 131) (by rw [e21]; rfl) rfl ?_
    refine z_aload_n rfl rfl ?_
    refine z_getRn (m := 1) rfl fl_X4_10 rfl kd_0 rfl ?_
    refine z_getRn (m := 6) rfl fl_X4_144 rfl kd_1 rfl ?_
    refine z_getI rfl fl_X4_147 rfl kd_6 ?_
    exact z_ireturn rfl rfl
  refine Z.ite (fun e22 => ?_) (fun e22 => ?_)
  · refine z_table (tg := 48) rfl (o := 142) (by rw [e22]; rfl) rfl ?_
    refine z_aload_n rfl rfl ?_
    refine z_getI rfl fl_X4_30 rfl kd_0 ?_
    exact z_ireturn rfl rfl
  refine Z.ite (fun e23 => ?_) (fun e23 => ?_)
  · refine z_table (tg := 51) rfl (o := 147) (by rw [e23]; rfl) rfl ?_
    refine z_aload_n rfl rfl ?_
    refine z_getRn (m := 28) rfl fl_X4_37 rfl kd_0 rfl ?_
    refine z_getI rfl fl_X4_180 rfl kd_28 ?_
    exact z_ireturn rfl rfl
  refine z_table (tg := 55) rfl (o := 155) (if_pos (by omega)) rfl ?_
  refine z_iload_n rfl rfl ?_
  refine z_if_lt rfl ?_ ?_
  · refine z_ldc rfl cst_X4_99 rfl ?_
    exact z_ireturn rfl rfl
  · refine z_iload_n rfl rfl ?_
    refine z_bipush rfl rfl ?_
    refine z_icmp_ge rfl ?_ ?_
    · refine z_ldc rfl cst_X4_99 rfl ?_
      exact z_ireturn rfl rfl
    · refine z_aload_n rfl rfl ?_
      refine z_getRn (m := 1) rfl fl_X4_10 rfl kd_0 rfl ?_
      refine z_iload_n rfl rfl ?_
      refine z_V1i ko1 mv_X4_160 kd_1 (t_X1_sum 1 kd_1 _ _) rfl rfl rfl rfl rfl (fun r24 h24 => ?_)
      refine z_goto rfl ?_
      exact z_ireturn rfl rfl
set_option maxRecDepth 20000 in
set_option maxHeartbeats 1000000 in
theorem t_X4_count (x1 : Int) (h : Hp) : Ct M_X4_count [vr 0, vi x1] h (f_X4_count x1 h) := by
  refine Ct.mk ok_X4_count pl_X4_count rfl rfl ?_
  show Z M_X4_count 0 [some (vr 0), some (vi x1)] [] h (f_X4_count x1 h)
  unfold f_X4_count
  refine z_iload_n rfl rfl ?_
  refine z_bipush rfl rfl ?_
  refine z_icmp_lt rfl ?_ ?_
  · refine Z.weak ?_ (t_X4_count_J13  _  _)
    exact wkL_c (wkL_c (wkL_nil _))
  · refine z_iload_n rfl rfl ?_
    refine z_bipush rfl rfl ?_
    refine z_icmp_ge rfl ?_ ?_
    · refine Z.weak ?_ (t_X4_count_J13  _  _)
      exact wkL_c (wkL_c (wkL_nil _))
    · refine z_aload_n rfl rfl ?_
      refine z_getRn (m := 1) rfl fl_X4_10 rfl kd_0 rfl ?_
      refine z_iload_n rfl rfl ?_
      refine z_bipush rfl rfl ?_
      refine z_isub rfl ?_
      refine z_V1i ko1 mv_X4_174 kd_1 (t_X1_setting 1 kd_1 _ _) rfl rfl rfl rfl rfl (fun r25 h25 => ?_)
      exact z_ireturn rfl rfl
set_option maxRecDepth 20000 in
set_option maxHeartbeats 1000000 in
theorem t_X4_doOrder (x1 : Nat) (k1 : kd x1 = (1, 0)) (h : Hp) : Ct M_X4_doOrder [vr 0, vr x1] h (f_X4_doOrder x1 h) := by
  refine Ct.mk ok_X4_doOrder pl_X4_doOrder rfl rfl ?_
  show Z M_X4_doOrder 0 [some (vr 0), some (vr x1)] [] h (f_X4_doOrder x1 h)
  unfold f_X4_doOrder
  refine z_aload_n rfl rfl ?_
  refine z_getRn (m := 28) rfl fl_X4_37 rfl kd_0 rfl ?_
  refine z_getI rfl fl_X4_209 rfl kd_28 ?_
  refine Z.ite (fun e6 => ?_) (fun e6 => ?_)
  · refine z_table (tg := 4) rfl (o := 29) (by rw [e6]; rfl) rfl ?_
    refine z_aload_n rfl rfl ?_
    refine z_aload_n rfl rfl ?_
    refine z_getRn (m := 28) rfl fl_X4_37 rfl kd_0 rfl ?_
    refine z_iconst rfl rfl ?_
    refine z_V1i ko3 mv_X4_212 kd_28 (t_X3_number _ _) rfl rfl rfl rfl rfl (fun r1 h1 => ?_)
    refine z_aload_n rfl rfl ?_
    refine z_getRn (m := 28) rfl fl_X4_37 rfl kd_0 rfl ?_
    refine z_iconst rfl rfl ?_
    refine z_V1i ko3 mv_X4_212 kd_28 (t_X3_number _ _) rfl rfl rfl rfl rfl (fun r2 h2 => ?_)
    refine z_aload_n rfl rfl ?_
    refine z_getRn (m := 28) rfl fl_X4_37 rfl kd_0 rfl ?_
    refine z_iconst rfl rfl ?_
    refine z_V1i ko3 mv_X4_212 kd_28 (t_X3_number _ _) rfl rfl rfl rfl rfl (fun r3 h3 => ?_)
    refine z_aload_n rfl rfl ?_
    refine z_getRn (m := 28) rfl fl_X4_37 rfl kd_0 rfl ?_
    refine z_iconst rfl rfl ?_
    refine z_V1i ko3 mv_X4_212 kd_28 (t_X3_number _ _) rfl rfl rfl rfl rfl (fun r4 h4 => ?_)
    refine z_V4i ko1 mv_X4_56 k1 (t_X1_takeUmbrella x1 k1 _ _ _ _ _) rfl rfl rfl rfl rfl (fun r5 h5 => ?_)
    exact z_ireturn rfl rfl
  refine Z.ite (fun e12 => ?_) (fun e12 => ?_)
  · refine z_table (tg := 23) rfl (o := 66) (by rw [e12]; rfl) rfl ?_
    refine z_aload_n rfl rfl ?_
    refine z_aload_n rfl rfl ?_
    refine z_getRn (m := 28) rfl fl_X4_37 rfl kd_0 rfl ?_
    refine z_iconst rfl rfl ?_
    refine z_V1i ko3 mv_X4_212 kd_28 (t_X3_number _ _) rfl rfl rfl rfl rfl (fun r7 h7 => ?_)
    refine z_aload_n rfl rfl ?_
    refine z_getRn (m := 28) rfl fl_X4_37 rfl kd_0 rfl ?_
    refine z_iconst rfl rfl ?_
    refine z_V1i ko3 mv_X4_212 kd_28 (t_X3_number _ _) rfl rfl rfl rfl rfl (fun r8 h8 => ?_)
    refine z_aload_n rfl rfl ?_
    refine z_getRn (m := 28) rfl fl_X4_37 rfl kd_0 rfl ?_
    refine z_iconst rfl rfl ?_
    refine z_V1i ko3 mv_X4_212 kd_28 (t_X3_number _ _) rfl rfl rfl rfl rfl (fun r9 h9 => ?_)
    refine z_aload_n rfl rfl ?_
    refine z_getRn (m := 28) rfl fl_X4_37 rfl kd_0 rfl ?_
    refine z_iconst rfl rfl ?_
    refine z_V1i ko3 mv_X4_212 kd_28 (t_X3_number _ _) rfl rfl rfl rfl rfl (fun r10 h10 => ?_)
    refine z_V4i ko1 mv_X4_64 k1 (t_X1_takeClaim x1 k1 _ _ _ _ _) rfl rfl rfl rfl rfl (fun r11 h11 => ?_)
    exact z_ireturn rfl rfl
  refine Z.ite (fun e17 => ?_) (fun e17 => ?_)
  · refine z_table (tg := 42) rfl (o := 103) (by rw [e17]; rfl) rfl ?_
    refine z_aload_n rfl rfl ?_
    refine z_aload_n rfl rfl ?_
    refine z_getRn (m := 28) rfl fl_X4_37 rfl kd_0 rfl ?_
    refine z_iconst rfl rfl ?_
    refine z_V1i ko3 mv_X4_212 kd_28 (t_X3_number _ _) rfl rfl rfl rfl rfl (fun r13 h13 => ?_)
    refine z_aload_n rfl rfl ?_
    refine z_getRn (m := 28) rfl fl_X4_37 rfl kd_0 rfl ?_
    refine z_iconst rfl rfl ?_
    refine z_V1i ko3 mv_X4_212 kd_28 (t_X3_number _ _) rfl rfl rfl rfl rfl (fun r14 h14 => ?_)
    refine z_aload_n rfl rfl ?_
    refine z_getRn (m := 28) rfl fl_X4_37 rfl kd_0 rfl ?_
    refine z_iconst rfl rfl ?_
    refine z_V1i ko3 mv_X4_212 kd_28 (t_X3_number _ _) rfl rfl rfl rfl rfl (fun r15 h15 => ?_)
    refine z_V3i ko1 mv_X4_67 k1 (t_X1_noteDetail x1 k1 _ _ _ _) rfl rfl rfl rfl rfl (fun r16 h16 => ?_)
    exact z_ireturn rfl rfl
  refine Z.ite (fun e20 => ?_) (fun e20 => ?_)
  · refine z_table (tg := 57) rfl (o := 132) (by rw [e20]; rfl) rfl ?_
    refine z_aload_n rfl rfl ?_
    refine z_aload_n rfl rfl ?_
    refine z_getRn (m := 28) rfl fl_X4_37 rfl kd_0 rfl ?_
    refine z_iconst rfl rfl ?_
    refine z_V1i ko3 mv_X4_212 kd_28 (t_X3_number _ _) rfl rfl rfl rfl rfl (fun r18 h18 => ?_)
    refine z_sipush rfl rfl ?_
    refine z_V2i ko1 mv_X4_74 k1 (t_X1_passWeeks x1 k1 _ _ _) rfl rfl rfl rfl rfl (fun r19 h19 => ?_)
    exact z_ireturn rfl rfl
  refine z_table (tg := 65) rfl (o := 148) (if_pos (by omega)) rfl ?_
  refine z_aload_n rfl rfl ?_
  refine z_getRn (m := 19) rfl fl_X4_22 rfl kd_0 rfl ?_
  refine z_aload_n rfl rfl ?_
  refine z_V1v ko0 mv_X4_78 kd_19 (t_X0_matchAll x1 k1 _) rfl rfl rfl rfl rfl (fun _ h21 => ?_)
  refine z_aload_n rfl rfl ?_
  refine z_aload_n rfl rfl ?_
  refine z_getRn (m := 19) rfl fl_X4_22 rfl kd_0 rfl ?_
  refine z_V1i ko1 mv_X4_82 k1 (t_X1_handOut x1 k1 _) rfl rfl rfl rfl rfl (fun r22 h22 => ?_)
  exact z_ireturn rfl rfl
set_option maxRecDepth 20000 in
set_option maxHeartbeats 1000000 in
theorem t_X4_drop (x1 : Int) (h : Hp) : Ct M_X4_drop [vr 0, vi x1] h (f_X4_drop x1 h) := by
  refine Ct.mk ok_X4_drop pl_X4_drop rfl rfl ?_
  show Z M_X4_drop 0 [some (vr 0), some (vi x1)] [] h (f_X4_drop x1 h)
  unfold f_X4_drop
  refine z_aload_n rfl rfl ?_
  refine z_V0v ko4 mv_X4_53 kd_0 (t_X4_keepState  _) rfl rfl rfl rfl rfl (fun _ h1 => ?_)
  refine z_aload_n rfl rfl ?_
  refine z_aload_n rfl rfl ?_
  refine z_getRn (m := 1) rfl fl_X4_10 rfl kd_0 rfl ?_
  refine z_iload_n rfl rfl ?_
  refine z_V1i ko1 mv_X4_71 kd_1 (t_X1_dropClaim 1 kd_1 _ _) rfl rfl rfl rfl rfl (fun r2 h2 => ?_)
  refine z_V1i ko4 mv_X4_60 kd_0 (t_X4_recorded _ _) rfl rfl rfl rfl rfl (fun r3 h3 => ?_)
  exact z_ireturn rfl rfl
set_option maxRecDepth 20000 in
set_option maxHeartbeats 1000000 in
theorem t_X4_tellFault (x1 : Int) (x2 : Int) (x3 : Int) (h : Hp) : Ct M_X4_tellFault [vr 0, vi x1, vi x2, vi x3] h (f_X4_tellFault x1 x2 x3 h) := by
  refine Ct.mk ok_X4_tellFault pl_X4_tellFault rfl rfl ?_
  show Z M_X4_tellFault 0 [some (vr 0), some (vi x1), some (vi x2), some (vi x3)] [] h (f_X4_tellFault x1 x2 x3 h)
  unfold f_X4_tellFault
  refine z_aload_n rfl rfl ?_
  refine z_iload_n rfl rfl ?_
  refine z_putL fi_X4_44 rfl kd_0 rfl (fun h1 => ?_)
  refine z_aload_n rfl rfl ?_
  refine z_iload_n rfl rfl ?_
  refine z_putL fi_X4_47 rfl kd_0 rfl (fun h2 => ?_)
  refine z_aload_n rfl rfl ?_
  refine z_iload_n rfl rfl ?_
  refine z_putL fi_X4_50 rfl kd_0 rfl (fun h3 => ?_)
  exact z_return rfl rfl
set_option maxRecDepth 20000 in
set_option maxHeartbeats 1000000 in
theorem t_X4_tryText_L13 (c27 : Int → Hp → Option (Int × Hp)) (hc27 : ∀ (y1 : Int) (h : Hp), Z M_X4_tryText 27 [some (vr 0), some (vi y1), none] [] h (c27 y1 h)) : ∀ (n : Nat) (x1 : Int) (h : Hp), Z M_X4_tryText 13 [some (vr 0), some (vi x1), none] [] h (f_X4_tryText_L13 c27 n x1 h) := by
  intro n
  induction n with
  | zero => intro x1 h; exact Z.nix
  | succ n ih =>
    intro x1 h
    rw [f_X4_tryText_L13_s]
    refine z_iload_n rfl rfl ?_
    refine z_aload_n rfl rfl ?_
    refine z_getRn (m := 28) rfl fl_X4_37 rfl kd_0 rfl ?_
    refine z_getI rfl fl_X4_180 rfl kd_28 ?_
    refine z_icmp_ge rfl ?_ ?_
    · exact z_return rfl rfl
    · refine z_aload_n rfl rfl ?_
      refine z_getI rfl fl_X4_41 rfl kd_0 ?_
      refine z_bipush rfl rfl ?_
      refine z_icmp_ge rfl ?_ ?_
      · exact z_return rfl rfl
      · refine z_aload_n rfl rfl ?_
        refine z_getRn (m := 28) rfl fl_X4_37 rfl kd_0 rfl ?_
        refine z_iload_n rfl rfl ?_
        refine z_V1i ko3 mv_X4_195 kd_28 (t_X3_readOrder _ _) rfl rfl rfl rfl rfl (fun r4 h4 => ?_)
        refine z_if_ne rfl ?_ ?_
        · refine z_aload_n rfl rfl ?_
          refine z_aload_n rfl rfl ?_
          refine z_getRn (m := 10) rfl fl_X4_16 rfl kd_0 rfl ?_
          refine z_V1i ko4 mv_X4_205 kd_0 (t_X4_doOrder 10 kd_10 _) rfl rfl rfl rfl rfl (fun r5 h5 => ?_)
          refine z_istore_n rfl rfl ?_
          refine z_iload_n rfl rfl ?_
          refine z_if_ge rfl ?_ ?_
          · refine z_aload_n rfl rfl ?_
            refine z_dup rfl rfl ?_
            refine z_getI rfl fl_X4_41 rfl kd_0 ?_
            refine z_iconst rfl rfl ?_
            refine z_iadd rfl ?_
            refine z_putL fi_X4_41 rfl kd_0 rfl (fun h6 => ?_)
            refine z_aload_n rfl rfl ?_
            refine z_getRn (m := 28) rfl fl_X4_37 rfl kd_0 rfl ?_
            refine z_getI rfl fl_X4_198 rfl kd_28 ?_
            refine z_istore_nL rfl rfl (fun y7 => ?_)
            refine z_goto rfl ?_
            refine Z.weak ?_ (ih _ _)
            exact wkL_c (wkL_c (wkL_n (wkL_nil _)))
          · refine z_aload_n rfl rfl ?_
            refine z_iload_n rfl rfl ?_
            refine z_iconst rfl rfl ?_
            refine z_iload_n rfl rfl ?_
            refine z_V3v ko4 mv_X4_201 kd_0 (t_X4_tellFault _ _ _ _) rfl rfl rfl rfl rfl (fun _ h8 => ?_)
            exact z_return rfl rfl
        · refine Z.weak ?_ (hc27 _ _)
          exact wkL_c (wkL_c (wkL_n (wkL_nil _)))
set_option maxRecDepth 20000 in
set_option maxHeartbeats 1000000 in
theorem t_X4_tryText  (h : Hp) : Ct M_X4_tryText [vr 0] h (f_X4_tryText  h) := by
  refine Ct.mk ok_X4_tryText pl_X4_tryText rfl rfl ?_
  show Z M_X4_tryText 0 [some (vr 0), none, none] [] h (f_X4_tryText  h)
  unfold f_X4_tryText
  refine z_aload_n rfl rfl ?_
  refine z_getRn (m := 10) rfl fl_X4_16 rfl kd_0 rfl ?_
  refine z_aload_n rfl rfl ?_
  refine z_getRn (m := 1) rfl fl_X4_10 rfl kd_0 rfl ?_
  refine z_V1v ko1 mv_X4_154 kd_10 (t_X1_become 10 kd_10 1 kd_1 _) rfl rfl rfl rfl rfl (fun _ h1 => ?_)
  refine z_aload_n rfl rfl ?_
  refine z_iconst rfl rfl ?_
  refine z_putL fi_X4_41 rfl kd_0 rfl (fun h2 => ?_)
  refine z_aload_n rfl rfl ?_
  refine z_iconst rfl rfl ?_
  refine z_putL fi_X4_44 rfl kd_0 rfl (fun h3 => ?_)
  refine z_iconst rfl rfl ?_
  refine z_istore_n rfl rfl ?_
  refine Z.weak ?_ (t_X4_tryText_L13   _  ?_  fu _ _)
  · exact wkL_c (wkL_c (wkL_n (wkL_nil _)))
  · intro y9 h10
    refine z_aload_n rfl rfl ?_
    refine z_iload_n rfl rfl ?_
    refine z_iconst rfl rfl ?_
    refine z_aload_n rfl rfl ?_
    refine z_getRn (m := 28) rfl fl_X4_37 rfl kd_0 rfl ?_
    refine z_getI rfl fl_X4_198 rfl kd_28 ?_
    refine z_iload_n rfl rfl ?_
    refine z_isub rfl ?_
    refine z_V3v ko4 mv_X4_201 kd_0 (t_X4_tellFault _ _ _ _) rfl rfl rfl rfl rfl (fun _ h11 => ?_)
    exact z_return rfl rfl
set_option maxRecDepth 20000 in
set_option maxHeartbeats 1000000 in
theorem t_X4_fault (x1 : Int) (h : Hp) : Ct M_X4_fault [vr 0, vi x1] h (f_X4_fault x1 h) := by
  refine Ct.mk ok_X4_fault pl_X4_fault rfl rfl ?_
  show Z M_X4_fault 0 [some (vr 0), some (vi x1)] [] h (f_X4_fault x1 h)
  unfold f_X4_fault
  refine z_iload_n rfl rfl ?_
  refine z_if_lt rfl ?_ ?_
  · refine z_ldc rfl cst_X4_99 rfl ?_
    exact z_ireturn rfl rfl
  · refine z_iload_n rfl rfl ?_
    refine z_iconst rfl rfl ?_
    refine z_icmp_le rfl ?_ ?_
    · refine z_aload_n rfl rfl ?_
      refine z_V0v ko4 mv_X4_189 kd_0 (t_X4_tryText  _) rfl rfl rfl rfl rfl (fun _ h1 => ?_)
      refine z_aload_n rfl rfl ?_
      refine z_getI rfl fl_X4_44 rfl kd_0 ?_
      refine z_iconst rfl rfl ?_
      refine z_icmp_ne rfl ?_ ?_
      · refine z_iload_n rfl rfl ?_
        refine z_if_ne rfl ?_ ?_
        · refine z_iload_n rfl rfl ?_
          refine z_iconst rfl rfl ?_
          refine z_icmp_ne rfl ?_ ?_
          · refine z_aload_n rfl rfl ?_
            refine z_getI rfl fl_X4_50 rfl kd_0 ?_
            exact z_ireturn rfl rfl
          · refine z_aload_n rfl rfl ?_
            refine z_getI rfl fl_X4_47 rfl kd_0 ?_
            refine z_goto rfl ?_
            exact z_ireturn rfl rfl
        · refine z_aload_n rfl rfl ?_
          refine z_getI rfl fl_X4_44 rfl kd_0 ?_
          exact z_ireturn rfl rfl
      · refine z_ldc rfl cst_X4_112 rfl ?_
        exact z_ireturn rfl rfl
    · refine z_ldc rfl cst_X4_99 rfl ?_
      exact z_ireturn rfl rfl
set_option maxRecDepth 20000 in
set_option maxHeartbeats 1000000 in
theorem t_X4_find (x1 : Int) (x2 : Int) (x3 : Int) (x4 : Int) (h : Hp) : Ct M_X4_find [vr 0, vi x1, vi x2, vi x3, vi x4] h (f_X4_find x1 x2 x3 x4 h) := by
  refine Ct.mk ok_X4_find pl_X4_find rfl rfl ?_
  show Z M_X4_find 0 [some (vr 0), some (vi x1), some (vi x2), some (vi x3), some (vi x4)] [] h (f_X4_find x1 x2 x3 x4 h)
  unfold f_X4_find
  refine z_aload_n rfl rfl ?_
  refine z_V0v ko4 mv_X4_53 kd_0 (t_X4_keepState  _) rfl rfl rfl rfl rfl (fun _ h1 => ?_)
  refine z_aload_n rfl rfl ?_
  refine z_aload_n rfl rfl ?_
  refine z_getRn (m := 1) rfl fl_X4_10 rfl kd_0 rfl ?_
  refine z_iload_n rfl rfl ?_
  refine z_iload_n rfl rfl ?_
  refine z_iload_n rfl rfl ?_
  refine z_iload rfl rfl ?_
  refine z_V4i ko1 mv_X4_56 kd_1 (t_X1_takeUmbrella 1 kd_1 _ _ _ _ _) rfl rfl rfl rfl rfl (fun r2 h2 => ?_)
  refine z_V1i ko4 mv_X4_60 kd_0 (t_X4_recorded _ _) rfl rfl rfl rfl rfl (fun r3 h3 => ?_)
  exact z_ireturn rfl rfl
set_option maxRecDepth 20000 in
set_option maxHeartbeats 1000000 in
theorem t_X4_hand  (h : Hp) : Ct M_X4_hand [vr 0] h (f_X4_hand  h) := by
  refine Ct.mk ok_X4_hand pl_X4_hand rfl rfl ?_
  show Z M_X4_hand 0 [some (vr 0)] [] h (f_X4_hand  h)
  unfold f_X4_hand
  refine z_aload_n rfl rfl ?_
  refine z_V0v ko4 mv_X4_53 kd_0 (t_X4_keepState  _) rfl rfl rfl rfl rfl (fun _ h1 => ?_)
  refine z_aload_n rfl rfl ?_
  refine z_getRn (m := 19) rfl fl_X4_22 rfl kd_0 rfl ?_
  refine z_aload_n rfl rfl ?_
  refine z_getRn (m := 1) rfl fl_X4_10 rfl kd_0 rfl ?_
  refine z_V1v ko0 mv_X4_78 kd_19 (t_X0_matchAll 1 kd_1 _) rfl rfl rfl rfl rfl (fun _ h2 => ?_)
  refine z_aload_n rfl rfl ?_
  refine z_aload_n rfl rfl ?_
  refine z_getRn (m := 1) rfl fl_X4_10 rfl kd_0 rfl ?_
  refine z_aload_n rfl rfl ?_
  refine z_getRn (m := 19) rfl fl_X4_22 rfl kd_0 rfl ?_
  refine z_V1i ko1 mv_X4_82 kd_1 (t_X1_handOut 1 kd_1 _) rfl rfl rfl rfl rfl (fun r3 h3 => ?_)
  refine z_V1i ko4 mv_X4_60 kd_0 (t_X4_recorded _ _) rfl rfl rfl rfl rfl (fun r4 h4 => ?_)
  exact z_ireturn rfl rfl
set_option maxRecDepth 20000 in
set_option maxHeartbeats 1000000 in
theorem t_X4_having (x1 : Int) (x2 : Int) (h : Hp) : Ct M_X4_having [vr 0, vi x1, vi x2] h (f_X4_having x1 x2 h) := by
  refine Ct.mk ok_X4_having pl_X4_having rfl rfl ?_
  show Z M_X4_having 0 [some (vr 0), some (vi x1), some (vi x2)] [] h (f_X4_having x1 x2 h)
  unfold f_X4_having
  refine z_iload_n rfl rfl ?_
  refine z_S1i ms_X4_135 (t_X4_isDetail _ _) rfl rfl rfl rfl (fun r1 h1 => ?_)
  refine z_if_eq rfl ?_ ?_
  · refine z_ldc rfl cst_X4_99 rfl ?_
    exact z_ireturn rfl rfl
  · refine z_iload_n rfl rfl ?_
    refine z_S1i ms_X4_138 (t_X4_isValue _ _) rfl rfl rfl rfl (fun r2 h2 => ?_)
    refine z_if_ne rfl ?_ ?_
    · refine z_aload_n rfl rfl ?_
      refine z_getRn (m := 1) rfl fl_X4_10 rfl kd_0 rfl ?_
      refine z_iload_n rfl rfl ?_
      refine z_iload_n rfl rfl ?_
      refine z_V2i ko1 mv_X4_141 kd_1 (t_X1_umbrellasWith 1 kd_1 _ _ _) rfl rfl rfl rfl rfl (fun r3 h3 => ?_)
      exact z_ireturn rfl rfl
    · refine z_ldc rfl cst_X4_99 rfl ?_
      exact z_ireturn rfl rfl
set_option maxRecDepth 20000 in
set_option maxHeartbeats 1000000 in
theorem t_X4_ifTold (x1 : Int) (x2 : Int) (x3 : Int) (h : Hp) : Ct M_X4_ifTold [vr 0, vi x1, vi x2, vi x3] h (f_X4_ifTold x1 x2 x3 h) := by
  refine Ct.mk ok_X4_ifTold pl_X4_ifTold rfl rfl ?_
  show Z M_X4_ifTold 0 [some (vr 0), some (vi x1), some (vi x2), some (vi x3), none] [] h (f_X4_ifTold x1 x2 x3 h)
  unfold f_X4_ifTold
  refine z_aload_n rfl rfl ?_
  refine z_getRn (m := 10) rfl fl_X4_16 rfl kd_0 rfl ?_
  refine z_aload_n rfl rfl ?_
  refine z_getRn (m := 1) rfl fl_X4_10 rfl kd_0 rfl ?_
  refine z_V1v ko1 mv_X4_154 kd_10 (t_X1_become 10 kd_10 1 kd_1 _) rfl rfl rfl rfl rfl (fun _ h1 => ?_)
  refine z_aload_n rfl rfl ?_
  refine z_getRn (m := 10) rfl fl_X4_16 rfl kd_0 rfl ?_
  refine z_iload_n rfl rfl ?_
  refine z_iload_n rfl rfl ?_
  refine z_iload_n rfl rfl ?_
  refine z_V3i ko1 mv_X4_67 kd_10 (t_X1_noteDetail 10 kd_10 _ _ _ _) rfl rfl rfl rfl rfl (fun r2 h2 => ?_)
  refine z_istore rfl rfl ?_
  refine z_iload rfl rfl ?_
  refine z_if_ge rfl ?_ ?_
  · refine z_aload_n rfl rfl ?_
    refine z_getRn (m := 19) rfl fl_X4_22 rfl kd_0 rfl ?_
    refine z_aload_n rfl rfl ?_
    refine z_getRn (m := 10) rfl fl_X4_16 rfl kd_0 rfl ?_
    refine z_V1v ko0 mv_X4_78 kd_19 (t_X0_matchAll 10 kd_10 _) rfl rfl rfl rfl rfl (fun _ h3 => ?_)
    refine z_aload_n rfl rfl ?_
    refine z_getRn (m := 19) rfl fl_X4_22 rfl kd_0 rfl ?_
    refine z_iload_n rfl rfl ?_
    refine z_V1i ko0 mv_X4_119 kd_19 (t_X0_umbrellaMatched _ _) rfl rfl rfl rfl rfl (fun r4 h4 => ?_)
    refine z_S1i ms_X4_122 (t_X4_orNotFound _ _) rfl rfl rfl rfl (fun r5 h5 => ?_)
    exact z_ireturn rfl rfl
  · refine z_iload rfl rfl ?_
    exact z_ireturn rfl rfl
set_option maxRecDepth 20000 in
set_option maxHeartbeats 1000000 in
theorem t_X4_ifWeeks (x1 : Int) (x2 : Int) (h : Hp) : Ct M_X4_ifWeeks [vr 0, vi x1, vi x2] h (f_X4_ifWeeks x1 x2 h) := by
  refine Ct.mk ok_X4_ifWeeks pl_X4_ifWeeks rfl rfl ?_
  show Z M_X4_ifWeeks 0 [some (vr 0), some (vi x1), some (vi x2)] [] h (f_X4_ifWeeks x1 x2 h)
  unfold f_X4_ifWeeks
  refine z_iload_n rfl rfl ?_
  refine z_S1i ms_X4_157 (t_X4_isWeeksAtOnce _ _) rfl rfl rfl rfl (fun r1 h1 => ?_)
  refine z_if_eq rfl ?_ ?_
  · refine z_ldc rfl cst_X4_99 rfl ?_
    exact z_ireturn rfl rfl
  · refine z_iload_n rfl rfl ?_
    refine z_if_lt rfl ?_ ?_
    · refine z_ldc rfl cst_X4_99 rfl ?_
      exact z_ireturn rfl rfl
    · refine z_iload_n rfl rfl ?_
      refine z_iconst rfl rfl ?_
      refine z_icmp_le rfl ?_ ?_
      · refine z_aload_n rfl rfl ?_
        refine z_getRn (m := 10) rfl fl_X4_16 rfl kd_0 rfl ?_
        refine z_aload_n rfl rfl ?_
        refine z_getRn (m := 1) rfl fl_X4_10 rfl kd_0 rfl ?_
        refine z_V1v ko1 mv_X4_154 kd_10 (t_X1_become 10 kd_10 1 kd_1 _) rfl rfl rfl rfl rfl (fun _ h2 => ?_)
        refine z_aload_n rfl rfl ?_
        refine z_getRn (m := 10) rfl fl_X4_16 rfl kd_0 rfl ?_
        refine z_iload_n rfl rfl ?_
        refine z_sipush rfl rfl ?_
        refine z_V2i ko1 mv_X4_74 kd_10 (t_X1_passWeeks 10 kd_10 _ _ _) rfl rfl rfl rfl rfl (fun r3 h3 => ?_)
        refine z_pop rfl rfl ?_
        refine z_iload_n rfl rfl ?_
        refine z_if_ne rfl ?_ ?_
        · refine z_iload_n rfl rfl ?_
          refine z_iconst rfl rfl ?_
          refine z_icmp_ne rfl ?_ ?_
          · refine z_aload_n rfl rfl ?_
            refine z_getRn (m := 19) rfl fl_X4_22 rfl kd_0 rfl ?_
            refine z_aload_n rfl rfl ?_
            refine z_getRn (m := 10) rfl fl_X4_16 rfl kd_0 rfl ?_
            refine z_V1v ko0 mv_X4_78 kd_19 (t_X0_matchAll 10 kd_10 _) rfl rfl rfl rfl rfl (fun _ h4 => ?_)
            refine z_aload_n rfl rfl ?_
            refine z_getRn (m := 19) rfl fl_X4_22 rfl kd_0 rfl ?_
            refine z_getI rfl fl_X4_163 rfl kd_19 ?_
            exact z_ireturn rfl rfl
          · refine z_aload_n rfl rfl ?_
            refine z_getRn (m := 10) rfl fl_X4_16 rfl kd_0 rfl ?_
            refine z_bipush rfl rfl ?_
            refine z_V1i ko1 mv_X4_160 kd_10 (t_X1_sum 10 kd_10 _ _) rfl rfl rfl rfl rfl (fun r5 h5 => ?_)
            refine z_aload_n rfl rfl ?_
            refine z_getRn (m := 1) rfl fl_X4_10 rfl kd_0 rfl ?_
            refine z_bipush rfl rfl ?_
            refine z_V1i ko1 mv_X4_160 kd_1 (t_X1_sum 1 kd_1 _ _) rfl rfl rfl rfl rfl (fun r6 h6 => ?_)
            refine z_isub rfl ?_
            exact z_ireturn rfl rfl
        · refine z_aload_n rfl rfl ?_
          refine z_getRn (m := 10) rfl fl_X4_16 rfl kd_0 rfl ?_
          refine z_bipush rfl rfl ?_
          refine z_V1i ko1 mv_X4_160 kd_10 (t_X1_sum 10 kd_10 _ _) rfl rfl rfl rfl rfl (fun r7 h7 => ?_)
          refine z_aload_n rfl rfl ?_
          refine z_getRn (m := 1) rfl fl_X4_10 rfl kd_0 rfl ?_
          refine z_bipush rfl rfl ?_
          refine z_V1i ko1 mv_X4_160 kd_1 (t_X1_sum 1 kd_1 _ _) rfl rfl rfl rfl rfl (fun r8 h8 => ?_)
          refine z_isub rfl ?_
          exact z_ireturn rfl rfl
      · refine z_ldc rfl cst_X4_99 rfl ?_
        exact z_ireturn rfl rfl
set_option maxRecDepth 20000 in
set_option maxHeartbeats 1000000 in
theorem t_X4_isPair (x1 : Int) (x2 : Int) (h : Hp) : Ct M_X4_isPair [vr 0, vi x1, vi x2] h (f_X4_isPair x1 x2 h) := by
  refine Ct.mk ok_X4_isPair pl_X4_isPair rfl rfl ?_
  show Z M_X4_isPair 0 [some (vr 0), some (vi x1), some (vi x2)] [] h (f_X4_isPair x1 x2 h)
  unfold f_X4_isPair
  refine z_aload_n rfl rfl ?_
  refine z_getRn (m := 1) rfl fl_X4_10 rfl kd_0 rfl ?_
  refine z_getRn (m := 2) rfl fl_X4_89 rfl kd_1 rfl ?_
  refine z_iload_n rfl rfl ?_
  refine z_V1i ko2 mv_X4_93 kd_2 (t_X2_has 2 kd_2 _ _) rfl rfl rfl rfl rfl (fun r1 h1 => ?_)
  refine z_if_eq rfl ?_ ?_
  · refine z_iconst rfl rfl ?_
    exact z_zret0 rfl rfl
  · refine z_aload_n rfl rfl ?_
    refine z_getRn (m := 1) rfl fl_X4_10 rfl kd_0 rfl ?_
    refine z_getRn (m := 4) rfl fl_X4_116 rfl kd_1 rfl ?_
    refine z_iload_n rfl rfl ?_
    refine z_V1i ko2 mv_X4_93 kd_4 (t_X2_has 4 kd_4 _ _) rfl rfl rfl rfl rfl (fun r2 h2 => ?_)
    refine z_if_eq rfl ?_ ?_
    · refine z_iconst rfl rfl ?_
      exact z_zret0 rfl rfl
    · refine z_iconst rfl rfl ?_
      refine z_goto rfl ?_
      exact z_zret1 rfl rfl
set_option maxRecDepth 20000 in
set_option maxHeartbeats 1000000 in
theorem t_X4_mean  (h : Hp) : Ct M_X4_mean [vr 0] h (f_X4_mean  h) := by
  refine Ct.mk ok_X4_mean pl_X4_mean rfl rfl ?_
  show Z M_X4_mean 0 [some (vr 0), none] [] h (f_X4_mean  h)
  unfold f_X4_mean
  refine z_aload_n rfl rfl ?_
  refine z_getRn (m := 19) rfl fl_X4_22 rfl kd_0 rfl ?_
  refine z_aload_n rfl rfl ?_
  refine z_getRn (m := 1) rfl fl_X4_10 rfl kd_0 rfl ?_
  refine z_V1v ko0 mv_X4_78 kd_19 (t_X0_matchAll 1 kd_1 _) rfl rfl rfl rfl rfl (fun _ h1 => ?_)
  refine z_aload_n rfl rfl ?_
  refine z_getRn (m := 19) rfl fl_X4_22 rfl kd_0 rfl ?_
  refine z_getI rfl fl_X4_163 rfl kd_19 ?_
  refine z_istore_nL rfl rfl (fun y2 => ?_)
  refine z_iload_n rfl rfl ?_
  refine z_if_gt rfl ?_ ?_
  · refine z_aload_n rfl rfl ?_
    refine z_getRn (m := 19) rfl fl_X4_22 rfl kd_0 rfl ?_
    refine z_V0i ko0 mv_X4_166 kd_19 (t_X0_worthOfMatched  _) rfl rfl rfl rfl rfl (fun r3 h3 => ?_)
    refine z_i2f rfl ?_
    refine z_iload_n rfl rfl ?_
    refine z_i2f rfl ?_
    refine z_fdiv rfl ?_
    refine z_S1i ms_X4_170 (t_X4_bitsOf _ _) rfl rfl rfl rfl (fun r4 h4 => ?_)
    exact z_ireturn rfl rfl
  · refine z_ldc rfl cst_X4_112 rfl ?_
    exact z_ireturn rfl rfl
set_option maxRecDepth 20000 in
set_option maxHeartbeats 1000000 in
theorem t_X4_oddest_L6  : ∀ (n : Nat) (x1 : Int) (x2 : Int) (x3 : Int) (h : Hp), Z M_X4_oddest 6 [some (vr 0), some (vi x1), some (vi x2), some (vi x3), none] [] h (f_X4_oddest_L6  n x1 x2 x3 h) := by
  intro n
  induction n with
  | zero => intro x1 x2 x3 h; exact Z.nix
  | succ n ih =>
    intro x1 x2 x3 h
    rw [f_X4_oddest_L6_s]
    refine z_iload_n rfl rfl ?_
    refine z_aload_n rfl rfl ?_
    refine z_getRn (m := 1) rfl fl_X4_10 rfl kd_0 rfl ?_
    refine z_getRn (m := 2) rfl fl_X4_89 rfl kd_1 rfl ?_
    refine z_getI rfl fl_X4_147 rfl kd_2 ?_
    refine z_icmp_ge rfl ?_ ?_
    · refine z_iload_n rfl rfl ?_
      refine z_S1i ms_X4_122 (t_X4_orNotFound _ _) rfl rfl rfl rfl (fun r1 h1 => ?_)
      exact z_ireturn rfl rfl
    · refine z_aload_n rfl rfl ?_
      refine z_getRn (m := 1) rfl fl_X4_10 rfl kd_0 rfl ?_
      refine z_iload_n rfl rfl ?_
      refine z_V1i ko1 mv_X4_103 kd_1 (t_X1_oddnessTogether 1 kd_1 _ _) rfl rfl rfl rfl rfl (fun r2 h2 => ?_)
      refine z_istore rfl rfl ?_
      refine z_iload_n rfl rfl ?_
      refine z_iconst rfl rfl ?_
      refine z_icmp_eq rfl ?_ ?_
      · refine z_iload_n rfl rfl ?_
        refine z_istore_n rfl rfl ?_
        refine z_iload rfl rfl ?_
        refine z_istore_n rfl rfl ?_
        refine z_iinc rfl rfl rfl ?_
        refine z_goto rfl ?_
        refine Z.weak ?_ (ih _ _ _ _)
        exact wkL_c (wkL_c (wkL_c (wkL_c (wkL_n (wkL_nil _)))))
      · refine z_iload rfl rfl ?_
        refine z_iload_n rfl rfl ?_
        refine z_icmp_le rfl ?_ ?_
        · refine z_iinc rfl rfl rfl ?_
          refine z_goto rfl ?_
          refine Z.weak ?_ (ih _ _ _ _)
          exact wkL_c (wkL_c (wkL_c (wkL_c (wkL_n (wkL_nil _)))))
        · refine z_iload_n rfl rfl ?_
          refine z_istore_n rfl rfl ?_
          refine z_iload rfl rfl ?_
          refine z_istore_n rfl rfl ?_
          refine z_iinc rfl rfl rfl ?_
          refine z_goto rfl ?_
          refine Z.weak ?_ (ih _ _ _ _)
          exact wkL_c (wkL_c (wkL_c (wkL_c (wkL_n (wkL_nil _)))))
set_option maxRecDepth 20000 in
set_option maxHeartbeats 1000000 in
theorem t_X4_oddest  (h : Hp) : Ct M_X4_oddest [vr 0] h (f_X4_oddest  h) := by
  refine Ct.mk ok_X4_oddest pl_X4_oddest rfl rfl ?_
  show Z M_X4_oddest 0 [some (vr 0), none, none, none, none] [] h (f_X4_oddest  h)
  unfold f_X4_oddest
  refine z_iconst rfl rfl ?_
  refine z_istore_n rfl rfl ?_
  refine z_iconst rfl rfl ?_
  refine z_istore_n rfl rfl ?_
  refine z_iconst rfl rfl ?_
  refine z_istore_n rfl rfl ?_
  refine Z.weak ?_ (t_X4_oddest_L6      fu _ _ _ _)
  · exact wkL_c (wkL_c (wkL_c (wkL_c (wkL_n (wkL_nil _)))))
set_option maxRecDepth 20000 in
set_option maxHeartbeats 1000000 in
theorem t_X4_play  (h : Hp) : Ct M_X4_play [vr 0] h (f_X4_play  h) := by
  refine Ct.mk ok_X4_play pl_X4_play rfl rfl ?_
  show Z M_X4_play 0 [some (vr 0)] [] h (f_X4_play  h)
  unfold f_X4_play
  refine z_aload_n rfl rfl ?_
  refine z_V0v ko4 mv_X4_189 kd_0 (t_X4_tryText  _) rfl rfl rfl rfl rfl (fun _ h1 => ?_)
  refine z_aload_n rfl rfl ?_
  refine z_getI rfl fl_X4_44 rfl kd_0 ?_
  refine z_iconst rfl rfl ?_
  refine z_icmp_eq rfl ?_ ?_
  · refine z_aload_n rfl rfl ?_
    refine z_V0v ko4 mv_X4_53 kd_0 (t_X4_keepState  _) rfl rfl rfl rfl rfl (fun _ h2 => ?_)
    refine z_aload_n rfl rfl ?_
    refine z_getRn (m := 1) rfl fl_X4_10 rfl kd_0 rfl ?_
    refine z_aload_n rfl rfl ?_
    refine z_getRn (m := 10) rfl fl_X4_16 rfl kd_0 rfl ?_
    refine z_V1v ko1 mv_X4_154 kd_1 (t_X1_become 1 kd_1 10 kd_10 _) rfl rfl rfl rfl rfl (fun _ h3 => ?_)
    refine z_aload_n rfl rfl ?_
    refine z_aload_n rfl rfl ?_
    refine z_getI rfl fl_X4_41 rfl kd_0 ?_
    refine z_V1i ko4 mv_X4_60 kd_0 (t_X4_recorded _ _) rfl rfl rfl rfl rfl (fun r4 h4 => ?_)
    exact z_ireturn rfl rfl
  · refine z_ldc rfl cst_X4_183 rfl ?_
    exact z_ireturn rfl rfl
set_option maxRecDepth 20000 in
set_option maxHeartbeats 1000000 in
theorem t_X4_points (x1 : Int) (x2 : Int) (h : Hp) : Ct M_X4_points [vr 0, vi x1, vi x2] h (f_X4_points x1 x2 h) := by
  refine Ct.mk ok_X4_points pl_X4_points rfl rfl ?_
  show Z M_X4_points 0 [some (vr 0), some (vi x1), some (vi x2)] [] h (f_X4_points x1 x2 h)
  unfold f_X4_points
  refine z_aload_n rfl rfl ?_
  refine z_iload_n rfl rfl ?_
  refine z_iload_n rfl rfl ?_
  refine z_V2i ko4 mv_X4_128 kd_0 (t_X4_isPair _ _ _) rfl rfl rfl rfl rfl (fun r1 h1 => ?_)
  refine z_if_ne rfl ?_ ?_
  · refine z_aload_n rfl rfl ?_
    refine z_getRn (m := 19) rfl fl_X4_22 rfl kd_0 rfl ?_
    refine z_aload_n rfl rfl ?_
    refine z_getRn (m := 1) rfl fl_X4_10 rfl kd_0 rfl ?_
    refine z_V1v ko0 mv_X4_132 kd_19 (t_X0_weighAll 1 kd_1 _) rfl rfl rfl rfl rfl (fun _ h2 => ?_)
    refine z_sipush rfl rfl ?_
    refine z_aload_n rfl rfl ?_
    refine z_getRn (m := 19) rfl fl_X4_22 rfl kd_0 rfl ?_
    refine z_iload_n rfl rfl ?_
    refine z_iload_n rfl rfl ?_
    refine z_V2i ko0 mv_X4_113 kd_19 (t_X0_worthOf _ _ _) rfl rfl rfl rfl rfl (fun r3 h3 => ?_)
    refine z_iadd rfl ?_
    exact z_ireturn rfl rfl
  · refine z_ldc rfl cst_X4_99 rfl ?_
    exact z_ireturn rfl rfl
set_option maxRecDepth 20000 in
set_option maxHeartbeats 1000000 in
theorem t_X4_set (x1 : Int) (x2 : Int) (h : Hp) : Ct M_X4_set [vr 0, vi x1, vi x2] h (f_X4_set x1 x2 h) := by
  refine Ct.mk ok_X4_set pl_X4_set rfl rfl ?_
  show Z M_X4_set 0 [some (vr 0), some (vi x1), some (vi x2)] [] h (f_X4_set x1 x2 h)
  unfold f_X4_set
  refine z_aload_n rfl rfl ?_
  refine z_V0v ko4 mv_X4_53 kd_0 (t_X4_keepState  _) rfl rfl rfl rfl rfl (fun _ h1 => ?_)
  refine z_aload_n rfl rfl ?_
  refine z_aload_n rfl rfl ?_
  refine z_getRn (m := 1) rfl fl_X4_10 rfl kd_0 rfl ?_
  refine z_iload_n rfl rfl ?_
  refine z_iload_n rfl rfl ?_
  refine z_V2i ko1 mv_X4_86 kd_1 (t_X1_changeSetting 1 kd_1 _ _ _) rfl rfl rfl rfl rfl (fun r2 h2 => ?_)
  refine z_V1i ko4 mv_X4_60 kd_0 (t_X4_recorded _ _) rfl rfl rfl rfl rfl (fun r3 h3 => ?_)
  exact z_ireturn rfl rfl
set_option maxRecDepth 20000 in
set_option maxHeartbeats 1000000 in
theorem t_X4_tell (x1 : Int) (x2 : Int) (x3 : Int) (h : Hp) : Ct M_X4_tell [vr 0, vi x1, vi x2, vi x3] h (f_X4_tell x1 x2 x3 h) := by
  refine Ct.mk ok_X4_tell pl_X4_tell rfl rfl ?_
  show Z M_X4_tell 0 [some (vr 0), some (vi x1), some (vi x2), some (vi x3)] [] h (f_X4_tell x1 x2 x3 h)
  unfold f_X4_tell
  refine z_aload_n rfl rfl ?_
  refine z_V0v ko4 mv_X4_53 kd_0 (t_X4_keepState  _) rfl rfl rfl rfl rfl (fun _ h1 => ?_)
  refine z_aload_n rfl rfl ?_
  refine z_aload_n rfl rfl ?_
  refine z_getRn (m := 1) rfl fl_X4_10 rfl kd_0 rfl ?_
  refine z_iload_n rfl rfl ?_
  refine z_iload_n rfl rfl ?_
  refine z_iload_n rfl rfl ?_
  refine z_V3i ko1 mv_X4_67 kd_1 (t_X1_noteDetail 1 kd_1 _ _ _ _) rfl rfl rfl rfl rfl (fun r2 h2 => ?_)
  refine z_V1i ko4 mv_X4_60 kd_0 (t_X4_recorded _ _) rfl rfl rfl rfl rfl (fun r3 h3 => ?_)
  exact z_ireturn rfl rfl
set_option maxRecDepth 20000 in
set_option maxHeartbeats 1000000 in
theorem t_X4_type (x1 : Int) (h : Hp) : Ct M_X4_type [vr 0, vi x1] h (f_X4_type x1 h) := by
  refine Ct.mk ok_X4_type pl_X4_type rfl rfl ?_
  show Z M_X4_type 0 [some (vr 0), some (vi x1)] [] h (f_X4_type x1 h)
  unfold f_X4_type
  refine z_iload_n rfl rfl ?_
  refine z_bipush rfl rfl ?_
  refine z_icmp_lt rfl ?_ ?_
  · refine z_ldc rfl cst_X4_99 rfl ?_
    exact z_ireturn rfl rfl
  · refine z_iload_n rfl rfl ?_
    refine z_bipush rfl rfl ?_
    refine z_icmp_le rfl ?_ ?_
    · refine z_aload_n rfl rfl ?_
      refine z_getRn (m := 28) rfl fl_X4_37 rfl kd_0 rfl ?_
      refine z_iload_n rfl rfl ?_
      refine z_i2c rfl ?_
      refine z_V1i ko3 mv_X4_184 kd_28 (t_X3_append _ _) rfl rfl rfl rfl rfl (fun r1 h1 => ?_)
      refine z_if_eq rfl ?_ ?_
      · refine z_ldc rfl cst_X4_188 rfl ?_
        exact z_ireturn rfl rfl
      · refine z_aload_n rfl rfl ?_
        refine z_getRn (m := 28) rfl fl_X4_37 rfl kd_0 rfl ?_
        refine z_getI rfl fl_X4_180 rfl kd_28 ?_
        refine z_goto rfl ?_
        exact z_ireturn rfl rfl
    · refine z_ldc rfl cst_X4_99 rfl ?_
      exact z_ireturn rfl rfl
set_option maxRecDepth 20000 in
set_option maxHeartbeats 1000000 in
theorem t_X4_umbrella (x1 : Int) (x2 : Int) (h : Hp) : Ct M_X4_umbrella [vr 0, vi x1, vi x2] h (f_X4_umbrella x1 x2 h) := by
  refine Ct.mk ok_X4_umbrella pl_X4_umbrella rfl rfl ?_
  show Z M_X4_umbrella 0 [some (vr 0), some (vi x1), some (vi x2), none] [] h (f_X4_umbrella x1 x2 h)
  unfold f_X4_umbrella
  refine z_aload_n rfl rfl ?_
  refine z_getRn (m := 1) rfl fl_X4_10 rfl kd_0 rfl ?_
  refine z_getRn (m := 2) rfl fl_X4_89 rfl kd_1 rfl ?_
  refine z_iload_n rfl rfl ?_
  refine z_V1i ko2 mv_X4_93 kd_2 (t_X2_has 2 kd_2 _ _) rfl rfl rfl rfl rfl (fun r1 h1 => ?_)
  refine z_if_eq rfl ?_ ?_
  · refine z_ldc rfl cst_X4_99 rfl ?_
    exact z_ireturn rfl rfl
  · refine z_iload_n rfl rfl ?_
    refine z_if_lt rfl ?_ ?_
    · refine z_ldc rfl cst_X4_99 rfl ?_
      exact z_ireturn rfl rfl
    · refine z_iload_n rfl rfl ?_
      refine z_bipush rfl rfl ?_
      refine z_icmp_le rfl ?_ ?_
      · refine z_iload_n rfl rfl ?_
        refine z_iconst rfl rfl ?_
        refine z_icmp_gt rfl ?_ ?_
        · refine z_iload_n rfl rfl ?_
          refine z_bipush rfl rfl ?_
          refine z_icmp_ne rfl ?_ ?_
          · refine z_aload_n rfl rfl ?_
            refine z_getRn (m := 19) rfl fl_X4_22 rfl kd_0 rfl ?_
            refine z_aload_n rfl rfl ?_
            refine z_getRn (m := 1) rfl fl_X4_10 rfl kd_0 rfl ?_
            refine z_V1v ko0 mv_X4_78 kd_19 (t_X0_matchAll 1 kd_1 _) rfl rfl rfl rfl rfl (fun _ h2 => ?_)
            refine z_iload_n rfl rfl ?_
            refine z_bipush rfl rfl ?_
            refine z_icmp_ne rfl ?_ ?_
            · refine z_aload_n rfl rfl ?_
              refine z_getRn (m := 19) rfl fl_X4_22 rfl kd_0 rfl ?_
              refine z_iload_n rfl rfl ?_
              refine z_V1i ko0 mv_X4_109 kd_19 (t_X0_claimMatched _ _) rfl rfl rfl rfl rfl (fun r3 h3 => ?_)
              refine z_istore_n rfl rfl ?_
              refine z_iload_n rfl rfl ?_
              refine z_iconst rfl rfl ?_
              refine z_icmp_ne rfl ?_ ?_
              · refine z_iload_n rfl rfl ?_
                refine z_iconst rfl rfl ?_
                refine z_icmp_ne rfl ?_ ?_
                · refine z_aload_n rfl rfl ?_
                  refine z_getRn (m := 19) rfl fl_X4_22 rfl kd_0 rfl ?_
                  refine z_iload_n rfl rfl ?_
                  refine z_iload_n rfl rfl ?_
                  refine z_V2i ko0 mv_X4_113 kd_19 (t_X0_worthOf _ _ _) rfl rfl rfl rfl rfl (fun r4 h4 => ?_)
                  exact z_ireturn rfl rfl
                · refine z_iload_n rfl rfl ?_
                  refine z_goto rfl ?_
                  exact z_ireturn rfl rfl
              · refine z_ldc rfl cst_X4_112 rfl ?_
                exact z_ireturn rfl rfl
            · refine z_aload_n rfl rfl ?_
              refine z_getRn (m := 19) rfl fl_X4_22 rfl kd_0 rfl ?_
              refine z_iload_n rfl rfl ?_
              refine z_V1i ko0 mv_X4_106 kd_19 (t_X0_claimsSuiting _ _) rfl rfl rfl rfl rfl (fun r5 h5 => ?_)
              exact z_ireturn rfl rfl
          · refine z_aload_n rfl rfl ?_
            refine z_getRn (m := 1) rfl fl_X4_10 rfl kd_0 rfl ?_
            refine z_iload_n rfl rfl ?_
            refine z_V1i ko1 mv_X4_103 kd_1 (t_X1_oddnessTogether 1 kd_1 _ _) rfl rfl rfl rfl rfl (fun r6 h6 => ?_)
            exact z_ireturn rfl rfl
        · refine z_aload_n rfl rfl ?_
          refine z_getRn (m := 1) rfl fl_X4_10 rfl kd_0 rfl ?_
          refine z_getRn (m := 2) rfl fl_X4_89 rfl kd_1 rfl ?_
          refine z_iload_n rfl rfl ?_
          refine z_iload_n rfl rfl ?_
          refine z_V2i ko2 mv_X4_100 kd_2 (t_X2_cell 2 kd_2 _ _ _) rfl rfl rfl rfl rfl (fun r7 h7 => ?_)
          exact z_ireturn rfl rfl
      · refine z_ldc rfl cst_X4_99 rfl ?_
        exact z_ireturn rfl rfl
set_option maxRecDepth 20000 in
set_option maxHeartbeats 1000000 in
theorem t_X4_undo  (h : Hp) : Ct M_X4_undo [vr 0] h (f_X4_undo  h) := by
  refine Ct.mk ok_X4_undo pl_X4_undo rfl rfl ?_
  show Z M_X4_undo 0 [some (vr 0)] [] h (f_X4_undo  h)
  unfold f_X4_undo
  refine z_aload_n rfl rfl ?_
  refine z_getI rfl fl_X4_30 rfl kd_0 ?_
  refine z_if_le rfl ?_ ?_
  · refine z_ldc rfl cst_X4_183 rfl ?_
    exact z_ireturn rfl rfl
  · refine z_aload_n rfl rfl ?_
    refine z_getI rfl fl_X4_30 rfl kd_0 ?_
    refine z_aload_n rfl rfl ?_
    refine z_getRn (m := 27) rfl fl_X4_26 rfl kd_0 rfl ?_
    refine z_alen (c := 3) rfl kd_27 (by omega) ?_
    refine z_icmp_le rfl ?_ ?_
    · refine z_aload_n rfl rfl ?_
      refine z_dup rfl rfl ?_
      refine z_getI rfl fl_X4_30 rfl kd_0 ?_
      refine z_iconst rfl rfl ?_
      refine z_isub rfl ?_
      refine z_putL fi_X4_30 rfl kd_0 rfl (fun h1 => ?_)
      refine z_aload_n rfl rfl ?_
      refine z_getRn (m := 1) rfl fl_X4_10 rfl kd_0 rfl ?_
      refine z_aload_n rfl rfl ?_
      refine z_getRn (m := 27) rfl fl_X4_26 rfl kd_0 rfl ?_
      refine z_aload_n rfl rfl ?_
      refine z_getI rfl fl_X4_30 rfl kd_0 ?_
      refine z_aaload rfl kd_27 (fun q2 => ?_)
      refine z_V1v ko1 mv_X4_154 kd_1 (t_X1_become 1 kd_1 (Int.toNat (h1 27 (Int.toNat (h1 0 4)))) q2 _) rfl rfl rfl rfl rfl (fun _ h3 => ?_)
      refine z_aload_n rfl rfl ?_
      refine z_getI rfl fl_X4_30 rfl kd_0 ?_
      exact z_ireturn rfl rfl
    · refine z_ldc rfl cst_X4_183 rfl ?_
      exact z_ireturn rfl rfl
set_option maxRecDepth 20000 in
set_option maxHeartbeats 1000000 in
theorem t_X4_weeks (x1 : Int) (h : Hp) : Ct M_X4_weeks [vr 0, vi x1] h (f_X4_weeks x1 h) := by
  refine Ct.mk ok_X4_weeks pl_X4_weeks rfl rfl ?_
  show Z M_X4_weeks 0 [some (vr 0), some (vi x1)] [] h (f_X4_weeks x1 h)
  unfold f_X4_weeks
  refine z_aload_n rfl rfl ?_
  refine z_V0v ko4 mv_X4_53 kd_0 (t_X4_keepState  _) rfl rfl rfl rfl rfl (fun _ h1 => ?_)
  refine z_aload_n rfl rfl ?_
  refine z_aload_n rfl rfl ?_
  refine z_getRn (m := 1) rfl fl_X4_10 rfl kd_0 rfl ?_
  refine z_iload_n rfl rfl ?_
  refine z_sipush rfl rfl ?_
  refine z_V2i ko1 mv_X4_74 kd_1 (t_X1_passWeeks 1 kd_1 _ _ _) rfl rfl rfl rfl rfl (fun r2 h2 => ?_)
  refine z_V1i ko4 mv_X4_60 kd_0 (t_X4_recorded _ _) rfl rfl rfl rfl rfl (fun r3 h3 => ?_)
  exact z_ireturn rfl rfl
set_option maxRecDepth 20000 in
set_option maxHeartbeats 1000000 in
theorem t_X4_why (x1 : Int) (x2 : Int) (h : Hp) : Ct M_X4_why [vr 0, vi x1, vi x2] h (f_X4_why x1 x2 h) := by
  refine Ct.mk ok_X4_why pl_X4_why rfl rfl ?_
  show Z M_X4_why 0 [some (vr 0), some (vi x1), some (vi x2)] [] h (f_X4_why x1 x2 h)
  unfold f_X4_why
  refine z_aload_n rfl rfl ?_
  refine z_iload_n rfl rfl ?_
  refine z_iload_n rfl rfl ?_
  refine z_V2i ko4 mv_X4_128 kd_0 (t_X4_isPair _ _ _) rfl rfl rfl rfl rfl (fun r1 h1 => ?_)
  refine z_if_ne rfl ?_ ?_
  · refine z_aload_n rfl rfl ?_
    refine z_getRn (m := 19) rfl fl_X4_22 rfl kd_0 rfl ?_
    refine z_aload_n rfl rfl ?_
    refine z_getRn (m := 1) rfl fl_X4_10 rfl kd_0 rfl ?_
    refine z_V1v ko0 mv_X4_78 kd_19 (t_X0_matchAll 1 kd_1 _) rfl rfl rfl rfl rfl (fun _ h2 => ?_)
    refine z_aload_n rfl rfl ?_
    refine z_getRn (m := 19) rfl fl_X4_22 rfl kd_0 rfl ?_
    refine z_iload_n rfl rfl ?_
    refine z_iload_n rfl rfl ?_
    refine z_aload_n rfl rfl ?_
    refine z_getRn (m := 1) rfl fl_X4_10 rfl kd_0 rfl ?_
    refine z_V3i ko0 mv_X4_150 kd_19 (t_X0_reasonAgainst _ _ 1 kd_1 _) rfl rfl rfl rfl rfl (fun r3 h3 => ?_)
    exact z_ireturn rfl rfl
  · refine z_ldc rfl cst_X4_99 rfl ?_
    exact z_ireturn rfl rfl
end
section
/-! printed by wip/gen/gen.py: the bytecode does what the functions say -/
set_option maxRecDepth 20000 in
set_option maxHeartbeats 1000000 in
theorem t_X5_in (x0 : Int) (x1 : Int) (x2 : Int) (h : Hp) : Ct M_X5_in [vi x0, vi x1, vi x2] h (f_X5_in x0 x1 x2 h) := by
  refine Ct.mk ok_X5_in pl_X5_in rfl rfl ?_
  show Z M_X5_in 0 [some (vi x0), some (vi x1), some (vi x2)] [] h (f_X5_in x0 x1 x2 h)
  unfold f_X5_in
  refine z_iload_n rfl rfl ?_
  refine z_iload_n rfl rfl ?_
  refine z_icmp_lt rfl ?_ ?_
  · refine z_iconst rfl rfl ?_
    exact z_zret0 rfl rfl
  · refine z_iload_n rfl rfl ?_
    refine z_iload_n rfl rfl ?_
    refine z_icmp_gt rfl ?_ ?_
    · refine z_iconst rfl rfl ?_
      exact z_zret0 rfl rfl
    · refine z_iconst rfl rfl ?_
      refine z_goto rfl ?_
      exact z_zret1 rfl rfl
set_option maxRecDepth 20000 in
set_option maxHeartbeats 1000000 in
theorem t_X5_areValues (x0 : Int) (x1 : Int) (x2 : Int) (x3 : Int) (x4 : Int) (h : Hp) : Ct M_X5_areValues [vi x0, vi x1, vi x2, vi x3, vi x4] h (f_X5_areValues x0 x1 x2 x3 x4 h) := by
  refine Ct.mk ok_X5_areValues pl_X5_areValues rfl rfl ?_
  show Z M_X5_areValues 0 [some (vi x0), some (vi x1), some (vi x2), some (vi x3), some (vi x4)] [] h (f_X5_areValues x0 x1 x2 x3 x4 h)
  unfold f_X5_areValues
  refine z_iload_n rfl rfl ?_
  refine z_iload_n rfl rfl ?_
  refine z_bipush rfl rfl ?_
  refine z_S3i ms_X5_90 (t_X5_in _ _ _ _) rfl rfl rfl rfl (fun r1 h1 => ?_)
  refine z_if_eq rfl ?_ ?_
  · refine z_iconst rfl rfl ?_
    exact z_zret0 rfl rfl
  · refine z_iload_n rfl rfl ?_
    refine z_iload_n rfl rfl ?_
    refine z_bipush rfl rfl ?_
    refine z_S3i ms_X5_90 (t_X5_in _ _ _ _) rfl rfl rfl rfl (fun r2 h2 => ?_)
    refine z_if_eq rfl ?_ ?_
    · refine z_iconst rfl rfl ?_
      exact z_zret0 rfl rfl
    · refine z_iload_n rfl rfl ?_
      refine z_iload_n rfl rfl ?_
      refine z_bipush rfl rfl ?_
      refine z_S3i ms_X5_90 (t_X5_in _ _ _ _) rfl rfl rfl rfl (fun r3 h3 => ?_)
      refine z_if_eq rfl ?_ ?_
      · refine z_iconst rfl rfl ?_
        exact z_zret0 rfl rfl
      · refine z_iload rfl rfl ?_
        refine z_iload_n rfl rfl ?_
        refine z_bipush rfl rfl ?_
        refine z_S3i ms_X5_90 (t_X5_in _ _ _ _) rfl rfl rfl rfl (fun r4 h4 => ?_)
        refine z_if_eq rfl ?_ ?_
        · refine z_iconst rfl rfl ?_
          exact z_zret0 rfl rfl
        · refine z_iconst rfl rfl ?_
          refine z_goto rfl ?_
          exact z_zret1 rfl rfl
set_option maxRecDepth 20000 in
set_option maxHeartbeats 1000000 in
theorem t_X5_asks_L13 (x1 : Int) (x2 : Int) (x4 : Int) (c59 : Int → Hp → Option (Int × Hp)) (hc59 : ∀ (y5 : Int) (h : Hp), Z M_X5_asks 59 [some (vr 76), some (vi x1), some (vi x2), none, some (vi x4), some (vi y5), none, none] [] h (c59 y5 h)) : ∀ (n : Nat) (x5 : Int) (x6 : Int) (h : Hp), Z M_X5_asks 13 [some (vr 76), some (vi x1), some (vi x2), none, some (vi x4), some (vi x5), some (vi x6), none] [] h (f_X5_asks_L13 x1 x2 x4 c59 n x5 x6 h) := by
  intro n
  induction n with
  | zero => intro x5 x6 h; exact Z.nix
  | succ n ih =>
    intro x5 x6 h
    rw [f_X5_asks_L13_s]
    refine z_iload rfl rfl ?_
    refine z_bipush rfl rfl ?_
    refine z_icmp_ge rfl ?_ ?_
    · refine Z.weak ?_ (hc59 _ _)
      exact wkL_c (wkL_c (wkL_c (wkL_n (wkL_c (wkL_c (wkL_n (wkL_n (wkL_nil _))))))))
    · refine z_aload_n rfl rfl ?_
      refine z_getRn (m := 81) rfl fl_X5_22 rfl kd_76 rfl ?_
      refine z_bipush rfl rfl ?_
      refine z_iload rfl rfl ?_
      refine z_imul rfl ?_
      refine z_iload_n rfl rfl ?_
      refine z_iadd rfl ?_
      refine z_iaload rfl kd_81 ?_
      refine z_aload_n rfl rfl ?_
      refine z_getRn (m := 81) rfl fl_X5_22 rfl kd_76 rfl ?_
      refine z_bipush rfl rfl ?_
      refine z_iload rfl rfl ?_
      refine z_imul rfl ?_
      refine z_iload_n rfl rfl ?_
      refine z_iadd rfl ?_
      refine z_iaload rfl kd_81 ?_
      refine z_isub rfl ?_
      refine z_istoreL rfl rfl (fun y1 => ?_)
      refine z_iload rfl rfl ?_
      refine z_aload_n rfl rfl ?_
      refine z_getRn (m := 81) rfl fl_X5_22 rfl kd_76 rfl ?_
      refine z_bipush rfl rfl ?_
      refine z_iload rfl rfl ?_
      refine z_imul rfl ?_
      refine z_iload_n rfl rfl ?_
      refine z_iadd rfl ?_
      refine z_iaload rfl kd_81 ?_
      refine z_iconst rfl rfl ?_
      refine z_icmp_eq rfl ?_ ?_
      · refine z_iconst rfl rfl ?_
        refine z_iadd rfl ?_
        refine z_istoreL rfl rfl (fun y2 => ?_)
        refine z_iinc rfl rfl rfl ?_
        refine z_goto rfl ?_
        refine Z.weak ?_ (ih _ _ _)
        exact wkL_c (wkL_c (wkL_c (wkL_n (wkL_c (wkL_c (wkL_c (wkL_n (wkL_nil _))))))))
      · refine z_iload rfl rfl ?_
        refine z_if_gt rfl ?_ ?_
        · refine z_iconst rfl rfl ?_
          refine z_goto rfl ?_
          refine z_iadd rfl ?_
          refine z_istoreL rfl rfl (fun y3 => ?_)
          refine z_iinc rfl rfl rfl ?_
          refine z_goto rfl ?_
          refine Z.weak ?_ (ih _ _ _)
          exact wkL_c (wkL_c (wkL_c (wkL_n (wkL_c (wkL_c (wkL_c (wkL_n (wkL_nil _))))))))
        · refine z_iload rfl rfl ?_
          refine z_if_ne rfl ?_ ?_
          · refine z_iconst rfl rfl ?_
            refine z_iadd rfl ?_
            refine z_istoreL rfl rfl (fun y4 => ?_)
            refine z_iinc rfl rfl rfl ?_
            refine z_goto rfl ?_
            refine Z.weak ?_ (ih _ _ _)
            exact wkL_c (wkL_c (wkL_c (wkL_n (wkL_c (wkL_c (wkL_c (wkL_n (wkL_nil _))))))))
          · refine z_iload rfl rfl ?_
            refine z_iload rfl rfl ?_
            refine z_icmp_ge rfl ?_ ?_
            · refine z_iconst rfl rfl ?_
              refine z_iadd rfl ?_
              refine z_istoreL rfl rfl (fun y5 => ?_)
              refine z_iinc rfl rfl rfl ?_
              refine z_goto rfl ?_
              refine Z.weak ?_ (ih _ _ _)
              exact wkL_c (wkL_c (wkL_c (wkL_n (wkL_c (wkL_c (wkL_c (wkL_n (wkL_nil _))))))))
            · refine z_iconst rfl rfl ?_
              refine z_goto rfl ?_
              refine z_iadd rfl ?_
              refine z_istoreL rfl rfl (fun y6 => ?_)
              refine z_iinc rfl rfl rfl ?_
              refine z_goto rfl ?_
              refine Z.weak ?_ (ih _ _ _)
              exact wkL_c (wkL_c (wkL_c (wkL_n (wkL_c (wkL_c (wkL_c (wkL_n (wkL_nil _))))))))
set_option maxRecDepth 20000 in
set_option maxHeartbeats 1000000 in
theorem t_X5_asks_L6 (x1 : Int) (c81 : Int → Hp → Option (Int × Hp)) (hc81 : ∀ (y2 : Int) (h : Hp), Z M_X5_asks 81 [some (vr 76), some (vi x1), some (vi y2), none, none, none, none, none] [] h (c81 y2 h)) : ∀ (n : Nat) (x2 : Int) (x4 : Int) (h : Hp), Z M_X5_asks 6 [some (vr 76), some (vi x1), some (vi x2), none, some (vi x4), none, none, none] [] h (f_X5_asks_L6 x1 c81 n x2 x4 h) := by
  intro n
  induction n with
  | zero => intro x2 x4 h; exact Z.nix
  | succ n ih =>
    intro x2 x4 h
    rw [f_X5_asks_L6_s]
    refine z_iload rfl rfl ?_
    refine z_bipush rfl rfl ?_
    refine z_icmp_ge rfl ?_ ?_
    · refine Z.weak ?_ (hc81 _ _)
      exact wkL_c (wkL_c (wkL_c (wkL_n (wkL_n (wkL_n (wkL_n (wkL_n (wkL_nil _))))))))
    · refine z_iconst rfl rfl ?_
      refine z_istore rfl rfl ?_
      refine z_iconst rfl rfl ?_
      refine z_istore rfl rfl ?_
      refine Z.weak ?_ (t_X5_asks_L13  _ _ _  _  ?_  fu _ _ _)
      · exact wkL_c (wkL_c (wkL_c (wkL_n (wkL_c (wkL_c (wkL_c (wkL_n (wkL_nil _))))))))
      · intro y7 h8
        refine z_aload_n rfl rfl ?_
        refine z_getRn (m := 81) rfl fl_X5_22 rfl kd_76 rfl ?_
        refine z_bipush rfl rfl ?_
        refine z_iload rfl rfl ?_
        refine z_imul rfl ?_
        refine z_iload_n rfl rfl ?_
        refine z_iadd rfl ?_
        refine z_iaload rfl kd_81 ?_
        refine z_iconst rfl rfl ?_
        refine z_icmp_eq rfl ?_ ?_
        · refine z_iload_n rfl rfl ?_
          refine z_istore_n rfl rfl ?_
          refine z_iinc rfl rfl rfl ?_
          refine z_goto rfl ?_
          refine Z.weak ?_ (ih _ _ _)
          exact wkL_c (wkL_c (wkL_c (wkL_n (wkL_c (wkL_n (wkL_n (wkL_n (wkL_nil _))))))))
        · refine z_iload rfl rfl ?_
          refine z_aload_n rfl rfl ?_
          refine z_getRn (m := 82) rfl fl_X5_25 rfl kd_76 rfl ?_
          refine z_iload_n rfl rfl ?_
          refine z_iaload rfl kd_82 ?_
          refine z_icmp_ne rfl ?_ ?_
          · refine z_iload_n rfl rfl ?_
            refine z_istore_n rfl rfl ?_
            refine z_iinc rfl rfl rfl ?_
            refine z_goto rfl ?_
            refine Z.weak ?_ (ih _ _ _)
            exact wkL_c (wkL_c (wkL_c (wkL_n (wkL_c (wkL_n (wkL_n (wkL_n (wkL_nil _))))))))
          · refine z_iload rfl rfl ?_
            refine z_goto rfl ?_
            refine z_istore_n rfl rfl ?_
            refine z_iinc rfl rfl rfl ?_
            refine z_goto rfl ?_
            refine Z.weak ?_ (ih _ _ _)
            exact wkL_c (wkL_c (wkL_c (wkL_n (wkL_c (wkL_n (wkL_n (wkL_n (wkL_nil _))))))))
set_option maxRecDepth 20000 in
set_option maxHeartbeats 1000000 in
theorem t_X5_asks (x1 : Int) (h : Hp) : Ct M_X5_asks [vr 76, vi x1] h (f_X5_asks x1 h) := by
  refine Ct.mk ok_X5_asks pl_X5_asks rfl rfl ?_
  show Z M_X5_asks 0 [some (vr 76), some (vi x1), none, none, none, none, none, none] [] h (f_X5_asks x1 h)
  unfold f_X5_asks
  refine z_iconst rfl rfl ?_
  refine z_istore_n rfl rfl ?_
  refine z_iconst rfl rfl ?_
  refine z_istore_n rfl rfl ?_
  refine z_iconst rfl rfl ?_
  refine z_istore rfl rfl ?_
  refine Z.weak ?_ (t_X5_asks_L6  _  _  ?_  fu _ _ _)
  · exact wkL_c (wkL_c (wkL_c (wkL_n (wkL_c (wkL_n (wkL_n (wkL_n (wkL_nil _))))))))
  · intro y9 h10
    refine z_aload_n rfl rfl ?_
    refine z_getRn (m := 82) rfl fl_X5_25 rfl kd_76 rfl ?_
    refine z_iload_n rfl rfl ?_
    refine z_dup2 rfl rfl rfl ?_
    refine z_iaload rfl kd_82 ?_
    refine z_iconst rfl rfl ?_
    refine z_iadd rfl ?_
    refine z_iastoreL kd_82 rfl (fun h11 => ?_)
    refine z_iload_n rfl rfl ?_
    exact z_ireturn rfl rfl
set_option maxRecDepth 20000 in
set_option maxHeartbeats 1000000 in
theorem t_X5_asksOn_J34 (c4 : Int → Hp → Option (Int × Hp)) (x1 : Int) (x2 : Int) (x3 : Int) (x4 : Int) (s0 : Int) (hc4 : ∀ (y2 : Int) (h : Hp), Z M_X5_asksOn 4 [some (vr 76), some (vi x1), some (vi y2), none, none, none] [] h (c4 y2 h)) (h : Hp) : Z M_X5_asksOn 34 [some (vr 76), some (vi x1), some (vi x2), some (vi x3), some (vi x4), none] [vi s0] h (f_X5_asksOn_J34 c4 x1 x2 x3 x4 s0 h) := by
  unfold f_X5_asksOn_J34
  refine z_istore rfl rfl ?_
  refine z_iload_n rfl rfl ?_
  refine z_iconst rfl rfl ?_
  refine z_icmp_eq rfl ?_ ?_
  · refine z_aload_n rfl rfl ?_
    refine z_getRn (m := 79) rfl fl_X5_16 rfl kd_76 rfl ?_
    refine z_iload_n rfl rfl ?_
    refine z_iload_n rfl rfl ?_
    refine z_iastoreL kd_79 rfl (fun h4 => ?_)
    refine z_iload_n rfl rfl ?_
    exact z_ireturn rfl rfl
  · refine z_iload rfl rfl ?_
    refine z_iload rfl rfl ?_
    refine z_icmp_gt rfl ?_ ?_
    · refine z_aload_n rfl rfl ?_
      refine z_getRn (m := 79) rfl fl_X5_16 rfl kd_76 rfl ?_
      refine z_iload_n rfl rfl ?_
      refine z_iload_n rfl rfl ?_
      refine z_iastoreL kd_79 rfl (fun h5 => ?_)
      refine z_iload_n rfl rfl ?_
      exact z_ireturn rfl rfl
    · refine z_iload rfl rfl ?_
      refine z_iload rfl rfl ?_
      refine z_icmp_ne rfl ?_ ?_
      · refine z_aload_n rfl rfl ?_
        refine z_iload_n rfl rfl ?_
        refine z_V1i ko5 mv_X5_64 kd_76 (t_X5_asks _ _) rfl rfl rfl rfl rfl (fun r6 h6 => ?_)
        refine z_istore_n rfl rfl ?_
        refine z_goto rfl ?_
        refine Z.weak ?_ (hc4 _ _)
        exact wkL_c (wkL_c (wkL_c (wkL_n (wkL_n (wkL_n (wkL_nil _))))))
      · refine z_iload_n rfl rfl ?_
        refine z_iload_n rfl rfl ?_
        refine z_icmp_ge rfl ?_ ?_
        · refine z_aload_n rfl rfl ?_
          refine z_iload_n rfl rfl ?_
          refine z_V1i ko5 mv_X5_64 kd_76 (t_X5_asks _ _) rfl rfl rfl rfl rfl (fun r7 h7 => ?_)
          refine z_istore_n rfl rfl ?_
          refine z_goto rfl ?_
          refine Z.weak ?_ (hc4 _ _)
          exact wkL_c (wkL_c (wkL_c (wkL_n (wkL_n (wkL_n (wkL_nil _))))))
        · refine z_aload_n rfl rfl ?_
          refine z_getRn (m := 79) rfl fl_X5_16 rfl kd_76 rfl ?_
          refine z_iload_n rfl rfl ?_
          refine z_iload_n rfl rfl ?_
          refine z_iastoreL kd_79 rfl (fun h8 => ?_)
          refine z_iload_n rfl rfl ?_
          exact z_ireturn rfl rfl
set_option maxRecDepth 20000 in
set_option maxHeartbeats 1000000 in
theorem t_X5_asksOn_L4 (x1 : Int) : ∀ (n : Nat) (x2 : Int) (h : Hp), Z M_X5_asksOn 4 [some (vr 76), some (vi x1), some (vi x2), none, none, none] [] h (f_X5_asksOn_L4 x1 n x2 h) := by
  intro n
  induction n with
  | zero => intro x2 h; exact Z.nix
  | succ n ih =>
    intro x2 h
    rw [f_X5_asksOn_L4_s]
    refine z_iload_n rfl rfl ?_
    refine z_iconst rfl rfl ?_
    refine z_icmp_eq rfl ?_ ?_
    · refine z_iconst rfl rfl ?_
      exact z_ireturn rfl rfl
    · refine z_aload_n rfl rfl ?_
      refine z_getRn (m := 79) rfl fl_X5_16 rfl kd_76 rfl ?_
      refine z_iload_n rfl rfl ?_
      refine z_iaload rfl kd_79 ?_
      refine z_istore_nL rfl rfl (fun y2 => ?_)
      refine z_aload_n rfl rfl ?_
      refine z_getRn (m := 81) rfl fl_X5_22 rfl kd_76 rfl ?_
      refine z_bipush rfl rfl ?_
      refine z_iload_n rfl rfl ?_
      refine z_imul rfl ?_
      refine z_iload_n rfl rfl ?_
      refine z_iadd rfl ?_
      refine z_iaload rfl kd_81 ?_
      refine z_istoreL rfl rfl (fun y3 => ?_)
      refine z_iload_n rfl rfl ?_
      refine z_iconst rfl rfl ?_
      refine z_icmp_ne rfl ?_ ?_
      · refine z_aload_n rfl rfl ?_
        refine z_getRn (m := 81) rfl fl_X5_22 rfl kd_76 rfl ?_
        refine z_bipush rfl rfl ?_
        refine z_iload_n rfl rfl ?_
        refine z_imul rfl ?_
        refine z_iload_n rfl rfl ?_
        refine z_iadd rfl ?_
        refine z_iaload rfl kd_81 ?_
        refine Z.weak ?_ (t_X5_asksOn_J34  _ _ _ _ _ _ ih _)
        exact wkL_c (wkL_c (wkL_c (wkL_c (wkL_c (wkL_n (wkL_nil _))))))
      · refine z_iconst rfl rfl ?_
        refine z_goto rfl ?_
        refine Z.weak ?_ (t_X5_asksOn_J34  _ _ _ _ _ _ ih _)
        exact wkL_c (wkL_c (wkL_c (wkL_c (wkL_c (wkL_n (wkL_nil _))))))
set_option maxRecDepth 20000 in
set_option maxHeartbeats 1000000 in
theorem t_X5_asksOn (x1 : Int) (h : Hp) : Ct M_X5_asksOn [vr 76, vi x1] h (f_X5_asksOn x1 h) := by
  refine Ct.mk ok_X5_asksOn pl_X5_asksOn rfl rfl ?_
  show Z M_X5_asksOn 0 [some (vr 76), some (vi x1), none, none, none, none] [] h (f_X5_asksOn x1 h)
  unfold f_X5_asksOn
  refine z_aload_n rfl rfl ?_
  refine z_iload_n rfl rfl ?_
  refine z_V1i ko5 mv_X5_64 kd_76 (t_X5_asks _ _) rfl rfl rfl rfl rfl (fun r1 h1 => ?_)
  refine z_istore_n rfl rfl ?_
  refine Z.weak ?_ (t_X5_asksOn_L4  _     fu _ _)
  · exact wkL_c (wkL_c (wkL_c (wkL_n (wkL_n (wkL_n (wkL_nil _))))))
set_option maxRecDepth 20000 in
set_option maxHeartbeats 1000000 in
theorem t_X5_book (x1 : Int) (x2 : Int) (h : Hp) : Ct M_X5_book [vr 76, vi x1, vi x2] h (f_X5_book x1 x2 h) := by
  refine Ct.mk ok_X5_book pl_X5_book rfl rfl ?_
  show Z M_X5_book 0 [some (vr 76), some (vi x1), some (vi x2)] [] h (f_X5_book x1 x2 h)
  unfold f_X5_book
  refine z_iload_n rfl rfl ?_
  refine z_if_lt rfl ?_ ?_
  · refine z_ldc rfl cst_X5_97 rfl ?_
    exact z_ireturn rfl rfl
  · refine z_iload_n rfl rfl ?_
    refine z_iconst rfl rfl ?_
    refine z_iconst rfl rfl ?_
    refine z_S3i ms_X5_90 (t_X5_in _ _ _ _) rfl rfl rfl rfl (fun r1 h1 => ?_)
    refine z_if_ne rfl ?_ ?_
    · refine z_iload_n rfl rfl ?_
      refine z_aload_n rfl rfl ?_
      refine z_getRn (m := 77) rfl fl_X5_7 rfl kd_76 rfl ?_
      refine z_bipush rfl rfl ?_
      refine z_iaload rfl kd_77 ?_
      refine z_icmp_ge rfl ?_ ?_
      · refine z_ldc rfl cst_X5_144 rfl ?_
        exact z_ireturn rfl rfl
      · refine z_aload_n rfl rfl ?_
        refine z_getRn (m := 77) rfl fl_X5_7 rfl kd_76 rfl ?_
        refine z_sipush rfl rfl ?_
        refine z_iconst rfl rfl ?_
        refine z_aload_n rfl rfl ?_
        refine z_getRn (m := 77) rfl fl_X5_7 rfl kd_76 rfl ?_
        refine z_bipush rfl rfl ?_
        refine z_iaload rfl kd_77 ?_
        refine z_iconst rfl rfl ?_
        refine z_isub rfl ?_
        refine z_iload_n rfl rfl ?_
        refine z_isub rfl ?_
        refine z_imul rfl ?_
        refine z_iadd rfl ?_
        refine z_iload_n rfl rfl ?_
        refine z_iadd rfl ?_
        refine z_iaload rfl kd_77 ?_
        refine z_goto rfl ?_
        exact z_ireturn rfl rfl
    · refine z_ldc rfl cst_X5_97 rfl ?_
      exact z_ireturn rfl rfl
set_option maxRecDepth 20000 in
set_option maxHeartbeats 1000000 in
theorem t_X5_claimAt (x0 : Int) (x1 : Int) (h : Hp) : Ct M_X5_claimAt [vi x0, vi x1] h (f_X5_claimAt x0 x1 h) := by
  refine Ct.mk ok_X5_claimAt pl_X5_claimAt rfl rfl ?_
  show Z M_X5_claimAt 0 [some (vi x0), some (vi x1)] [] h (f_X5_claimAt x0 x1 h)
  unfold f_X5_claimAt
  refine z_iload_n rfl rfl ?_
  refine z_bipush rfl rfl ?_
  refine z_iadd rfl ?_
  refine z_bipush rfl rfl ?_
  refine z_iload_n rfl rfl ?_
  refine z_imul rfl ?_
  refine z_iadd rfl ?_
  exact z_ireturn rfl rfl
set_option maxRecDepth 20000 in
set_option maxHeartbeats 1000000 in
theorem t_X5_umbrellaAt (x0 : Int) (x1 : Int) (h : Hp) : Ct M_X5_umbrellaAt [vi x0, vi x1] h (f_X5_umbrellaAt x0 x1 h) := by
  refine Ct.mk ok_X5_umbrellaAt pl_X5_umbrellaAt rfl rfl ?_
  show Z M_X5_umbrellaAt 0 [some (vi x0), some (vi x1)] [] h (f_X5_umbrellaAt x0 x1 h)
  unfold f_X5_umbrellaAt
  refine z_iload_n rfl rfl ?_
  refine z_bipush rfl rfl ?_
  refine z_iadd rfl ?_
  refine z_iconst rfl rfl ?_
  refine z_iload_n rfl rfl ?_
  refine z_imul rfl ?_
  refine z_iadd rfl ?_
  exact z_ireturn rfl rfl
set_option maxRecDepth 20000 in
set_option maxHeartbeats 1000000 in
theorem t_X5_many_L4 (x1 : Int) (x2 : Int) (x3 : Int) : ∀ (n : Nat) (x4 : Int) (x5 : Int) (h : Hp), Z M_X5_many 4 [some (vr 76), some (vi x1), some (vi x2), some (vi x3), some (vi x4), some (vi x5)] [] h (f_X5_many_L4 x1 x2 x3 n x4 x5 h) := by
  intro n
  induction n with
  | zero => intro x4 x5 h; exact Z.nix
  | succ n ih =>
    intro x4 x5 h
    rw [f_X5_many_L4_s]
    refine z_iload rfl rfl ?_
    refine z_aload_n rfl rfl ?_
    refine z_getRn (m := 77) rfl fl_X5_7 rfl kd_76 rfl ?_
    refine z_iload_n rfl rfl ?_
    refine z_bipush rfl rfl ?_
    refine z_iadd rfl ?_
    refine z_iaload rfl kd_77 ?_
    refine z_icmp_ge rfl ?_ ?_
    · refine z_iload rfl rfl ?_
      exact z_ireturn rfl rfl
    · refine z_iload rfl rfl ?_
      refine z_aload_n rfl rfl ?_
      refine z_getRn (m := 77) rfl fl_X5_7 rfl kd_76 rfl ?_
      refine z_iload_n rfl rfl ?_
      refine z_iload rfl rfl ?_
      refine z_S2i ms_X5_39 (t_X5_umbrellaAt _ _ _) rfl rfl rfl rfl (fun r1 h1 => ?_)
      refine z_iload_n rfl rfl ?_
      refine z_iadd rfl ?_
      refine z_iaload rfl kd_77 ?_
      refine z_iload_n rfl rfl ?_
      refine z_icmp_ne rfl ?_ ?_
      · refine z_iconst rfl rfl ?_
        refine z_iadd rfl ?_
        refine z_istoreL rfl rfl (fun y2 => ?_)
        refine z_iinc rfl rfl rfl ?_
        refine z_goto rfl ?_
        refine Z.weak ?_ (ih _ _ _)
        exact wkL_c (wkL_c (wkL_c (wkL_c (wkL_c (wkL_c (wkL_nil _))))))
      · refine z_iconst rfl rfl ?_
        refine z_goto rfl ?_
        refine z_iadd rfl ?_
        refine z_istoreL rfl rfl (fun y3 => ?_)
        refine z_iinc rfl rfl rfl ?_
        refine z_goto rfl ?_
        refine Z.weak ?_ (ih _ _ _)
        exact wkL_c (wkL_c (wkL_c (wkL_c (wkL_c (wkL_c (wkL_nil _))))))
set_option maxRecDepth 20000 in
set_option maxHeartbeats 1000000 in
theorem t_X5_many (x1 : Int) (x2 : Int) (x3 : Int) (h : Hp) : Ct M_X5_many [vr 76, vi x1, vi x2, vi x3] h (f_X5_many x1 x2 x3 h) := by
  refine Ct.mk ok_X5_many pl_X5_many rfl rfl ?_
  show Z M_X5_many 0 [some (vr 76), some (vi x1), some (vi x2), some (vi x3), none, none] [] h (f_X5_many x1 x2 x3 h)
  unfold f_X5_many
  refine z_iconst rfl rfl ?_
  refine z_istore rfl rfl ?_
  refine z_iconst rfl rfl ?_
  refine z_istore rfl rfl ?_
  refine Z.weak ?_ (t_X5_many_L4  _ _ _     fu _ _ _)
  · exact wkL_c (wkL_c (wkL_c (wkL_c (wkL_c (wkL_c (wkL_nil _))))))
set_option maxRecDepth 20000 in
set_option maxHeartbeats 1000000 in
theorem t_X5_misses_L4 (x1 : Int) (x2 : Int) (x3 : Int) : ∀ (n : Nat) (x4 : Int) (x5 : Int) (h : Hp), Z M_X5_misses 4 [some (vr 76), some (vi x1), some (vi x2), some (vi x3), some (vi x4), some (vi x5), none] [] h (f_X5_misses_L4 x1 x2 x3 n x4 x5 h) := by
  intro n
  induction n with
  | zero => intro x4 x5 h; exact Z.nix
  | succ n ih =>
    intro x4 x5 h
    rw [f_X5_misses_L4_s]
    refine z_iload rfl rfl ?_
    refine z_iconst rfl rfl ?_
    refine z_icmp_ge rfl ?_ ?_
    · refine z_iload rfl rfl ?_
      exact z_ireturn rfl rfl
    · refine z_aload_n rfl rfl ?_
      refine z_getRn (m := 77) rfl fl_X5_7 rfl kd_76 rfl ?_
      refine z_iload_n rfl rfl ?_
      refine z_iload_n rfl rfl ?_
      refine z_S2i ms_X5_43 (t_X5_claimAt _ _ _) rfl rfl rfl rfl (fun r1 h1 => ?_)
      refine z_iload rfl rfl ?_
      refine z_iadd rfl ?_
      refine z_iaload rfl kd_77 ?_
      refine z_istoreL rfl rfl (fun y2 => ?_)
      refine z_iload rfl rfl ?_
      refine z_iload rfl rfl ?_
      refine z_iconst rfl rfl ?_
      refine z_icmp_eq rfl ?_ ?_
      · refine z_iconst rfl rfl ?_
        refine z_iadd rfl ?_
        refine z_istoreL rfl rfl (fun y3 => ?_)
        refine z_iinc rfl rfl rfl ?_
        refine z_goto rfl ?_
        refine Z.weak ?_ (ih _ _ _)
        exact wkL_c (wkL_c (wkL_c (wkL_c (wkL_c (wkL_c (wkL_n (wkL_nil _)))))))
      · refine z_iload rfl rfl ?_
        refine z_aload_n rfl rfl ?_
        refine z_getRn (m := 77) rfl fl_X5_7 rfl kd_76 rfl ?_
        refine z_iload_n rfl rfl ?_
        refine z_iload_n rfl rfl ?_
        refine z_S2i ms_X5_39 (t_X5_umbrellaAt _ _ _) rfl rfl rfl rfl (fun r4 h4 => ?_)
        refine z_iload rfl rfl ?_
        refine z_iadd rfl ?_
        refine z_iaload rfl kd_77 ?_
        refine z_icmp_eq rfl ?_ ?_
        · refine z_iconst rfl rfl ?_
          refine z_iadd rfl ?_
          refine z_istoreL rfl rfl (fun y5 => ?_)
          refine z_iinc rfl rfl rfl ?_
          refine z_goto rfl ?_
          refine Z.weak ?_ (ih _ _ _)
          exact wkL_c (wkL_c (wkL_c (wkL_c (wkL_c (wkL_c (wkL_n (wkL_nil _)))))))
        · refine z_iconst rfl rfl ?_
          refine z_goto rfl ?_
          refine z_iadd rfl ?_
          refine z_istoreL rfl rfl (fun y6 => ?_)
          refine z_iinc rfl rfl rfl ?_
          refine z_goto rfl ?_
          refine Z.weak ?_ (ih _ _ _)
          exact wkL_c (wkL_c (wkL_c (wkL_c (wkL_c (wkL_c (wkL_n (wkL_nil _)))))))
set_option maxRecDepth 20000 in
set_option maxHeartbeats 1000000 in
theorem t_X5_misses (x1 : Int) (x2 : Int) (x3 : Int) (h : Hp) : Ct M_X5_misses [vr 76, vi x1, vi x2, vi x3] h (f_X5_misses x1 x2 x3 h) := by
  refine Ct.mk ok_X5_misses pl_X5_misses rfl rfl ?_
  show Z M_X5_misses 0 [some (vr 76), some (vi x1), some (vi x2), some (vi x3), none, none, none] [] h (f_X5_misses x1 x2 x3 h)
  unfold f_X5_misses
  refine z_iconst rfl rfl ?_
  refine z_istore rfl rfl ?_
  refine z_iconst rfl rfl ?_
  refine z_istore rfl rfl ?_
  refine Z.weak ?_ (t_X5_misses_L4  _ _ _     fu _ _ _)
  · exact wkL_c (wkL_c (wkL_c (wkL_c (wkL_c (wkL_c (wkL_n (wkL_nil _)))))))
set_option maxRecDepth 20000 in
set_option maxHeartbeats 1000000 in
theorem t_X5_pointsOf_L32 (x1 : Int) (x2 : Int) (x3 : Int) : ∀ (n : Nat) (x4 : Int) (x5 : Int) (h : Hp), Z M_X5_pointsOf 32 [some (vr 76), some (vi x1), some (vi x2), some (vi x3), some (vi x4), some (vi x5), none] [] h (f_X5_pointsOf_L32 x1 x2 x3 n x4 x5 h) := by
  intro n
  induction n with
  | zero => intro x4 x5 h; exact Z.nix
  | succ n ih =>
    intro x4 x5 h
    rw [f_X5_pointsOf_L32_s]
    refine z_iload rfl rfl ?_
    refine z_iconst rfl rfl ?_
    refine z_icmp_ge rfl ?_ ?_
    · refine z_iload rfl rfl ?_
      exact z_ireturn rfl rfl
    · refine z_aload_n rfl rfl ?_
      refine z_getRn (m := 77) rfl fl_X5_7 rfl kd_76 rfl ?_
      refine z_iload_n rfl rfl ?_
      refine z_iload_n rfl rfl ?_
      refine z_S2i ms_X5_39 (t_X5_umbrellaAt _ _ _) rfl rfl rfl rfl (fun r4 h4 => ?_)
      refine z_iload rfl rfl ?_
      refine z_iadd rfl ?_
      refine z_iaload rfl kd_77 ?_
      refine z_istoreL rfl rfl (fun y5 => ?_)
      refine z_iload rfl rfl ?_
      refine z_aload_n rfl rfl ?_
      refine z_getRn (m := 77) rfl fl_X5_7 rfl kd_76 rfl ?_
      refine z_iload_n rfl rfl ?_
      refine z_iload_n rfl rfl ?_
      refine z_S2i ms_X5_43 (t_X5_claimAt _ _ _) rfl rfl rfl rfl (fun r6 h6 => ?_)
      refine z_iload rfl rfl ?_
      refine z_iadd rfl ?_
      refine z_iaload rfl kd_77 ?_
      refine z_iload rfl rfl ?_
      refine z_icmp_ne rfl ?_ ?_
      · refine z_iconst rfl rfl ?_
        refine z_iadd rfl ?_
        refine z_istoreL rfl rfl (fun y7 => ?_)
        refine z_iinc rfl rfl rfl ?_
        refine z_goto rfl ?_
        refine Z.weak ?_ (ih _ _ _)
        exact wkL_c (wkL_c (wkL_c (wkL_c (wkL_c (wkL_c (wkL_n (wkL_nil _)))))))
      · refine z_bipush rfl rfl ?_
        refine z_aload_n rfl rfl ?_
        refine z_iload_n rfl rfl ?_
        refine z_iload rfl rfl ?_
        refine z_iload rfl rfl ?_
        refine z_V3i ko5 mv_X5_50 kd_76 (t_X5_many _ _ _ _) rfl rfl rfl rfl rfl (fun r8 h8 => ?_)
        refine z_isub rfl ?_
        refine z_goto rfl ?_
        refine z_iadd rfl ?_
        refine z_istoreL rfl rfl (fun y9 => ?_)
        refine z_iinc rfl rfl rfl ?_
        refine z_goto rfl ?_
        refine Z.weak ?_ (ih _ _ _)
        exact wkL_c (wkL_c (wkL_c (wkL_c (wkL_c (wkL_c (wkL_n (wkL_nil _)))))))
set_option maxRecDepth 20000 in
set_option maxHeartbeats 1000000 in
theorem t_X5_pointsOf (x1 : Int) (x2 : Int) (x3 : Int) (h : Hp) : Ct M_X5_pointsOf [vr 76, vi x1, vi x2, vi x3] h (f_X5_pointsOf x1 x2 x3 h) := by
  refine Ct.mk ok_X5_pointsOf pl_X5_pointsOf rfl rfl ?_
  show Z M_X5_pointsOf 0 [some (vr 76), some (vi x1), some (vi x2), some (vi x3), none, none, none] [] h (f_X5_pointsOf x1 x2 x3 h)
  unfold f_X5_pointsOf
  refine z_aload_n rfl rfl ?_
  refine z_getRn (m := 77) rfl fl_X5_7 rfl kd_76 rfl ?_
  refine z_iload_n rfl rfl ?_
  refine z_iconst rfl rfl ?_
  refine z_iadd rfl ?_
  refine z_iaload rfl kd_77 ?_
  refine z_ineg rfl ?_
  refine z_aload_n rfl rfl ?_
  refine z_iload_n rfl rfl ?_
  refine z_iload_n rfl rfl ?_
  refine z_iload_n rfl rfl ?_
  refine z_V3i ko5 mv_X5_46 kd_76 (t_X5_misses _ _ _ _) rfl rfl rfl rfl rfl (fun r1 h1 => ?_)
  refine z_imul rfl ?_
  refine z_aload_n rfl rfl ?_
  refine z_getRn (m := 77) rfl fl_X5_7 rfl kd_76 rfl ?_
  refine z_iload_n rfl rfl ?_
  refine z_iconst rfl rfl ?_
  refine z_iadd rfl ?_
  refine z_iaload rfl kd_77 ?_
  refine z_aload_n rfl rfl ?_
  refine z_getRn (m := 77) rfl fl_X5_7 rfl kd_76 rfl ?_
  refine z_iload_n rfl rfl ?_
  refine z_iload_n rfl rfl ?_
  refine z_S2i ms_X5_43 (t_X5_claimAt _ _ _) rfl rfl rfl rfl (fun r2 h2 => ?_)
  refine z_iconst rfl rfl ?_
  refine z_iadd rfl ?_
  refine z_iaload rfl kd_77 ?_
  refine z_imul rfl ?_
  refine z_isub rfl ?_
  refine z_istoreL rfl rfl (fun y3 => ?_)
  refine z_iconst rfl rfl ?_
  refine z_istore rfl rfl ?_
  refine Z.weak ?_ (t_X5_pointsOf_L32  _ _ _     fu _ _ _)
  · exact wkL_c (wkL_c (wkL_c (wkL_c (wkL_c (wkL_c (wkL_n (wkL_nil _)))))))
set_option maxRecDepth 20000 in
set_option maxHeartbeats 1000000 in
theorem t_X5_suits (x1 : Int) (x2 : Int) (x3 : Int) (h : Hp) : Ct M_X5_suits [vr 76, vi x1, vi x2, vi x3] h (f_X5_suits x1 x2 x3 h) := by
  refine Ct.mk ok_X5_suits pl_X5_suits rfl rfl ?_
  show Z M_X5_suits 0 [some (vr 76), some (vi x1), some (vi x2), some (vi x3)] [] h (f_X5_suits x1 x2 x3 h)
  unfold f_X5_suits
  refine z_aload_n rfl rfl ?_
  refine z_iload_n rfl rfl ?_
  refine z_iload_n rfl rfl ?_
  refine z_iload_n rfl rfl ?_
  refine z_V3i ko5 mv_X5_46 kd_76 (t_X5_misses _ _ _ _) rfl rfl rfl rfl rfl (fun r1 h1 => ?_)
  refine z_aload_n rfl rfl ?_
  refine z_getRn (m := 77) rfl fl_X5_7 rfl kd_76 rfl ?_
  refine z_iload_n rfl rfl ?_
  refine z_iconst rfl rfl ?_
  refine z_iadd rfl ?_
  refine z_iaload rfl kd_77 ?_
  refine z_icmp_gt rfl ?_ ?_
  · refine z_iconst rfl rfl ?_
    exact z_zret0 rfl rfl
  · refine z_aload_n rfl rfl ?_
    refine z_iload_n rfl rfl ?_
    refine z_iload_n rfl rfl ?_
    refine z_iload_n rfl rfl ?_
    refine z_V3i ko5 mv_X5_53 kd_76 (t_X5_pointsOf _ _ _ _) rfl rfl rfl rfl rfl (fun r2 h2 => ?_)
    refine z_aload_n rfl rfl ?_
    refine z_getRn (m := 77) rfl fl_X5_7 rfl kd_76 rfl ?_
    refine z_iload_n rfl rfl ?_
    refine z_iconst rfl rfl ?_
    refine z_iadd rfl ?_
    refine z_iaload rfl kd_77 ?_
    refine z_icmp_lt rfl ?_ ?_
    · refine z_iconst rfl rfl ?_
      exact z_zret0 rfl rfl
    · refine z_iconst rfl rfl ?_
      refine z_goto rfl ?_
      exact z_zret1 rfl rfl
set_option maxRecDepth 20000 in
set_option maxHeartbeats 1000000 in
theorem t_X5_clears_L2 (x1 : Int) (c22 : Hp → Option (Int × Hp)) (hc22 : ∀ (h : Hp), Z M_X5_clears 22 [some (vr 76), some (vi x1), none, none] [] h (c22  h)) : ∀ (n : Nat) (x2 : Int) (h : Hp), Z M_X5_clears 2 [some (vr 76), some (vi x1), some (vi x2), none] [] h (f_X5_clears_L2 x1 c22 n x2 h) := by
  intro n
  induction n with
  | zero => intro x2 h; exact Z.nix
  | succ n ih =>
    intro x2 h
    rw [f_X5_clears_L2_s]
    refine z_iload_n rfl rfl ?_
    refine z_bipush rfl rfl ?_
    refine z_icmp_ge rfl ?_ ?_
    · refine Z.weak ?_ (hc22 _)
      exact wkL_c (wkL_c (wkL_n (wkL_n (wkL_nil _))))
    · refine z_aload_n rfl rfl ?_
      refine z_getRn (m := 79) rfl fl_X5_16 rfl kd_76 rfl ?_
      refine z_iload_n rfl rfl ?_
      refine z_iconst rfl rfl ?_
      refine z_iastoreL kd_79 rfl (fun h1 => ?_)
      refine z_aload_n rfl rfl ?_
      refine z_getRn (m := 80) rfl fl_X5_19 rfl kd_76 rfl ?_
      refine z_iload_n rfl rfl ?_
      refine z_iconst rfl rfl ?_
      refine z_iastoreL kd_80 rfl (fun h2 => ?_)
      refine z_aload_n rfl rfl ?_
      refine z_getRn (m := 82) rfl fl_X5_25 rfl kd_76 rfl ?_
      refine z_iload_n rfl rfl ?_
      refine z_iconst rfl rfl ?_
      refine z_iastoreL kd_82 rfl (fun h3 => ?_)
      refine z_iinc rfl rfl rfl ?_
      refine z_goto rfl ?_
      refine Z.weak ?_ (ih _ _)
      exact wkL_c (wkL_c (wkL_c (wkL_n (wkL_nil _))))
set_option maxRecDepth 20000 in
set_option maxHeartbeats 1000000 in
theorem t_X5_clears_J50 (c24 : Int → Hp → Option (Int × Hp)) (x1 : Int) (x2 : Int) (s0 : Int) (hc24 : ∀ (y2 : Int) (h : Hp), Z M_X5_clears 24 [some (vr 76), some (vi x1), some (vi y2), none] [] h (c24 y2 h)) (h : Hp) : Z M_X5_clears 50 [some (vr 76), some (vi x1), some (vi x2), none] [vi s0] h (f_X5_clears_J50 c24 x1 x2 s0 h) := by
  unfold f_X5_clears_J50
  refine z_istore_n rfl rfl ?_
  refine z_aload_n rfl rfl ?_
  refine z_getRn (m := 81) rfl fl_X5_22 rfl kd_76 rfl ?_
  refine z_iload_n rfl rfl ?_
  refine z_iload_n rfl rfl ?_
  refine z_if_eq rfl ?_ ?_
  · refine z_iconst rfl rfl ?_
    refine z_iastoreL kd_81 rfl (fun h5 => ?_)
    refine z_iinc rfl rfl rfl ?_
    refine z_goto rfl ?_
    refine Z.weak ?_ (hc24 _ _)
    exact wkL_c (wkL_c (wkL_c (wkL_n (wkL_nil _))))
  · refine z_aload_n rfl rfl ?_
    refine z_iload_n rfl rfl ?_
    refine z_iload_n rfl rfl ?_
    refine z_bipush rfl rfl ?_
    refine z_idiv rfl rfl ?_
    refine z_iload_n rfl rfl ?_
    refine z_bipush rfl rfl ?_
    refine z_irem rfl rfl ?_
    refine z_V3i ko5 mv_X5_56 kd_76 (t_X5_suits _ _ _ _) rfl rfl rfl rfl rfl (fun r6 h6 => ?_)
    refine z_if_eq rfl ?_ ?_
    · refine z_iconst rfl rfl ?_
      refine z_iastoreL kd_81 rfl (fun h7 => ?_)
      refine z_iinc rfl rfl rfl ?_
      refine z_goto rfl ?_
      refine Z.weak ?_ (hc24 _ _)
      exact wkL_c (wkL_c (wkL_c (wkL_n (wkL_nil _))))
    · refine z_aload_n rfl rfl ?_
      refine z_iload_n rfl rfl ?_
      refine z_iload_n rfl rfl ?_
      refine z_bipush rfl rfl ?_
      refine z_idiv rfl rfl ?_
      refine z_iload_n rfl rfl ?_
      refine z_bipush rfl rfl ?_
      refine z_irem rfl rfl ?_
      refine z_V3i ko5 mv_X5_53 kd_76 (t_X5_pointsOf _ _ _ _) rfl rfl rfl rfl rfl (fun r8 h8 => ?_)
      refine z_goto rfl ?_
      refine z_iastoreL kd_81 rfl (fun h9 => ?_)
      refine z_iinc rfl rfl rfl ?_
      refine z_goto rfl ?_
      refine Z.weak ?_ (hc24 _ _)
      exact wkL_c (wkL_c (wkL_c (wkL_n (wkL_nil _))))
set_option maxRecDepth 20000 in
set_option maxHeartbeats 1000000 in
theorem t_X5_clears_J49 (c24 : Int → Hp → Option (Int × Hp)) (x1 : Int) (x2 : Int) (hc24 : ∀ (y2 : Int) (h : Hp), Z M_X5_clears 24 [some (vr 76), some (vi x1), some (vi y2), none] [] h (c24 y2 h)) (h : Hp) : Z M_X5_clears 49 [some (vr 76), some (vi x1), some (vi x2), none] [] h (f_X5_clears_J49 c24 x1 x2 h) := by
  unfold f_X5_clears_J49
  refine z_iconst rfl rfl ?_
  refine Z.weak ?_ (t_X5_clears_J50  _ _ _ _ hc24 _)
  exact wkL_c (wkL_c (wkL_c (wkL_n (wkL_nil _))))
set_option maxRecDepth 20000 in
set_option maxHeartbeats 1000000 in
theorem t_X5_clears_L24 (x1 : Int) : ∀ (n : Nat) (x2 : Int) (h : Hp), Z M_X5_clears 24 [some (vr 76), some (vi x1), some (vi x2), none] [] h (f_X5_clears_L24 x1 n x2 h) := by
  intro n
  induction n with
  | zero => intro x2 h; exact Z.nix
  | succ n ih =>
    intro x2 h
    rw [f_X5_clears_L24_s]
    refine z_iload_n rfl rfl ?_
    refine z_sipush rfl rfl ?_
    refine z_icmp_ge rfl ?_ ?_
    · exact z_return rfl rfl
    · refine z_iload_n rfl rfl ?_
      refine z_bipush rfl rfl ?_
      refine z_idiv rfl rfl ?_
      refine z_aload_n rfl rfl ?_
      refine z_getRn (m := 77) rfl fl_X5_7 rfl kd_76 rfl ?_
      refine z_iload_n rfl rfl ?_
      refine z_bipush rfl rfl ?_
      refine z_iadd rfl ?_
      refine z_iaload rfl kd_77 ?_
      refine z_icmp_ge rfl ?_ ?_
      · refine Z.weak ?_ (t_X5_clears_J49  _ _ _ ih _)
        exact wkL_c (wkL_c (wkL_c (wkL_n (wkL_nil _))))
      · refine z_iload_n rfl rfl ?_
        refine z_bipush rfl rfl ?_
        refine z_irem rfl rfl ?_
        refine z_aload_n rfl rfl ?_
        refine z_getRn (m := 77) rfl fl_X5_7 rfl kd_76 rfl ?_
        refine z_iload_n rfl rfl ?_
        refine z_bipush rfl rfl ?_
        refine z_iadd rfl ?_
        refine z_iaload rfl kd_77 ?_
        refine z_icmp_ge rfl ?_ ?_
        · refine Z.weak ?_ (t_X5_clears_J49  _ _ _ ih _)
          exact wkL_c (wkL_c (wkL_c (wkL_n (wkL_nil _))))
        · refine z_iconst rfl rfl ?_
          refine z_goto rfl ?_
          refine Z.weak ?_ (t_X5_clears_J50  _ _ _ _ ih _)
          exact wkL_c (wkL_c (wkL_c (wkL_n (wkL_nil _))))
set_option maxRecDepth 20000 in
set_option maxHeartbeats 1000000 in
theorem t_X5_clears (x1 : Int) (h : Hp) : Ct M_X5_clears [vr 76, vi x1] h (f_X5_clears x1 h) := by
  refine Ct.mk ok_X5_clears pl_X5_clears rfl rfl ?_
  show Z M_X5_clears 0 [some (vr 76), some (vi x1), none, none] [] h (f_X5_clears x1 h)
  unfold f_X5_clears
  refine z_iconst rfl rfl ?_
  refine z_istore_n rfl rfl ?_
  refine Z.weak ?_ (t_X5_clears_L2  _  _  ?_  fu _ _)
  · exact wkL_c (wkL_c (wkL_c (wkL_n (wkL_nil _))))
  · intro h4
    refine z_iconst rfl rfl ?_
    refine z_istore_n rfl rfl ?_
    refine Z.weak ?_ (t_X5_clears_L24  _     fu _ _)
    · exact wkL_c (wkL_c (wkL_c (wkL_n (wkL_nil _))))
set_option maxRecDepth 20000 in
set_option maxHeartbeats 1000000 in
theorem t_X5_byAsking_L15 (x1 : Int) (x2 : Int) (c23 : Hp → Option (Int × Hp)) (hc23 : ∀ (h : Hp), Z M_X5_byAsking 23 [some (vr 76), some (vi x1), some (vi x2), none] [] h (c23  h)) : ∀ (n : Nat) (x3 : Int) (h : Hp), Z M_X5_byAsking 15 [some (vr 76), some (vi x1), some (vi x2), some (vi x3)] [] h (f_X5_byAsking_L15 x1 x2 c23 n x3 h) := by
  intro n
  induction n with
  | zero => intro x3 h; exact Z.nix
  | succ n ih =>
    intro x3 h
    rw [f_X5_byAsking_L15_s]
    refine z_iload_n rfl rfl ?_
    refine z_iconst rfl rfl ?_
    refine z_icmp_eq rfl ?_ ?_
    · refine Z.weak ?_ (hc23 _)
      exact wkL_c (wkL_c (wkL_c (wkL_n (wkL_nil _))))
    · refine z_aload_n rfl rfl ?_
      refine z_iload_n rfl rfl ?_
      refine z_V1i ko5 mv_X5_68 kd_76 (t_X5_asksOn _ _) rfl rfl rfl rfl rfl (fun r2 h2 => ?_)
      refine z_istore_n rfl rfl ?_
      refine z_goto rfl ?_
      refine Z.weak ?_ (ih _ _)
      exact wkL_c (wkL_c (wkL_c (wkL_c (wkL_nil _))))
set_option maxRecDepth 20000 in
set_option maxHeartbeats 1000000 in
theorem t_X5_byAsking_L5 (x1 : Int) (c25 : Hp → Option (Int × Hp)) (hc25 : ∀ (h : Hp), Z M_X5_byAsking 25 [some (vr 76), none, none, none] [] h (c25  h)) : ∀ (n : Nat) (x2 : Int) (h : Hp), Z M_X5_byAsking 5 [some (vr 76), some (vi x1), some (vi x2), none] [] h (f_X5_byAsking_L5 x1 c25 n x2 h) := by
  intro n
  induction n with
  | zero => intro x2 h; exact Z.nix
  | succ n ih =>
    intro x2 h
    rw [f_X5_byAsking_L5_s]
    refine z_iload_n rfl rfl ?_
    refine z_aload_n rfl rfl ?_
    refine z_getRn (m := 77) rfl fl_X5_7 rfl kd_76 rfl ?_
    refine z_iload_n rfl rfl ?_
    refine z_bipush rfl rfl ?_
    refine z_iadd rfl ?_
    refine z_iaload rfl kd_77 ?_
    refine z_icmp_ge rfl ?_ ?_
    · refine Z.weak ?_ (hc25 _)
      exact wkL_c (wkL_n (wkL_n (wkL_n (wkL_nil _))))
    · refine z_iload_n rfl rfl ?_
      refine z_istore_n rfl rfl ?_
      refine Z.weak ?_ (t_X5_byAsking_L15  _ _  _  ?_  fu _ _)
      · exact wkL_c (wkL_c (wkL_c (wkL_c (wkL_nil _))))
      · intro h3
        refine z_iinc rfl rfl rfl ?_
        refine z_goto rfl ?_
        refine Z.weak ?_ (ih _ _)
        exact wkL_c (wkL_c (wkL_c (wkL_n (wkL_nil _))))
set_option maxRecDepth 20000 in
set_option maxHeartbeats 1000000 in
theorem t_X5_byAsking_L29  : ∀ (n : Nat) (x2 : Int) (x3 : Int) (h : Hp), Z M_X5_byAsking 29 [some (vr 76), none, some (vi x2), some (vi x3)] [] h (f_X5_byAsking_L29  n x2 x3 h) := by
  intro n
  induction n with
  | zero => intro x2 x3 h; exact Z.nix
  | succ n ih =>
    intro x2 x3 h
    rw [f_X5_byAsking_L29_s]
    refine z_iload_n rfl rfl ?_
    refine z_bipush rfl rfl ?_
    refine z_icmp_ge rfl ?_ ?_
    · refine z_iload_n rfl rfl ?_
      exact z_ireturn rfl rfl
    · refine z_iload_n rfl rfl ?_
      refine z_aload_n rfl rfl ?_
      refine z_getRn (m := 79) rfl fl_X5_16 rfl kd_76 rfl ?_
      refine z_iload_n rfl rfl ?_
      refine z_iaload rfl kd_79 ?_
      refine z_iconst rfl rfl ?_
      refine z_icmp_ne rfl ?_ ?_
      · refine z_iconst rfl rfl ?_
        refine z_iadd rfl ?_
        refine z_istore_nL rfl rfl (fun y5 => ?_)
        refine z_iinc rfl rfl rfl ?_
        refine z_goto rfl ?_
        refine Z.weak ?_ (ih _ _ _)
        exact wkL_c (wkL_n (wkL_c (wkL_c (wkL_nil _))))
      · refine z_iconst rfl rfl ?_
        refine z_goto rfl ?_
        refine z_iadd rfl ?_
        refine z_istore_nL rfl rfl (fun y6 => ?_)
        refine z_iinc rfl rfl rfl ?_
        refine z_goto rfl ?_
        refine Z.weak ?_ (ih _ _ _)
        exact wkL_c (wkL_n (wkL_c (wkL_c (wkL_nil _))))
set_option maxRecDepth 20000 in
set_option maxHeartbeats 1000000 in
theorem t_X5_byAsking (x1 : Int) (h : Hp) : Ct M_X5_byAsking [vr 76, vi x1] h (f_X5_byAsking x1 h) := by
  refine Ct.mk ok_X5_byAsking pl_X5_byAsking rfl rfl ?_
  show Z M_X5_byAsking 0 [some (vr 76), some (vi x1), none, none] [] h (f_X5_byAsking x1 h)
  unfold f_X5_byAsking
  refine z_aload_n rfl rfl ?_
  refine z_iload_n rfl rfl ?_
  refine z_V1v ko5 mv_X5_60 kd_76 (t_X5_clears _ _) rfl rfl rfl rfl rfl (fun _ h1 => ?_)
  refine z_iconst rfl rfl ?_
  refine z_istore_n rfl rfl ?_
  refine Z.weak ?_ (t_X5_byAsking_L5  _  _  ?_  fu _ _)
  · exact wkL_c (wkL_c (wkL_c (wkL_n (wkL_nil _))))
  · intro h4
    refine z_iconst rfl rfl ?_
    refine z_istore_n rfl rfl ?_
    refine z_iconst rfl rfl ?_
    refine z_istore_n rfl rfl ?_
    refine Z.weak ?_ (t_X5_byAsking_L29      fu _ _ _)
    · exact wkL_c (wkL_n (wkL_c (wkL_c (wkL_nil _))))
set_option maxRecDepth 20000 in
set_option maxHeartbeats 1000000 in
theorem t_X5_lays (x1 : Int) (x2 : Int) (x3 : Int) (x4 : Int) (x5 : Int) (h : Hp) : Ct M_X5_lays [vr 76, vi x1, vi x2, vi x3, vi x4, vi x5] h (f_X5_lays x1 x2 x3 x4 x5 h) := by
  refine Ct.mk ok_X5_lays pl_X5_lays rfl rfl ?_
  show Z M_X5_lays 0 [some (vr 76), some (vi x1), some (vi x2), some (vi x3), some (vi x4), some (vi x5)] [] h (f_X5_lays x1 x2 x3 x4 x5 h)
  unfold f_X5_lays
  refine z_aload_n rfl rfl ?_
  refine z_getRn (m := 77) rfl fl_X5_7 rfl kd_76 rfl ?_
  refine z_iload_n rfl rfl ?_
  refine z_iload_n rfl rfl ?_
  refine z_iastoreL kd_77 rfl (fun h1 => ?_)
  refine z_aload_n rfl rfl ?_
  refine z_getRn (m := 77) rfl fl_X5_7 rfl kd_76 rfl ?_
  refine z_iload_n rfl rfl ?_
  refine z_iconst rfl rfl ?_
  refine z_iadd rfl ?_
  refine z_iload_n rfl rfl ?_
  refine z_iastoreL kd_77 rfl (fun h2 => ?_)
  refine z_aload_n rfl rfl ?_
  refine z_getRn (m := 77) rfl fl_X5_7 rfl kd_76 rfl ?_
  refine z_iload_n rfl rfl ?_
  refine z_iconst rfl rfl ?_
  refine z_iadd rfl ?_
  refine z_iload rfl rfl ?_
  refine z_iastoreL kd_77 rfl (fun h3 => ?_)
  refine z_aload_n rfl rfl ?_
  refine z_getRn (m := 77) rfl fl_X5_7 rfl kd_76 rfl ?_
  refine z_iload_n rfl rfl ?_
  refine z_iconst rfl rfl ?_
  refine z_iadd rfl ?_
  refine z_iload rfl rfl ?_
  refine z_iastoreL kd_77 rfl (fun h4 => ?_)
  refine z_aload_n rfl rfl ?_
  refine z_getRn (m := 77) rfl fl_X5_7 rfl kd_76 rfl ?_
  refine z_iload_n rfl rfl ?_
  refine z_iconst rfl rfl ?_
  refine z_iadd rfl ?_
  refine z_iconst rfl rfl ?_
  refine z_iastoreL kd_77 rfl (fun h5 => ?_)
  exact z_return rfl rfl
end
section
/-! printed by wip/gen/gen.py: the bytecode does what the functions say -/
set_option maxRecDepth 20000 in
set_option maxHeartbeats 1000000 in
theorem t_X5_claims (x1 : Int) (x2 : Int) (x3 : Int) (x4 : Int) (x5 : Int) (h : Hp) : Ct M_X5_claims [vr 76, vi x1, vi x2, vi x3, vi x4, vi x5] h (f_X5_claims x1 x2 x3 x4 x5 h) := by
  refine Ct.mk ok_X5_claims pl_X5_claims rfl rfl ?_
  show Z M_X5_claims 0 [some (vr 76), some (vi x1), some (vi x2), some (vi x3), some (vi x4), some (vi x5)] [] h (f_X5_claims x1 x2 x3 x4 x5 h)
  unfold f_X5_claims
  refine z_iconst rfl rfl ?_
  refine z_iload_n rfl rfl ?_
  refine z_iload_n rfl rfl ?_
  refine z_iload rfl rfl ?_
  refine z_iload rfl rfl ?_
  refine z_S5i ms_X5_93 (t_X5_areValues _ _ _ _ _ _) rfl rfl rfl rfl (fun r1 h1 => ?_)
  refine z_if_ne rfl ?_ ?_
  · refine z_iload_n rfl rfl ?_
    refine z_iload_n rfl rfl ?_
    refine z_iadd rfl ?_
    refine z_iload rfl rfl ?_
    refine z_iadd rfl ?_
    refine z_iload rfl rfl ?_
    refine z_iadd rfl ?_
    refine z_bipush rfl rfl ?_
    refine z_icmp_ne rfl ?_ ?_
    · refine z_aload_n rfl rfl ?_
      refine z_getRn (m := 77) rfl fl_X5_7 rfl kd_76 rfl ?_
      refine z_iload_n rfl rfl ?_
      refine z_bipush rfl rfl ?_
      refine z_iadd rfl ?_
      refine z_iaload rfl kd_77 ?_
      refine z_bipush rfl rfl ?_
      refine z_icmp_ne rfl ?_ ?_
      · refine z_aload_n rfl rfl ?_
        refine z_iload_n rfl rfl ?_
        refine z_aload_n rfl rfl ?_
        refine z_getRn (m := 77) rfl fl_X5_7 rfl kd_76 rfl ?_
        refine z_iload_n rfl rfl ?_
        refine z_bipush rfl rfl ?_
        refine z_iadd rfl ?_
        refine z_iaload rfl kd_77 ?_
        refine z_S2i ms_X5_43 (t_X5_claimAt _ _ _) rfl rfl rfl rfl (fun r2 h2 => ?_)
        refine z_iload_n rfl rfl ?_
        refine z_iload_n rfl rfl ?_
        refine z_iload rfl rfl ?_
        refine z_iload rfl rfl ?_
        refine z_V5v ko5 mv_X5_99 kd_76 (t_X5_lays _ _ _ _ _ _) rfl rfl rfl rfl rfl (fun _ h3 => ?_)
        refine z_aload_n rfl rfl ?_
        refine z_getRn (m := 77) rfl fl_X5_7 rfl kd_76 rfl ?_
        refine z_iload_n rfl rfl ?_
        refine z_aload_n rfl rfl ?_
        refine z_getRn (m := 77) rfl fl_X5_7 rfl kd_76 rfl ?_
        refine z_iload_n rfl rfl ?_
        refine z_bipush rfl rfl ?_
        refine z_iadd rfl ?_
        refine z_iaload rfl kd_77 ?_
        refine z_S2i ms_X5_43 (t_X5_claimAt _ _ _) rfl rfl rfl rfl (fun r4 h4 => ?_)
        refine z_iconst rfl rfl ?_
        refine z_iadd rfl ?_
        refine z_iconst rfl rfl ?_
        refine z_iastoreL kd_77 rfl (fun h5 => ?_)
        refine z_aload_n rfl rfl ?_
        refine z_getRn (m := 77) rfl fl_X5_7 rfl kd_76 rfl ?_
        refine z_iload_n rfl rfl ?_
        refine z_bipush rfl rfl ?_
        refine z_iadd rfl ?_
        refine z_dup2 rfl rfl rfl ?_
        refine z_iaload rfl kd_77 ?_
        refine z_iconst rfl rfl ?_
        refine z_iadd rfl ?_
        refine z_iastoreL kd_77 rfl (fun h6 => ?_)
        refine z_aload_n rfl rfl ?_
        refine z_getRn (m := 77) rfl fl_X5_7 rfl kd_76 rfl ?_
        refine z_iload_n rfl rfl ?_
        refine z_bipush rfl rfl ?_
        refine z_iadd rfl ?_
        refine z_dup2 rfl rfl rfl ?_
        refine z_iaload rfl kd_77 ?_
        refine z_iconst rfl rfl ?_
        refine z_iadd rfl ?_
        refine z_iastoreL kd_77 rfl (fun h7 => ?_)
        refine z_aload_n rfl rfl ?_
        refine z_getRn (m := 77) rfl fl_X5_7 rfl kd_76 rfl ?_
        refine z_iload_n rfl rfl ?_
        refine z_bipush rfl rfl ?_
        refine z_iadd rfl ?_
        refine z_iaload rfl kd_77 ?_
        refine z_iconst rfl rfl ?_
        refine z_isub rfl ?_
        exact z_ireturn rfl rfl
      · refine z_ldc rfl cst_X5_98 rfl ?_
        exact z_ireturn rfl rfl
    · refine z_ldc rfl cst_X5_103 rfl ?_
      exact z_ireturn rfl rfl
  · refine z_ldc rfl cst_X5_97 rfl ?_
    exact z_ireturn rfl rfl
set_option maxRecDepth 20000 in
set_option maxHeartbeats 1000000 in
theorem t_X5_copies_L2 (x1 : Int) (x2 : Int) : ∀ (n : Nat) (x3 : Int) (h : Hp), Z M_X5_copies 2 [some (vr 76), some (vi x1), some (vi x2), some (vi x3)] [] h (f_X5_copies_L2 x1 x2 n x3 h) := by
  intro n
  induction n with
  | zero => intro x3 h; exact Z.nix
  | succ n ih =>
    intro x3 h
    rw [f_X5_copies_L2_s]
    refine z_iload_n rfl rfl ?_
    refine z_sipush rfl rfl ?_
    refine z_icmp_ge rfl ?_ ?_
    · exact z_return rfl rfl
    · refine z_aload_n rfl rfl ?_
      refine z_getRn (m := 77) rfl fl_X5_7 rfl kd_76 rfl ?_
      refine z_sipush rfl rfl ?_
      refine z_iload_n rfl rfl ?_
      refine z_imul rfl ?_
      refine z_iload_n rfl rfl ?_
      refine z_iadd rfl ?_
      refine z_aload_n rfl rfl ?_
      refine z_getRn (m := 77) rfl fl_X5_7 rfl kd_76 rfl ?_
      refine z_sipush rfl rfl ?_
      refine z_iload_n rfl rfl ?_
      refine z_imul rfl ?_
      refine z_iload_n rfl rfl ?_
      refine z_iadd rfl ?_
      refine z_iaload rfl kd_77 ?_
      refine z_iastoreL kd_77 rfl (fun h1 => ?_)
      refine z_iinc rfl rfl rfl ?_
      refine z_goto rfl ?_
      refine Z.weak ?_ (ih _ _)
      exact wkL_c (wkL_c (wkL_c (wkL_c (wkL_nil _))))
set_option maxRecDepth 20000 in
set_option maxHeartbeats 1000000 in
theorem t_X5_copies (x1 : Int) (x2 : Int) (h : Hp) : Ct M_X5_copies [vr 76, vi x1, vi x2] h (f_X5_copies x1 x2 h) := by
  refine Ct.mk ok_X5_copies pl_X5_copies rfl rfl ?_
  show Z M_X5_copies 0 [some (vr 76), some (vi x1), some (vi x2), none] [] h (f_X5_copies x1 x2 h)
  unfold f_X5_copies
  refine z_iconst rfl rfl ?_
  refine z_istore_n rfl rfl ?_
  refine Z.weak ?_ (t_X5_copies_L2  _ _     fu _ _)
  · exact wkL_c (wkL_c (wkL_c (wkL_c (wkL_nil _))))
set_option maxRecDepth 20000 in
set_option maxHeartbeats 1000000 in
theorem t_X5_records_J23  (h : Hp) : Z M_X5_records 23 [some (vr 76), none] [] h (f_X5_records_J23  h) := by
  unfold f_X5_records_J23
  refine z_aload_n rfl rfl ?_
  refine z_dup rfl rfl ?_
  refine z_getI rfl fl_X5_31 rfl kd_76 ?_
  refine z_iconst rfl rfl ?_
  refine z_iadd rfl ?_
  refine z_putL fi_X5_31 rfl kd_76 rfl (fun h1 => ?_)
  refine z_aload_n rfl rfl ?_
  refine z_iconst rfl rfl ?_
  refine z_aload_n rfl rfl ?_
  refine z_getI rfl fl_X5_31 rfl kd_76 ?_
  refine z_V2v ko5 mv_X5_35 kd_76 (t_X5_copies _ _ _) rfl rfl rfl rfl rfl (fun _ h2 => ?_)
  exact z_return rfl rfl
set_option maxRecDepth 20000 in
set_option maxHeartbeats 1000000 in
theorem t_X5_records_L6 (c17 : Hp → Option (Int × Hp)) (hc17 : ∀ (h : Hp), Z M_X5_records 17 [some (vr 76), none] [] h (c17  h)) : ∀ (n : Nat) (x1 : Int) (h : Hp), Z M_X5_records 6 [some (vr 76), some (vi x1)] [] h (f_X5_records_L6 c17 n x1 h) := by
  intro n
  induction n with
  | zero => intro x1 h; exact Z.nix
  | succ n ih =>
    intro x1 h
    rw [f_X5_records_L6_s]
    refine z_iload_n rfl rfl ?_
    refine z_iconst rfl rfl ?_
    refine z_icmp_ge rfl ?_ ?_
    · refine Z.weak ?_ (hc17 _)
      exact wkL_c (wkL_n (wkL_nil _))
    · refine z_aload_n rfl rfl ?_
      refine z_iload_n rfl rfl ?_
      refine z_iconst rfl rfl ?_
      refine z_iadd rfl ?_
      refine z_iload_n rfl rfl ?_
      refine z_V2v ko5 mv_X5_35 kd_76 (t_X5_copies _ _ _) rfl rfl rfl rfl rfl (fun _ h3 => ?_)
      refine z_iinc rfl rfl rfl ?_
      refine z_goto rfl ?_
      refine Z.weak ?_ (ih _ _)
      exact wkL_c (wkL_c (wkL_nil _))
set_option maxRecDepth 20000 in
set_option maxHeartbeats 1000000 in
theorem t_X5_records  (h : Hp) : Ct M_X5_records [vr 76] h (f_X5_records  h) := by
  refine Ct.mk ok_X5_records pl_X5_records rfl rfl ?_
  show Z M_X5_records 0 [some (vr 76), none] [] h (f_X5_records  h)
  unfold f_X5_records
  refine z_aload_n rfl rfl ?_
  refine z_getI rfl fl_X5_31 rfl kd_76 ?_
  refine z_iconst rfl rfl ?_
  refine z_icmp_ne rfl ?_ ?_
  · refine Z.weak ?_ (t_X5_records_J23   _)
    exact wkL_c (wkL_n (wkL_nil _))
  · refine z_iconst rfl rfl ?_
    refine z_istore_n rfl rfl ?_
    refine Z.weak ?_ (t_X5_records_L6   _  ?_  fu _ _)
    · exact wkL_c (wkL_c (wkL_nil _))
    · intro h4
      refine z_aload_n rfl rfl ?_
      refine z_dup rfl rfl ?_
      refine z_getI rfl fl_X5_31 rfl kd_76 ?_
      refine z_iconst rfl rfl ?_
      refine z_isub rfl ?_
      refine z_putL fi_X5_31 rfl kd_76 rfl (fun h5 => ?_)
      refine Z.weak ?_ (t_X5_records_J23   _)
      exact wkL_c (wkL_n (wkL_nil _))
set_option maxRecDepth 20000 in
set_option maxHeartbeats 1000000 in
theorem t_X5_done (x1 : Int) (h : Hp) : Ct M_X5_done [vr 76, vi x1] h (f_X5_done x1 h) := by
  refine Ct.mk ok_X5_done pl_X5_done rfl rfl ?_
  show Z M_X5_done 0 [some (vr 76), some (vi x1)] [] h (f_X5_done x1 h)
  unfold f_X5_done
  refine z_iload_n rfl rfl ?_
  refine z_if_lt rfl ?_ ?_
  · refine z_iload_n rfl rfl ?_
    exact z_ireturn rfl rfl
  · refine z_aload_n rfl rfl ?_
    refine z_V0v ko5 mv_X5_114 kd_76 (t_X5_records  _) rfl rfl rfl rfl rfl (fun _ h1 => ?_)
    refine z_aload_n rfl rfl ?_
    refine z_iconst rfl rfl ?_
    refine z_iconst rfl rfl ?_
    refine z_V2v ko5 mv_X5_35 kd_76 (t_X5_copies _ _ _) rfl rfl rfl rfl rfl (fun _ h2 => ?_)
    refine z_iload_n rfl rfl ?_
    exact z_ireturn rfl rfl
set_option maxRecDepth 20000 in
set_option maxHeartbeats 1000000 in
theorem t_X5_tried  (h : Hp) : Ct M_X5_tried [vr 76] h (f_X5_tried  h) := by
  refine Ct.mk ok_X5_tried pl_X5_tried rfl rfl ?_
  show Z M_X5_tried 0 [some (vr 76)] [] h (f_X5_tried  h)
  unfold f_X5_tried
  refine z_aload_n rfl rfl ?_
  refine z_iconst rfl rfl ?_
  refine z_iconst rfl rfl ?_
  refine z_V2v ko5 mv_X5_35 kd_76 (t_X5_copies _ _ _) rfl rfl rfl rfl rfl (fun _ h1 => ?_)
  refine z_sipush rfl rfl ?_
  exact z_ireturn rfl rfl
set_option maxRecDepth 20000 in
set_option maxHeartbeats 1000000 in
theorem t_X5_claim (x1 : Int) (x2 : Int) (x3 : Int) (x4 : Int) (h : Hp) : Ct M_X5_claim [vr 76, vi x1, vi x2, vi x3, vi x4] h (f_X5_claim x1 x2 x3 x4 h) := by
  refine Ct.mk ok_X5_claim pl_X5_claim rfl rfl ?_
  show Z M_X5_claim 0 [some (vr 76), some (vi x1), some (vi x2), some (vi x3), some (vi x4)] [] h (f_X5_claim x1 x2 x3 x4 h)
  unfold f_X5_claim
  refine z_aload_n rfl rfl ?_
  refine z_aload_n rfl rfl ?_
  refine z_aload_n rfl rfl ?_
  refine z_V0i ko5 mv_X5_117 kd_76 (t_X5_tried  _) rfl rfl rfl rfl rfl (fun r1 h1 => ?_)
  refine z_iload_n rfl rfl ?_
  refine z_iload_n rfl rfl ?_
  refine z_iload_n rfl rfl ?_
  refine z_iload rfl rfl ?_
  refine z_V5i ko5 mv_X5_128 kd_76 (t_X5_claims _ _ _ _ _ _) rfl rfl rfl rfl rfl (fun r2 h2 => ?_)
  refine z_V1i ko5 mv_X5_125 kd_76 (t_X5_done _ _) rfl rfl rfl rfl rfl (fun r3 h3 => ?_)
  exact z_ireturn rfl rfl
set_option maxRecDepth 20000 in
set_option maxHeartbeats 1000000 in
theorem t_X5_claimGoes_L14 (x1 : Int) : ∀ (n : Nat) (x3 : Int) (h : Hp), Z M_X5_claimGoes 14 [some (vr 76), some (vi x1), none, some (vi x3)] [] h (f_X5_claimGoes_L14 x1 n x3 h) := by
  intro n
  induction n with
  | zero => intro x3 h; exact Z.nix
  | succ n ih =>
    intro x3 h
    rw [f_X5_claimGoes_L14_s]
    refine z_iload_n rfl rfl ?_
    refine z_iload_n rfl rfl ?_
    refine z_aload_n rfl rfl ?_
    refine z_getRn (m := 77) rfl fl_X5_7 rfl kd_76 rfl ?_
    refine z_iload_n rfl rfl ?_
    refine z_bipush rfl rfl ?_
    refine z_iadd rfl ?_
    refine z_iaload rfl kd_77 ?_
    refine z_S2i ms_X5_43 (t_X5_claimAt _ _ _) rfl rfl rfl rfl (fun r3 h3 => ?_)
    refine z_icmp_ge rfl ?_ ?_
    · exact z_return rfl rfl
    · refine z_aload_n rfl rfl ?_
      refine z_getRn (m := 77) rfl fl_X5_7 rfl kd_76 rfl ?_
      refine z_iload_n rfl rfl ?_
      refine z_aload_n rfl rfl ?_
      refine z_getRn (m := 77) rfl fl_X5_7 rfl kd_76 rfl ?_
      refine z_iload_n rfl rfl ?_
      refine z_bipush rfl rfl ?_
      refine z_iadd rfl ?_
      refine z_iaload rfl kd_77 ?_
      refine z_iastoreL kd_77 rfl (fun h4 => ?_)
      refine z_iinc rfl rfl rfl ?_
      refine z_goto rfl ?_
      refine Z.weak ?_ (ih _ _)
      exact wkL_c (wkL_c (wkL_n (wkL_c (wkL_nil _))))
set_option maxRecDepth 20000 in
set_option maxHeartbeats 1000000 in
theorem t_X5_claimGoes (x1 : Int) (x2 : Int) (h : Hp) : Ct M_X5_claimGoes [vr 76, vi x1, vi x2] h (f_X5_claimGoes x1 x2 h) := by
  refine Ct.mk ok_X5_claimGoes pl_X5_claimGoes rfl rfl ?_
  show Z M_X5_claimGoes 0 [some (vr 76), some (vi x1), some (vi x2), none] [] h (f_X5_claimGoes x1 x2 h)
  unfold f_X5_claimGoes
  refine z_aload_n rfl rfl ?_
  refine z_getRn (m := 77) rfl fl_X5_7 rfl kd_76 rfl ?_
  refine z_iload_n rfl rfl ?_
  refine z_bipush rfl rfl ?_
  refine z_iadd rfl ?_
  refine z_dup2 rfl rfl rfl ?_
  refine z_iaload rfl kd_77 ?_
  refine z_iconst rfl rfl ?_
  refine z_isub rfl ?_
  refine z_iastoreL kd_77 rfl (fun h1 => ?_)
  refine z_iload_n rfl rfl ?_
  refine z_iload_n rfl rfl ?_
  refine z_S2i ms_X5_43 (t_X5_claimAt _ _ _) rfl rfl rfl rfl (fun r2 h2 => ?_)
  refine z_istore_n rfl rfl ?_
  refine Z.weak ?_ (t_X5_claimGoes_L14  _     fu _ _)
  · exact wkL_c (wkL_c (wkL_n (wkL_c (wkL_nil _))))
set_option maxRecDepth 20000 in
set_option maxHeartbeats 1000000 in
theorem t_X5_isClaim (x1 : Int) (x2 : Int) (h : Hp) : Ct M_X5_isClaim [vr 76, vi x1, vi x2] h (f_X5_isClaim x1 x2 h) := by
  refine Ct.mk ok_X5_isClaim pl_X5_isClaim rfl rfl ?_
  show Z M_X5_isClaim 0 [some (vr 76), some (vi x1), some (vi x2)] [] h (f_X5_isClaim x1 x2 h)
  unfold f_X5_isClaim
  refine z_iload_n rfl rfl ?_
  refine z_iconst rfl rfl ?_
  refine z_aload_n rfl rfl ?_
  refine z_getRn (m := 77) rfl fl_X5_7 rfl kd_76 rfl ?_
  refine z_iload_n rfl rfl ?_
  refine z_bipush rfl rfl ?_
  refine z_iadd rfl ?_
  refine z_iaload rfl kd_77 ?_
  refine z_iconst rfl rfl ?_
  refine z_isub rfl ?_
  refine z_S3i ms_X5_90 (t_X5_in _ _ _ _) rfl rfl rfl rfl (fun r1 h1 => ?_)
  exact z_zret rfl rfl
set_option maxRecDepth 20000 in
set_option maxHeartbeats 1000000 in
theorem t_X5_matches_J41 (c13 : Int → Int → Hp → Option (Int × Hp)) (x2 : Int) (x4 : Int) (x5 : Int) (s0 : Int) (hc13 : ∀ (y4 : Int) (y5 : Int) (h : Hp), Z M_X5_matches 13 [some (vr 76), none, some (vi x2), none, some (vi y4), some (vi y5), none] [] h (c13 y4 y5 h)) (h : Hp) : Z M_X5_matches 41 [some (vr 76), none, some (vi x2), none, some (vi x4), some (vi x5), none] [vi s0] h (f_X5_matches_J41 c13 x2 x4 x5 s0 h) := by
  unfold f_X5_matches_J41
  refine z_istore rfl rfl ?_
  refine z_iload rfl rfl ?_
  refine z_if_eq rfl ?_ ?_
  · refine z_iload rfl rfl ?_
    refine z_istore rfl rfl ?_
    refine z_iinc rfl rfl rfl ?_
    refine z_goto rfl ?_
    refine Z.weak ?_ (hc13 _ _ _)
    exact wkL_c (wkL_n (wkL_c (wkL_n (wkL_c (wkL_c (wkL_n (wkL_nil _)))))))
  · refine z_iload rfl rfl ?_
    refine z_iconst rfl rfl ?_
    refine z_icmp_eq rfl ?_ ?_
    · refine z_iload rfl rfl ?_
      refine z_goto rfl ?_
      refine z_istore rfl rfl ?_
      refine z_iinc rfl rfl rfl ?_
      refine z_goto rfl ?_
      refine Z.weak ?_ (hc13 _ _ _)
      exact wkL_c (wkL_n (wkL_c (wkL_n (wkL_c (wkL_c (wkL_n (wkL_nil _)))))))
    · refine z_aload_n rfl rfl ?_
      refine z_getRn (m := 81) rfl fl_X5_22 rfl kd_76 rfl ?_
      refine z_iload rfl rfl ?_
      refine z_iaload rfl kd_81 ?_
      refine z_aload_n rfl rfl ?_
      refine z_getRn (m := 81) rfl fl_X5_22 rfl kd_76 rfl ?_
      refine z_iload rfl rfl ?_
      refine z_iaload rfl kd_81 ?_
      refine z_icmp_le rfl ?_ ?_
      · refine z_iload rfl rfl ?_
        refine z_istore rfl rfl ?_
        refine z_iinc rfl rfl rfl ?_
        refine z_goto rfl ?_
        refine Z.weak ?_ (hc13 _ _ _)
        exact wkL_c (wkL_n (wkL_c (wkL_n (wkL_c (wkL_c (wkL_n (wkL_nil _)))))))
      · refine z_iload rfl rfl ?_
        refine z_goto rfl ?_
        refine z_istore rfl rfl ?_
        refine z_iinc rfl rfl rfl ?_
        refine z_goto rfl ?_
        refine Z.weak ?_ (hc13 _ _ _)
        exact wkL_c (wkL_n (wkL_c (wkL_n (wkL_c (wkL_c (wkL_n (wkL_nil _)))))))
set_option maxRecDepth 20000 in
set_option maxHeartbeats 1000000 in
theorem t_X5_matches_J40 (c13 : Int → Int → Hp → Option (Int × Hp)) (x2 : Int) (x4 : Int) (x5 : Int) (hc13 : ∀ (y4 : Int) (y5 : Int) (h : Hp), Z M_X5_matches 13 [some (vr 76), none, some (vi x2), none, some (vi y4), some (vi y5), none] [] h (c13 y4 y5 h)) (h : Hp) : Z M_X5_matches 40 [some (vr 76), none, some (vi x2), none, some (vi x4), some (vi x5), none] [] h (f_X5_matches_J40 c13 x2 x4 x5 h) := by
  unfold f_X5_matches_J40
  refine z_iconst rfl rfl ?_
  refine Z.weak ?_ (t_X5_matches_J41  _ _ _ _ _ hc13 _)
  exact wkL_c (wkL_n (wkL_c (wkL_n (wkL_c (wkL_c (wkL_n (wkL_nil _)))))))
set_option maxRecDepth 20000 in
set_option maxHeartbeats 1000000 in
theorem t_X5_matches_L13 (x2 : Int) (c62 : Int → Hp → Option (Int × Hp)) (hc62 : ∀ (y4 : Int) (h : Hp), Z M_X5_matches 62 [some (vr 76), none, some (vi x2), none, some (vi y4), none, none] [] h (c62 y4 h)) : ∀ (n : Nat) (x4 : Int) (x5 : Int) (h : Hp), Z M_X5_matches 13 [some (vr 76), none, some (vi x2), none, some (vi x4), some (vi x5), none] [] h (f_X5_matches_L13 x2 c62 n x4 x5 h) := by
  intro n
  induction n with
  | zero => intro x4 x5 h; exact Z.nix
  | succ n ih =>
    intro x4 x5 h
    rw [f_X5_matches_L13_s]
    refine z_iload rfl rfl ?_
    refine z_sipush rfl rfl ?_
    refine z_icmp_ge rfl ?_ ?_
    · refine Z.weak ?_ (hc62 _ _)
      exact wkL_c (wkL_n (wkL_c (wkL_n (wkL_c (wkL_n (wkL_n (wkL_nil _)))))))
    · refine z_aload_n rfl rfl ?_
      refine z_getRn (m := 81) rfl fl_X5_22 rfl kd_76 rfl ?_
      refine z_iload rfl rfl ?_
      refine z_iaload rfl kd_81 ?_
      refine z_iconst rfl rfl ?_
      refine z_icmp_eq rfl ?_ ?_
      · refine Z.weak ?_ (t_X5_matches_J40  _ _ _ _ ih _)
        exact wkL_c (wkL_n (wkL_c (wkL_n (wkL_c (wkL_c (wkL_n (wkL_nil _)))))))
      · refine z_aload_n rfl rfl ?_
        refine z_getRn (m := 79) rfl fl_X5_16 rfl kd_76 rfl ?_
        refine z_iload rfl rfl ?_
        refine z_bipush rfl rfl ?_
        refine z_idiv rfl rfl ?_
        refine z_iaload rfl kd_79 ?_
        refine z_iconst rfl rfl ?_
        refine z_icmp_ne rfl ?_ ?_
        · refine Z.weak ?_ (t_X5_matches_J40  _ _ _ _ ih _)
          exact wkL_c (wkL_n (wkL_c (wkL_n (wkL_c (wkL_c (wkL_n (wkL_nil _)))))))
        · refine z_aload_n rfl rfl ?_
          refine z_getRn (m := 80) rfl fl_X5_19 rfl kd_76 rfl ?_
          refine z_iload rfl rfl ?_
          refine z_bipush rfl rfl ?_
          refine z_irem rfl rfl ?_
          refine z_iaload rfl kd_80 ?_
          refine z_iconst rfl rfl ?_
          refine z_icmp_ne rfl ?_ ?_
          · refine Z.weak ?_ (t_X5_matches_J40  _ _ _ _ ih _)
            exact wkL_c (wkL_n (wkL_c (wkL_n (wkL_c (wkL_c (wkL_n (wkL_nil _)))))))
          · refine z_iconst rfl rfl ?_
            refine z_goto rfl ?_
            refine Z.weak ?_ (t_X5_matches_J41  _ _ _ _ _ ih _)
            exact wkL_c (wkL_n (wkL_c (wkL_n (wkL_c (wkL_c (wkL_n (wkL_nil _)))))))
set_option maxRecDepth 20000 in
set_option maxHeartbeats 1000000 in
theorem t_X5_matches_J68 (c7 : Int → Int → Hp → Option (Int × Hp)) (x2 : Int) (x4 : Int) (s0 : Int) (hc7 : ∀ (y2 : Int) (y3 : Int) (h : Hp), Z M_X5_matches 7 [some (vr 76), none, some (vi y2), some (vi y3), none, none, none] [] h (c7 y2 y3 h)) (h : Hp) : Z M_X5_matches 68 [some (vr 76), none, some (vi x2), none, some (vi x4), none, none] [vi s0] h (f_X5_matches_J68 c7 x2 x4 s0 h) := by
  unfold f_X5_matches_J68
  refine z_istore_n rfl rfl ?_
  refine z_iload_n rfl rfl ?_
  refine z_if_eq rfl ?_ ?_
  · refine z_goto rfl ?_
    refine Z.weak ?_ (hc7 _ _ _)
    exact wkL_c (wkL_n (wkL_c (wkL_c (wkL_n (wkL_n (wkL_n (wkL_nil _)))))))
  · refine z_aload_n rfl rfl ?_
    refine z_getRn (m := 79) rfl fl_X5_16 rfl kd_76 rfl ?_
    refine z_iload rfl rfl ?_
    refine z_bipush rfl rfl ?_
    refine z_idiv rfl rfl ?_
    refine z_iload rfl rfl ?_
    refine z_bipush rfl rfl ?_
    refine z_irem rfl rfl ?_
    refine z_iastoreL kd_79 rfl (fun h4 => ?_)
    refine z_aload_n rfl rfl ?_
    refine z_getRn (m := 80) rfl fl_X5_19 rfl kd_76 rfl ?_
    refine z_iload rfl rfl ?_
    refine z_bipush rfl rfl ?_
    refine z_irem rfl rfl ?_
    refine z_iload rfl rfl ?_
    refine z_bipush rfl rfl ?_
    refine z_idiv rfl rfl ?_
    refine z_iastoreL kd_80 rfl (fun h5 => ?_)
    refine z_iinc rfl rfl rfl ?_
    refine z_goto rfl ?_
    refine Z.weak ?_ (hc7 _ _ _)
    exact wkL_c (wkL_n (wkL_c (wkL_c (wkL_n (wkL_n (wkL_n (wkL_nil _)))))))
set_option maxRecDepth 20000 in
set_option maxHeartbeats 1000000 in
theorem t_X5_matches_L7  : ∀ (n : Nat) (x2 : Int) (x3 : Int) (h : Hp), Z M_X5_matches 7 [some (vr 76), none, some (vi x2), some (vi x3), none, none, none] [] h (f_X5_matches_L7  n x2 x3 h) := by
  intro n
  induction n with
  | zero => intro x2 x3 h; exact Z.nix
  | succ n ih =>
    intro x2 x3 h
    rw [f_X5_matches_L7_s]
    refine z_iload_n rfl rfl ?_
    refine z_if_eq rfl ?_ ?_
    · refine z_iload_n rfl rfl ?_
      exact z_ireturn rfl rfl
    · refine z_iconst rfl rfl ?_
      refine z_istore rfl rfl ?_
      refine z_iconst rfl rfl ?_
      refine z_istore rfl rfl ?_
      refine Z.weak ?_ (t_X5_matches_L13  _  _  ?_  fu _ _ _)
      · exact wkL_c (wkL_n (wkL_c (wkL_n (wkL_c (wkL_c (wkL_n (wkL_nil _)))))))
      · intro y2 h3
        refine z_iload rfl rfl ?_
        refine z_iconst rfl rfl ?_
        refine z_icmp_eq rfl ?_ ?_
        · refine z_iconst rfl rfl ?_
          refine Z.weak ?_ (t_X5_matches_J68  _ _ _ _ ih _)
          exact wkL_c (wkL_n (wkL_c (wkL_n (wkL_c (wkL_n (wkL_n (wkL_nil _)))))))
        · refine z_iconst rfl rfl ?_
          refine z_goto rfl ?_
          refine Z.weak ?_ (t_X5_matches_J68  _ _ _ _ ih _)
          exact wkL_c (wkL_n (wkL_c (wkL_n (wkL_c (wkL_n (wkL_n (wkL_nil _)))))))
set_option maxRecDepth 20000 in
set_option maxHeartbeats 1000000 in
theorem t_X5_matches (x1 : Int) (h : Hp) : Ct M_X5_matches [vr 76, vi x1] h (f_X5_matches x1 h) := by
  refine Ct.mk ok_X5_matches pl_X5_matches rfl rfl ?_
  show Z M_X5_matches 0 [some (vr 76), some (vi x1), none, none, none, none, none] [] h (f_X5_matches x1 h)
  unfold f_X5_matches
  refine z_aload_n rfl rfl ?_
  refine z_iload_n rfl rfl ?_
  refine z_V1v ko5 mv_X5_60 kd_76 (t_X5_clears _ _) rfl rfl rfl rfl rfl (fun _ h1 => ?_)
  refine z_iconst rfl rfl ?_
  refine z_istore_n rfl rfl ?_
  refine z_iconst rfl rfl ?_
  refine z_istore_n rfl rfl ?_
  refine Z.weak ?_ (t_X5_matches_L7      fu _ _ _)
  · exact wkL_c (wkL_n (wkL_c (wkL_c (wkL_n (wkL_n (wkL_n (wkL_nil _)))))))
set_option maxRecDepth 20000 in
set_option maxHeartbeats 1000000 in
theorem t_X5_matchOf (x1 : Int) (x2 : Int) (h : Hp) : Ct M_X5_matchOf [vr 76, vi x1, vi x2] h (f_X5_matchOf x1 x2 h) := by
  refine Ct.mk ok_X5_matchOf pl_X5_matchOf rfl rfl ?_
  show Z M_X5_matchOf 0 [some (vr 76), some (vi x1), some (vi x2), none] [] h (f_X5_matchOf x1 x2 h)
  unfold f_X5_matchOf
  refine z_aload_n rfl rfl ?_
  refine z_iload_n rfl rfl ?_
  refine z_V1i ko5 mv_X5_87 kd_76 (t_X5_matches _ _) rfl rfl rfl rfl rfl (fun r1 h1 => ?_)
  refine z_istore_n rfl rfl ?_
  refine z_aload_n rfl rfl ?_
  refine z_getRn (m := 80) rfl fl_X5_19 rfl kd_76 rfl ?_
  refine z_iload_n rfl rfl ?_
  refine z_iaload rfl kd_80 ?_
  refine z_iconst rfl rfl ?_
  refine z_icmp_ne rfl ?_ ?_
  · refine z_aload_n rfl rfl ?_
    refine z_getRn (m := 80) rfl fl_X5_19 rfl kd_76 rfl ?_
    refine z_iload_n rfl rfl ?_
    refine z_iaload rfl kd_80 ?_
    exact z_ireturn rfl rfl
  · refine z_ldc rfl cst_X5_144 rfl ?_
    refine z_goto rfl ?_
    exact z_ireturn rfl rfl
set_option maxRecDepth 20000 in
set_option maxHeartbeats 1000000 in
theorem t_X5_suiting_J30 (c7 : Int → Int → Hp → Option (Int × Hp)) (x1 : Int) (x2 : Int) (x3 : Int) (x4 : Int) (s0 : Int) (hc7 : ∀ (y3 : Int) (y4 : Int) (h : Hp), Z M_X5_suiting 7 [some (vr 76), some (vi x1), some (vi x2), some (vi y3), some (vi y4), none] [] h (c7 y3 y4 h)) (h : Hp) : Z M_X5_suiting 30 [some (vr 76), some (vi x1), some (vi x2), some (vi x3), some (vi x4), none] [vi s0] h (f_X5_suiting_J30 c7 x1 x2 x3 x4 s0 h) := by
  unfold f_X5_suiting_J30
  refine z_istore rfl rfl ?_
  refine z_iload_n rfl rfl ?_
  refine z_iload rfl rfl ?_
  refine z_if_eq rfl ?_ ?_
  · refine z_iconst rfl rfl ?_
    refine z_iadd rfl ?_
    refine z_istore_nL rfl rfl (fun y2 => ?_)
    refine z_iinc rfl rfl rfl ?_
    refine z_goto rfl ?_
    refine Z.weak ?_ (hc7 _ _ _)
    exact wkL_c (wkL_c (wkL_c (wkL_c (wkL_c (wkL_n (wkL_nil _))))))
  · refine z_aload_n rfl rfl ?_
    refine z_getRn (m := 81) rfl fl_X5_22 rfl kd_76 rfl ?_
    refine z_iload rfl rfl ?_
    refine z_iaload rfl kd_81 ?_
    refine z_iconst rfl rfl ?_
    refine z_icmp_eq rfl ?_ ?_
    · refine z_iconst rfl rfl ?_
      refine z_iadd rfl ?_
      refine z_istore_nL rfl rfl (fun y3 => ?_)
      refine z_iinc rfl rfl rfl ?_
      refine z_goto rfl ?_
      refine Z.weak ?_ (hc7 _ _ _)
      exact wkL_c (wkL_c (wkL_c (wkL_c (wkL_c (wkL_n (wkL_nil _))))))
    · refine z_iconst rfl rfl ?_
      refine z_goto rfl ?_
      refine z_iadd rfl ?_
      refine z_istore_nL rfl rfl (fun y4 => ?_)
      refine z_iinc rfl rfl rfl ?_
      refine z_goto rfl ?_
      refine Z.weak ?_ (hc7 _ _ _)
      exact wkL_c (wkL_c (wkL_c (wkL_c (wkL_c (wkL_n (wkL_nil _))))))
set_option maxRecDepth 20000 in
set_option maxHeartbeats 1000000 in
theorem t_X5_suiting_L7 (x1 : Int) (x2 : Int) : ∀ (n : Nat) (x3 : Int) (x4 : Int) (h : Hp), Z M_X5_suiting 7 [some (vr 76), some (vi x1), some (vi x2), some (vi x3), some (vi x4), none] [] h (f_X5_suiting_L7 x1 x2 n x3 x4 h) := by
  intro n
  induction n with
  | zero => intro x3 x4 h; exact Z.nix
  | succ n ih =>
    intro x3 x4 h
    rw [f_X5_suiting_L7_s]
    refine z_iload rfl rfl ?_
    refine z_sipush rfl rfl ?_
    refine z_icmp_ge rfl ?_ ?_
    · refine z_iload_n rfl rfl ?_
      exact z_ireturn rfl rfl
    · refine z_iload_n rfl rfl ?_
      refine z_iconst rfl rfl ?_
      refine z_icmp_ne rfl ?_ ?_
      · refine z_iload rfl rfl ?_
        refine z_bipush rfl rfl ?_
        refine z_idiv rfl rfl ?_
        refine z_iload_n rfl rfl ?_
        refine z_icmp_ne rfl ?_ ?_
        · refine z_iconst rfl rfl ?_
          refine Z.weak ?_ (t_X5_suiting_J30  _ _ _ _ _ _ ih _)
          exact wkL_c (wkL_c (wkL_c (wkL_c (wkL_c (wkL_n (wkL_nil _))))))
        · refine z_iconst rfl rfl ?_
          refine z_goto rfl ?_
          refine Z.weak ?_ (t_X5_suiting_J30  _ _ _ _ _ _ ih _)
          exact wkL_c (wkL_c (wkL_c (wkL_c (wkL_c (wkL_n (wkL_nil _))))))
      · refine z_iload rfl rfl ?_
        refine z_bipush rfl rfl ?_
        refine z_irem rfl rfl ?_
        refine z_iload_n rfl rfl ?_
        refine z_icmp_ne rfl ?_ ?_
        · refine z_iconst rfl rfl ?_
          refine z_goto rfl ?_
          refine Z.weak ?_ (t_X5_suiting_J30  _ _ _ _ _ _ ih _)
          exact wkL_c (wkL_c (wkL_c (wkL_c (wkL_c (wkL_n (wkL_nil _))))))
        · refine z_iconst rfl rfl ?_
          refine z_goto rfl ?_
          refine Z.weak ?_ (t_X5_suiting_J30  _ _ _ _ _ _ ih _)
          exact wkL_c (wkL_c (wkL_c (wkL_c (wkL_c (wkL_n (wkL_nil _))))))
set_option maxRecDepth 20000 in
set_option maxHeartbeats 1000000 in
theorem t_X5_suiting (x1 : Int) (x2 : Int) (h : Hp) : Ct M_X5_suiting [vr 76, vi x1, vi x2] h (f_X5_suiting x1 x2 h) := by
  refine Ct.mk ok_X5_suiting pl_X5_suiting rfl rfl ?_
  show Z M_X5_suiting 0 [some (vr 76), some (vi x1), some (vi x2), none, none, none] [] h (f_X5_suiting x1 x2 h)
  unfold f_X5_suiting
  refine z_aload_n rfl rfl ?_
  refine z_iconst rfl rfl ?_
  refine z_V1v ko5 mv_X5_60 kd_76 (t_X5_clears _ _) rfl rfl rfl rfl rfl (fun _ h1 => ?_)
  refine z_iconst rfl rfl ?_
  refine z_istore_n rfl rfl ?_
  refine z_iconst rfl rfl ?_
  refine z_istore rfl rfl ?_
  refine Z.weak ?_ (t_X5_suiting_L7  _ _     fu _ _ _)
  · exact wkL_c (wkL_c (wkL_c (wkL_c (wkL_c (wkL_n (wkL_nil _))))))
set_option maxRecDepth 20000 in
set_option maxHeartbeats 1000000 in
theorem t_X5_claimOf (x1 : Int) (x2 : Int) (h : Hp) : Ct M_X5_claimOf [vr 76, vi x1, vi x2] h (f_X5_claimOf x1 x2 h) := by
  refine Ct.mk ok_X5_claimOf pl_X5_claimOf rfl rfl ?_
  show Z M_X5_claimOf 0 [some (vr 76), some (vi x1), some (vi x2), none] [] h (f_X5_claimOf x1 x2 h)
  unfold f_X5_claimOf
  refine z_aload_n rfl rfl ?_
  refine z_iconst rfl rfl ?_
  refine z_iload_n rfl rfl ?_
  refine z_V2i ko5 mv_X5_104 kd_76 (t_X5_isClaim _ _ _) rfl rfl rfl rfl rfl (fun r1 h1 => ?_)
  refine z_if_eq rfl ?_ ?_
  · refine z_ldc rfl cst_X5_97 rfl ?_
    exact z_ireturn rfl rfl
  · refine z_iload_n rfl rfl ?_
    refine z_iconst rfl rfl ?_
    refine z_bipush rfl rfl ?_
    refine z_S3i ms_X5_90 (t_X5_in _ _ _ _) rfl rfl rfl rfl (fun r2 h2 => ?_)
    refine z_if_ne rfl ?_ ?_
    · refine z_iconst rfl rfl ?_
      refine z_iload_n rfl rfl ?_
      refine z_S2i ms_X5_43 (t_X5_claimAt _ _ _) rfl rfl rfl rfl (fun r3 h3 => ?_)
      refine z_istore_n rfl rfl ?_
      refine z_iload_n rfl rfl ?_
      refine Z.ite (fun e4 => ?_) (fun e4 => ?_)
      · refine z_table (tg := 18) rfl (o := 31) (by rw [e4]; rfl) rfl ?_
        refine z_aload_n rfl rfl ?_
        refine z_getRn (m := 77) rfl fl_X5_7 rfl kd_76 rfl ?_
        refine z_iload_n rfl rfl ?_
        refine z_iconst rfl rfl ?_
        refine z_iadd rfl ?_
        refine z_iaload rfl kd_77 ?_
        exact z_ireturn rfl rfl
      refine Z.ite (fun e6 => ?_) (fun e6 => ?_)
      · refine z_table (tg := 25) rfl (o := 40) (by rw [e6]; rfl) rfl ?_
        refine z_aload_n rfl rfl ?_
        refine z_iconst rfl rfl ?_
        refine z_iload_n rfl rfl ?_
        refine z_V2i ko5 mv_X5_159 kd_76 (t_X5_matchOf _ _ _) rfl rfl rfl rfl rfl (fun r5 h5 => ?_)
        exact z_ireturn rfl rfl
      refine Z.ite (fun e8 => ?_) (fun e8 => ?_)
      · refine z_table (tg := 30) rfl (o := 47) (by rw [e8]; rfl) rfl ?_
        refine z_aload_n rfl rfl ?_
        refine z_iconst rfl rfl ?_
        refine z_iload_n rfl rfl ?_
        refine z_V2i ko5 mv_X5_153 kd_76 (t_X5_suiting _ _ _) rfl rfl rfl rfl rfl (fun r7 h7 => ?_)
        exact z_ireturn rfl rfl
      refine Z.ite (fun e9 => ?_) (fun e9 => ?_)
      · refine z_table (tg := 35) rfl (o := 54) (by rw [e9]; rfl) rfl ?_
        refine z_aload_n rfl rfl ?_
        refine z_getRn (m := 77) rfl fl_X5_7 rfl kd_76 rfl ?_
        refine z_iload_n rfl rfl ?_
        refine z_iconst rfl rfl ?_
        refine z_iadd rfl ?_
        refine z_iaload rfl kd_77 ?_
        exact z_ireturn rfl rfl
      refine z_table (tg := 42) rfl (o := 63) (if_pos (by omega)) rfl ?_
      refine z_aload_n rfl rfl ?_
      refine z_getRn (m := 77) rfl fl_X5_7 rfl kd_76 rfl ?_
      refine z_iload_n rfl rfl ?_
      refine z_iload_n rfl rfl ?_
      refine z_iadd rfl ?_
      refine z_iaload rfl kd_77 ?_
      refine z_iconst rfl rfl ?_
      refine z_icmp_ne rfl ?_ ?_
      · refine z_aload_n rfl rfl ?_
        refine z_getRn (m := 77) rfl fl_X5_7 rfl kd_76 rfl ?_
        refine z_iload_n rfl rfl ?_
        refine z_iload_n rfl rfl ?_
        refine z_iadd rfl ?_
        refine z_iaload rfl kd_77 ?_
        exact z_ireturn rfl rfl
      · refine z_ldc rfl cst_X5_144 rfl ?_
        refine z_goto rfl ?_
        exact z_ireturn rfl rfl
    · refine z_ldc rfl cst_X5_97 rfl ?_
      exact z_ireturn rfl rfl
set_option maxRecDepth 20000 in
set_option maxHeartbeats 1000000 in
theorem t_X5_clearText  (h : Hp) : Ct M_X5_clearText [vr 76] h (f_X5_clearText  h) := by
  refine Ct.mk ok_X5_clearText pl_X5_clearText rfl rfl ?_
  show Z M_X5_clearText 0 [some (vr 76), none] [] h (f_X5_clearText  h)
  unfold f_X5_clearText
  refine z_aload_n rfl rfl ?_
  refine z_getI rfl fl_X5_171 rfl kd_76 ?_
  refine z_istore_nL rfl rfl (fun y1 => ?_)
  refine z_aload_n rfl rfl ?_
  refine z_iconst rfl rfl ?_
  refine z_putL fi_X5_171 rfl kd_76 rfl (fun h2 => ?_)
  refine z_iload_n rfl rfl ?_
  exact z_ireturn rfl rfl
set_option maxRecDepth 20000 in
set_option maxHeartbeats 1000000 in
theorem t_X5_count (x1 : Int) (h : Hp) : Ct M_X5_count [vr 76, vi x1] h (f_X5_count x1 h) := by
  refine Ct.mk ok_X5_count pl_X5_count rfl rfl ?_
  show Z M_X5_count 0 [some (vr 76), some (vi x1)] [] h (f_X5_count x1 h)
  unfold f_X5_count
  refine z_iload_n rfl rfl ?_
  refine z_bipush rfl rfl ?_
  refine z_bipush rfl rfl ?_
  refine z_S3i ms_X5_90 (t_X5_in _ _ _ _) rfl rfl rfl rfl (fun r1 h1 => ?_)
  refine z_if_eq rfl ?_ ?_
  · refine z_iload_n rfl rfl ?_
    refine Z.ite (fun e2 => ?_) (fun e2 => ?_)
    · refine z_table (tg := 16) rfl (o := 76) (by rw [e2]; rfl) rfl ?_
      refine z_aload_n rfl rfl ?_
      refine z_getRn (m := 77) rfl fl_X5_7 rfl kd_76 rfl ?_
      refine z_iconst rfl rfl ?_
      refine z_iaload rfl kd_77 ?_
      exact z_ireturn rfl rfl
    refine Z.ite (fun e3 => ?_) (fun e3 => ?_)
    · refine z_table (tg := 21) rfl (o := 83) (by rw [e3]; rfl) rfl ?_
      refine z_aload_n rfl rfl ?_
      refine z_getRn (m := 77) rfl fl_X5_7 rfl kd_76 rfl ?_
      refine z_bipush rfl rfl ?_
      refine z_iload_n rfl rfl ?_
      refine z_iadd rfl ?_
      refine z_iconst rfl rfl ?_
      refine z_isub rfl ?_
      refine z_iaload rfl kd_77 ?_
      exact z_ireturn rfl rfl
    refine Z.ite (fun e4 => ?_) (fun e4 => ?_)
    · refine z_table (tg := 21) rfl (o := 83) (by rw [e4]; rfl) rfl ?_
      refine z_aload_n rfl rfl ?_
      refine z_getRn (m := 77) rfl fl_X5_7 rfl kd_76 rfl ?_
      refine z_bipush rfl rfl ?_
      refine z_iload_n rfl rfl ?_
      refine z_iadd rfl ?_
      refine z_iconst rfl rfl ?_
      refine z_isub rfl ?_
      refine z_iaload rfl kd_77 ?_
      exact z_ireturn rfl rfl
    refine Z.ite (fun e6 => ?_) (fun e6 => ?_)
    · refine z_table (tg := 30) rfl (o := 95) (by rw [e6]; rfl) rfl ?_
      refine z_aload_n rfl rfl ?_
      refine z_iconst rfl rfl ?_
      refine z_V1i ko5 mv_X5_87 kd_76 (t_X5_matches _ _) rfl rfl rfl rfl rfl (fun r5 h5 => ?_)
      exact z_ireturn rfl rfl
    refine Z.ite (fun e8 => ?_) (fun e8 => ?_)
    · refine z_table (tg := 34) rfl (o := 101) (by rw [e8]; rfl) rfl ?_
      refine z_aload_n rfl rfl ?_
      refine z_iconst rfl rfl ?_
      refine z_V1i ko5 mv_X5_168 kd_76 (t_X5_byAsking _ _) rfl rfl rfl rfl rfl (fun r7 h7 => ?_)
      exact z_ireturn rfl rfl
    refine Z.ite (fun e9 => ?_) (fun e9 => ?_)
    · refine z_table (tg := 38) rfl (o := 107) (by rw [e9]; rfl) rfl ?_
      refine z_aload_n rfl rfl ?_
      refine z_getRn (m := 77) rfl fl_X5_7 rfl kd_76 rfl ?_
      refine z_bipush rfl rfl ?_
      refine z_iload_n rfl rfl ?_
      refine z_iadd rfl ?_
      refine z_iconst rfl rfl ?_
      refine z_isub rfl ?_
      refine z_iaload rfl kd_77 ?_
      exact z_ireturn rfl rfl
    refine Z.ite (fun e10 => ?_) (fun e10 => ?_)
    · refine z_table (tg := 38) rfl (o := 107) (by rw [e10]; rfl) rfl ?_
      refine z_aload_n rfl rfl ?_
      refine z_getRn (m := 77) rfl fl_X5_7 rfl kd_76 rfl ?_
      refine z_bipush rfl rfl ?_
      refine z_iload_n rfl rfl ?_
      refine z_iadd rfl ?_
      refine z_iconst rfl rfl ?_
      refine z_isub rfl ?_
      refine z_iaload rfl kd_77 ?_
      exact z_ireturn rfl rfl
    refine Z.ite (fun e11 => ?_) (fun e11 => ?_)
    · refine z_table (tg := 38) rfl (o := 107) (by rw [e11]; rfl) rfl ?_
      refine z_aload_n rfl rfl ?_
      refine z_getRn (m := 77) rfl fl_X5_7 rfl kd_76 rfl ?_
      refine z_bipush rfl rfl ?_
      refine z_iload_n rfl rfl ?_
      refine z_iadd rfl ?_
      refine z_iconst rfl rfl ?_
      refine z_isub rfl ?_
      refine z_iaload rfl kd_77 ?_
      exact z_ireturn rfl rfl
    refine Z.ite (fun e12 => ?_) (fun e12 => ?_)
    · refine z_table (tg := 38) rfl (o := 107) (by rw [e12]; rfl) rfl ?_
      refine z_aload_n rfl rfl ?_
      refine z_getRn (m := 77) rfl fl_X5_7 rfl kd_76 rfl ?_
      refine z_bipush rfl rfl ?_
      refine z_iload_n rfl rfl ?_
      refine z_iadd rfl ?_
      refine z_iconst rfl rfl ?_
      refine z_isub rfl ?_
      refine z_iaload rfl kd_77 ?_
      exact z_ireturn rfl rfl
    refine Z.ite (fun e13 => ?_) (fun e13 => ?_)
    · refine z_table (tg := 38) rfl (o := 107) (by rw [e13]; rfl) rfl ?_
      refine z_aload_n rfl rfl ?_
      refine z_getRn (m := 77) rfl fl_X5_7 rfl kd_76 rfl ?_
      refine z_bipush rfl rfl ?_
      refine z_iload_n rfl rfl ?_
      refine z_iadd rfl ?_
      refine z_iconst rfl rfl ?_
      refine z_isub rfl ?_
      refine z_iaload rfl kd_77 ?_
      exact z_ireturn rfl rfl
    refine Z.ite (fun e14 => ?_) (fun e14 => ?_)
    · refine z_table (tg := 38) rfl (o := 107) (by rw [e14]; rfl) rfl ?_
      refine z_aload_n rfl rfl ?_
      refine z_getRn (m := 77) rfl fl_X5_7 rfl kd_76 rfl ?_
      refine z_bipush rfl rfl ?_
      refine z_iload_n rfl rfl ?_
      refine z_iadd rfl ?_
      refine z_iconst rfl rfl ?_
      refine z_isub rfl ?_
      refine z_iaload rfl kd_77 ?_
      exact z_ireturn rfl rfl
    refine Z.ite (fun e15 => ?_) (fun e15 => ?_)
    · refine z_table (tg := 38) rfl (o := 107) (by rw [e15]; rfl) rfl ?_
      refine z_aload_n rfl rfl ?_
      refine z_getRn (m := 77) rfl fl_X5_7 rfl kd_76 rfl ?_
      refine z_bipush rfl rfl ?_
      refine z_iload_n rfl rfl ?_
      refine z_iadd rfl ?_
      refine z_iconst rfl rfl ?_
      refine z_isub rfl ?_
      refine z_iaload rfl kd_77 ?_
      exact z_ireturn rfl rfl
    refine Z.ite (fun e16 => ?_) (fun e16 => ?_)
    · refine z_table (tg := 47) rfl (o := 119) (by rw [e16]; rfl) rfl ?_
      refine z_aload_n rfl rfl ?_
      refine z_getRn (m := 77) rfl fl_X5_7 rfl kd_76 rfl ?_
      refine z_bipush rfl rfl ?_
      refine z_iaload rfl kd_77 ?_
      exact z_ireturn rfl rfl
    refine Z.ite (fun e17 => ?_) (fun e17 => ?_)
    · refine z_table (tg := 52) rfl (o := 127) (by rw [e17]; rfl) rfl ?_
      refine z_aload_n rfl rfl ?_
      refine z_getI rfl fl_X5_31 rfl kd_76 ?_
      exact z_ireturn rfl rfl
    refine Z.ite (fun e18 => ?_) (fun e18 => ?_)
    · refine z_table (tg := 55) rfl (o := 132) (by rw [e18]; rfl) rfl ?_
      refine z_aload_n rfl rfl ?_
      refine z_getI rfl fl_X5_171 rfl kd_76 ?_
      exact z_ireturn rfl rfl
    refine z_table (tg := 58) rfl (o := 137) (if_pos (by omega)) rfl ?_
    refine z_ldc rfl cst_X5_97 rfl ?_
    exact z_ireturn rfl rfl
  · refine z_aload_n rfl rfl ?_
    refine z_getRn (m := 77) rfl fl_X5_7 rfl kd_76 rfl ?_
    refine z_iconst rfl rfl ?_
    refine z_iload_n rfl rfl ?_
    refine z_iadd rfl ?_
    refine z_bipush rfl rfl ?_
    refine z_isub rfl ?_
    refine z_iaload rfl kd_77 ?_
    exact z_ireturn rfl rfl
set_option maxRecDepth 20000 in
set_option maxHeartbeats 1000000 in
theorem t_X5_finds (x1 : Int) (x2 : Int) (x3 : Int) (x4 : Int) (x5 : Int) (h : Hp) : Ct M_X5_finds [vr 76, vi x1, vi x2, vi x3, vi x4, vi x5] h (f_X5_finds x1 x2 x3 x4 x5 h) := by
  refine Ct.mk ok_X5_finds pl_X5_finds rfl rfl ?_
  show Z M_X5_finds 0 [some (vr 76), some (vi x1), some (vi x2), some (vi x3), some (vi x4), some (vi x5)] [] h (f_X5_finds x1 x2 x3 x4 x5 h)
  unfold f_X5_finds
  refine z_iconst rfl rfl ?_
  refine z_iload_n rfl rfl ?_
  refine z_iload_n rfl rfl ?_
  refine z_iload rfl rfl ?_
  refine z_iload rfl rfl ?_
  refine z_S5i ms_X5_93 (t_X5_areValues _ _ _ _ _ _) rfl rfl rfl rfl (fun r1 h1 => ?_)
  refine z_if_ne rfl ?_ ?_
  · refine z_aload_n rfl rfl ?_
    refine z_getRn (m := 77) rfl fl_X5_7 rfl kd_76 rfl ?_
    refine z_iload_n rfl rfl ?_
    refine z_bipush rfl rfl ?_
    refine z_iadd rfl ?_
    refine z_iaload rfl kd_77 ?_
    refine z_bipush rfl rfl ?_
    refine z_icmp_ne rfl ?_ ?_
    · refine z_aload_n rfl rfl ?_
      refine z_iload_n rfl rfl ?_
      refine z_aload_n rfl rfl ?_
      refine z_getRn (m := 77) rfl fl_X5_7 rfl kd_76 rfl ?_
      refine z_iload_n rfl rfl ?_
      refine z_bipush rfl rfl ?_
      refine z_iadd rfl ?_
      refine z_iaload rfl kd_77 ?_
      refine z_S2i ms_X5_39 (t_X5_umbrellaAt _ _ _) rfl rfl rfl rfl (fun r2 h2 => ?_)
      refine z_iload_n rfl rfl ?_
      refine z_iload_n rfl rfl ?_
      refine z_iload rfl rfl ?_
      refine z_iload rfl rfl ?_
      refine z_V5v ko5 mv_X5_99 kd_76 (t_X5_lays _ _ _ _ _ _) rfl rfl rfl rfl rfl (fun _ h3 => ?_)
      refine z_aload_n rfl rfl ?_
      refine z_getRn (m := 77) rfl fl_X5_7 rfl kd_76 rfl ?_
      refine z_iload_n rfl rfl ?_
      refine z_bipush rfl rfl ?_
      refine z_iadd rfl ?_
      refine z_dup2 rfl rfl rfl ?_
      refine z_iaload rfl kd_77 ?_
      refine z_iconst rfl rfl ?_
      refine z_iadd rfl ?_
      refine z_iastoreL kd_77 rfl (fun h4 => ?_)
      refine z_aload_n rfl rfl ?_
      refine z_getRn (m := 77) rfl fl_X5_7 rfl kd_76 rfl ?_
      refine z_iload_n rfl rfl ?_
      refine z_bipush rfl rfl ?_
      refine z_iadd rfl ?_
      refine z_dup2 rfl rfl rfl ?_
      refine z_iaload rfl kd_77 ?_
      refine z_iconst rfl rfl ?_
      refine z_iadd rfl ?_
      refine z_iastoreL kd_77 rfl (fun h5 => ?_)
      refine z_aload_n rfl rfl ?_
      refine z_getRn (m := 77) rfl fl_X5_7 rfl kd_76 rfl ?_
      refine z_iload_n rfl rfl ?_
      refine z_bipush rfl rfl ?_
      refine z_iadd rfl ?_
      refine z_iaload rfl kd_77 ?_
      refine z_iconst rfl rfl ?_
      refine z_isub rfl ?_
      exact z_ireturn rfl rfl
    · refine z_ldc rfl cst_X5_98 rfl ?_
      exact z_ireturn rfl rfl
  · refine z_ldc rfl cst_X5_97 rfl ?_
    exact z_ireturn rfl rfl
set_option maxRecDepth 20000 in
set_option maxHeartbeats 1000000 in
theorem t_X5_umbrellaGoes_L14 (x1 : Int) : ∀ (n : Nat) (x3 : Int) (h : Hp), Z M_X5_umbrellaGoes 14 [some (vr 76), some (vi x1), none, some (vi x3)] [] h (f_X5_umbrellaGoes_L14 x1 n x3 h) := by
  intro n
  induction n with
  | zero => intro x3 h; exact Z.nix
  | succ n ih =>
    intro x3 h
    rw [f_X5_umbrellaGoes_L14_s]
    refine z_iload_n rfl rfl ?_
    refine z_iload_n rfl rfl ?_
    refine z_aload_n rfl rfl ?_
    refine z_getRn (m := 77) rfl fl_X5_7 rfl kd_76 rfl ?_
    refine z_iload_n rfl rfl ?_
    refine z_bipush rfl rfl ?_
    refine z_iadd rfl ?_
    refine z_iaload rfl kd_77 ?_
    refine z_S2i ms_X5_39 (t_X5_umbrellaAt _ _ _) rfl rfl rfl rfl (fun r3 h3 => ?_)
    refine z_icmp_ge rfl ?_ ?_
    · exact z_return rfl rfl
    · refine z_aload_n rfl rfl ?_
      refine z_getRn (m := 77) rfl fl_X5_7 rfl kd_76 rfl ?_
      refine z_iload_n rfl rfl ?_
      refine z_aload_n rfl rfl ?_
      refine z_getRn (m := 77) rfl fl_X5_7 rfl kd_76 rfl ?_
      refine z_iload_n rfl rfl ?_
      refine z_iconst rfl rfl ?_
      refine z_iadd rfl ?_
      refine z_iaload rfl kd_77 ?_
      refine z_iastoreL kd_77 rfl (fun h4 => ?_)
      refine z_iinc rfl rfl rfl ?_
      refine z_goto rfl ?_
      refine Z.weak ?_ (ih _ _)
      exact wkL_c (wkL_c (wkL_n (wkL_c (wkL_nil _))))
set_option maxRecDepth 20000 in
set_option maxHeartbeats 1000000 in
theorem t_X5_umbrellaGoes (x1 : Int) (x2 : Int) (h : Hp) : Ct M_X5_umbrellaGoes [vr 76, vi x1, vi x2] h (f_X5_umbrellaGoes x1 x2 h) := by
  refine Ct.mk ok_X5_umbrellaGoes pl_X5_umbrellaGoes rfl rfl ?_
  show Z M_X5_umbrellaGoes 0 [some (vr 76), some (vi x1), some (vi x2), none] [] h (f_X5_umbrellaGoes x1 x2 h)
  unfold f_X5_umbrellaGoes
  refine z_aload_n rfl rfl ?_
  refine z_getRn (m := 77) rfl fl_X5_7 rfl kd_76 rfl ?_
  refine z_iload_n rfl rfl ?_
  refine z_bipush rfl rfl ?_
  refine z_iadd rfl ?_
  refine z_dup2 rfl rfl rfl ?_
  refine z_iaload rfl kd_77 ?_
  refine z_iconst rfl rfl ?_
  refine z_isub rfl ?_
  refine z_iastoreL kd_77 rfl (fun h1 => ?_)
  refine z_iload_n rfl rfl ?_
  refine z_iload_n rfl rfl ?_
  refine z_S2i ms_X5_39 (t_X5_umbrellaAt _ _ _) rfl rfl rfl rfl (fun r2 h2 => ?_)
  refine z_istore_n rfl rfl ?_
  refine Z.weak ?_ (t_X5_umbrellaGoes_L14  _     fu _ _)
  · exact wkL_c (wkL_c (wkL_n (wkL_c (wkL_nil _))))
set_option maxRecDepth 20000 in
set_option maxHeartbeats 1000000 in
theorem t_X5_writes_J41 (x1 : Int) (x2 : Int) (x3 : Int) (x4 : Int) (h : Hp) : Z M_X5_writes 41 [some (vr 76), some (vi x1), some (vi x2), some (vi x3), some (vi x4), none] [] h (f_X5_writes_J41 x1 x2 x3 x4 h) := by
  unfold f_X5_writes_J41
  refine z_iload_n rfl rfl ?_
  refine z_sipush rfl rfl ?_
  refine z_iadd rfl ?_
  refine z_iconst rfl rfl ?_
  refine z_aload_n rfl rfl ?_
  refine z_getRn (m := 77) rfl fl_X5_7 rfl kd_76 rfl ?_
  refine z_iload_n rfl rfl ?_
  refine z_bipush rfl rfl ?_
  refine z_iadd rfl ?_
  refine z_iaload rfl kd_77 ?_
  refine z_imul rfl ?_
  refine z_iadd rfl ?_
  refine z_istoreL rfl rfl (fun y1 => ?_)
  refine z_aload_n rfl rfl ?_
  refine z_getRn (m := 77) rfl fl_X5_7 rfl kd_76 rfl ?_
  refine z_iload rfl rfl ?_
  refine z_aload_n rfl rfl ?_
  refine z_getRn (m := 77) rfl fl_X5_7 rfl kd_76 rfl ?_
  refine z_iload_n rfl rfl ?_
  refine z_iconst rfl rfl ?_
  refine z_iadd rfl ?_
  refine z_iaload rfl kd_77 ?_
  refine z_iastoreL kd_77 rfl (fun h2 => ?_)
  refine z_aload_n rfl rfl ?_
  refine z_getRn (m := 77) rfl fl_X5_7 rfl kd_76 rfl ?_
  refine z_iload rfl rfl ?_
  refine z_iconst rfl rfl ?_
  refine z_iadd rfl ?_
  refine z_iload_n rfl rfl ?_
  refine z_iastoreL kd_77 rfl (fun h3 => ?_)
  refine z_aload_n rfl rfl ?_
  refine z_getRn (m := 77) rfl fl_X5_7 rfl kd_76 rfl ?_
  refine z_iload rfl rfl ?_
  refine z_iconst rfl rfl ?_
  refine z_iadd rfl ?_
  refine z_iload_n rfl rfl ?_
  refine z_iastoreL kd_77 rfl (fun h4 => ?_)
  refine z_aload_n rfl rfl ?_
  refine z_getRn (m := 77) rfl fl_X5_7 rfl kd_76 rfl ?_
  refine z_iload rfl rfl ?_
  refine z_iconst rfl rfl ?_
  refine z_iadd rfl ?_
  refine z_iload rfl rfl ?_
  refine z_iastoreL kd_77 rfl (fun h5 => ?_)
  refine z_aload_n rfl rfl ?_
  refine z_getRn (m := 77) rfl fl_X5_7 rfl kd_76 rfl ?_
  refine z_iload_n rfl rfl ?_
  refine z_bipush rfl rfl ?_
  refine z_iadd rfl ?_
  refine z_dup2 rfl rfl rfl ?_
  refine z_iaload rfl kd_77 ?_
  refine z_iconst rfl rfl ?_
  refine z_iadd rfl ?_
  refine z_iastoreL kd_77 rfl (fun h6 => ?_)
  refine z_aload_n rfl rfl ?_
  refine z_getRn (m := 77) rfl fl_X5_7 rfl kd_76 rfl ?_
  refine z_iload_n rfl rfl ?_
  refine z_bipush rfl rfl ?_
  refine z_iadd rfl ?_
  refine z_dup2 rfl rfl rfl ?_
  refine z_iaload rfl kd_77 ?_
  refine z_iload rfl rfl ?_
  refine z_iadd rfl ?_
  refine z_iastoreL kd_77 rfl (fun h7 => ?_)
  exact z_return rfl rfl
set_option maxRecDepth 20000 in
set_option maxHeartbeats 1000000 in
theorem t_X5_writes_L12 (x1 : Int) (x2 : Int) (x3 : Int) (x4 : Int) (c31 : Hp → Option (Int × Hp)) (hc31 : ∀ (h : Hp), Z M_X5_writes 31 [some (vr 76), some (vi x1), some (vi x2), some (vi x3), some (vi x4), none] [] h (c31  h)) : ∀ (n : Nat) (x5 : Int) (h : Hp), Z M_X5_writes 12 [some (vr 76), some (vi x1), some (vi x2), some (vi x3), some (vi x4), some (vi x5)] [] h (f_X5_writes_L12 x1 x2 x3 x4 c31 n x5 h) := by
  intro n
  induction n with
  | zero => intro x5 h; exact Z.nix
  | succ n ih =>
    intro x5 h
    rw [f_X5_writes_L12_s]
    refine z_iload rfl rfl ?_
    refine z_iload_n rfl rfl ?_
    refine z_sipush rfl rfl ?_
    refine z_iadd rfl ?_
    refine z_bipush rfl rfl ?_
    refine z_iadd rfl ?_
    refine z_icmp_ge rfl ?_ ?_
    · refine Z.weak ?_ (hc31 _)
      exact wkL_c (wkL_c (wkL_c (wkL_c (wkL_c (wkL_n (wkL_nil _))))))
    · refine z_aload_n rfl rfl ?_
      refine z_getRn (m := 77) rfl fl_X5_7 rfl kd_76 rfl ?_
      refine z_iload rfl rfl ?_
      refine z_aload_n rfl rfl ?_
      refine z_getRn (m := 77) rfl fl_X5_7 rfl kd_76 rfl ?_
      refine z_iload rfl rfl ?_
      refine z_iconst rfl rfl ?_
      refine z_iadd rfl ?_
      refine z_iaload rfl kd_77 ?_
      refine z_iastoreL kd_77 rfl (fun h9 => ?_)
      refine z_iinc rfl rfl rfl ?_
      refine z_goto rfl ?_
      refine Z.weak ?_ (ih _ _)
      exact wkL_c (wkL_c (wkL_c (wkL_c (wkL_c (wkL_c (wkL_nil _))))))
set_option maxRecDepth 20000 in
set_option maxHeartbeats 1000000 in
theorem t_X5_writes (x1 : Int) (x2 : Int) (x3 : Int) (x4 : Int) (h : Hp) : Ct M_X5_writes [vr 76, vi x1, vi x2, vi x3, vi x4] h (f_X5_writes x1 x2 x3 x4 h) := by
  refine Ct.mk ok_X5_writes pl_X5_writes rfl rfl ?_
  show Z M_X5_writes 0 [some (vr 76), some (vi x1), some (vi x2), some (vi x3), some (vi x4), none] [] h (f_X5_writes x1 x2 x3 x4 h)
  unfold f_X5_writes
  refine z_aload_n rfl rfl ?_
  refine z_getRn (m := 77) rfl fl_X5_7 rfl kd_76 rfl ?_
  refine z_iload_n rfl rfl ?_
  refine z_bipush rfl rfl ?_
  refine z_iadd rfl ?_
  refine z_iaload rfl kd_77 ?_
  refine z_bipush rfl rfl ?_
  refine z_icmp_ne rfl ?_ ?_
  · refine Z.weak ?_ (t_X5_writes_J41  _ _ _ _  _)
    exact wkL_c (wkL_c (wkL_c (wkL_c (wkL_c (wkL_n (wkL_nil _))))))
  · refine z_iload_n rfl rfl ?_
    refine z_sipush rfl rfl ?_
    refine z_iadd rfl ?_
    refine z_istoreL rfl rfl (fun y8 => ?_)
    refine Z.weak ?_ (t_X5_writes_L12  _ _ _ _  _  ?_  fu _ _)
    · exact wkL_c (wkL_c (wkL_c (wkL_c (wkL_c (wkL_c (wkL_nil _))))))
    · intro h10
      refine z_aload_n rfl rfl ?_
      refine z_getRn (m := 77) rfl fl_X5_7 rfl kd_76 rfl ?_
      refine z_iload_n rfl rfl ?_
      refine z_bipush rfl rfl ?_
      refine z_iadd rfl ?_
      refine z_dup2 rfl rfl rfl ?_
      refine z_iaload rfl kd_77 ?_
      refine z_iconst rfl rfl ?_
      refine z_isub rfl ?_
      refine z_iastoreL kd_77 rfl (fun h11 => ?_)
      refine Z.weak ?_ (t_X5_writes_J41  _ _ _ _  _)
      exact wkL_c (wkL_c (wkL_c (wkL_c (wkL_c (wkL_n (wkL_nil _))))))
end
section
/-! printed by wip/gen/gen.py: the bytecode does what the functions say -/
set_option maxRecDepth 20000 in
set_option maxHeartbeats 1000000 in
theorem t_X5_handsOut_L6 (x1 : Int) (x2 : Int) (c44 : Hp → Option (Int × Hp)) (hc44 : ∀ (h : Hp), Z M_X5_handsOut 44 [some (vr 76), some (vi x1), some (vi x2), none, none] [] h (c44  h)) : ∀ (n : Nat) (x3 : Int) (h : Hp), Z M_X5_handsOut 6 [some (vr 76), some (vi x1), some (vi x2), some (vi x3), none] [] h (f_X5_handsOut_L6 x1 x2 c44 n x3 h) := by
  intro n
  induction n with
  | zero => intro x3 h; exact Z.nix
  | succ n ih =>
    intro x3 h
    rw [f_X5_handsOut_L6_s]
    refine z_iload_n rfl rfl ?_
    refine z_aload_n rfl rfl ?_
    refine z_getRn (m := 77) rfl fl_X5_7 rfl kd_76 rfl ?_
    refine z_iload_n rfl rfl ?_
    refine z_bipush rfl rfl ?_
    refine z_iadd rfl ?_
    refine z_iaload rfl kd_77 ?_
    refine z_icmp_ge rfl ?_ ?_
    · refine Z.weak ?_ (hc44 _)
      exact wkL_c (wkL_c (wkL_c (wkL_n (wkL_n (wkL_nil _)))))
    · refine z_aload_n rfl rfl ?_
      refine z_getRn (m := 79) rfl fl_X5_16 rfl kd_76 rfl ?_
      refine z_iload_n rfl rfl ?_
      refine z_iaload rfl kd_79 ?_
      refine z_iconst rfl rfl ?_
      refine z_icmp_eq rfl ?_ ?_
      · refine z_iinc rfl rfl rfl ?_
        refine z_goto rfl ?_
        refine Z.weak ?_ (ih _ _)
        exact wkL_c (wkL_c (wkL_c (wkL_c (wkL_n (wkL_nil _)))))
      · refine z_aload_n rfl rfl ?_
        refine z_getRn (m := 77) rfl fl_X5_7 rfl kd_76 rfl ?_
        refine z_iload_n rfl rfl ?_
        refine z_iload_n rfl rfl ?_
        refine z_S2i ms_X5_39 (t_X5_umbrellaAt _ _ _) rfl rfl rfl rfl (fun r2 h2 => ?_)
        refine z_iconst rfl rfl ?_
        refine z_iadd rfl ?_
        refine z_iaload rfl kd_77 ?_
        refine z_istoreL rfl rfl (fun y3 => ?_)
        refine z_aload_n rfl rfl ?_
        refine z_iload_n rfl rfl ?_
        refine z_iconst rfl rfl ?_
        refine z_iload rfl rfl ?_
        refine z_iload rfl rfl ?_
        refine z_aload_n rfl rfl ?_
        refine z_getRn (m := 77) rfl fl_X5_7 rfl kd_76 rfl ?_
        refine z_iload_n rfl rfl ?_
        refine z_iconst rfl rfl ?_
        refine z_iadd rfl ?_
        refine z_iaload rfl kd_77 ?_
        refine z_imul rfl ?_
        refine z_V4v ko5 mv_X5_71 kd_76 (t_X5_writes _ _ _ _ _) rfl rfl rfl rfl rfl (fun _ h4 => ?_)
        refine z_iinc rfl rfl rfl ?_
        refine z_goto rfl ?_
        refine Z.weak ?_ (ih _ _)
        exact wkL_c (wkL_c (wkL_c (wkL_c (wkL_n (wkL_nil _)))))
set_option maxRecDepth 20000 in
set_option maxHeartbeats 1000000 in
theorem t_X5_handsOut_J58 (c46 : Int → Hp → Option (Int × Hp)) (x1 : Int) (x2 : Int) (x3 : Int) (hc46 : ∀ (y3 : Int) (h : Hp), Z M_X5_handsOut 46 [some (vr 76), some (vi x1), some (vi x2), some (vi y3), none] [] h (c46 y3 h)) (h : Hp) : Z M_X5_handsOut 58 [some (vr 76), some (vi x1), some (vi x2), some (vi x3), none] [] h (f_X5_handsOut_J58 c46 x1 x2 x3 h) := by
  unfold f_X5_handsOut_J58
  refine z_aload_n rfl rfl ?_
  refine z_getRn (m := 80) rfl fl_X5_19 rfl kd_76 rfl ?_
  refine z_iload_n rfl rfl ?_
  refine z_iaload rfl kd_80 ?_
  refine z_iconst rfl rfl ?_
  refine z_icmp_eq rfl ?_ ?_
  · refine z_iinc rfl rfl rfl ?_
    refine z_goto rfl ?_
    refine Z.weak ?_ (hc46 _ _)
    exact wkL_c (wkL_c (wkL_c (wkL_c (wkL_n (wkL_nil _)))))
  · refine z_aload_n rfl rfl ?_
    refine z_iload_n rfl rfl ?_
    refine z_iload_n rfl rfl ?_
    refine z_V2v ko5 mv_X5_78 kd_76 (t_X5_claimGoes _ _ _) rfl rfl rfl rfl rfl (fun _ h6 => ?_)
    refine z_iinc rfl rfl rfl ?_
    refine z_goto rfl ?_
    refine Z.weak ?_ (hc46 _ _)
    exact wkL_c (wkL_c (wkL_c (wkL_c (wkL_n (wkL_nil _)))))
set_option maxRecDepth 20000 in
set_option maxHeartbeats 1000000 in
theorem t_X5_handsOut_L46 (x1 : Int) (x2 : Int) (c70 : Hp → Option (Int × Hp)) (hc70 : ∀ (h : Hp), Z M_X5_handsOut 70 [some (vr 76), some (vi x1), some (vi x2), none, none] [] h (c70  h)) : ∀ (n : Nat) (x3 : Int) (h : Hp), Z M_X5_handsOut 46 [some (vr 76), some (vi x1), some (vi x2), some (vi x3), none] [] h (f_X5_handsOut_L46 x1 x2 c70 n x3 h) := by
  intro n
  induction n with
  | zero => intro x3 h; exact Z.nix
  | succ n ih =>
    intro x3 h
    rw [f_X5_handsOut_L46_s]
    refine z_iload_n rfl rfl ?_
    refine z_if_lt rfl ?_ ?_
    · refine Z.weak ?_ (hc70 _)
      exact wkL_c (wkL_c (wkL_c (wkL_n (wkL_n (wkL_nil _)))))
    · refine z_aload_n rfl rfl ?_
      refine z_getRn (m := 79) rfl fl_X5_16 rfl kd_76 rfl ?_
      refine z_iload_n rfl rfl ?_
      refine z_iaload rfl kd_79 ?_
      refine z_iconst rfl rfl ?_
      refine z_icmp_eq rfl ?_ ?_
      · refine Z.weak ?_ (t_X5_handsOut_J58  _ _ _ _ ih _)
        exact wkL_c (wkL_c (wkL_c (wkL_c (wkL_n (wkL_nil _)))))
      · refine z_aload_n rfl rfl ?_
        refine z_iload_n rfl rfl ?_
        refine z_iload_n rfl rfl ?_
        refine z_V2v ko5 mv_X5_75 kd_76 (t_X5_umbrellaGoes _ _ _) rfl rfl rfl rfl rfl (fun _ h7 => ?_)
        refine Z.weak ?_ (t_X5_handsOut_J58  _ _ _ _ ih _)
        exact wkL_c (wkL_c (wkL_c (wkL_c (wkL_n (wkL_nil _)))))
set_option maxRecDepth 20000 in
set_option maxHeartbeats 1000000 in
theorem t_X5_handsOut (x1 : Int) (h : Hp) : Ct M_X5_handsOut [vr 76, vi x1] h (f_X5_handsOut x1 h) := by
  refine Ct.mk ok_X5_handsOut pl_X5_handsOut rfl rfl ?_
  show Z M_X5_handsOut 0 [some (vr 76), some (vi x1), none, none, none] [] h (f_X5_handsOut x1 h)
  unfold f_X5_handsOut
  refine z_aload_n rfl rfl ?_
  refine z_iload_n rfl rfl ?_
  refine z_V1i ko5 mv_X5_87 kd_76 (t_X5_matches _ _) rfl rfl rfl rfl rfl (fun r1 h1 => ?_)
  refine z_istore_n rfl rfl ?_
  refine z_iconst rfl rfl ?_
  refine z_istore_n rfl rfl ?_
  refine Z.weak ?_ (t_X5_handsOut_L6  _ _  _  ?_  fu _ _)
  · exact wkL_c (wkL_c (wkL_c (wkL_c (wkL_n (wkL_nil _)))))
  · intro h5
    refine z_bipush rfl rfl ?_
    refine z_istore_n rfl rfl ?_
    refine Z.weak ?_ (t_X5_handsOut_L46  _ _  _  ?_  fu _ _)
    · exact wkL_c (wkL_c (wkL_c (wkL_c (wkL_n (wkL_nil _)))))
    · intro h8
      refine z_aload_n rfl rfl ?_
      refine z_getRn (m := 77) rfl fl_X5_7 rfl kd_76 rfl ?_
      refine z_iload_n rfl rfl ?_
      refine z_bipush rfl rfl ?_
      refine z_iadd rfl ?_
      refine z_dup2 rfl rfl rfl ?_
      refine z_iaload rfl kd_77 ?_
      refine z_iload_n rfl rfl ?_
      refine z_iadd rfl ?_
      refine z_iastoreL kd_77 rfl (fun h9 => ?_)
      refine z_iload_n rfl rfl ?_
      exact z_ireturn rfl rfl
set_option maxRecDepth 20000 in
set_option maxHeartbeats 1000000 in
theorem t_X5_isDetail (x0 : Int) (x1 : Int) (h : Hp) : Ct M_X5_isDetail [vi x0, vi x1] h (f_X5_isDetail x0 x1 h) := by
  refine Ct.mk ok_X5_isDetail pl_X5_isDetail rfl rfl ?_
  show Z M_X5_isDetail 0 [some (vi x0), some (vi x1)] [] h (f_X5_isDetail x0 x1 h)
  unfold f_X5_isDetail
  refine z_iload_n rfl rfl ?_
  refine z_iconst rfl rfl ?_
  refine z_iconst rfl rfl ?_
  refine z_S3i ms_X5_90 (t_X5_in _ _ _ _) rfl rfl rfl rfl (fun r1 h1 => ?_)
  refine z_if_eq rfl ?_ ?_
  · refine z_iconst rfl rfl ?_
    exact z_zret0 rfl rfl
  · refine z_iload_n rfl rfl ?_
    refine z_iconst rfl rfl ?_
    refine z_bipush rfl rfl ?_
    refine z_S3i ms_X5_90 (t_X5_in _ _ _ _) rfl rfl rfl rfl (fun r2 h2 => ?_)
    refine z_if_eq rfl ?_ ?_
    · refine z_iconst rfl rfl ?_
      exact z_zret0 rfl rfl
    · refine z_iconst rfl rfl ?_
      refine z_goto rfl ?_
      exact z_zret1 rfl rfl
set_option maxRecDepth 20000 in
set_option maxHeartbeats 1000000 in
theorem t_X5_tells_J41 (x3 : Int) (x4 : Int) (x5 : Int) (s1 : Int) (s2 : Int) (s3 : Int) (h : Hp) : Z M_X5_tells 41 [some (vr 76), none, none, some (vi x3), some (vi x4), some (vi x5)] [vi s3, vi s2, vi s1, vr 77] h (f_X5_tells_J41 x3 x4 x5 s1 s2 s3 h) := by
  unfold f_X5_tells_J41
  refine z_iadd rfl ?_
  refine z_iastoreL kd_77 rfl (fun h4 => ?_)
  refine z_aload_n rfl rfl ?_
  refine z_getRn (m := 77) rfl fl_X5_7 rfl kd_76 rfl ?_
  refine z_iload rfl rfl ?_
  refine z_iload_n rfl rfl ?_
  refine z_iadd rfl ?_
  refine z_iload rfl rfl ?_
  refine z_iastoreL kd_77 rfl (fun h5 => ?_)
  refine z_aload_n rfl rfl ?_
  refine z_getRn (m := 77) rfl fl_X5_7 rfl kd_76 rfl ?_
  refine z_iload rfl rfl ?_
  refine z_iconst rfl rfl ?_
  refine z_iadd rfl ?_
  refine z_iaload rfl kd_77 ?_
  exact z_ireturn rfl rfl
set_option maxRecDepth 20000 in
set_option maxHeartbeats 1000000 in
theorem t_X5_tells_J40 (x3 : Int) (x4 : Int) (x5 : Int) (s1 : Int) (s2 : Int) (h : Hp) : Z M_X5_tells 40 [some (vr 76), none, none, some (vi x3), some (vi x4), some (vi x5)] [vi s2, vi s1, vr 77] h (f_X5_tells_J40 x3 x4 x5 s1 s2 h) := by
  unfold f_X5_tells_J40
  refine z_iconst rfl rfl ?_
  refine Z.weak ?_ (t_X5_tells_J41  _ _ _ _ _ _  _)
  exact wkL_c (wkL_n (wkL_n (wkL_c (wkL_c (wkL_c (wkL_nil _))))))
set_option maxRecDepth 20000 in
set_option maxHeartbeats 1000000 in
theorem t_X5_tells (x1 : Int) (x2 : Int) (x3 : Int) (x4 : Int) (h : Hp) : Ct M_X5_tells [vr 76, vi x1, vi x2, vi x3, vi x4] h (f_X5_tells x1 x2 x3 x4 h) := by
  refine Ct.mk ok_X5_tells pl_X5_tells rfl rfl ?_
  show Z M_X5_tells 0 [some (vr 76), some (vi x1), some (vi x2), some (vi x3), some (vi x4), none] [] h (f_X5_tells x1 x2 x3 x4 h)
  unfold f_X5_tells
  refine z_aload_n rfl rfl ?_
  refine z_iload_n rfl rfl ?_
  refine z_iload_n rfl rfl ?_
  refine z_V2i ko5 mv_X5_104 kd_76 (t_X5_isClaim _ _ _) rfl rfl rfl rfl rfl (fun r1 h1 => ?_)
  refine z_if_eq rfl ?_ ?_
  · refine z_ldc rfl cst_X5_97 rfl ?_
    exact z_ireturn rfl rfl
  · refine z_iload_n rfl rfl ?_
    refine z_iload rfl rfl ?_
    refine z_S2i ms_X5_108 (t_X5_isDetail _ _ _) rfl rfl rfl rfl (fun r2 h2 => ?_)
    refine z_if_ne rfl ?_ ?_
    · refine z_iload_n rfl rfl ?_
      refine z_iload_n rfl rfl ?_
      refine z_S2i ms_X5_43 (t_X5_claimAt _ _ _) rfl rfl rfl rfl (fun r3 h3 => ?_)
      refine z_istore rfl rfl ?_
      refine z_aload_n rfl rfl ?_
      refine z_getRn (m := 77) rfl fl_X5_7 rfl kd_76 rfl ?_
      refine z_iload rfl rfl ?_
      refine z_iconst rfl rfl ?_
      refine z_iadd rfl ?_
      refine z_dup2 rfl rfl rfl ?_
      refine z_iaload rfl kd_77 ?_
      refine z_aload_n rfl rfl ?_
      refine z_getRn (m := 77) rfl fl_X5_7 rfl kd_76 rfl ?_
      refine z_iload rfl rfl ?_
      refine z_iload_n rfl rfl ?_
      refine z_iadd rfl ?_
      refine z_iaload rfl kd_77 ?_
      refine z_iconst rfl rfl ?_
      refine z_icmp_eq rfl ?_ ?_
      · refine Z.weak ?_ (t_X5_tells_J40  _ _ _ _ _  _)
        exact wkL_c (wkL_n (wkL_n (wkL_c (wkL_c (wkL_c (wkL_nil _))))))
      · refine z_aload_n rfl rfl ?_
        refine z_getRn (m := 77) rfl fl_X5_7 rfl kd_76 rfl ?_
        refine z_iload rfl rfl ?_
        refine z_iload_n rfl rfl ?_
        refine z_iadd rfl ?_
        refine z_iaload rfl kd_77 ?_
        refine z_iload rfl rfl ?_
        refine z_icmp_eq rfl ?_ ?_
        · refine Z.weak ?_ (t_X5_tells_J40  _ _ _ _ _  _)
          exact wkL_c (wkL_n (wkL_n (wkL_c (wkL_c (wkL_c (wkL_nil _))))))
        · refine z_iconst rfl rfl ?_
          refine z_goto rfl ?_
          refine Z.weak ?_ (t_X5_tells_J41  _ _ _ _ _ _  _)
          exact wkL_c (wkL_n (wkL_n (wkL_c (wkL_c (wkL_c (wkL_nil _))))))
    · refine z_ldc rfl cst_X5_97 rfl ?_
      exact z_ireturn rfl rfl
set_option maxRecDepth 20000 in
set_option maxHeartbeats 1000000 in
theorem t_X5_lapses_L2 (x1 : Int) : ∀ (n : Nat) (x2 : Int) (h : Hp), Z M_X5_lapses 2 [some (vr 76), some (vi x1), some (vi x2), none] [] h (f_X5_lapses_L2 x1 n x2 h) := by
  intro n
  induction n with
  | zero => intro x2 h; exact Z.nix
  | succ n ih =>
    intro x2 h
    rw [f_X5_lapses_L2_s]
    refine z_iload_n rfl rfl ?_
    refine z_aload_n rfl rfl ?_
    refine z_getRn (m := 77) rfl fl_X5_7 rfl kd_76 rfl ?_
    refine z_iload_n rfl rfl ?_
    refine z_bipush rfl rfl ?_
    refine z_iadd rfl ?_
    refine z_iaload rfl kd_77 ?_
    refine z_icmp_ge rfl ?_ ?_
    · exact z_return rfl rfl
    · refine z_aload_n rfl rfl ?_
      refine z_getRn (m := 77) rfl fl_X5_7 rfl kd_76 rfl ?_
      refine z_iload_n rfl rfl ?_
      refine z_iload_n rfl rfl ?_
      refine z_S2i ms_X5_43 (t_X5_claimAt _ _ _) rfl rfl rfl rfl (fun r1 h1 => ?_)
      refine z_iconst rfl rfl ?_
      refine z_iadd rfl ?_
      refine z_iaload rfl kd_77 ?_
      refine z_istore_nL rfl rfl (fun y2 => ?_)
      refine z_iload_n rfl rfl ?_
      refine z_aload_n rfl rfl ?_
      refine z_getRn (m := 77) rfl fl_X5_7 rfl kd_76 rfl ?_
      refine z_iload_n rfl rfl ?_
      refine z_bipush rfl rfl ?_
      refine z_iadd rfl ?_
      refine z_iaload rfl kd_77 ?_
      refine z_icmp_lt rfl ?_ ?_
      · refine z_iinc rfl rfl rfl ?_
        refine z_goto rfl ?_
        refine Z.weak ?_ (ih _ _)
        exact wkL_c (wkL_c (wkL_c (wkL_n (wkL_nil _))))
      · refine z_aload_n rfl rfl ?_
        refine z_iload_n rfl rfl ?_
        refine z_iconst rfl rfl ?_
        refine z_iload_n rfl rfl ?_
        refine z_iconst rfl rfl ?_
        refine z_V4v ko5 mv_X5_71 kd_76 (t_X5_writes _ _ _ _ _) rfl rfl rfl rfl rfl (fun _ h3 => ?_)
        refine z_aload_n rfl rfl ?_
        refine z_getRn (m := 77) rfl fl_X5_7 rfl kd_76 rfl ?_
        refine z_iload_n rfl rfl ?_
        refine z_bipush rfl rfl ?_
        refine z_iadd rfl ?_
        refine z_dup2 rfl rfl rfl ?_
        refine z_iaload rfl kd_77 ?_
        refine z_iconst rfl rfl ?_
        refine z_iadd rfl ?_
        refine z_iastoreL kd_77 rfl (fun h4 => ?_)
        refine z_aload_n rfl rfl ?_
        refine z_iload_n rfl rfl ?_
        refine z_iload_n rfl rfl ?_
        refine z_V2v ko5 mv_X5_78 kd_76 (t_X5_claimGoes _ _ _) rfl rfl rfl rfl rfl (fun _ h5 => ?_)
        refine z_goto rfl ?_
        refine z_goto rfl ?_
        refine Z.weak ?_ (ih _ _)
        exact wkL_c (wkL_c (wkL_c (wkL_n (wkL_nil _))))
set_option maxRecDepth 20000 in
set_option maxHeartbeats 1000000 in
theorem t_X5_lapses (x1 : Int) (h : Hp) : Ct M_X5_lapses [vr 76, vi x1] h (f_X5_lapses x1 h) := by
  refine Ct.mk ok_X5_lapses pl_X5_lapses rfl rfl ?_
  show Z M_X5_lapses 0 [some (vr 76), some (vi x1), none, none] [] h (f_X5_lapses x1 h)
  unfold f_X5_lapses
  refine z_iconst rfl rfl ?_
  refine z_istore_n rfl rfl ?_
  refine Z.weak ?_ (t_X5_lapses_L2  _     fu _ _)
  · exact wkL_c (wkL_c (wkL_c (wkL_n (wkL_nil _))))
set_option maxRecDepth 20000 in
set_option maxHeartbeats 1000000 in
theorem t_X5_sells_L2 (x1 : Int) : ∀ (n : Nat) (x2 : Int) (h : Hp), Z M_X5_sells 2 [some (vr 76), some (vi x1), some (vi x2), none] [] h (f_X5_sells_L2 x1 n x2 h) := by
  intro n
  induction n with
  | zero => intro x2 h; exact Z.nix
  | succ n ih =>
    intro x2 h
    rw [f_X5_sells_L2_s]
    refine z_iload_n rfl rfl ?_
    refine z_aload_n rfl rfl ?_
    refine z_getRn (m := 77) rfl fl_X5_7 rfl kd_76 rfl ?_
    refine z_iload_n rfl rfl ?_
    refine z_bipush rfl rfl ?_
    refine z_iadd rfl ?_
    refine z_iaload rfl kd_77 ?_
    refine z_icmp_ge rfl ?_ ?_
    · exact z_return rfl rfl
    · refine z_aload_n rfl rfl ?_
      refine z_getRn (m := 77) rfl fl_X5_7 rfl kd_76 rfl ?_
      refine z_iload_n rfl rfl ?_
      refine z_iload_n rfl rfl ?_
      refine z_S2i ms_X5_39 (t_X5_umbrellaAt _ _ _) rfl rfl rfl rfl (fun r1 h1 => ?_)
      refine z_iconst rfl rfl ?_
      refine z_iadd rfl ?_
      refine z_iaload rfl kd_77 ?_
      refine z_istore_nL rfl rfl (fun y2 => ?_)
      refine z_iload_n rfl rfl ?_
      refine z_aload_n rfl rfl ?_
      refine z_getRn (m := 77) rfl fl_X5_7 rfl kd_76 rfl ?_
      refine z_iload_n rfl rfl ?_
      refine z_bipush rfl rfl ?_
      refine z_iadd rfl ?_
      refine z_iaload rfl kd_77 ?_
      refine z_icmp_lt rfl ?_ ?_
      · refine z_iinc rfl rfl rfl ?_
        refine z_goto rfl ?_
        refine Z.weak ?_ (ih _ _)
        exact wkL_c (wkL_c (wkL_c (wkL_n (wkL_nil _))))
      · refine z_aload_n rfl rfl ?_
        refine z_iload_n rfl rfl ?_
        refine z_iconst rfl rfl ?_
        refine z_iload_n rfl rfl ?_
        refine z_aload_n rfl rfl ?_
        refine z_getRn (m := 77) rfl fl_X5_7 rfl kd_76 rfl ?_
        refine z_iload_n rfl rfl ?_
        refine z_bipush rfl rfl ?_
        refine z_iadd rfl ?_
        refine z_iaload rfl kd_77 ?_
        refine z_V4v ko5 mv_X5_71 kd_76 (t_X5_writes _ _ _ _ _) rfl rfl rfl rfl rfl (fun _ h3 => ?_)
        refine z_aload_n rfl rfl ?_
        refine z_getRn (m := 77) rfl fl_X5_7 rfl kd_76 rfl ?_
        refine z_iload_n rfl rfl ?_
        refine z_bipush rfl rfl ?_
        refine z_iadd rfl ?_
        refine z_dup2 rfl rfl rfl ?_
        refine z_iaload rfl kd_77 ?_
        refine z_iconst rfl rfl ?_
        refine z_iadd rfl ?_
        refine z_iastoreL kd_77 rfl (fun h4 => ?_)
        refine z_aload_n rfl rfl ?_
        refine z_iload_n rfl rfl ?_
        refine z_iload_n rfl rfl ?_
        refine z_V2v ko5 mv_X5_75 kd_76 (t_X5_umbrellaGoes _ _ _) rfl rfl rfl rfl rfl (fun _ h5 => ?_)
        refine z_goto rfl ?_
        refine z_goto rfl ?_
        refine Z.weak ?_ (ih _ _)
        exact wkL_c (wkL_c (wkL_c (wkL_n (wkL_nil _))))
set_option maxRecDepth 20000 in
set_option maxHeartbeats 1000000 in
theorem t_X5_sells (x1 : Int) (h : Hp) : Ct M_X5_sells [vr 76, vi x1] h (f_X5_sells x1 h) := by
  refine Ct.mk ok_X5_sells pl_X5_sells rfl rfl ?_
  show Z M_X5_sells 0 [some (vr 76), some (vi x1), none, none] [] h (f_X5_sells x1 h)
  unfold f_X5_sells
  refine z_iconst rfl rfl ?_
  refine z_istore_n rfl rfl ?_
  refine Z.weak ?_ (t_X5_sells_L2  _     fu _ _)
  · exact wkL_c (wkL_c (wkL_c (wkL_n (wkL_nil _))))
set_option maxRecDepth 20000 in
set_option maxHeartbeats 1000000 in
theorem t_X5_goBy_L24 (x1 : Int) (x2 : Int) (x3 : Int) (x4 : Int) (c53 : Hp → Option (Int × Hp)) (hc53 : ∀ (h : Hp), Z M_X5_goBy 53 [some (vr 76), some (vi x1), some (vi x2), some (vi x3), some (vi x4), none] [] h (c53  h)) : ∀ (n : Nat) (x5 : Int) (h : Hp), Z M_X5_goBy 24 [some (vr 76), some (vi x1), some (vi x2), some (vi x3), some (vi x4), some (vi x5)] [] h (f_X5_goBy_L24 x1 x2 x3 x4 c53 n x5 h) := by
  intro n
  induction n with
  | zero => intro x5 h; exact Z.nix
  | succ n ih =>
    intro x5 h
    rw [f_X5_goBy_L24_s]
    refine z_iload rfl rfl ?_
    refine z_bipush rfl rfl ?_
    refine z_icmp_ge rfl ?_ ?_
    · refine Z.weak ?_ (hc53 _)
      exact wkL_c (wkL_c (wkL_c (wkL_c (wkL_c (wkL_n (wkL_nil _))))))
    · refine z_aload_n rfl rfl ?_
      refine z_getRn (m := 77) rfl fl_X5_7 rfl kd_76 rfl ?_
      refine z_iload_n rfl rfl ?_
      refine z_iload rfl rfl ?_
      refine z_S2i ms_X5_39 (t_X5_umbrellaAt _ _ _) rfl rfl rfl rfl (fun r3 h3 => ?_)
      refine z_iconst rfl rfl ?_
      refine z_iadd rfl ?_
      refine z_dup2 rfl rfl rfl ?_
      refine z_iaload rfl kd_77 ?_
      refine z_iconst rfl rfl ?_
      refine z_iadd rfl ?_
      refine z_iastoreL kd_77 rfl (fun h4 => ?_)
      refine z_aload_n rfl rfl ?_
      refine z_getRn (m := 77) rfl fl_X5_7 rfl kd_76 rfl ?_
      refine z_iload_n rfl rfl ?_
      refine z_iload rfl rfl ?_
      refine z_S2i ms_X5_43 (t_X5_claimAt _ _ _) rfl rfl rfl rfl (fun r5 h5 => ?_)
      refine z_iconst rfl rfl ?_
      refine z_iadd rfl ?_
      refine z_dup2 rfl rfl rfl ?_
      refine z_iaload rfl kd_77 ?_
      refine z_iconst rfl rfl ?_
      refine z_iadd rfl ?_
      refine z_iastoreL kd_77 rfl (fun h6 => ?_)
      refine z_iinc rfl rfl rfl ?_
      refine z_goto rfl ?_
      refine Z.weak ?_ (ih _ _)
      exact wkL_c (wkL_c (wkL_c (wkL_c (wkL_c (wkL_c (wkL_nil _))))))
set_option maxRecDepth 20000 in
set_option maxHeartbeats 1000000 in
theorem t_X5_goBy_L9 (x1 : Int) (x2 : Int) (x3 : Int) (c61 : Hp → Option (Int × Hp)) (hc61 : ∀ (h : Hp), Z M_X5_goBy 61 [some (vr 76), some (vi x1), none, some (vi x3), none, none] [] h (c61  h)) : ∀ (n : Nat) (x4 : Int) (h : Hp), Z M_X5_goBy 9 [some (vr 76), some (vi x1), some (vi x2), some (vi x3), some (vi x4), none] [] h (f_X5_goBy_L9 x1 x2 x3 c61 n x4 h) := by
  intro n
  induction n with
  | zero => intro x4 h; exact Z.nix
  | succ n ih =>
    intro x4 h
    rw [f_X5_goBy_L9_s]
    refine z_iload rfl rfl ?_
    refine z_iload_n rfl rfl ?_
    refine z_icmp_ge rfl ?_ ?_
    · refine Z.weak ?_ (hc61 _)
      exact wkL_c (wkL_c (wkL_n (wkL_c (wkL_n (wkL_n (wkL_nil _))))))
    · refine z_aload_n rfl rfl ?_
      refine z_getRn (m := 77) rfl fl_X5_7 rfl kd_76 rfl ?_
      refine z_iload_n rfl rfl ?_
      refine z_iconst rfl rfl ?_
      refine z_iadd rfl ?_
      refine z_dup2 rfl rfl rfl ?_
      refine z_iaload rfl kd_77 ?_
      refine z_iconst rfl rfl ?_
      refine z_iadd rfl ?_
      refine z_iastoreL kd_77 rfl (fun h2 => ?_)
      refine z_iconst rfl rfl ?_
      refine z_istore rfl rfl ?_
      refine Z.weak ?_ (t_X5_goBy_L24  _ _ _ _  _  ?_  fu _ _)
      · exact wkL_c (wkL_c (wkL_c (wkL_c (wkL_c (wkL_c (wkL_nil _))))))
      · intro h7
        refine z_aload_n rfl rfl ?_
        refine z_iload_n rfl rfl ?_
        refine z_V1v ko5 mv_X5_81 kd_76 (t_X5_sells _ _) rfl rfl rfl rfl rfl (fun _ h8 => ?_)
        refine z_aload_n rfl rfl ?_
        refine z_iload_n rfl rfl ?_
        refine z_V1v ko5 mv_X5_84 kd_76 (t_X5_lapses _ _) rfl rfl rfl rfl rfl (fun _ h9 => ?_)
        refine z_iinc rfl rfl rfl ?_
        refine z_goto rfl ?_
        refine Z.weak ?_ (ih _ _)
        exact wkL_c (wkL_c (wkL_c (wkL_c (wkL_c (wkL_n (wkL_nil _))))))
set_option maxRecDepth 20000 in
set_option maxHeartbeats 1000000 in
theorem t_X5_goBy (x1 : Int) (x2 : Int) (h : Hp) : Ct M_X5_goBy [vr 76, vi x1, vi x2] h (f_X5_goBy x1 x2 h) := by
  refine Ct.mk ok_X5_goBy pl_X5_goBy rfl rfl ?_
  show Z M_X5_goBy 0 [some (vr 76), some (vi x1), some (vi x2), none, none, none] [] h (f_X5_goBy x1 x2 h)
  unfold f_X5_goBy
  refine z_aload_n rfl rfl ?_
  refine z_getRn (m := 77) rfl fl_X5_7 rfl kd_76 rfl ?_
  refine z_iload_n rfl rfl ?_
  refine z_bipush rfl rfl ?_
  refine z_iadd rfl ?_
  refine z_iaload rfl kd_77 ?_
  refine z_istore_nL rfl rfl (fun y1 => ?_)
  refine z_iconst rfl rfl ?_
  refine z_istore rfl rfl ?_
  refine Z.weak ?_ (t_X5_goBy_L9  _ _ _  _  ?_  fu _ _)
  · exact wkL_c (wkL_c (wkL_c (wkL_c (wkL_c (wkL_n (wkL_nil _))))))
  · intro h10
    refine z_aload_n rfl rfl ?_
    refine z_getRn (m := 77) rfl fl_X5_7 rfl kd_76 rfl ?_
    refine z_iload_n rfl rfl ?_
    refine z_bipush rfl rfl ?_
    refine z_iadd rfl ?_
    refine z_iaload rfl kd_77 ?_
    refine z_iload_n rfl rfl ?_
    refine z_isub rfl ?_
    exact z_ireturn rfl rfl
set_option maxRecDepth 20000 in
set_option maxHeartbeats 1000000 in
theorem t_X5_weeksIn (x1 : Int) (x2 : Int) (h : Hp) : Ct M_X5_weeksIn [vr 76, vi x1, vi x2] h (f_X5_weeksIn x1 x2 h) := by
  refine Ct.mk ok_X5_weeksIn pl_X5_weeksIn rfl rfl ?_
  show Z M_X5_weeksIn 0 [some (vr 76), some (vi x1), some (vi x2)] [] h (f_X5_weeksIn x1 x2 h)
  unfold f_X5_weeksIn
  refine z_iload_n rfl rfl ?_
  refine z_iconst rfl rfl ?_
  refine z_bipush rfl rfl ?_
  refine z_S3i ms_X5_90 (t_X5_in _ _ _ _) rfl rfl rfl rfl (fun r1 h1 => ?_)
  refine z_if_ne rfl ?_ ?_
  · refine z_aload_n rfl rfl ?_
    refine z_getRn (m := 77) rfl fl_X5_7 rfl kd_76 rfl ?_
    refine z_iload_n rfl rfl ?_
    refine z_iconst rfl rfl ?_
    refine z_iadd rfl ?_
    refine z_iaload rfl kd_77 ?_
    refine z_iload_n rfl rfl ?_
    refine z_iadd rfl ?_
    refine z_sipush rfl rfl ?_
    refine z_icmp_le rfl ?_ ?_
    · refine z_aload_n rfl rfl ?_
      refine z_iload_n rfl rfl ?_
      refine z_iload_n rfl rfl ?_
      refine z_V2i ko5 mv_X5_111 kd_76 (t_X5_goBy _ _ _) rfl rfl rfl rfl rfl (fun r2 h2 => ?_)
      exact z_ireturn rfl rfl
    · refine z_ldc rfl cst_X5_98 rfl ?_
      refine z_goto rfl ?_
      exact z_ireturn rfl rfl
  · refine z_ldc rfl cst_X5_97 rfl ?_
    exact z_ireturn rfl rfl
set_option maxRecDepth 20000 in
set_option maxHeartbeats 1000000 in
theorem t_X5_does (x1 : Int) (h : Hp) : Ct M_X5_does [vr 76, vi x1] h (f_X5_does x1 h) := by
  refine Ct.mk ok_X5_does pl_X5_does rfl rfl ?_
  show Z M_X5_does 0 [some (vr 76), some (vi x1)] [] h (f_X5_does x1 h)
  unfold f_X5_does
  refine z_aload_n rfl rfl ?_
  refine z_getI rfl fl_X5_193 rfl kd_76 ?_
  refine Z.ite (fun e2 => ?_) (fun e2 => ?_)
  · refine z_look (tg := 23) rfl rfl (o := 74) (by rw [e2]; rfl) rfl ?_
    refine z_aload_n rfl rfl ?_
    refine z_iload_n rfl rfl ?_
    refine z_aload_n rfl rfl ?_
    refine z_getRn (m := 83) rfl fl_X5_28 rfl kd_76 rfl ?_
    refine z_iconst rfl rfl ?_
    refine z_iaload rfl kd_83 ?_
    refine z_aload_n rfl rfl ?_
    refine z_getRn (m := 83) rfl fl_X5_28 rfl kd_76 rfl ?_
    refine z_iconst rfl rfl ?_
    refine z_iaload rfl kd_83 ?_
    refine z_aload_n rfl rfl ?_
    refine z_getRn (m := 83) rfl fl_X5_28 rfl kd_76 rfl ?_
    refine z_iconst rfl rfl ?_
    refine z_iaload rfl kd_83 ?_
    refine z_aload_n rfl rfl ?_
    refine z_getRn (m := 83) rfl fl_X5_28 rfl kd_76 rfl ?_
    refine z_iconst rfl rfl ?_
    refine z_iaload rfl kd_83 ?_
    refine z_V5i ko5 mv_X5_128 kd_76 (t_X5_claims _ _ _ _ _ _) rfl rfl rfl rfl rfl (fun r1 h1 => ?_)
    exact z_ireturn rfl rfl
  refine Z.ite (fun e4 => ?_) (fun e4 => ?_)
  · refine z_look (tg := 3) rfl rfl (o := 44) (by rw [e4]; rfl) rfl ?_
    refine z_aload_n rfl rfl ?_
    refine z_iload_n rfl rfl ?_
    refine z_aload_n rfl rfl ?_
    refine z_getRn (m := 83) rfl fl_X5_28 rfl kd_76 rfl ?_
    refine z_iconst rfl rfl ?_
    refine z_iaload rfl kd_83 ?_
    refine z_aload_n rfl rfl ?_
    refine z_getRn (m := 83) rfl fl_X5_28 rfl kd_76 rfl ?_
    refine z_iconst rfl rfl ?_
    refine z_iaload rfl kd_83 ?_
    refine z_aload_n rfl rfl ?_
    refine z_getRn (m := 83) rfl fl_X5_28 rfl kd_76 rfl ?_
    refine z_iconst rfl rfl ?_
    refine z_iaload rfl kd_83 ?_
    refine z_aload_n rfl rfl ?_
    refine z_getRn (m := 83) rfl fl_X5_28 rfl kd_76 rfl ?_
    refine z_iconst rfl rfl ?_
    refine z_iaload rfl kd_83 ?_
    refine z_V5i ko5 mv_X5_121 kd_76 (t_X5_finds _ _ _ _ _ _) rfl rfl rfl rfl rfl (fun r3 h3 => ?_)
    exact z_ireturn rfl rfl
  refine Z.ite (fun e6 => ?_) (fun e6 => ?_)
  · refine z_look (tg := 43) rfl rfl (o := 104) (by rw [e6]; rfl) rfl ?_
    refine z_aload_n rfl rfl ?_
    refine z_iload_n rfl rfl ?_
    refine z_aload_n rfl rfl ?_
    refine z_getRn (m := 83) rfl fl_X5_28 rfl kd_76 rfl ?_
    refine z_iconst rfl rfl ?_
    refine z_iaload rfl kd_83 ?_
    refine z_aload_n rfl rfl ?_
    refine z_getRn (m := 83) rfl fl_X5_28 rfl kd_76 rfl ?_
    refine z_iconst rfl rfl ?_
    refine z_iaload rfl kd_83 ?_
    refine z_aload_n rfl rfl ?_
    refine z_getRn (m := 83) rfl fl_X5_28 rfl kd_76 rfl ?_
    refine z_iconst rfl rfl ?_
    refine z_iaload rfl kd_83 ?_
    refine z_V4i ko5 mv_X5_131 kd_76 (t_X5_tells _ _ _ _ _) rfl rfl rfl rfl rfl (fun r5 h5 => ?_)
    exact z_ireturn rfl rfl
  refine Z.ite (fun e8 => ?_) (fun e8 => ?_)
  · refine z_look (tg := 59) rfl rfl (o := 128) (by rw [e8]; rfl) rfl ?_
    refine z_aload_n rfl rfl ?_
    refine z_iload_n rfl rfl ?_
    refine z_aload_n rfl rfl ?_
    refine z_getRn (m := 83) rfl fl_X5_28 rfl kd_76 rfl ?_
    refine z_iconst rfl rfl ?_
    refine z_iaload rfl kd_83 ?_
    refine z_V2i ko5 mv_X5_135 kd_76 (t_X5_weeksIn _ _ _) rfl rfl rfl rfl rfl (fun r7 h7 => ?_)
    exact z_ireturn rfl rfl
  refine z_look (tg := 67) rfl rfl (o := 140) (by simp only [Op.lookupswitch.offset]; rw [if_neg (fun q => e2 q.symm)]; rw [if_neg (fun q => e4 q.symm)]; rw [if_neg (fun q => e6 q.symm)]; rw [if_neg (fun q => e8 q.symm)]) rfl ?_
  refine z_aload_n rfl rfl ?_
  refine z_iload_n rfl rfl ?_
  refine z_V1i ko5 mv_X5_138 kd_76 (t_X5_handsOut _ _) rfl rfl rfl rfl rfl (fun r9 h9 => ?_)
  exact z_ireturn rfl rfl
set_option maxRecDepth 20000 in
set_option maxHeartbeats 1000000 in
theorem t_X5_drop (x1 : Int) (h : Hp) : Ct M_X5_drop [vr 76, vi x1] h (f_X5_drop x1 h) := by
  refine Ct.mk ok_X5_drop pl_X5_drop rfl rfl ?_
  show Z M_X5_drop 0 [some (vr 76), some (vi x1)] [] h (f_X5_drop x1 h)
  unfold f_X5_drop
  refine z_aload_n rfl rfl ?_
  refine z_iconst rfl rfl ?_
  refine z_iload_n rfl rfl ?_
  refine z_V2i ko5 mv_X5_104 kd_76 (t_X5_isClaim _ _ _) rfl rfl rfl rfl rfl (fun r1 h1 => ?_)
  refine z_if_ne rfl ?_ ?_
  · refine z_aload_n rfl rfl ?_
    refine z_V0v ko5 mv_X5_114 kd_76 (t_X5_records  _) rfl rfl rfl rfl rfl (fun _ h2 => ?_)
    refine z_aload_n rfl rfl ?_
    refine z_iconst rfl rfl ?_
    refine z_iload_n rfl rfl ?_
    refine z_V2v ko5 mv_X5_78 kd_76 (t_X5_claimGoes _ _ _) rfl rfl rfl rfl rfl (fun _ h3 => ?_)
    refine z_aload_n rfl rfl ?_
    refine z_getRn (m := 77) rfl fl_X5_7 rfl kd_76 rfl ?_
    refine z_bipush rfl rfl ?_
    refine z_dup2 rfl rfl rfl ?_
    refine z_iaload rfl kd_77 ?_
    refine z_iconst rfl rfl ?_
    refine z_iadd rfl ?_
    refine z_iastoreL kd_77 rfl (fun h4 => ?_)
    refine z_aload_n rfl rfl ?_
    refine z_getRn (m := 77) rfl fl_X5_7 rfl kd_76 rfl ?_
    refine z_bipush rfl rfl ?_
    refine z_iaload rfl kd_77 ?_
    exact z_ireturn rfl rfl
  · refine z_ldc rfl cst_X5_97 rfl ?_
    exact z_ireturn rfl rfl
set_option maxRecDepth 20000 in
set_option maxHeartbeats 1000000 in
theorem t_X5_isDigit  (h : Hp) : Ct M_X5_isDigit [vr 76] h (f_X5_isDigit  h) := by
  refine Ct.mk ok_X5_isDigit pl_X5_isDigit rfl rfl ?_
  show Z M_X5_isDigit 0 [some (vr 76)] [] h (f_X5_isDigit  h)
  unfold f_X5_isDigit
  refine z_aload_n rfl rfl ?_
  refine z_getI rfl fl_X5_174 rfl kd_76 ?_
  refine z_aload_n rfl rfl ?_
  refine z_getI rfl fl_X5_171 rfl kd_76 ?_
  refine z_icmp_ge rfl ?_ ?_
  · refine z_iconst rfl rfl ?_
    exact z_zret0 rfl rfl
  · refine z_aload_n rfl rfl ?_
    refine z_getRn (m := 78) rfl fl_X5_13 rfl kd_76 rfl ?_
    refine z_aload_n rfl rfl ?_
    refine z_getI rfl fl_X5_174 rfl kd_76 ?_
    refine z_iaload rfl kd_78 ?_
    refine z_bipush rfl rfl ?_
    refine z_bipush rfl rfl ?_
    refine z_S3i ms_X5_90 (t_X5_in _ _ _ _) rfl rfl rfl rfl (fun r1 h1 => ?_)
    refine z_if_eq rfl ?_ ?_
    · refine z_iconst rfl rfl ?_
      exact z_zret0 rfl rfl
    · refine z_iconst rfl rfl ?_
      refine z_goto rfl ?_
      exact z_zret1 rfl rfl
set_option maxRecDepth 20000 in
set_option maxHeartbeats 1000000 in
theorem t_X5_readsNumber_L8 (x1 : Int) (x2 : Int) : ∀ (n : Nat)  (h : Hp), Z M_X5_readsNumber 8 [some (vr 76), some (vi x1), some (vi x2)] [] h (f_X5_readsNumber_L8 x1 x2 n  h) := by
  intro n
  induction n with
  | zero => intro  h; exact Z.nix
  | succ n ih =>
    intro  h
    rw [f_X5_readsNumber_L8_s]
    refine z_aload_n rfl rfl ?_
    refine z_V0i ko5 mv_X5_182 kd_76 (t_X5_isDigit  _) rfl rfl rfl rfl rfl (fun r3 h3 => ?_)
    refine z_if_eq rfl ?_ ?_
    · refine z_aload_n rfl rfl ?_
      refine z_getI rfl fl_X5_174 rfl kd_76 ?_
      refine z_iload_n rfl rfl ?_
      refine z_icmp_le rfl ?_ ?_
      · refine z_iconst rfl rfl ?_
        exact z_zret0 rfl rfl
      · refine z_iconst rfl rfl ?_
        refine z_goto rfl ?_
        exact z_zret1 rfl rfl
    · refine z_aload_n rfl rfl ?_
      refine z_getI rfl fl_X5_174 rfl kd_76 ?_
      refine z_iload_n rfl rfl ?_
      refine z_iconst rfl rfl ?_
      refine z_iadd rfl ?_
      refine z_icmp_ge rfl ?_ ?_
      · refine z_aload_n rfl rfl ?_
        refine z_getI rfl fl_X5_174 rfl kd_76 ?_
        refine z_iload_n rfl rfl ?_
        refine z_icmp_le rfl ?_ ?_
        · refine z_iconst rfl rfl ?_
          exact z_zret0 rfl rfl
        · refine z_iconst rfl rfl ?_
          refine z_goto rfl ?_
          exact z_zret1 rfl rfl
      · refine z_aload_n rfl rfl ?_
        refine z_getRn (m := 83) rfl fl_X5_28 rfl kd_76 rfl ?_
        refine z_iload_n rfl rfl ?_
        refine z_bipush rfl rfl ?_
        refine z_aload_n rfl rfl ?_
        refine z_getRn (m := 83) rfl fl_X5_28 rfl kd_76 rfl ?_
        refine z_iload_n rfl rfl ?_
        refine z_iaload rfl kd_83 ?_
        refine z_imul rfl ?_
        refine z_aload_n rfl rfl ?_
        refine z_getRn (m := 78) rfl fl_X5_13 rfl kd_76 rfl ?_
        refine z_aload_n rfl rfl ?_
        refine z_getI rfl fl_X5_174 rfl kd_76 ?_
        refine z_iaload rfl kd_78 ?_
        refine z_iadd rfl ?_
        refine z_bipush rfl rfl ?_
        refine z_isub rfl ?_
        refine z_iastoreL kd_83 rfl (fun h4 => ?_)
        refine z_aload_n rfl rfl ?_
        refine z_dup rfl rfl ?_
        refine z_getI rfl fl_X5_174 rfl kd_76 ?_
        refine z_iconst rfl rfl ?_
        refine z_iadd rfl ?_
        refine z_putL fi_X5_174 rfl kd_76 rfl (fun h5 => ?_)
        refine z_goto rfl ?_
        refine Z.weak ?_ (ih _)
        exact wkL_c (wkL_c (wkL_c (wkL_nil _)))
set_option maxRecDepth 20000 in
set_option maxHeartbeats 1000000 in
theorem t_X5_readsNumber (x1 : Int) (h : Hp) : Ct M_X5_readsNumber [vr 76, vi x1] h (f_X5_readsNumber x1 h) := by
  refine Ct.mk ok_X5_readsNumber pl_X5_readsNumber rfl rfl ?_
  show Z M_X5_readsNumber 0 [some (vr 76), some (vi x1), none] [] h (f_X5_readsNumber x1 h)
  unfold f_X5_readsNumber
  refine z_aload_n rfl rfl ?_
  refine z_getRn (m := 83) rfl fl_X5_28 rfl kd_76 rfl ?_
  refine z_iload_n rfl rfl ?_
  refine z_iconst rfl rfl ?_
  refine z_iastoreL kd_83 rfl (fun h1 => ?_)
  refine z_aload_n rfl rfl ?_
  refine z_getI rfl fl_X5_174 rfl kd_76 ?_
  refine z_istore_nL rfl rfl (fun y2 => ?_)
  refine Z.weak ?_ (t_X5_readsNumber_L8  _ _     fu _)
  · exact wkL_c (wkL_c (wkL_c (wkL_nil _)))
set_option maxRecDepth 20000 in
set_option maxHeartbeats 1000000 in
theorem t_X5_takes_J15 (s0 : Int) (h : Hp) : Z M_X5_takes 15 [some (vr 76), none, none] [vi s0] h (f_X5_takes_J15 s0 h) := by
  unfold f_X5_takes_J15
  refine z_istore_n rfl rfl ?_
  refine z_aload_n rfl rfl ?_
  refine z_dup rfl rfl ?_
  refine z_getI rfl fl_X5_174 rfl kd_76 ?_
  refine z_iload_n rfl rfl ?_
  refine z_if_eq rfl ?_ ?_
  · refine z_iconst rfl rfl ?_
    refine z_iadd rfl ?_
    refine z_putL fi_X5_174 rfl kd_76 rfl (fun h1 => ?_)
    refine z_iload_n rfl rfl ?_
    exact z_zret rfl rfl
  · refine z_iconst rfl rfl ?_
    refine z_goto rfl ?_
    refine z_iadd rfl ?_
    refine z_putL fi_X5_174 rfl kd_76 rfl (fun h2 => ?_)
    refine z_iload_n rfl rfl ?_
    exact z_zret rfl rfl
set_option maxRecDepth 20000 in
set_option maxHeartbeats 1000000 in
theorem t_X5_takes_J14  (h : Hp) : Z M_X5_takes 14 [some (vr 76), none, none] [] h (f_X5_takes_J14  h) := by
  unfold f_X5_takes_J14
  refine z_iconst rfl rfl ?_
  refine Z.weak ?_ (t_X5_takes_J15  _  _)
  exact wkL_c (wkL_n (wkL_n (wkL_nil _)))
set_option maxRecDepth 20000 in
set_option maxHeartbeats 1000000 in
theorem t_X5_takes (x1 : Int) (h : Hp) : Ct M_X5_takes [vr 76, vi x1] h (f_X5_takes x1 h) := by
  refine Ct.mk ok_X5_takes pl_X5_takes rfl rfl ?_
  show Z M_X5_takes 0 [some (vr 76), some (vi x1), none] [] h (f_X5_takes x1 h)
  unfold f_X5_takes
  refine z_aload_n rfl rfl ?_
  refine z_getI rfl fl_X5_174 rfl kd_76 ?_
  refine z_aload_n rfl rfl ?_
  refine z_getI rfl fl_X5_171 rfl kd_76 ?_
  refine z_icmp_ge rfl ?_ ?_
  · refine Z.weak ?_ (t_X5_takes_J14   _)
    exact wkL_c (wkL_n (wkL_n (wkL_nil _)))
  · refine z_aload_n rfl rfl ?_
    refine z_getRn (m := 78) rfl fl_X5_13 rfl kd_76 rfl ?_
    refine z_aload_n rfl rfl ?_
    refine z_getI rfl fl_X5_174 rfl kd_76 ?_
    refine z_iaload rfl kd_78 ?_
    refine z_iload_n rfl rfl ?_
    refine z_icmp_ne rfl ?_ ?_
    · refine Z.weak ?_ (t_X5_takes_J14   _)
      exact wkL_c (wkL_n (wkL_n (wkL_nil _)))
    · refine z_iconst rfl rfl ?_
      refine z_goto rfl ?_
      refine Z.weak ?_ (t_X5_takes_J15  _  _)
      exact wkL_c (wkL_n (wkL_n (wkL_nil _)))
set_option maxRecDepth 20000 in
set_option maxHeartbeats 1000000 in
theorem t_X5_readsValue (x1 : Int) (x2 : Int) (h : Hp) : Ct M_X5_readsValue [vr 76, vi x1, vi x2] h (f_X5_readsValue x1 x2 h) := by
  refine Ct.mk ok_X5_readsValue pl_X5_readsValue rfl rfl ?_
  show Z M_X5_readsValue 0 [some (vr 76), some (vi x1), some (vi x2)] [] h (f_X5_readsValue x1 x2 h)
  unfold f_X5_readsValue
  refine z_iload_n rfl rfl ?_
  refine z_if_ne rfl ?_ ?_
  · refine z_aload_n rfl rfl ?_
    refine z_iload_n rfl rfl ?_
    refine z_V1i ko5 mv_X5_186 kd_76 (t_X5_readsNumber _ _) rfl rfl rfl rfl rfl (fun r1 h1 => ?_)
    exact z_zret rfl rfl
  · refine z_aload_n rfl rfl ?_
    refine z_bipush rfl rfl ?_
    refine z_V1i ko5 mv_X5_179 kd_76 (t_X5_takes _ _) rfl rfl rfl rfl rfl (fun r2 h2 => ?_)
    refine z_if_eq rfl ?_ ?_
    · refine z_aload_n rfl rfl ?_
      refine z_iload_n rfl rfl ?_
      refine z_V1i ko5 mv_X5_186 kd_76 (t_X5_readsNumber _ _) rfl rfl rfl rfl rfl (fun r3 h3 => ?_)
      exact z_zret rfl rfl
    · refine z_aload_n rfl rfl ?_
      refine z_getRn (m := 83) rfl fl_X5_28 rfl kd_76 rfl ?_
      refine z_iload_n rfl rfl ?_
      refine z_iconst rfl rfl ?_
      refine z_iastoreL kd_83 rfl (fun h4 => ?_)
      refine z_iconst rfl rfl ?_
      exact z_zret1 rfl rfl
set_option maxRecDepth 20000 in
set_option maxHeartbeats 1000000 in
theorem t_X5_readsRow_L7 (x1 : Int) (x2 : Int) : ∀ (n : Nat) (x3 : Int) (x4 : Int) (h : Hp), Z M_X5_readsRow 7 [some (vr 76), some (vi x1), some (vi x2), some (vi x3), some (vi x4)] [] h (f_X5_readsRow_L7 x1 x2 n x3 x4 h) := by
  intro n
  induction n with
  | zero => intro x3 x4 h; exact Z.nix
  | succ n ih =>
    intro x3 x4 h
    rw [f_X5_readsRow_L7_s]
    refine z_iload rfl rfl ?_
    refine z_iload_n rfl rfl ?_
    refine z_icmp_ge rfl ?_ ?_
    · refine z_iload_n rfl rfl ?_
      exact z_zret rfl rfl
    · refine z_iload_n rfl rfl ?_
      refine z_if_eq rfl ?_ ?_
      · refine z_iload_n rfl rfl ?_
        exact z_zret rfl rfl
      · refine z_aload_n rfl rfl ?_
        refine z_bipush rfl rfl ?_
        refine z_V1i ko5 mv_X5_179 kd_76 (t_X5_takes _ _) rfl rfl rfl rfl rfl (fun r2 h2 => ?_)
        refine z_if_eq rfl ?_ ?_
        · refine z_iconst rfl rfl ?_
          refine z_istore_n rfl rfl ?_
          refine z_iinc rfl rfl rfl ?_
          refine z_goto rfl ?_
          refine Z.weak ?_ (ih _ _ _)
          exact wkL_c (wkL_c (wkL_c (wkL_c (wkL_c (wkL_nil _)))))
        · refine z_aload_n rfl rfl ?_
          refine z_iload rfl rfl ?_
          refine z_iload_n rfl rfl ?_
          refine z_V2i ko5 mv_X5_189 kd_76 (t_X5_readsValue _ _ _) rfl rfl rfl rfl rfl (fun r3 h3 => ?_)
          refine z_if_eq rfl ?_ ?_
          · refine z_iconst rfl rfl ?_
            refine z_istore_n rfl rfl ?_
            refine z_iinc rfl rfl rfl ?_
            refine z_goto rfl ?_
            refine Z.weak ?_ (ih _ _ _)
            exact wkL_c (wkL_c (wkL_c (wkL_c (wkL_c (wkL_nil _)))))
          · refine z_iconst rfl rfl ?_
            refine z_goto rfl ?_
            refine z_istore_n rfl rfl ?_
            refine z_iinc rfl rfl rfl ?_
            refine z_goto rfl ?_
            refine Z.weak ?_ (ih _ _ _)
            exact wkL_c (wkL_c (wkL_c (wkL_c (wkL_c (wkL_nil _)))))
set_option maxRecDepth 20000 in
set_option maxHeartbeats 1000000 in
theorem t_X5_readsRow (x1 : Int) (x2 : Int) (h : Hp) : Ct M_X5_readsRow [vr 76, vi x1, vi x2] h (f_X5_readsRow x1 x2 h) := by
  refine Ct.mk ok_X5_readsRow pl_X5_readsRow rfl rfl ?_
  show Z M_X5_readsRow 0 [some (vr 76), some (vi x1), some (vi x2), none, none] [] h (f_X5_readsRow x1 x2 h)
  unfold f_X5_readsRow
  refine z_aload_n rfl rfl ?_
  refine z_iconst rfl rfl ?_
  refine z_iload_n rfl rfl ?_
  refine z_V2i ko5 mv_X5_189 kd_76 (t_X5_readsValue _ _ _) rfl rfl rfl rfl rfl (fun r1 h1 => ?_)
  refine z_istore_n rfl rfl ?_
  refine z_iconst rfl rfl ?_
  refine z_istore rfl rfl ?_
  refine Z.weak ?_ (t_X5_readsRow_L7  _ _     fu _ _ _)
  · exact wkL_c (wkL_c (wkL_c (wkL_c (wkL_c (wkL_nil _)))))
set_option maxRecDepth 20000 in
set_option maxHeartbeats 1000000 in
theorem t_X5_takesWord_L4 (x1 : Int64) : ∀ (n : Nat) (x3 : Int) (x4 : Int) (h : Hp), Z M_X5_takesWord 4 [some (vr 76), some (vx (.long x1)), none, some (vi x3), some (vi x4), none] [] h (f_X5_takesWord_L4 x1 n x3 x4 h) := by
  intro n
  induction n with
  | zero => intro x3 x4 h; exact Z.nix
  | succ n ih =>
    intro x3 x4 h
    rw [f_X5_takesWord_L4_s]
    refine z_iload rfl rfl ?_
    refine z_if_lt rfl ?_ ?_
    · refine z_iload_n rfl rfl ?_
      exact z_zret rfl rfl
    · refine z_iload_n rfl rfl ?_
      refine z_if_eq rfl ?_ ?_
      · refine z_iload_n rfl rfl ?_
        exact z_zret rfl rfl
      · refine z_lload_n rfl rfl ?_
        refine z_iload rfl rfl ?_
        refine z_lshr rfl ?_
        refine z_ldc2 cst_X5_177 rfl ?_
        refine z_land rfl ?_
        refine z_l2i rfl ?_
        refine z_istoreL rfl rfl (fun y1 => ?_)
        refine z_iload rfl rfl ?_
        refine z_if_eq rfl ?_ ?_
        · refine z_iconst rfl rfl ?_
          refine z_goto rfl ?_
          refine z_istore_n rfl rfl ?_
          refine z_iinc rfl rfl rfl ?_
          refine z_goto rfl ?_
          refine Z.weak ?_ (ih _ _ _)
          exact wkL_c (wkL_c (wkL_n (wkL_c (wkL_c (wkL_n (wkL_nil _))))))
        · refine z_aload_n rfl rfl ?_
          refine z_iload rfl rfl ?_
          refine z_V1i ko5 mv_X5_179 kd_76 (t_X5_takes _ _) rfl rfl rfl rfl rfl (fun r2 h2 => ?_)
          refine z_if_eq rfl ?_ ?_
          · refine z_iconst rfl rfl ?_
            refine z_istore_n rfl rfl ?_
            refine z_iinc rfl rfl rfl ?_
            refine z_goto rfl ?_
            refine Z.weak ?_ (ih _ _ _)
            exact wkL_c (wkL_c (wkL_n (wkL_c (wkL_c (wkL_n (wkL_nil _))))))
          · refine z_iconst rfl rfl ?_
            refine z_goto rfl ?_
            refine z_istore_n rfl rfl ?_
            refine z_iinc rfl rfl rfl ?_
            refine z_goto rfl ?_
            refine Z.weak ?_ (ih _ _ _)
            exact wkL_c (wkL_c (wkL_n (wkL_c (wkL_c (wkL_n (wkL_nil _))))))
set_option maxRecDepth 20000 in
set_option maxHeartbeats 1000000 in
theorem t_X5_takesWord (x1 : Int64) (h : Hp) : Ct M_X5_takesWord [vr 76, vx (.long x1)] h (f_X5_takesWord x1 h) := by
  refine Ct.mk ok_X5_takesWord pl_X5_takesWord rfl rfl ?_
  show Z M_X5_takesWord 0 [some (vr 76), some (vx (.long x1)), none, none, none, none] [] h (f_X5_takesWord x1 h)
  unfold f_X5_takesWord
  refine z_iconst rfl rfl ?_
  refine z_istore_n rfl rfl ?_
  refine z_bipush rfl rfl ?_
  refine z_istore rfl rfl ?_
  refine Z.weak ?_ (t_X5_takesWord_L4  _     fu _ _ _)
  · exact wkL_c (wkL_c (wkL_n (wkL_c (wkL_c (wkL_n (wkL_nil _))))))
end
section
/-! printed by wip/gen/gen.py: the bytecode does what the functions say -/
set_option maxRecDepth 20000 in
set_option maxHeartbeats 1000000 in
theorem t_X5_readsOrder_J13 (s1 : Int) (h : Hp) : Z M_X5_readsOrder 13 [some (vr 76)] [vi s1, vr 76] h (f_X5_readsOrder_J13 s1 h) := by
  unfold f_X5_readsOrder_J13
  refine z_putL fi_X5_193 rfl kd_76 rfl (fun h1 => ?_)
  refine z_aload_n rfl rfl ?_
  refine z_getI rfl fl_X5_193 rfl kd_76 ?_
  refine Z.ite (fun e5 => ?_) (fun e5 => ?_)
  · refine z_look (tg := 34) rfl rfl (o := 86) (by rw [e5]; rfl) rfl ?_
    refine z_aload_n rfl rfl ?_
    refine z_ldc2 cst_X5_205 rfl ?_
    refine z_V1i ko5 mv_X5_198 kd_76 (t_X5_takesWord _ _) rfl rfl rfl rfl rfl (fun r2 h2 => ?_)
    refine z_if_eq rfl ?_ ?_
    · refine z_iconst rfl rfl ?_
      exact z_zret0 rfl rfl
    · refine z_aload_n rfl rfl ?_
      refine z_iconst rfl rfl ?_
      refine z_iconst rfl rfl ?_
      refine z_V2i ko5 mv_X5_202 kd_76 (t_X5_readsRow _ _ _) rfl rfl rfl rfl rfl (fun r3 h3 => ?_)
      refine z_if_eq rfl ?_ ?_
      · refine z_iconst rfl rfl ?_
        exact z_zret0 rfl rfl
      · refine z_aload_n rfl rfl ?_
        refine z_bipush rfl rfl ?_
        refine z_V1i ko5 mv_X5_179 kd_76 (t_X5_takes _ _) rfl rfl rfl rfl rfl (fun r4 h4 => ?_)
        refine z_if_eq rfl ?_ ?_
        · refine z_iconst rfl rfl ?_
          exact z_zret0 rfl rfl
        · refine z_iconst rfl rfl ?_
          refine z_goto rfl ?_
          exact z_zret1 rfl rfl
  refine Z.ite (fun e9 => ?_) (fun e9 => ?_)
  · refine z_look (tg := 17) rfl rfl (o := 52) (by rw [e9]; rfl) rfl ?_
    refine z_aload_n rfl rfl ?_
    refine z_ldc2 cst_X5_196 rfl ?_
    refine z_V1i ko5 mv_X5_198 kd_76 (t_X5_takesWord _ _) rfl rfl rfl rfl rfl (fun r6 h6 => ?_)
    refine z_if_eq rfl ?_ ?_
    · refine z_iconst rfl rfl ?_
      exact z_zret0 rfl rfl
    · refine z_aload_n rfl rfl ?_
      refine z_iconst rfl rfl ?_
      refine z_iconst rfl rfl ?_
      refine z_V2i ko5 mv_X5_202 kd_76 (t_X5_readsRow _ _ _) rfl rfl rfl rfl rfl (fun r7 h7 => ?_)
      refine z_if_eq rfl ?_ ?_
      · refine z_iconst rfl rfl ?_
        exact z_zret0 rfl rfl
      · refine z_aload_n rfl rfl ?_
        refine z_bipush rfl rfl ?_
        refine z_V1i ko5 mv_X5_179 kd_76 (t_X5_takes _ _) rfl rfl rfl rfl rfl (fun r8 h8 => ?_)
        refine z_if_eq rfl ?_ ?_
        · refine z_iconst rfl rfl ?_
          exact z_zret0 rfl rfl
        · refine z_iconst rfl rfl ?_
          refine z_goto rfl ?_
          exact z_zret1 rfl rfl
  refine Z.ite (fun e12 => ?_) (fun e12 => ?_)
  · refine z_look (tg := 85) rfl rfl (o := 188) (by rw [e12]; rfl) rfl ?_
    refine z_aload_n rfl rfl ?_
    refine z_ldc2 cst_X5_211 rfl ?_
    refine z_V1i ko5 mv_X5_198 kd_76 (t_X5_takesWord _ _) rfl rfl rfl rfl rfl (fun r10 h10 => ?_)
    refine z_if_eq rfl ?_ ?_
    · refine z_iconst rfl rfl ?_
      exact z_zret0 rfl rfl
    · refine z_aload_n rfl rfl ?_
      refine z_bipush rfl rfl ?_
      refine z_V1i ko5 mv_X5_179 kd_76 (t_X5_takes _ _) rfl rfl rfl rfl rfl (fun r11 h11 => ?_)
      refine z_if_eq rfl ?_ ?_
      · refine z_iconst rfl rfl ?_
        exact z_zret0 rfl rfl
      · refine z_iconst rfl rfl ?_
        refine z_goto rfl ?_
        exact z_zret1 rfl rfl
  refine Z.ite (fun e16 => ?_) (fun e16 => ?_)
  · refine z_look (tg := 51) rfl rfl (o := 120) (by rw [e16]; rfl) rfl ?_
    refine z_aload_n rfl rfl ?_
    refine z_ldc2 cst_X5_207 rfl ?_
    refine z_V1i ko5 mv_X5_198 kd_76 (t_X5_takesWord _ _) rfl rfl rfl rfl rfl (fun r13 h13 => ?_)
    refine z_if_eq rfl ?_ ?_
    · refine z_iconst rfl rfl ?_
      exact z_zret0 rfl rfl
    · refine z_aload_n rfl rfl ?_
      refine z_iconst rfl rfl ?_
      refine z_iconst rfl rfl ?_
      refine z_V2i ko5 mv_X5_202 kd_76 (t_X5_readsRow _ _ _) rfl rfl rfl rfl rfl (fun r14 h14 => ?_)
      refine z_if_eq rfl ?_ ?_
      · refine z_iconst rfl rfl ?_
        exact z_zret0 rfl rfl
      · refine z_aload_n rfl rfl ?_
        refine z_bipush rfl rfl ?_
        refine z_V1i ko5 mv_X5_179 kd_76 (t_X5_takes _ _) rfl rfl rfl rfl rfl (fun r15 h15 => ?_)
        refine z_if_eq rfl ?_ ?_
        · refine z_iconst rfl rfl ?_
          exact z_zret0 rfl rfl
        · refine z_iconst rfl rfl ?_
          refine z_goto rfl ?_
          exact z_zret1 rfl rfl
  refine Z.ite (fun e20 => ?_) (fun e20 => ?_)
  · refine z_look (tg := 68) rfl rfl (o := 154) (by rw [e20]; rfl) rfl ?_
    refine z_aload_n rfl rfl ?_
    refine z_ldc2 cst_X5_209 rfl ?_
    refine z_V1i ko5 mv_X5_198 kd_76 (t_X5_takesWord _ _) rfl rfl rfl rfl rfl (fun r17 h17 => ?_)
    refine z_if_eq rfl ?_ ?_
    · refine z_iconst rfl rfl ?_
      exact z_zret0 rfl rfl
    · refine z_aload_n rfl rfl ?_
      refine z_iconst rfl rfl ?_
      refine z_iconst rfl rfl ?_
      refine z_V2i ko5 mv_X5_202 kd_76 (t_X5_readsRow _ _ _) rfl rfl rfl rfl rfl (fun r18 h18 => ?_)
      refine z_if_eq rfl ?_ ?_
      · refine z_iconst rfl rfl ?_
        exact z_zret0 rfl rfl
      · refine z_aload_n rfl rfl ?_
        refine z_bipush rfl rfl ?_
        refine z_V1i ko5 mv_X5_179 kd_76 (t_X5_takes _ _) rfl rfl rfl rfl rfl (fun r19 h19 => ?_)
        refine z_if_eq rfl ?_ ?_
        · refine z_iconst rfl rfl ?_
          exact z_zret0 rfl rfl
        · refine z_iconst rfl rfl ?_
          refine z_goto rfl ?_
          exact z_zret1 rfl rfl
  refine z_look (tg := 97) rfl rfl (o := 213) (by simp only [Op.lookupswitch.offset]; rw [if_neg (fun q => e5 q.symm)]; rw [if_neg (fun q => e9 q.symm)]; rw [if_neg (fun q => e12 q.symm)]; rw [if_neg (fun q => e16 q.symm)]; rw [if_neg (fun q => e20 q.symm)]) rfl ?_
  refine z_iconst rfl rfl ?_
  exact z_zret0 rfl rfl
set_option maxRecDepth 20000 in
set_option maxHeartbeats 1000000 in
theorem t_X5_readsOrder  (h : Hp) : Ct M_X5_readsOrder [vr 76] h (f_X5_readsOrder  h) := by
  refine Ct.mk ok_X5_readsOrder pl_X5_readsOrder rfl rfl ?_
  show Z M_X5_readsOrder 0 [some (vr 76)] [] h (f_X5_readsOrder  h)
  unfold f_X5_readsOrder
  refine z_aload_n rfl rfl ?_
  refine z_aload_n rfl rfl ?_
  refine z_getI rfl fl_X5_174 rfl kd_76 ?_
  refine z_aload_n rfl rfl ?_
  refine z_getI rfl fl_X5_171 rfl kd_76 ?_
  refine z_icmp_ge rfl ?_ ?_
  · refine z_iconst rfl rfl ?_
    refine Z.weak ?_ (t_X5_readsOrder_J13  _  _)
    exact wkL_c (wkL_nil _)
  · refine z_aload_n rfl rfl ?_
    refine z_getRn (m := 78) rfl fl_X5_13 rfl kd_76 rfl ?_
    refine z_aload_n rfl rfl ?_
    refine z_getI rfl fl_X5_174 rfl kd_76 ?_
    refine z_iaload rfl kd_78 ?_
    refine z_goto rfl ?_
    refine Z.weak ?_ (t_X5_readsOrder_J13  _  _)
    exact wkL_c (wkL_nil _)
set_option maxRecDepth 20000 in
set_option maxHeartbeats 1000000 in
theorem t_X5_looks_J57 (c12 : Int → Hp → Option (Int × Hp)) (x1 : Int) (s1 : Int) (hc12 : ∀ (y1 : Int) (h : Hp), Z M_X5_looks 12 [some (vr 76), some (vi y1), none, none, none] [] h (c12 y1 h)) (h : Hp) : Z M_X5_looks 57 [some (vr 76), some (vi x1), none, none, none] [vi s1, vr 76] h (f_X5_looks_J57 c12 x1 s1 h) := by
  unfold f_X5_looks_J57
  refine z_putL fi_X5_225 rfl kd_76 rfl (fun h8 => ?_)
  refine z_iload_n rfl rfl ?_
  refine z_aload_n rfl rfl ?_
  refine z_getI rfl fl_X5_213 rfl kd_76 ?_
  refine z_if_ne rfl ?_ ?_
  · refine z_iconst rfl rfl ?_
    refine z_iadd rfl ?_
    refine z_istore_nL rfl rfl (fun y9 => ?_)
    refine z_goto rfl ?_
    refine Z.weak ?_ (hc12 _ _)
    exact wkL_c (wkL_c (wkL_n (wkL_n (wkL_n (wkL_nil _)))))
  · refine z_iconst rfl rfl ?_
    refine z_goto rfl ?_
    refine z_iadd rfl ?_
    refine z_istore_nL rfl rfl (fun y10 => ?_)
    refine z_goto rfl ?_
    refine Z.weak ?_ (hc12 _ _)
    exact wkL_c (wkL_c (wkL_n (wkL_n (wkL_n (wkL_nil _)))))
set_option maxRecDepth 20000 in
set_option maxHeartbeats 1000000 in
theorem t_X5_looks_J44 (c12 : Int → Hp → Option (Int × Hp)) (x1 : Int) (x2 : Int) (x3 : Int) (x4 : Int) (s1 : Int) (hc12 : ∀ (y1 : Int) (h : Hp), Z M_X5_looks 12 [some (vr 76), some (vi y1), none, none, none] [] h (c12 y1 h)) (h : Hp) : Z M_X5_looks 44 [some (vr 76), some (vi x1), some (vi x2), some (vi x3), some (vi x4)] [vi s1, vr 76] h (f_X5_looks_J44 c12 x1 x2 x3 x4 s1 h) := by
  unfold f_X5_looks_J44
  refine z_putL fi_X5_213 rfl kd_76 rfl (fun h6 => ?_)
  refine z_aload_n rfl rfl ?_
  refine z_iload_n rfl rfl ?_
  refine z_putL fi_X5_222 rfl kd_76 rfl (fun h7 => ?_)
  refine z_aload_n rfl rfl ?_
  refine z_iload_n rfl rfl ?_
  refine z_if_eq rfl ?_ ?_
  · refine z_aload_n rfl rfl ?_
    refine z_getI rfl fl_X5_174 rfl kd_76 ?_
    refine z_iload_n rfl rfl ?_
    refine z_isub rfl ?_
    refine Z.weak ?_ (t_X5_looks_J57  _ _ _ hc12 _)
    exact wkL_c (wkL_c (wkL_n (wkL_n (wkL_n (wkL_nil _)))))
  · refine z_iload rfl rfl ?_
    refine z_goto rfl ?_
    refine Z.weak ?_ (t_X5_looks_J57  _ _ _ hc12 _)
    exact wkL_c (wkL_c (wkL_n (wkL_n (wkL_n (wkL_nil _)))))
set_option maxRecDepth 20000 in
set_option maxHeartbeats 1000000 in
theorem t_X5_looks_J33 (c12 : Int → Hp → Option (Int × Hp)) (x1 : Int) (x2 : Int) (x3 : Int) (s0 : Int) (hc12 : ∀ (y1 : Int) (h : Hp), Z M_X5_looks 12 [some (vr 76), some (vi y1), none, none, none] [] h (c12 y1 h)) (h : Hp) : Z M_X5_looks 33 [some (vr 76), some (vi x1), some (vi x2), some (vi x3), none] [vi s0] h (f_X5_looks_J33 c12 x1 x2 x3 s0 h) := by
  unfold f_X5_looks_J33
  refine z_istore rfl rfl ?_
  refine z_aload_n rfl rfl ?_
  refine z_iload_n rfl rfl ?_
  refine z_if_ne rfl ?_ ?_
  · refine z_iload rfl rfl ?_
    refine z_if_ge rfl ?_ ?_
    · refine z_iconst rfl rfl ?_
      refine Z.weak ?_ (t_X5_looks_J44  _ _ _ _ _ _ hc12 _)
      exact wkL_c (wkL_c (wkL_c (wkL_c (wkL_c (wkL_nil _)))))
    · refine z_iconst rfl rfl ?_
      refine z_goto rfl ?_
      refine Z.weak ?_ (t_X5_looks_J44  _ _ _ _ _ _ hc12 _)
      exact wkL_c (wkL_c (wkL_c (wkL_c (wkL_c (wkL_nil _)))))
  · refine z_iconst rfl rfl ?_
    refine z_goto rfl ?_
    refine Z.weak ?_ (t_X5_looks_J44  _ _ _ _ _ _ hc12 _)
    exact wkL_c (wkL_c (wkL_c (wkL_c (wkL_c (wkL_nil _)))))
set_option maxRecDepth 20000 in
set_option maxHeartbeats 1000000 in
theorem t_X5_looks_L12  : ∀ (n : Nat) (x1 : Int) (h : Hp), Z M_X5_looks 12 [some (vr 76), some (vi x1), none, none, none] [] h (f_X5_looks_L12  n x1 h) := by
  intro n
  induction n with
  | zero => intro x1 h; exact Z.nix
  | succ n ih =>
    intro x1 h
    rw [f_X5_looks_L12_s]
    refine z_aload_n rfl rfl ?_
    refine z_getI rfl fl_X5_213 rfl kd_76 ?_
    refine z_if_ne rfl ?_ ?_
    · refine z_iload_n rfl rfl ?_
      exact z_ireturn rfl rfl
    · refine z_aload_n rfl rfl ?_
      refine z_getI rfl fl_X5_174 rfl kd_76 ?_
      refine z_aload_n rfl rfl ?_
      refine z_getI rfl fl_X5_171 rfl kd_76 ?_
      refine z_icmp_ge rfl ?_ ?_
      · refine z_iload_n rfl rfl ?_
        exact z_ireturn rfl rfl
      · refine z_aload_n rfl rfl ?_
        refine z_getI rfl fl_X5_174 rfl kd_76 ?_
        refine z_istore_nL rfl rfl (fun y4 => ?_)
        refine z_aload_n rfl rfl ?_
        refine z_V0i ko5 mv_X5_216 kd_76 (t_X5_readsOrder  _) rfl rfl rfl rfl rfl (fun r5 h5 => ?_)
        refine z_istore_n rfl rfl ?_
        refine z_iload_n rfl rfl ?_
        refine z_if_eq rfl ?_ ?_
        · refine z_iconst rfl rfl ?_
          refine Z.weak ?_ (t_X5_looks_J33  _ _ _ _ _ ih _)
          exact wkL_c (wkL_c (wkL_c (wkL_c (wkL_n (wkL_nil _)))))
        · refine z_aload_n rfl rfl ?_
          refine z_sipush rfl rfl ?_
          refine z_V1i ko5 mv_X5_219 kd_76 (t_X5_does _ _) rfl rfl rfl rfl rfl (fun r11 h11 => ?_)
          refine z_goto rfl ?_
          refine Z.weak ?_ (t_X5_looks_J33  _ _ _ _ _ ih _)
          exact wkL_c (wkL_c (wkL_c (wkL_c (wkL_n (wkL_nil _)))))
set_option maxRecDepth 20000 in
set_option maxHeartbeats 1000000 in
theorem t_X5_looks  (h : Hp) : Ct M_X5_looks [vr 76] h (f_X5_looks  h) := by
  refine Ct.mk ok_X5_looks pl_X5_looks rfl rfl ?_
  show Z M_X5_looks 0 [some (vr 76), none, none, none, none] [] h (f_X5_looks  h)
  unfold f_X5_looks
  refine z_aload_n rfl rfl ?_
  refine z_iconst rfl rfl ?_
  refine z_bipush rfl rfl ?_
  refine z_V2v ko5 mv_X5_35 kd_76 (t_X5_copies _ _ _) rfl rfl rfl rfl rfl (fun _ h1 => ?_)
  refine z_aload_n rfl rfl ?_
  refine z_iconst rfl rfl ?_
  refine z_putL fi_X5_174 rfl kd_76 rfl (fun h2 => ?_)
  refine z_aload_n rfl rfl ?_
  refine z_iconst rfl rfl ?_
  refine z_putL fi_X5_213 rfl kd_76 rfl (fun h3 => ?_)
  refine z_iconst rfl rfl ?_
  refine z_istore_n rfl rfl ?_
  refine Z.weak ?_ (t_X5_looks_L12      fu _ _)
  · exact wkL_c (wkL_c (wkL_n (wkL_n (wkL_n (wkL_nil _)))))
set_option maxRecDepth 20000 in
set_option maxHeartbeats 1000000 in
theorem t_X5_fault (x1 : Int) (h : Hp) : Ct M_X5_fault [vr 76, vi x1] h (f_X5_fault x1 h) := by
  refine Ct.mk ok_X5_fault pl_X5_fault rfl rfl ?_
  show Z M_X5_fault 0 [some (vr 76), some (vi x1), none] [] h (f_X5_fault x1 h)
  unfold f_X5_fault
  refine z_iload_n rfl rfl ?_
  refine z_iconst rfl rfl ?_
  refine z_iconst rfl rfl ?_
  refine z_S3i ms_X5_90 (t_X5_in _ _ _ _) rfl rfl rfl rfl (fun r1 h1 => ?_)
  refine z_if_ne rfl ?_ ?_
  · refine z_aload_n rfl rfl ?_
    refine z_V0i ko5 mv_X5_228 kd_76 (t_X5_looks  _) rfl rfl rfl rfl rfl (fun r2 h2 => ?_)
    refine z_istore_n rfl rfl ?_
    refine z_aload_n rfl rfl ?_
    refine z_getI rfl fl_X5_213 rfl kd_76 ?_
    refine z_if_ne rfl ?_ ?_
    · refine z_iload_n rfl rfl ?_
      refine z_if_ne rfl ?_ ?_
      · refine z_iload_n rfl rfl ?_
        refine z_iconst rfl rfl ?_
        refine z_icmp_ne rfl ?_ ?_
        · refine z_aload_n rfl rfl ?_
          refine z_getI rfl fl_X5_225 rfl kd_76 ?_
          exact z_ireturn rfl rfl
        · refine z_aload_n rfl rfl ?_
          refine z_getI rfl fl_X5_213 rfl kd_76 ?_
          refine z_goto rfl ?_
          exact z_ireturn rfl rfl
      · refine z_aload_n rfl rfl ?_
        refine z_getI rfl fl_X5_222 rfl kd_76 ?_
        refine z_goto rfl ?_
        exact z_ireturn rfl rfl
    · refine z_ldc rfl cst_X5_144 rfl ?_
      refine z_goto rfl ?_
      exact z_ireturn rfl rfl
  · refine z_ldc rfl cst_X5_97 rfl ?_
    exact z_ireturn rfl rfl
set_option maxRecDepth 20000 in
set_option maxHeartbeats 1000000 in
theorem t_X5_find (x1 : Int) (x2 : Int) (x3 : Int) (x4 : Int) (h : Hp) : Ct M_X5_find [vr 76, vi x1, vi x2, vi x3, vi x4] h (f_X5_find x1 x2 x3 x4 h) := by
  refine Ct.mk ok_X5_find pl_X5_find rfl rfl ?_
  show Z M_X5_find 0 [some (vr 76), some (vi x1), some (vi x2), some (vi x3), some (vi x4)] [] h (f_X5_find x1 x2 x3 x4 h)
  unfold f_X5_find
  refine z_aload_n rfl rfl ?_
  refine z_aload_n rfl rfl ?_
  refine z_aload_n rfl rfl ?_
  refine z_V0i ko5 mv_X5_117 kd_76 (t_X5_tried  _) rfl rfl rfl rfl rfl (fun r1 h1 => ?_)
  refine z_iload_n rfl rfl ?_
  refine z_iload_n rfl rfl ?_
  refine z_iload_n rfl rfl ?_
  refine z_iload rfl rfl ?_
  refine z_V5i ko5 mv_X5_121 kd_76 (t_X5_finds _ _ _ _ _ _) rfl rfl rfl rfl rfl (fun r2 h2 => ?_)
  refine z_V1i ko5 mv_X5_125 kd_76 (t_X5_done _ _) rfl rfl rfl rfl rfl (fun r3 h3 => ?_)
  exact z_ireturn rfl rfl
set_option maxRecDepth 20000 in
set_option maxHeartbeats 1000000 in
theorem t_X5_hand  (h : Hp) : Ct M_X5_hand [vr 76] h (f_X5_hand  h) := by
  refine Ct.mk ok_X5_hand pl_X5_hand rfl rfl ?_
  show Z M_X5_hand 0 [some (vr 76)] [] h (f_X5_hand  h)
  unfold f_X5_hand
  refine z_aload_n rfl rfl ?_
  refine z_aload_n rfl rfl ?_
  refine z_aload_n rfl rfl ?_
  refine z_V0i ko5 mv_X5_117 kd_76 (t_X5_tried  _) rfl rfl rfl rfl rfl (fun r1 h1 => ?_)
  refine z_V1i ko5 mv_X5_138 kd_76 (t_X5_handsOut _ _) rfl rfl rfl rfl rfl (fun r2 h2 => ?_)
  refine z_V1i ko5 mv_X5_125 kd_76 (t_X5_done _ _) rfl rfl rfl rfl rfl (fun r3 h3 => ?_)
  exact z_ireturn rfl rfl
set_option maxRecDepth 20000 in
set_option maxHeartbeats 1000000 in
theorem t_X5_having (x1 : Int) (x2 : Int) (h : Hp) : Ct M_X5_having [vr 76, vi x1, vi x2] h (f_X5_having x1 x2 h) := by
  refine Ct.mk ok_X5_having pl_X5_having rfl rfl ?_
  show Z M_X5_having 0 [some (vr 76), some (vi x1), some (vi x2)] [] h (f_X5_having x1 x2 h)
  unfold f_X5_having
  refine z_iload_n rfl rfl ?_
  refine z_iload_n rfl rfl ?_
  refine z_S2i ms_X5_108 (t_X5_isDetail _ _ _) rfl rfl rfl rfl (fun r1 h1 => ?_)
  refine z_if_eq rfl ?_ ?_
  · refine z_ldc rfl cst_X5_97 rfl ?_
    exact z_ireturn rfl rfl
  · refine z_aload_n rfl rfl ?_
    refine z_iconst rfl rfl ?_
    refine z_iload_n rfl rfl ?_
    refine z_iload_n rfl rfl ?_
    refine z_V3i ko5 mv_X5_50 kd_76 (t_X5_many _ _ _ _) rfl rfl rfl rfl rfl (fun r2 h2 => ?_)
    refine z_goto rfl ?_
    exact z_ireturn rfl rfl
set_option maxRecDepth 20000 in
set_option maxHeartbeats 1000000 in
theorem t_X5_ifTold (x1 : Int) (x2 : Int) (x3 : Int) (h : Hp) : Ct M_X5_ifTold [vr 76, vi x1, vi x2, vi x3] h (f_X5_ifTold x1 x2 x3 h) := by
  refine Ct.mk ok_X5_ifTold pl_X5_ifTold rfl rfl ?_
  show Z M_X5_ifTold 0 [some (vr 76), some (vi x1), some (vi x2), some (vi x3), none] [] h (f_X5_ifTold x1 x2 x3 h)
  unfold f_X5_ifTold
  refine z_aload_n rfl rfl ?_
  refine z_V0i ko5 mv_X5_117 kd_76 (t_X5_tried  _) rfl rfl rfl rfl rfl (fun r1 h1 => ?_)
  refine z_istore rfl rfl ?_
  refine z_aload_n rfl rfl ?_
  refine z_iload rfl rfl ?_
  refine z_iload_n rfl rfl ?_
  refine z_iload_n rfl rfl ?_
  refine z_iload_n rfl rfl ?_
  refine z_V4i ko5 mv_X5_131 kd_76 (t_X5_tells _ _ _ _ _) rfl rfl rfl rfl rfl (fun r2 h2 => ?_)
  refine z_ldc rfl cst_X5_97 rfl ?_
  refine z_icmp_ne rfl ?_ ?_
  · refine z_aload_n rfl rfl ?_
    refine z_iload rfl rfl ?_
    refine z_iload_n rfl rfl ?_
    refine z_V2i ko5 mv_X5_159 kd_76 (t_X5_matchOf _ _ _) rfl rfl rfl rfl rfl (fun r3 h3 => ?_)
    exact z_ireturn rfl rfl
  · refine z_ldc rfl cst_X5_97 rfl ?_
    refine z_goto rfl ?_
    exact z_ireturn rfl rfl
set_option maxRecDepth 20000 in
set_option maxHeartbeats 1000000 in
theorem t_X5_ifWeeks (x1 : Int) (x2 : Int) (h : Hp) : Ct M_X5_ifWeeks [vr 76, vi x1, vi x2] h (f_X5_ifWeeks x1 x2 h) := by
  refine Ct.mk ok_X5_ifWeeks pl_X5_ifWeeks rfl rfl ?_
  show Z M_X5_ifWeeks 0 [some (vr 76), some (vi x1), some (vi x2), none, none] [] h (f_X5_ifWeeks x1 x2 h)
  unfold f_X5_ifWeeks
  refine z_iload_n rfl rfl ?_
  refine z_iconst rfl rfl ?_
  refine z_bipush rfl rfl ?_
  refine z_S3i ms_X5_90 (t_X5_in _ _ _ _) rfl rfl rfl rfl (fun r1 h1 => ?_)
  refine z_if_eq rfl ?_ ?_
  · refine z_ldc rfl cst_X5_97 rfl ?_
    exact z_ireturn rfl rfl
  · refine z_iload_n rfl rfl ?_
    refine z_iconst rfl rfl ?_
    refine z_iconst rfl rfl ?_
    refine z_S3i ms_X5_90 (t_X5_in _ _ _ _) rfl rfl rfl rfl (fun r2 h2 => ?_)
    refine z_if_ne rfl ?_ ?_
    · refine z_aload_n rfl rfl ?_
      refine z_V0i ko5 mv_X5_117 kd_76 (t_X5_tried  _) rfl rfl rfl rfl rfl (fun r3 h3 => ?_)
      refine z_istore_n rfl rfl ?_
      refine z_aload_n rfl rfl ?_
      refine z_iload_n rfl rfl ?_
      refine z_iload_n rfl rfl ?_
      refine z_V2i ko5 mv_X5_111 kd_76 (t_X5_goBy _ _ _) rfl rfl rfl rfl rfl (fun r4 h4 => ?_)
      refine z_istore rfl rfl ?_
      refine z_iload_n rfl rfl ?_
      refine z_if_ne rfl ?_ ?_
      · refine z_iload_n rfl rfl ?_
        refine z_iconst rfl rfl ?_
        refine z_icmp_ne rfl ?_ ?_
        · refine z_aload_n rfl rfl ?_
          refine z_iload_n rfl rfl ?_
          refine z_V1i ko5 mv_X5_87 kd_76 (t_X5_matches _ _) rfl rfl rfl rfl rfl (fun r5 h5 => ?_)
          exact z_ireturn rfl rfl
        · refine z_aload_n rfl rfl ?_
          refine z_getRn (m := 77) rfl fl_X5_7 rfl kd_76 rfl ?_
          refine z_iload_n rfl rfl ?_
          refine z_bipush rfl rfl ?_
          refine z_iadd rfl ?_
          refine z_iaload rfl kd_77 ?_
          refine z_aload_n rfl rfl ?_
          refine z_getRn (m := 77) rfl fl_X5_7 rfl kd_76 rfl ?_
          refine z_bipush rfl rfl ?_
          refine z_iaload rfl kd_77 ?_
          refine z_isub rfl ?_
          refine z_goto rfl ?_
          exact z_ireturn rfl rfl
      · refine z_iload rfl rfl ?_
        refine z_goto rfl ?_
        exact z_ireturn rfl rfl
    · refine z_ldc rfl cst_X5_97 rfl ?_
      exact z_ireturn rfl rfl
set_option maxRecDepth 20000 in
set_option maxHeartbeats 1000000 in
theorem t_X5_isSetting (x0 : Int) (x1 : Int) (h : Hp) : Ct M_X5_isSetting [vi x0, vi x1] h (f_X5_isSetting x0 x1 h) := by
  refine Ct.mk ok_X5_isSetting pl_X5_isSetting rfl rfl ?_
  show Z M_X5_isSetting 0 [some (vi x0), some (vi x1)] [] h (f_X5_isSetting x0 x1 h)
  unfold f_X5_isSetting
  refine z_iload_n rfl rfl ?_
  refine Z.ite (fun e2 => ?_) (fun e2 => ?_)
  · refine z_table (tg := 2) rfl (o := 43) (by rw [e2]; rfl) rfl ?_
    refine z_iload_n rfl rfl ?_
    refine z_iconst rfl rfl ?_
    refine z_iconst rfl rfl ?_
    refine z_S3i ms_X5_90 (t_X5_in _ _ _ _) rfl rfl rfl rfl (fun r1 h1 => ?_)
    exact z_zret rfl rfl
  refine Z.ite (fun e4 => ?_) (fun e4 => ?_)
  · refine z_table (tg := 7) rfl (o := 50) (by rw [e4]; rfl) rfl ?_
    refine z_iload_n rfl rfl ?_
    refine z_iconst rfl rfl ?_
    refine z_bipush rfl rfl ?_
    refine z_S3i ms_X5_90 (t_X5_in _ _ _ _) rfl rfl rfl rfl (fun r3 h3 => ?_)
    exact z_zret rfl rfl
  refine Z.ite (fun e6 => ?_) (fun e6 => ?_)
  · refine z_table (tg := 7) rfl (o := 50) (by rw [e6]; rfl) rfl ?_
    refine z_iload_n rfl rfl ?_
    refine z_iconst rfl rfl ?_
    refine z_bipush rfl rfl ?_
    refine z_S3i ms_X5_90 (t_X5_in _ _ _ _) rfl rfl rfl rfl (fun r5 h5 => ?_)
    exact z_zret rfl rfl
  refine Z.ite (fun e8 => ?_) (fun e8 => ?_)
  · refine z_table (tg := 12) rfl (o := 58) (by rw [e8]; rfl) rfl ?_
    refine z_iload_n rfl rfl ?_
    refine z_iconst rfl rfl ?_
    refine z_bipush rfl rfl ?_
    refine z_S3i ms_X5_90 (t_X5_in _ _ _ _) rfl rfl rfl rfl (fun r7 h7 => ?_)
    exact z_zret rfl rfl
  refine Z.ite (fun e10 => ?_) (fun e10 => ?_)
  · refine z_table (tg := 17) rfl (o := 66) (by rw [e10]; rfl) rfl ?_
    refine z_iload_n rfl rfl ?_
    refine z_iconst rfl rfl ?_
    refine z_bipush rfl rfl ?_
    refine z_S3i ms_X5_90 (t_X5_in _ _ _ _) rfl rfl rfl rfl (fun r9 h9 => ?_)
    exact z_zret rfl rfl
  refine Z.ite (fun e12 => ?_) (fun e12 => ?_)
  · refine z_table (tg := 22) rfl (o := 74) (by rw [e12]; rfl) rfl ?_
    refine z_iload_n rfl rfl ?_
    refine z_iconst rfl rfl ?_
    refine z_bipush rfl rfl ?_
    refine z_S3i ms_X5_90 (t_X5_in _ _ _ _) rfl rfl rfl rfl (fun r11 h11 => ?_)
    exact z_zret rfl rfl
  refine Z.ite (fun e14 => ?_) (fun e14 => ?_)
  · refine z_table (tg := 22) rfl (o := 74) (by rw [e14]; rfl) rfl ?_
    refine z_iload_n rfl rfl ?_
    refine z_iconst rfl rfl ?_
    refine z_bipush rfl rfl ?_
    refine z_S3i ms_X5_90 (t_X5_in _ _ _ _) rfl rfl rfl rfl (fun r13 h13 => ?_)
    exact z_zret rfl rfl
  refine z_table (tg := 27) rfl (o := 82) (if_pos (by omega)) rfl ?_
  refine z_iconst rfl rfl ?_
  exact z_zret0 rfl rfl
set_option maxRecDepth 20000 in
set_option maxHeartbeats 1000000 in
theorem t_X5_isUmbrella (x1 : Int) (h : Hp) : Ct M_X5_isUmbrella [vr 76, vi x1] h (f_X5_isUmbrella x1 h) := by
  refine Ct.mk ok_X5_isUmbrella pl_X5_isUmbrella rfl rfl ?_
  show Z M_X5_isUmbrella 0 [some (vr 76), some (vi x1)] [] h (f_X5_isUmbrella x1 h)
  unfold f_X5_isUmbrella
  refine z_iload_n rfl rfl ?_
  refine z_iconst rfl rfl ?_
  refine z_aload_n rfl rfl ?_
  refine z_getRn (m := 77) rfl fl_X5_7 rfl kd_76 rfl ?_
  refine z_bipush rfl rfl ?_
  refine z_iaload rfl kd_77 ?_
  refine z_iconst rfl rfl ?_
  refine z_isub rfl ?_
  refine z_S3i ms_X5_90 (t_X5_in _ _ _ _) rfl rfl rfl rfl (fun r1 h1 => ?_)
  exact z_zret rfl rfl
set_option maxRecDepth 20000 in
set_option maxHeartbeats 1000000 in
theorem t_X5_mateOf (x1 : Int) (x2 : Int) (h : Hp) : Ct M_X5_mateOf [vr 76, vi x1, vi x2] h (f_X5_mateOf x1 x2 h) := by
  refine Ct.mk ok_X5_mateOf pl_X5_mateOf rfl rfl ?_
  show Z M_X5_mateOf 0 [some (vr 76), some (vi x1), some (vi x2), none, none] [] h (f_X5_mateOf x1 x2 h)
  unfold f_X5_mateOf
  refine z_aload_n rfl rfl ?_
  refine z_iconst rfl rfl ?_
  refine z_V1i ko5 mv_X5_87 kd_76 (t_X5_matches _ _) rfl rfl rfl rfl rfl (fun r1 h1 => ?_)
  refine z_istore_n rfl rfl ?_
  refine z_aload_n rfl rfl ?_
  refine z_getRn (m := 79) rfl fl_X5_16 rfl kd_76 rfl ?_
  refine z_iload_n rfl rfl ?_
  refine z_iaload rfl kd_79 ?_
  refine z_istoreL rfl rfl (fun y2 => ?_)
  refine z_iload rfl rfl ?_
  refine z_iconst rfl rfl ?_
  refine z_icmp_ne rfl ?_ ?_
  · refine z_iload_n rfl rfl ?_
    refine z_if_eq rfl ?_ ?_
    · refine z_aload_n rfl rfl ?_
      refine z_iconst rfl rfl ?_
      refine z_iload_n rfl rfl ?_
      refine z_iload rfl rfl ?_
      refine z_V3i ko5 mv_X5_53 kd_76 (t_X5_pointsOf _ _ _ _) rfl rfl rfl rfl rfl (fun r3 h3 => ?_)
      exact z_ireturn rfl rfl
    · refine z_iload rfl rfl ?_
      refine z_goto rfl ?_
      exact z_ireturn rfl rfl
  · refine z_ldc rfl cst_X5_144 rfl ?_
    refine z_goto rfl ?_
    exact z_ireturn rfl rfl
set_option maxRecDepth 20000 in
set_option maxHeartbeats 1000000 in
theorem t_X5_mean_L8 (x1 : Int) (c35 : Int → Hp → Option (Int × Hp)) (hc35 : ∀ (y2 : Int) (h : Hp), Z M_X5_mean 35 [none, some (vi x1), some (vi y2), none] [] h (c35 y2 h)) : ∀ (n : Nat) (x2 : Int) (x3 : Int) (h : Hp), Z M_X5_mean 8 [some (vr 76), some (vi x1), some (vi x2), some (vi x3)] [] h (f_X5_mean_L8 x1 c35 n x2 x3 h) := by
  intro n
  induction n with
  | zero => intro x2 x3 h; exact Z.nix
  | succ n ih =>
    intro x2 x3 h
    rw [f_X5_mean_L8_s]
    refine z_iload_n rfl rfl ?_
    refine z_bipush rfl rfl ?_
    refine z_icmp_ge rfl ?_ ?_
    · refine Z.weak ?_ (hc35 _ _)
      exact wkL_n (wkL_c (wkL_c (wkL_n (wkL_nil _))))
    · refine z_iload_n rfl rfl ?_
      refine z_aload_n rfl rfl ?_
      refine z_getRn (m := 79) rfl fl_X5_16 rfl kd_76 rfl ?_
      refine z_iload_n rfl rfl ?_
      refine z_iaload rfl kd_79 ?_
      refine z_iconst rfl rfl ?_
      refine z_icmp_ne rfl ?_ ?_
      · refine z_aload_n rfl rfl ?_
        refine z_getRn (m := 81) rfl fl_X5_22 rfl kd_76 rfl ?_
        refine z_bipush rfl rfl ?_
        refine z_iload_n rfl rfl ?_
        refine z_imul rfl ?_
        refine z_aload_n rfl rfl ?_
        refine z_getRn (m := 79) rfl fl_X5_16 rfl kd_76 rfl ?_
        refine z_iload_n rfl rfl ?_
        refine z_iaload rfl kd_79 ?_
        refine z_iadd rfl ?_
        refine z_iaload rfl kd_81 ?_
        refine z_iadd rfl ?_
        refine z_istore_nL rfl rfl (fun y2 => ?_)
        refine z_iinc rfl rfl rfl ?_
        refine z_goto rfl ?_
        refine Z.weak ?_ (ih _ _ _)
        exact wkL_c (wkL_c (wkL_c (wkL_c (wkL_nil _))))
      · refine z_iconst rfl rfl ?_
        refine z_goto rfl ?_
        refine z_iadd rfl ?_
        refine z_istore_nL rfl rfl (fun y3 => ?_)
        refine z_iinc rfl rfl rfl ?_
        refine z_goto rfl ?_
        refine Z.weak ?_ (ih _ _ _)
        exact wkL_c (wkL_c (wkL_c (wkL_c (wkL_nil _))))
set_option maxRecDepth 20000 in
set_option maxHeartbeats 1000000 in
theorem t_X5_mean  (h : Hp) : Ct M_X5_mean [vr 76] h (f_X5_mean  h) := by
  refine Ct.mk ok_X5_mean pl_X5_mean rfl rfl ?_
  show Z M_X5_mean 0 [some (vr 76), none, none, none] [] h (f_X5_mean  h)
  unfold f_X5_mean
  refine z_aload_n rfl rfl ?_
  refine z_iconst rfl rfl ?_
  refine z_V1i ko5 mv_X5_87 kd_76 (t_X5_matches _ _) rfl rfl rfl rfl rfl (fun r1 h1 => ?_)
  refine z_istore_n rfl rfl ?_
  refine z_iconst rfl rfl ?_
  refine z_istore_n rfl rfl ?_
  refine z_iconst rfl rfl ?_
  refine z_istore_n rfl rfl ?_
  refine Z.weak ?_ (t_X5_mean_L8  _  _  ?_  fu _ _ _)
  · exact wkL_c (wkL_c (wkL_c (wkL_c (wkL_nil _))))
  · intro y4 h5
    refine z_iload_n rfl rfl ?_
    refine z_if_ne rfl ?_ ?_
    · refine z_iload_n rfl rfl ?_
      refine z_i2f rfl ?_
      refine z_iload_n rfl rfl ?_
      refine z_i2f rfl ?_
      refine z_fdiv rfl ?_
      refine z_S1i ms_X5_162 (t_J_floatToIntBits _ _) rfl rfl rfl rfl (fun r6 h6 => ?_)
      exact z_ireturn rfl rfl
    · refine z_ldc rfl cst_X5_144 rfl ?_
      refine z_goto rfl ?_
      exact z_ireturn rfl rfl
set_option maxRecDepth 20000 in
set_option maxHeartbeats 1000000 in
theorem t_X5_oddness_L4 (x1 : Int) : ∀ (n : Nat) (x2 : Int) (x3 : Int) (h : Hp), Z M_X5_oddness 4 [some (vr 76), some (vi x1), some (vi x2), some (vi x3)] [] h (f_X5_oddness_L4 x1 n x2 x3 h) := by
  intro n
  induction n with
  | zero => intro x2 x3 h; exact Z.nix
  | succ n ih =>
    intro x2 x3 h
    rw [f_X5_oddness_L4_s]
    refine z_iload_n rfl rfl ?_
    refine z_iconst rfl rfl ?_
    refine z_icmp_ge rfl ?_ ?_
    · refine z_iload_n rfl rfl ?_
      exact z_ireturn rfl rfl
    · refine z_iload_n rfl rfl ?_
      refine z_bipush rfl rfl ?_
      refine z_aload_n rfl rfl ?_
      refine z_iconst rfl rfl ?_
      refine z_iload_n rfl rfl ?_
      refine z_aload_n rfl rfl ?_
      refine z_getRn (m := 77) rfl fl_X5_7 rfl kd_76 rfl ?_
      refine z_iconst rfl rfl ?_
      refine z_iload_n rfl rfl ?_
      refine z_S2i ms_X5_39 (t_X5_umbrellaAt _ _ _) rfl rfl rfl rfl (fun r1 h1 => ?_)
      refine z_iload_n rfl rfl ?_
      refine z_iadd rfl ?_
      refine z_iaload rfl kd_77 ?_
      refine z_V3i ko5 mv_X5_50 kd_76 (t_X5_many _ _ _ _) rfl rfl rfl rfl rfl (fun r2 h2 => ?_)
      refine z_isub rfl ?_
      refine z_iadd rfl ?_
      refine z_istore_nL rfl rfl (fun y3 => ?_)
      refine z_iinc rfl rfl rfl ?_
      refine z_goto rfl ?_
      refine Z.weak ?_ (ih _ _ _)
      exact wkL_c (wkL_c (wkL_c (wkL_c (wkL_nil _))))
set_option maxRecDepth 20000 in
set_option maxHeartbeats 1000000 in
theorem t_X5_oddness (x1 : Int) (h : Hp) : Ct M_X5_oddness [vr 76, vi x1] h (f_X5_oddness x1 h) := by
  refine Ct.mk ok_X5_oddness pl_X5_oddness rfl rfl ?_
  show Z M_X5_oddness 0 [some (vr 76), some (vi x1), none, none] [] h (f_X5_oddness x1 h)
  unfold f_X5_oddness
  refine z_iconst rfl rfl ?_
  refine z_istore_n rfl rfl ?_
  refine z_iconst rfl rfl ?_
  refine z_istore_n rfl rfl ?_
  refine Z.weak ?_ (t_X5_oddness_L4  _     fu _ _ _)
  · exact wkL_c (wkL_c (wkL_c (wkL_c (wkL_nil _))))
set_option maxRecDepth 20000 in
set_option maxHeartbeats 1000000 in
theorem t_X5_oddest_L4  : ∀ (n : Nat) (x1 : Int) (x2 : Int) (h : Hp), Z M_X5_oddest 4 [some (vr 76), some (vi x1), some (vi x2)] [] h (f_X5_oddest_L4  n x1 x2 h) := by
  intro n
  induction n with
  | zero => intro x1 x2 h; exact Z.nix
  | succ n ih =>
    intro x1 x2 h
    rw [f_X5_oddest_L4_s]
    refine z_iload_n rfl rfl ?_
    refine z_aload_n rfl rfl ?_
    refine z_getRn (m := 77) rfl fl_X5_7 rfl kd_76 rfl ?_
    refine z_bipush rfl rfl ?_
    refine z_iaload rfl kd_77 ?_
    refine z_icmp_ge rfl ?_ ?_
    · refine z_iload_n rfl rfl ?_
      exact z_ireturn rfl rfl
    · refine z_iload_n rfl rfl ?_
      refine z_ldc rfl cst_X5_144 rfl ?_
      refine z_icmp_eq rfl ?_ ?_
      · refine z_iload_n rfl rfl ?_
        refine z_goto rfl ?_
        refine z_istore_n rfl rfl ?_
        refine z_iinc rfl rfl rfl ?_
        refine z_goto rfl ?_
        refine Z.weak ?_ (ih _ _ _)
        exact wkL_c (wkL_c (wkL_c (wkL_nil _)))
      · refine z_aload_n rfl rfl ?_
        refine z_iload_n rfl rfl ?_
        refine z_V1i ko5 mv_X5_156 kd_76 (t_X5_oddness _ _) rfl rfl rfl rfl rfl (fun r1 h1 => ?_)
        refine z_aload_n rfl rfl ?_
        refine z_iload_n rfl rfl ?_
        refine z_V1i ko5 mv_X5_156 kd_76 (t_X5_oddness _ _) rfl rfl rfl rfl rfl (fun r2 h2 => ?_)
        refine z_icmp_le rfl ?_ ?_
        · refine z_iload_n rfl rfl ?_
          refine z_istore_n rfl rfl ?_
          refine z_iinc rfl rfl rfl ?_
          refine z_goto rfl ?_
          refine Z.weak ?_ (ih _ _ _)
          exact wkL_c (wkL_c (wkL_c (wkL_nil _)))
        · refine z_iload_n rfl rfl ?_
          refine z_goto rfl ?_
          refine z_istore_n rfl rfl ?_
          refine z_iinc rfl rfl rfl ?_
          refine z_goto rfl ?_
          refine Z.weak ?_ (ih _ _ _)
          exact wkL_c (wkL_c (wkL_c (wkL_nil _)))
set_option maxRecDepth 20000 in
set_option maxHeartbeats 1000000 in
theorem t_X5_oddest  (h : Hp) : Ct M_X5_oddest [vr 76] h (f_X5_oddest  h) := by
  refine Ct.mk ok_X5_oddest pl_X5_oddest rfl rfl ?_
  show Z M_X5_oddest 0 [some (vr 76), none, none] [] h (f_X5_oddest  h)
  unfold f_X5_oddest
  refine z_ldc rfl cst_X5_144 rfl ?_
  refine z_istore_n rfl rfl ?_
  refine z_iconst rfl rfl ?_
  refine z_istore_n rfl rfl ?_
  refine Z.weak ?_ (t_X5_oddest_L4      fu _ _ _)
  · exact wkL_c (wkL_c (wkL_c (wkL_nil _)))
set_option maxRecDepth 20000 in
set_option maxHeartbeats 1000000 in
theorem t_X5_play  (h : Hp) : Ct M_X5_play [vr 76] h (f_X5_play  h) := by
  refine Ct.mk ok_X5_play pl_X5_play rfl rfl ?_
  show Z M_X5_play 0 [some (vr 76), none] [] h (f_X5_play  h)
  unfold f_X5_play
  refine z_aload_n rfl rfl ?_
  refine z_V0i ko5 mv_X5_228 kd_76 (t_X5_looks  _) rfl rfl rfl rfl rfl (fun r1 h1 => ?_)
  refine z_istore_n rfl rfl ?_
  refine z_aload_n rfl rfl ?_
  refine z_getI rfl fl_X5_213 rfl kd_76 ?_
  refine z_if_le rfl ?_ ?_
  · refine z_aload_n rfl rfl ?_
    refine z_V0v ko5 mv_X5_114 kd_76 (t_X5_records  _) rfl rfl rfl rfl rfl (fun _ h2 => ?_)
    refine z_aload_n rfl rfl ?_
    refine z_bipush rfl rfl ?_
    refine z_iconst rfl rfl ?_
    refine z_V2v ko5 mv_X5_35 kd_76 (t_X5_copies _ _ _) rfl rfl rfl rfl rfl (fun _ h3 => ?_)
    refine z_iload_n rfl rfl ?_
    exact z_ireturn rfl rfl
  · refine z_ldc rfl cst_X5_103 rfl ?_
    exact z_ireturn rfl rfl
set_option maxRecDepth 20000 in
set_option maxHeartbeats 1000000 in
theorem t_X5_points (x1 : Int) (x2 : Int) (h : Hp) : Ct M_X5_points [vr 76, vi x1, vi x2] h (f_X5_points x1 x2 h) := by
  refine Ct.mk ok_X5_points pl_X5_points rfl rfl ?_
  show Z M_X5_points 0 [some (vr 76), some (vi x1), some (vi x2)] [] h (f_X5_points x1 x2 h)
  unfold f_X5_points
  refine z_aload_n rfl rfl ?_
  refine z_iload_n rfl rfl ?_
  refine z_V1i ko5 mv_X5_145 kd_76 (t_X5_isUmbrella _ _) rfl rfl rfl rfl rfl (fun r1 h1 => ?_)
  refine z_if_eq rfl ?_ ?_
  · refine z_ldc rfl cst_X5_97 rfl ?_
    exact z_ireturn rfl rfl
  · refine z_aload_n rfl rfl ?_
    refine z_iconst rfl rfl ?_
    refine z_iload_n rfl rfl ?_
    refine z_V2i ko5 mv_X5_104 kd_76 (t_X5_isClaim _ _ _) rfl rfl rfl rfl rfl (fun r2 h2 => ?_)
    refine z_if_eq rfl ?_ ?_
    · refine z_ldc rfl cst_X5_97 rfl ?_
      exact z_ireturn rfl rfl
    · refine z_sipush rfl rfl ?_
      refine z_aload_n rfl rfl ?_
      refine z_iconst rfl rfl ?_
      refine z_iload_n rfl rfl ?_
      refine z_iload_n rfl rfl ?_
      refine z_V3i ko5 mv_X5_53 kd_76 (t_X5_pointsOf _ _ _ _) rfl rfl rfl rfl rfl (fun r3 h3 => ?_)
      refine z_iadd rfl ?_
      refine z_goto rfl ?_
      exact z_ireturn rfl rfl
set_option maxRecDepth 20000 in
set_option maxHeartbeats 1000000 in
theorem t_X5_set (x1 : Int) (x2 : Int) (h : Hp) : Ct M_X5_set [vr 76, vi x1, vi x2] h (f_X5_set x1 x2 h) := by
  refine Ct.mk ok_X5_set pl_X5_set rfl rfl ?_
  show Z M_X5_set 0 [some (vr 76), some (vi x1), some (vi x2), none] [] h (f_X5_set x1 x2 h)
  unfold f_X5_set
  refine z_iload_n rfl rfl ?_
  refine z_iload_n rfl rfl ?_
  refine z_S2i ms_X5_141 (t_X5_isSetting _ _ _) rfl rfl rfl rfl (fun r1 h1 => ?_)
  refine z_if_ne rfl ?_ ?_
  · refine z_aload_n rfl rfl ?_
    refine z_V0v ko5 mv_X5_114 kd_76 (t_X5_records  _) rfl rfl rfl rfl rfl (fun _ h2 => ?_)
    refine z_aload_n rfl rfl ?_
    refine z_getRn (m := 77) rfl fl_X5_7 rfl kd_76 rfl ?_
    refine z_iconst rfl rfl ?_
    refine z_iload_n rfl rfl ?_
    refine z_iadd rfl ?_
    refine z_iaload rfl kd_77 ?_
    refine z_istore_nL rfl rfl (fun y3 => ?_)
    refine z_aload_n rfl rfl ?_
    refine z_getRn (m := 77) rfl fl_X5_7 rfl kd_76 rfl ?_
    refine z_iconst rfl rfl ?_
    refine z_iload_n rfl rfl ?_
    refine z_iadd rfl ?_
    refine z_iload_n rfl rfl ?_
    refine z_iastoreL kd_77 rfl (fun h4 => ?_)
    refine z_iload_n rfl rfl ?_
    exact z_ireturn rfl rfl
  · refine z_ldc rfl cst_X5_97 rfl ?_
    exact z_ireturn rfl rfl
set_option maxRecDepth 20000 in
set_option maxHeartbeats 1000000 in
theorem t_X5_tell (x1 : Int) (x2 : Int) (x3 : Int) (h : Hp) : Ct M_X5_tell [vr 76, vi x1, vi x2, vi x3] h (f_X5_tell x1 x2 x3 h) := by
  refine Ct.mk ok_X5_tell pl_X5_tell rfl rfl ?_
  show Z M_X5_tell 0 [some (vr 76), some (vi x1), some (vi x2), some (vi x3)] [] h (f_X5_tell x1 x2 x3 h)
  unfold f_X5_tell
  refine z_aload_n rfl rfl ?_
  refine z_aload_n rfl rfl ?_
  refine z_aload_n rfl rfl ?_
  refine z_V0i ko5 mv_X5_117 kd_76 (t_X5_tried  _) rfl rfl rfl rfl rfl (fun r1 h1 => ?_)
  refine z_iload_n rfl rfl ?_
  refine z_iload_n rfl rfl ?_
  refine z_iload_n rfl rfl ?_
  refine z_V4i ko5 mv_X5_131 kd_76 (t_X5_tells _ _ _ _ _) rfl rfl rfl rfl rfl (fun r2 h2 => ?_)
  refine z_V1i ko5 mv_X5_125 kd_76 (t_X5_done _ _) rfl rfl rfl rfl rfl (fun r3 h3 => ?_)
  exact z_ireturn rfl rfl
set_option maxRecDepth 20000 in
set_option maxHeartbeats 1000000 in
theorem t_X5_type (x1 : Int) (h : Hp) : Ct M_X5_type [vr 76, vi x1] h (f_X5_type x1 h) := by
  refine Ct.mk ok_X5_type pl_X5_type rfl rfl ?_
  show Z M_X5_type 0 [some (vr 76), some (vi x1)] [] h (f_X5_type x1 h)
  unfold f_X5_type
  refine z_iload_n rfl rfl ?_
  refine z_bipush rfl rfl ?_
  refine z_bipush rfl rfl ?_
  refine z_S3i ms_X5_90 (t_X5_in _ _ _ _) rfl rfl rfl rfl (fun r1 h1 => ?_)
  refine z_if_ne rfl ?_ ?_
  · refine z_aload_n rfl rfl ?_
    refine z_getI rfl fl_X5_171 rfl kd_76 ?_
    refine z_bipush rfl rfl ?_
    refine z_icmp_ne rfl ?_ ?_
    · refine z_aload_n rfl rfl ?_
      refine z_getRn (m := 78) rfl fl_X5_13 rfl kd_76 rfl ?_
      refine z_aload_n rfl rfl ?_
      refine z_getI rfl fl_X5_171 rfl kd_76 ?_
      refine z_iload_n rfl rfl ?_
      refine z_iastoreL kd_78 rfl (fun h2 => ?_)
      refine z_aload_n rfl rfl ?_
      refine z_dup rfl rfl ?_
      refine z_getI rfl fl_X5_171 rfl kd_76 ?_
      refine z_iconst rfl rfl ?_
      refine z_iadd rfl ?_
      refine z_putL fi_X5_171 rfl kd_76 rfl (fun h3 => ?_)
      refine z_aload_n rfl rfl ?_
      refine z_getI rfl fl_X5_171 rfl kd_76 ?_
      exact z_ireturn rfl rfl
    · refine z_ldc rfl cst_X5_98 rfl ?_
      exact z_ireturn rfl rfl
  · refine z_ldc rfl cst_X5_97 rfl ?_
    exact z_ireturn rfl rfl
set_option maxRecDepth 20000 in
set_option maxHeartbeats 1000000 in
theorem t_X5_umbrella (x1 : Int) (x2 : Int) (h : Hp) : Ct M_X5_umbrella [vr 76, vi x1, vi x2] h (f_X5_umbrella x1 x2 h) := by
  refine Ct.mk ok_X5_umbrella pl_X5_umbrella rfl rfl ?_
  show Z M_X5_umbrella 0 [some (vr 76), some (vi x1), some (vi x2)] [] h (f_X5_umbrella x1 x2 h)
  unfold f_X5_umbrella
  refine z_aload_n rfl rfl ?_
  refine z_iload_n rfl rfl ?_
  refine z_V1i ko5 mv_X5_145 kd_76 (t_X5_isUmbrella _ _) rfl rfl rfl rfl rfl (fun r1 h1 => ?_)
  refine z_if_eq rfl ?_ ?_
  · refine z_ldc rfl cst_X5_97 rfl ?_
    exact z_ireturn rfl rfl
  · refine z_iload_n rfl rfl ?_
    refine z_iconst rfl rfl ?_
    refine z_bipush rfl rfl ?_
    refine z_S3i ms_X5_90 (t_X5_in _ _ _ _) rfl rfl rfl rfl (fun r2 h2 => ?_)
    refine z_if_ne rfl ?_ ?_
    · refine z_iload_n rfl rfl ?_
      refine Z.ite (fun e5 => ?_) (fun e5 => ?_)
      · refine z_table (tg := 13) rfl (o := 30) (by rw [e5]; rfl) rfl ?_
        refine z_aload_n rfl rfl ?_
        refine z_iload_n rfl rfl ?_
        refine z_iload_n rfl rfl ?_
        refine z_iconst rfl rfl ?_
        refine z_icmp_ne rfl ?_ ?_
        · refine z_iconst rfl rfl ?_
          refine z_V2i ko5 mv_X5_149 kd_76 (t_X5_mateOf _ _ _) rfl rfl rfl rfl rfl (fun r3 h3 => ?_)
          exact z_ireturn rfl rfl
        · refine z_iconst rfl rfl ?_
          refine z_goto rfl ?_
          refine z_V2i ko5 mv_X5_149 kd_76 (t_X5_mateOf _ _ _) rfl rfl rfl rfl rfl (fun r4 h4 => ?_)
          exact z_ireturn rfl rfl
      refine Z.ite (fun e8 => ?_) (fun e8 => ?_)
      · refine z_table (tg := 13) rfl (o := 30) (by rw [e8]; rfl) rfl ?_
        refine z_aload_n rfl rfl ?_
        refine z_iload_n rfl rfl ?_
        refine z_iload_n rfl rfl ?_
        refine z_iconst rfl rfl ?_
        refine z_icmp_ne rfl ?_ ?_
        · refine z_iconst rfl rfl ?_
          refine z_V2i ko5 mv_X5_149 kd_76 (t_X5_mateOf _ _ _) rfl rfl rfl rfl rfl (fun r6 h6 => ?_)
          exact z_ireturn rfl rfl
        · refine z_iconst rfl rfl ?_
          refine z_goto rfl ?_
          refine z_V2i ko5 mv_X5_149 kd_76 (t_X5_mateOf _ _ _) rfl rfl rfl rfl rfl (fun r7 h7 => ?_)
          exact z_ireturn rfl rfl
      refine Z.ite (fun e10 => ?_) (fun e10 => ?_)
      · refine z_table (tg := 23) rfl (o := 46) (by rw [e10]; rfl) rfl ?_
        refine z_aload_n rfl rfl ?_
        refine z_iload_n rfl rfl ?_
        refine z_iconst rfl rfl ?_
        refine z_V2i ko5 mv_X5_153 kd_76 (t_X5_suiting _ _ _) rfl rfl rfl rfl rfl (fun r9 h9 => ?_)
        exact z_ireturn rfl rfl
      refine Z.ite (fun e12 => ?_) (fun e12 => ?_)
      · refine z_table (tg := 28) rfl (o := 53) (by rw [e12]; rfl) rfl ?_
        refine z_aload_n rfl rfl ?_
        refine z_iload_n rfl rfl ?_
        refine z_V1i ko5 mv_X5_156 kd_76 (t_X5_oddness _ _) rfl rfl rfl rfl rfl (fun r11 h11 => ?_)
        exact z_ireturn rfl rfl
      refine z_table (tg := 32) rfl (o := 59) (if_pos (by omega)) rfl ?_
      refine z_aload_n rfl rfl ?_
      refine z_getRn (m := 77) rfl fl_X5_7 rfl kd_76 rfl ?_
      refine z_iconst rfl rfl ?_
      refine z_iload_n rfl rfl ?_
      refine z_S2i ms_X5_39 (t_X5_umbrellaAt _ _ _) rfl rfl rfl rfl (fun r13 h13 => ?_)
      refine z_iload_n rfl rfl ?_
      refine z_iadd rfl ?_
      refine z_iaload rfl kd_77 ?_
      exact z_ireturn rfl rfl
    · refine z_ldc rfl cst_X5_97 rfl ?_
      exact z_ireturn rfl rfl
set_option maxRecDepth 20000 in
set_option maxHeartbeats 1000000 in
theorem t_X5_undo  (h : Hp) : Ct M_X5_undo [vr 76] h (f_X5_undo  h) := by
  refine Ct.mk ok_X5_undo pl_X5_undo rfl rfl ?_
  show Z M_X5_undo 0 [some (vr 76)] [] h (f_X5_undo  h)
  unfold f_X5_undo
  refine z_aload_n rfl rfl ?_
  refine z_getI rfl fl_X5_31 rfl kd_76 ?_
  refine z_if_ne rfl ?_ ?_
  · refine z_aload_n rfl rfl ?_
    refine z_aload_n rfl rfl ?_
    refine z_getI rfl fl_X5_31 rfl kd_76 ?_
    refine z_iconst rfl rfl ?_
    refine z_V2v ko5 mv_X5_35 kd_76 (t_X5_copies _ _ _) rfl rfl rfl rfl rfl (fun _ h1 => ?_)
    refine z_aload_n rfl rfl ?_
    refine z_dup rfl rfl ?_
    refine z_getI rfl fl_X5_31 rfl kd_76 ?_
    refine z_iconst rfl rfl ?_
    refine z_isub rfl ?_
    refine z_putL fi_X5_31 rfl kd_76 rfl (fun h2 => ?_)
    refine z_aload_n rfl rfl ?_
    refine z_getI rfl fl_X5_31 rfl kd_76 ?_
    exact z_ireturn rfl rfl
  · refine z_ldc rfl cst_X5_103 rfl ?_
    exact z_ireturn rfl rfl
set_option maxRecDepth 20000 in
set_option maxHeartbeats 1000000 in
theorem t_X5_weeks (x1 : Int) (h : Hp) : Ct M_X5_weeks [vr 76, vi x1] h (f_X5_weeks x1 h) := by
  refine Ct.mk ok_X5_weeks pl_X5_weeks rfl rfl ?_
  show Z M_X5_weeks 0 [some (vr 76), some (vi x1)] [] h (f_X5_weeks x1 h)
  unfold f_X5_weeks
  refine z_aload_n rfl rfl ?_
  refine z_aload_n rfl rfl ?_
  refine z_aload_n rfl rfl ?_
  refine z_V0i ko5 mv_X5_117 kd_76 (t_X5_tried  _) rfl rfl rfl rfl rfl (fun r1 h1 => ?_)
  refine z_iload_n rfl rfl ?_
  refine z_V2i ko5 mv_X5_135 kd_76 (t_X5_weeksIn _ _ _) rfl rfl rfl rfl rfl (fun r2 h2 => ?_)
  refine z_V1i ko5 mv_X5_125 kd_76 (t_X5_done _ _) rfl rfl rfl rfl rfl (fun r3 h3 => ?_)
  exact z_ireturn rfl rfl
set_option maxRecDepth 20000 in
set_option maxHeartbeats 1000000 in
theorem t_X5_why_J80  (h : Hp) : Z M_X5_why 80 [none, none, none, none, none, none, none] [] h (f_X5_why_J80  h) := by
  unfold f_X5_why_J80
  refine z_iconst rfl rfl ?_
  refine z_goto rfl ?_
  refine z_istore rfl rfl ?_
  refine z_iload rfl rfl ?_
  refine z_if_eq rfl ?_ ?_
  · refine z_iconst rfl rfl ?_
    exact z_ireturn rfl rfl
  · refine z_iconst rfl rfl ?_
    refine z_goto rfl ?_
    exact z_ireturn rfl rfl
set_option maxRecDepth 20000 in
set_option maxHeartbeats 1000000 in
theorem t_X5_why (x1 : Int) (x2 : Int) (h : Hp) : Ct M_X5_why [vr 76, vi x1, vi x2] h (f_X5_why x1 x2 h) := by
  refine Ct.mk ok_X5_why pl_X5_why rfl rfl ?_
  show Z M_X5_why 0 [some (vr 76), some (vi x1), some (vi x2), none, none, none, none] [] h (f_X5_why x1 x2 h)
  unfold f_X5_why
  refine z_aload_n rfl rfl ?_
  refine z_iload_n rfl rfl ?_
  refine z_V1i ko5 mv_X5_145 kd_76 (t_X5_isUmbrella _ _) rfl rfl rfl rfl rfl (fun r1 h1 => ?_)
  refine z_if_eq rfl ?_ ?_
  · refine z_ldc rfl cst_X5_97 rfl ?_
    exact z_ireturn rfl rfl
  · refine z_aload_n rfl rfl ?_
    refine z_iconst rfl rfl ?_
    refine z_iload_n rfl rfl ?_
    refine z_V2i ko5 mv_X5_104 kd_76 (t_X5_isClaim _ _ _) rfl rfl rfl rfl rfl (fun r2 h2 => ?_)
    refine z_if_ne rfl ?_ ?_
    · refine z_aload_n rfl rfl ?_
      refine z_iconst rfl rfl ?_
      refine z_V1i ko5 mv_X5_87 kd_76 (t_X5_matches _ _) rfl rfl rfl rfl rfl (fun r3 h3 => ?_)
      refine z_istore_n rfl rfl ?_
      refine z_aload_n rfl rfl ?_
      refine z_getRn (m := 79) rfl fl_X5_16 rfl kd_76 rfl ?_
      refine z_iload_n rfl rfl ?_
      refine z_iaload rfl kd_79 ?_
      refine z_iload_n rfl rfl ?_
      refine z_icmp_ne rfl ?_ ?_
      · refine z_aload_n rfl rfl ?_
        refine z_iconst rfl rfl ?_
        refine z_iload_n rfl rfl ?_
        refine z_iload_n rfl rfl ?_
        refine z_V3i ko5 mv_X5_46 kd_76 (t_X5_misses _ _ _ _) rfl rfl rfl rfl rfl (fun r4 h4 => ?_)
        refine z_aload_n rfl rfl ?_
        refine z_getRn (m := 77) rfl fl_X5_7 rfl kd_76 rfl ?_
        refine z_iconst rfl rfl ?_
        refine z_iaload rfl kd_77 ?_
        refine z_icmp_le rfl ?_ ?_
        · refine z_aload_n rfl rfl ?_
          refine z_iconst rfl rfl ?_
          refine z_iload_n rfl rfl ?_
          refine z_iload_n rfl rfl ?_
          refine z_V3i ko5 mv_X5_53 kd_76 (t_X5_pointsOf _ _ _ _) rfl rfl rfl rfl rfl (fun r5 h5 => ?_)
          refine z_istore rfl rfl ?_
          refine z_iload rfl rfl ?_
          refine z_aload_n rfl rfl ?_
          refine z_getRn (m := 77) rfl fl_X5_7 rfl kd_76 rfl ?_
          refine z_iconst rfl rfl ?_
          refine z_iaload rfl kd_77 ?_
          refine z_icmp_ge rfl ?_ ?_
          · refine z_aload_n rfl rfl ?_
            refine z_getRn (m := 79) rfl fl_X5_16 rfl kd_76 rfl ?_
            refine z_iload_n rfl rfl ?_
            refine z_iaload rfl kd_79 ?_
            refine z_istoreL rfl rfl (fun y6 => ?_)
            refine z_iload rfl rfl ?_
            refine z_iconst rfl rfl ?_
            refine z_icmp_eq rfl ?_ ?_
            · refine z_iconst rfl rfl ?_
              refine z_istore rfl rfl ?_
              refine z_iload rfl rfl ?_
              refine z_if_eq rfl ?_ ?_
              · refine z_iconst rfl rfl ?_
                exact z_ireturn rfl rfl
              · refine z_iconst rfl rfl ?_
                refine z_goto rfl ?_
                exact z_ireturn rfl rfl
            · refine z_aload_n rfl rfl ?_
              refine z_getRn (m := 81) rfl fl_X5_22 rfl kd_76 rfl ?_
              refine z_bipush rfl rfl ?_
              refine z_iload_n rfl rfl ?_
              refine z_imul rfl ?_
              refine z_iload rfl rfl ?_
              refine z_iadd rfl ?_
              refine z_iaload rfl kd_81 ?_
              refine z_iload rfl rfl ?_
              refine z_icmp_gt rfl ?_ ?_
              · refine Z.weak ?_ (t_X5_why_J80   _)
                exact wkL_n (wkL_n (wkL_n (wkL_n (wkL_n (wkL_n (wkL_n (wkL_nil _)))))))
              · refine z_aload_n rfl rfl ?_
                refine z_getRn (m := 81) rfl fl_X5_22 rfl kd_76 rfl ?_
                refine z_bipush rfl rfl ?_
                refine z_iload_n rfl rfl ?_
                refine z_imul rfl ?_
                refine z_iload rfl rfl ?_
                refine z_iadd rfl ?_
                refine z_iaload rfl kd_81 ?_
                refine z_iload rfl rfl ?_
                refine z_icmp_ne rfl ?_ ?_
                · refine z_iconst rfl rfl ?_
                  refine z_istore rfl rfl ?_
                  refine z_iload rfl rfl ?_
                  refine z_if_eq rfl ?_ ?_
                  · refine z_iconst rfl rfl ?_
                    exact z_ireturn rfl rfl
                  · refine z_iconst rfl rfl ?_
                    refine z_goto rfl ?_
                    exact z_ireturn rfl rfl
                · refine z_iload rfl rfl ?_
                  refine z_iload_n rfl rfl ?_
                  refine z_icmp_ge rfl ?_ ?_
                  · refine z_iconst rfl rfl ?_
                    refine z_istore rfl rfl ?_
                    refine z_iload rfl rfl ?_
                    refine z_if_eq rfl ?_ ?_
                    · refine z_iconst rfl rfl ?_
                      exact z_ireturn rfl rfl
                    · refine z_iconst rfl rfl ?_
                      refine z_goto rfl ?_
                      exact z_ireturn rfl rfl
                  · refine Z.weak ?_ (t_X5_why_J80   _)
                    exact wkL_n (wkL_n (wkL_n (wkL_n (wkL_n (wkL_n (wkL_n (wkL_nil _)))))))
          · refine z_iconst rfl rfl ?_
            exact z_ireturn rfl rfl
        · refine z_iconst rfl rfl ?_
          exact z_ireturn rfl rfl
      · refine z_iconst rfl rfl ?_
        exact z_ireturn rfl rfl
    · refine z_ldc rfl cst_X5_97 rfl ?_
      exact z_ireturn rfl rfl
end
section
/-! the pure part: rows of umbrellas, claims and entries -/
section Pure1
theorem wr_id {z : Int} (h1 : -2147483648 ≤ z) (h2 : z < 2147483648) : wr z = z := wr_e ⟨h1, h2⟩
theorem if_t {α : Type} {c : Prop} [d : Decidable c] {a b : α} (h : c) : (if c then a else b) = a := if_pos h
theorem if_f {α : Type} {c : Prop} [d : Decidable c] {a b : α} (h : ¬ c) : (if c then a else b) = b := if_neg h
theorem hup_same {h : Hp} {i k : Nat} {x : Int} : hup h i k x i k = x := by simp [hup]
theorem hup_far {h : Hp} {i k a b : Nat} {x : Int} (q : ¬ (a = i ∧ b = k)) : hup h i k x a b = h a b := by simp [hup, q]
theorem hup_eq {h : Hp} {i k a b : Nat} {x : Int} (q : a = i ∧ b = k) : hup h i k x a b = x := by simp [hup, q]
theorem p_cell {r : Nat} {row col : Int} {h : Hp} (hs : h r 1 ≤ 12) : f_X2_cell r row col h = some (if 0 ≤ row ∧ row < h r 1 ∧ 0 ≤ col ∧ col < 6 then h (r + 1) (row * 6 + col).toNat else 0, h) := by
  unfold f_X2_cell
  by_cases c1 : row < 0
  · simp (disch := omega) only [if_pos, if_neg]
  by_cases c2 : h r 1 ≤ row
  · simp (disch := omega) only [if_pos, if_neg]
  by_cases c3 : col < 0
  · simp (disch := omega) only [if_pos, if_neg]
  by_cases c4 : col < 6
  · simp (disch := omega) only [lv, inb, if_pos, if_neg, wr_id]
  · simp (disch := omega) only [if_pos, if_neg]
theorem p_cell_at {r : Nat} {i c : Nat} {h : Hp} (hs : h r 1 ≤ 12) (hi : (i : Int) < h r 1) (hc : c < 6) : f_X2_cell r i c h = some (h (r + 1) (6 * i + c), h) := by
  rw [p_cell hs, if_pos (by omega)]
  congr 4
  omega
theorem p_has {r : Nat} {row : Int} {h : Hp} : f_X2_has r row h = some (if 0 ≤ row ∧ row < h r 1 then 1 else 0, h) := by
  unfold f_X2_has
  by_cases c1 : row < 0
  · simp (disch := omega) only [if_pos, if_neg]
  by_cases c2 : h r 1 ≤ row
  · simp (disch := omega) only [if_pos, if_neg]
  · simp (disch := omega) only [if_pos, if_neg]
/-- the head of a row of cells moved on by six from a place on -/
def hshift (h : Hp) (a lo hi d : Nat) : Hp := fun x k => if x = a ∧ lo ≤ k ∧ k < hi then h a (k + d) else h x k
theorem p_remove_L {r : Nat} : ∀ (m n : Nat) (h0 h : Hp) (p : Int) (lo : Nat), m < n → (lo : Int) ≤ p → p + m = 66 → (h = hshift h0 (r + 1) lo p.toNat 6) → f_X2_remove_L11 r n p h = some (0, hup (hshift h0 (r + 1) lo 66 6) r 1 (wr (h0 r 1 - 1))) := by
  intro m
  induction m with
  | zero =>
    intro n h0 h p lo hn hlo hp hh
    obtain ⟨n, rfl⟩ : ∃ n', n = n' + 1 := ⟨n - 1, by omega⟩
    rw [f_X2_remove_L11_s]
    have : p = 66 := by omega
    subst this
    simp (disch := omega) only [lt, if_pos, wr_id]
    rw [hh]
    simp (disch := omega) only [hshift, if_neg]
    rfl
  | succ m ih =>
    intro n h0 h p lo hn hlo hp hh
    obtain ⟨n, rfl⟩ : ∃ n', n = n' + 1 := ⟨n - 1, by omega⟩
    rw [f_X2_remove_L11_s]
    simp (disch := omega) only [lt, inb, if_pos, if_neg, wr_id]
    refine ih n h0 _ (p + 1) lo (by omega) (by omega) (by omega) ?_
    funext x k
    rw [hh]
    unfold hup hshift
    by_cases c1 : x = r + 1
    · subst c1
      have e1 : (p + 6).toNat = p.toNat + 6 := by omega
      by_cases c2 : k = p.toNat
      · subst c2
        rw [if_pos ⟨rfl, rfl⟩, if_neg (by omega), if_pos ⟨rfl, by omega, by omega⟩, e1]
      · rw [if_neg (by omega)]
        by_cases c3 : lo ≤ k ∧ k < p.toNat
        · rw [if_pos ⟨rfl, c3⟩, if_pos ⟨rfl, by omega, by omega⟩]
        · rw [if_neg (by omega), if_neg (by omega)]
    · rw [if_neg (by omega), if_neg (by omega), if_neg (by omega)]
/-- a row goes -/
def hrem (h : Hp) (r i : Nat) : Hp := hup (hshift h (r + 1) (6 * i) 66 6) r 1 (h r 1 - 1)
theorem p_remove {r : Nat} {row : Int} {h : Hp} (hs : h r 1 ≤ 12) (h0 : 0 ≤ row) (h1 : row < h r 1) : f_X2_remove r row h = some (0, hrem h r row.toNat) := by
  unfold f_X2_remove
  simp (disch := omega) only [lv, if_pos, if_neg, wr_id]
  unfold hrem
  rw [← wr_id (z := h r 1 - 1) (by omega) (by omega)]
  refine p_remove_L (66 - 6 * row.toNat) fu h h (row * 6) (6 * row.toNat) (by have := fu_gt; omega) (by omega) (by omega) ?_
  funext x k
  unfold hshift
  rw [if_neg (by omega)]
theorem p_setting {o : Nat} {k : Int} {h : Hp} (h0 : 0 ≤ k) (h1 : k < 7) : f_X1_setting o k h = some (h (o + 7) k.toNat, h) := by
  unfold f_X1_setting
  simp (disch := omega) only [inb, if_pos, if_neg]
theorem p_sum {o : Nat} {k : Int} {h : Hp} (h0 : 0 ≤ k) (h1 : k < 12) : f_X1_sum o k h = some (h (o + 8) k.toNat, h) := by
  unfold f_X1_sum
  simp (disch := omega) only [inb, if_pos, if_neg]
theorem p_addTo {o : Nat} {k x : Int} {h : Hp} (h0 : 0 ≤ k) (h1 : k < 12) : f_X1_addTo o k x h = some (0, hup h (o + 8) k.toNat (wr (h (o + 8) k.toNat + x))) := by
  unfold f_X1_addTo
  simp (disch := omega) only [inb, lt, if_pos, if_neg]
theorem p_put {r : Nat} {row col x : Int} {h : Hp} (hs : h r 1 ≤ 12) (h0 : 0 ≤ row) (h1 : row < h r 1) (h2 : 0 ≤ col) (h3 : col < 6) : f_X2_put r row col x h = some (0, hup h (r + 1) (row * 6 + col).toNat x) := by
  unfold f_X2_put
  simp (disch := omega) only [lv, inb, if_pos, if_neg, wr_id]
  rfl
theorem p_append {r : Nat} {a b c d : Int} {h : Hp} (h0 : 0 ≤ h r 1) (h1 : h r 1 < 12) : f_X2_append r a b c d h = some (h r 1, hup (hup (hup (hup (hup (hup (hup h (r + 1) (h r 1 * 6).toNat a) (r + 1) (h r 1 * 6 + 1).toNat b) (r + 1) (h r 1 * 6 + 2).toNat c) (r + 1) (h r 1 * 6 + 3).toNat d) (r + 1) (h r 1 * 6 + 4).toNat 0) (r + 1) (h r 1 * 6 + 5).toNat 0) r 1 (h r 1 + 1)) := by
  unfold f_X2_append
  have e1 : ∀ (k : Nat) (x : Int) (g : Hp), hup g (r + 1) k x r 1 = g r 1 := fun k x g => hup_far (by omega)
  have e2 : h r 1 + 1 - 1 = h r 1 := by omega
  simp (disch := omega) only [lv, lt, inb, if_pos, if_neg, wr_id, e1, hup_same, e2]
end Pure1
end
section
/-! the pure part: a state as a row of 190 numbers (the model's order); what each step makes of it; the model's steps do so -/
section Rows1
abbrev Rw : Type := Nat → Int
def gup (g : Rw) (i : Nat) (x : Int) : Rw := fun k => if k = i then x else g k
def hrow (h : Hp) (a : Nat) (g : Rw) : Hp := fun x k => if x = a then g k else h x k
/-- a piece of a row moved on -/
def gsh (g : Rw) (lo hi d : Nat) : Rw := fun k => if lo ≤ k ∧ k < hi then g (k + d) else g k
/-- the state at a base, and a row with another state there -/
def gsl (g : Rw) (b : Nat) : Rw := fun k => g (b + k)
def gat (g : Rw) (b : Nat) (s : Rw) : Rw := fun k => if b ≤ k ∧ k < b + 190 then s (k - b) else g k
theorem hup_row (h : Hp) (a i : Nat) (x : Int) : hup h a i x = hrow h a (gup (h a) i x) := by
  funext y k
  unfold hup hrow gup
  by_cases c : y = a
  · subst c
    by_cases c2 : k = i
    · subst c2; simp
    · simp [c2]
  · simp [c]
theorem hrow_hrow (h : Hp) (a : Nat) (g g' : Rw) : hrow (hrow h a g) a g' = hrow h a g' := by
  funext y k
  unfold hrow
  by_cases c : y = a <;> simp [c]
theorem hrow_get (h : Hp) (a : Nat) (g : Rw) : hrow h a g a = g := by
  funext k
  simp [hrow]
theorem hrow_far {h : Hp} {a b : Nat} {g : Rw} (q : ¬ b = a) : hrow h a g b = h b := by
  funext k
  simp [hrow, q]
theorem hrow_self (h : Hp) (a : Nat) : hrow h a (h a) = h := by
  funext y k
  unfold hrow
  by_cases c : y = a <;> simp [c]
theorem gup_same (g : Rw) (i : Nat) (x : Int) : gup g i x i = x := by simp [gup]
theorem gup_eq {g : Rw} {i j : Nat} {x : Int} (q : j = i) : gup g i x j = x := by simp [gup, q]
theorem gup_far {g : Rw} {i j : Nat} {x : Int} (q : ¬ j = i) : gup g i x j = g j := by simp [gup, q]
theorem p_in {x lo hi : Int} {h : Hp} : f_X5_in x lo hi h = some (if lo ≤ x ∧ x ≤ hi then 1 else 0, h) := by
  unfold f_X5_in
  by_cases c1 : x < lo
  · simp (disch := omega) only [if_pos, if_neg]
  by_cases c2 : hi < x
  · simp (disch := omega) only [if_pos, if_neg]
  · simp (disch := omega) only [if_pos, if_neg]
theorem p_uAt {b u : Int} {h : Hp} (h0 : 0 ≤ b) (h1 : b ≤ 1140) (h2 : -20 ≤ u) (h3 : u ≤ 20) : f_X5_umbrellaAt b u h = some (b + 18 + 5 * u, h) := by
  unfold f_X5_umbrellaAt
  simp (disch := omega) only [wr_id]
theorem p_cAt {b u : Int} {h : Hp} (h0 : 0 ≤ b) (h1 : b ≤ 1140) (h2 : -20 ≤ u) (h3 : u ≤ 20) : f_X5_claimAt b u h = some (b + 78 + 6 * u, h) := by
  unfold f_X5_claimAt
  simp (disch := omega) only [wr_id]
/-- copies -/
theorem p_copies_L {f t : Int} (hf : 0 ≤ f ∧ f ≤ 6) (ht : 0 ≤ t ∧ t ≤ 6) (hne : f ≠ t) : ∀ (m n : Nat) (h0 h : Hp) (p : Int), m < n → 0 ≤ p → p + m = 190 → h = hrow h0 77 (gat (h0 77) (190 * t).toNat (fun k => if (k : Int) < p then h0 77 ((190 * f).toNat + k) else h0 77 ((190 * t).toNat + k))) →
    f_X5_copies_L2 f t n p h = some (0, hrow h0 77 (gat (h0 77) (190 * t).toNat (gsl (h0 77) (190 * f).toNat))) := by
  intro m
  induction m with
  | zero =>
    intro n h0 h p hn hp0 hp hh
    obtain ⟨n, rfl⟩ : ∃ n', n = n' + 1 := ⟨n - 1, by omega⟩
    rw [f_X5_copies_L2_s]
    simp (disch := omega) only [if_pos]
    rw [hh]
    congr 3
    funext k
    unfold gat gsl
    try dsimp only
    repeat' split
    all_goals first | rfl | omega | (congr 1; omega)
  | succ m ih =>
    intro n h0 h p hn hp0 hp hh
    obtain ⟨n, rfl⟩ : ∃ n', n = n' + 1 := ⟨n - 1, by omega⟩
    rw [f_X5_copies_L2_s]
    simp (disch := omega) only [lt, inb, if_pos, if_neg, wr_id, hup_row]
    refine ih n h0 _ (p + 1) (by omega) (by omega) (by omega) ?_
    rw [hh, hrow_hrow, hrow_get]
    congr 1
    funext k
    unfold gup gat
    try dsimp only
    repeat' split
    all_goals first | rfl | omega | (congr 1; omega)
theorem p_copies {f t : Int} {h : Hp} (hf : 0 ≤ f ∧ f ≤ 6) (ht : 0 ≤ t ∧ t ≤ 6) (hne : f ≠ t) : f_X5_copies f t h = some (0, hrow h 77 (gat (h 77) (190 * t).toNat (gsl (h 77) (190 * f).toNat))) := by
  unfold f_X5_copies
  refine p_copies_L hf ht hne 190 fu h h 0 (by have := fu_gt; omega) (by omega) (by omega) ?_
  rw [show gat (h 77) (190 * t).toNat (fun k => if (k : Int) < 0 then h 77 ((190 * f).toNat + k) else h 77 ((190 * t).toNat + k)) = h 77 from ?_, hrow_self]
  funext k
  unfold gat
  try dsimp only
  repeat' split
  all_goals first | rfl | omega | (congr 1; omega)
/-- an umbrella, a claim goes -/
def ugo (g : Rw) (u : Nat) : Rw := fun k => if k = 15 then g 15 - 1 else if 18 + 5 * u ≤ k ∧ k < 18 + 5 * (g 15 - 1).toNat then g (k + 5) else g k
def cgo (g : Rw) (c : Nat) : Rw := fun k => if k = 16 then g 16 - 1 else if 78 + 6 * c ≤ k ∧ k < 78 + 6 * (g 16 - 1).toNat then g (k + 6) else g k
theorem p_ugo_L {b : Int} (hb : 0 ≤ b ∧ b ≤ 1140) : ∀ (m n : Nat) (h0 h : Hp) (p : Int) (lo : Nat), m < n → b + 18 ≤ p → 0 ≤ h0 77 (b + 15).toNat ∧ h0 77 (b + 15).toNat ≤ 11 → p + m = b + 18 + 5 * h0 77 (b + 15).toNat → lo ≤ p.toNat → b.toNat + 18 ≤ lo → h = hrow h0 77 (gsh (h0 77) lo p.toNat 5) →
    f_X5_umbrellaGoes_L14 b n p h = some (0, hrow h0 77 (gsh (h0 77) lo (b + 18 + 5 * h0 77 (b + 15).toNat).toNat 5)) := by
  intro m
  induction m with
  | zero =>
    intro n h0 h p lo hn hp0 hN hp hlo hlo2 hh
    obtain ⟨n, rfl⟩ : ∃ n', n = n' + 1 := ⟨n - 1, by omega⟩
    have e1 : h 77 (b + 15).toNat = h0 77 (b + 15).toNat := by
      rw [hh, hrow_get]
      unfold gsh
      rw [if_neg (by omega)]
    rw [f_X5_umbrellaGoes_L14_s]
    simp (disch := omega) only [inb, if_pos, wr_id, e1, p_uAt, bd_s]
    rw [hh, show p.toNat = (b + 18 + 5 * h0 77 (b + 15).toNat).toNat by omega]
  | succ m ih =>
    intro n h0 h p lo hn hp0 hN hp hlo hlo2 hh
    obtain ⟨n, rfl⟩ : ∃ n', n = n' + 1 := ⟨n - 1, by omega⟩
    have e1 : h 77 (b + 15).toNat = h0 77 (b + 15).toNat := by
      rw [hh, hrow_get]
      unfold gsh
      rw [if_neg (by omega)]
    rw [f_X5_umbrellaGoes_L14_s]
    simp (disch := omega) only [lt, inb, if_pos, if_neg, wr_id, e1, p_uAt, bd_s, hup_row]
    refine ih n h0 _ (p + 1) lo (by omega) (by omega) hN (by omega) (by omega) hlo2 ?_
    rw [hh, hrow_hrow, hrow_get]
    congr 1
    funext k
    unfold gup gsh
    try dsimp only
    repeat' split
    all_goals first | rfl | omega | (congr 1; omega)
theorem p_ugo {b u : Int} {h : Hp} (hb : 0 ≤ b ∧ b ≤ 1140) (h0 : 0 ≤ u) (h1 : u < h 77 (b + 15).toNat) (h2 : h 77 (b + 15).toNat ≤ 12) : f_X5_umbrellaGoes b u h = some (0, hrow h 77 (gat (h 77) b.toNat (ugo (gsl (h 77) b.toNat) u.toNat))) := by
  unfold f_X5_umbrellaGoes
  simp (disch := omega) only [lt, inb, if_pos, wr_id, bd_s, p_uAt]
  rw [hup_row]
  have e1 : (hrow h 77 (gup (h 77) (b + 15).toNat (h 77 (b + 15).toNat - 1))) 77 (b + 15).toNat = h 77 (b + 15).toNat - 1 := by rw [hrow_get, gup_same]
  rw [p_ugo_L hb (5 * (h 77 (b + 15).toNat - 1 - u)).toNat fu (hrow h 77 (gup (h 77) (b + 15).toNat (h 77 (b + 15).toNat - 1))) _ (b + 18 + 5 * u) (b + 18 + 5 * u).toNat (by have := fu_gt; omega) (by omega) (by rw [e1]; omega) (by rw [e1]; omega) (by omega) (by omega) ?_]
  · rw [e1, hrow_get, hrow_hrow]
    congr 3
    funext k
    have e2 : b.toNat + 15 = (b + 15).toNat := by omega
    unfold gsh gup gat ugo gsl
    try dsimp only
    rw [e2]
    repeat' split
    all_goals first | rfl | omega | (congr 1; omega)
  · rw [hrow_get, hrow_hrow]
    congr 1
    funext k
    unfold gsh
    rw [if_neg (by omega)]
theorem p_cgo_L {b : Int} (hb : 0 ≤ b ∧ b ≤ 1140) : ∀ (m n : Nat) (h0 h : Hp) (p : Int) (lo : Nat), m < n → b + 78 ≤ p → 0 ≤ h0 77 (b + 16).toNat ∧ h0 77 (b + 16).toNat ≤ 11 → p + m = b + 78 + 6 * h0 77 (b + 16).toNat → lo ≤ p.toNat → b.toNat + 78 ≤ lo → h = hrow h0 77 (gsh (h0 77) lo p.toNat 6) →
    f_X5_claimGoes_L14 b n p h = some (0, hrow h0 77 (gsh (h0 77) lo (b + 78 + 6 * h0 77 (b + 16).toNat).toNat 6)) := by
  intro m
  induction m with
  | zero =>
    intro n h0 h p lo hn hp0 hN hp hlo hlo2 hh
    obtain ⟨n, rfl⟩ : ∃ n', n = n' + 1 := ⟨n - 1, by omega⟩
    have e1 : h 77 (b + 16).toNat = h0 77 (b + 16).toNat := by
      rw [hh, hrow_get]
      unfold gsh
      rw [if_neg (by omega)]
    rw [f_X5_claimGoes_L14_s]
    simp (disch := omega) only [inb, if_pos, wr_id, e1, p_cAt, bd_s]
    rw [hh, show p.toNat = (b + 78 + 6 * h0 77 (b + 16).toNat).toNat by omega]
  | succ m ih =>
    intro n h0 h p lo hn hp0 hN hp hlo hlo2 hh
    obtain ⟨n, rfl⟩ : ∃ n', n = n' + 1 := ⟨n - 1, by omega⟩
    have e1 : h 77 (b + 16).toNat = h0 77 (b + 16).toNat := by
      rw [hh, hrow_get]
      unfold gsh
      rw [if_neg (by omega)]
    rw [f_X5_claimGoes_L14_s]
    simp (disch := omega) only [lt, inb, if_pos, if_neg, wr_id, e1, p_cAt, bd_s, hup_row]
    refine ih n h0 _ (p + 1) lo (by omega) (by omega) hN (by omega) (by omega) hlo2 ?_
    rw [hh, hrow_hrow, hrow_get]
    congr 1
    funext k
    unfold gup gsh
    try dsimp only
    repeat' split
    all_goals first | rfl | omega | (congr 1; omega)
theorem p_cgo {b u : Int} {h : Hp} (hb : 0 ≤ b ∧ b ≤ 1140) (h0 : 0 ≤ u) (h1 : u < h 77 (b + 16).toNat) (h2 : h 77 (b + 16).toNat ≤ 12) : f_X5_claimGoes b u h = some (0, hrow h 77 (gat (h 77) b.toNat (cgo (gsl (h 77) b.toNat) u.toNat))) := by
  unfold f_X5_claimGoes
  simp (disch := omega) only [lt, inb, if_pos, wr_id, bd_s, p_cAt]
  rw [hup_row]
  have e1 : (hrow h 77 (gup (h 77) (b + 16).toNat (h 77 (b + 16).toNat - 1))) 77 (b + 16).toNat = h 77 (b + 16).toNat - 1 := by rw [hrow_get, gup_same]
  rw [p_cgo_L hb (6 * (h 77 (b + 16).toNat - 1 - u)).toNat fu (hrow h 77 (gup (h 77) (b + 16).toNat (h 77 (b + 16).toNat - 1))) _ (b + 78 + 6 * u) (b + 78 + 6 * u).toNat (by have := fu_gt; omega) (by omega) (by rw [e1]; omega) (by rw [e1]; omega) (by omega) (by omega) ?_]
  · rw [e1, hrow_get, hrow_hrow]
    congr 3
    funext k
    have e2 : b.toNat + 16 = (b + 16).toNat := by omega
    unfold gsh gup gat cgo gsl
    try dsimp only
    rw [e2]
    repeat' split
    all_goals first | rfl | omega | (congr 1; omega)
  · rw [hrow_get, hrow_hrow]
    congr 1
    funext k
    unfold gsh
    rw [if_neg (by omega)]
/-- the model with another state at a base -/
def mst (b : Nat) (h : Hp) (s : Rw) : Hp := hrow h 77 (gat (h 77) b s)
theorem gat_gat (g : Rw) (b : Nat) (s s' : Rw) : gat (gat g b s) b s' = gat g b s' := by
  funext k
  unfold gat
  repeat' split
  all_goals first | rfl | omega
theorem mst_mst (b : Nat) (h : Hp) (s s' : Rw) : mst b (mst b h s) s' = mst b h s' := by
  unfold mst
  rw [hrow_hrow, hrow_get, gat_gat]
/-- a row that is the model's behind its 190 places -/
def hiR (h : Hp) (b : Nat) (s : Rw) : Prop := ∀ k, 190 ≤ k → s k = h 77 (b + k)
theorem mst_sl {b : Nat} {h : Hp} {s : Rw} (q : hiR h b s) : gsl (mst b h s 77) b = s := by
  funext k
  unfold mst gsl
  rw [hrow_get]
  unfold gat
  by_cases c : k < 190
  · rw [if_pos (by omega)]
    congr 1
    omega
  · rw [if_neg (by omega), q k (by omega)]
theorem hi_sl (h : Hp) (b : Nat) : hiR h b (gsl (h 77) b) := fun k _ => rfl
theorem hi_mst {h : Hp} {b : Nat} {s s' : Rw} (q : hiR h b s') : hiR (mst b h s) b s' := by
  intro k hk
  rw [q k hk]
  unfold mst
  rw [hrow_get]
  unfold gat
  rw [if_neg (by omega)]
theorem hi_gup {h : Hp} {b i : Nat} {s : Rw} {x : Int} (q : hiR h b s) (hi : i < 190) : hiR h b (gup s i x) := by
  intro k hk
  rw [gup_far (by omega)]
  exact q k hk
theorem mst_self (b : Nat) (h : Hp) : mst b h (gsl (h 77) b) = h := by
  unfold mst
  rw [show gat (h 77) b (gsl (h 77) b) = h 77 from ?_, hrow_self]
  funext k
  unfold gat gsl
  split
  · congr 1; omega
  · rfl
theorem hup_mst {b c x : Int} {h : Hp} (hb : 0 ≤ b) (hc : 0 ≤ c) (hc2 : c < 190) : hup h 77 (b + c).toNat x = mst b.toNat h (gup (gsl (h 77) b.toNat) c.toNat x) := by
  rw [hup_row]
  unfold mst
  congr 1
  funext k
  unfold gup gat gsl
  try dsimp only
  repeat' split
  all_goals first | rfl | omega | (congr 1; omega)
theorem rd_sl {b c : Int} {h : Hp} (hb : 0 ≤ b) (hc : 0 ≤ c) : h 77 (b + c).toNat = gsl (h 77) b.toNat c.toNat := by
  unfold gsl
  congr 1
  omega
theorem p_ugo2 {b u : Int} {h : Hp} (hb : 0 ≤ b ∧ b ≤ 1140) (h0 : 0 ≤ u) (h1 : u < gsl (h 77) b.toNat 15) (h2 : gsl (h 77) b.toNat 15 ≤ 12) : f_X5_umbrellaGoes b u h = some (0, mst b.toNat h (ugo (gsl (h 77) b.toNat) u.toNat)) := by
  have e : h 77 (b + 15).toNat = gsl (h 77) b.toNat 15 := rd_sl (c := 15) hb.1 (by omega)
  exact p_ugo hb h0 (by rw [e]; exact h1) (by rw [e]; exact h2)
theorem p_cgo2 {b u : Int} {h : Hp} (hb : 0 ≤ b ∧ b ≤ 1140) (h0 : 0 ≤ u) (h1 : u < gsl (h 77) b.toNat 16) (h2 : gsl (h 77) b.toNat 16 ≤ 12) : f_X5_claimGoes b u h = some (0, mst b.toNat h (cgo (gsl (h 77) b.toNat) u.toNat)) := by
  have e : h 77 (b + 16).toNat = gsl (h 77) b.toNat 16 := rd_sl (c := 16) hb.1 (by omega)
  exact p_cgo hb h0 (by rw [e]; exact h1) (by rw [e]; exact h2)
theorem hi_ugo {h : Hp} {b u : Nat} {s : Rw} (q : hiR h b s) (hn : s 15 ≤ 12) : hiR h b (ugo s u) := by
  intro k hk
  unfold ugo
  rw [if_neg (by omega), if_neg (by omega)]
  exact q k hk
theorem hi_cgo {h : Hp} {b u : Nat} {s : Rw} (q : hiR h b s) (hn : s 16 ≤ 12) : hiR h b (cgo s u) := by
  intro k hk
  unfold cgo
  rw [if_neg (by omega), if_neg (by omega)]
  exact q k hk
/-- an entry is written, where there is room -/
noncomputable def wr1 (g : Rw) (kind age coins : Int) : Rw := fun k => if k = 13 then wr (g 13 + coins) else if k = 17 then g 17 + 1 else if k = 150 + 4 * (g 17).toNat then g 0 else if k = 150 + 4 * (g 17).toNat + 1 then kind else if k = 150 + 4 * (g 17).toNat + 2 then age else if k = 150 + 4 * (g 17).toNat + 3 then coins else g k
def wsh (g : Rw) : Rw := fun k => if k = 17 then g 17 - 1 else if 150 ≤ k ∧ k < 186 then g (k + 4) else g k
noncomputable def wri (g : Rw) (kind age coins : Int) : Rw := wr1 (if g 17 = 10 then wsh g else g) kind age coins
theorem p_wr1 {b kind age coins : Int} {h : Hp} (hb : 0 ≤ b ∧ b ≤ 1140) (h0 : 0 ≤ h 77 (b + 17).toNat) (h1 : h 77 (b + 17).toNat ≤ 9) : f_X5_writes_J41 b kind age coins h = some (0, mst b.toNat h (wr1 (gsl (h 77) b.toNat) kind age coins)) := by
  unfold f_X5_writes_J41
  have z : b + 0 = b := by omega
  have f1 : ∀ (g : Rw) (i : Nat) (x : Int), ¬ (b + 17).toNat = i → gup g i x (b + 17).toNat = g (b + 17).toNat := fun g i x q => gup_far q
  have f2 : ∀ (g : Rw) (i : Nat) (x : Int), ¬ (b + 13).toNat = i → gup g i x (b + 13).toNat = g (b + 13).toNat := fun g i x q => gup_far q
  simp (disch := omega) only [lt, lv, inb, if_pos, wr_id, hup_row, hrow_hrow, hrow_get, z, f1, f2]
  unfold mst
  congr 3
  have e0 : b.toNat + 0 = b.toNat := by omega
  have e13 : b.toNat + 13 = (b + 13).toNat := by omega
  have e17 : b.toNat + 17 = (b + 17).toNat := by omega
  funext k
  unfold gup gat wr1 gsl
  try dsimp only
  rw [e0, e13, e17]
  by_cases c1 : k = (b + 13).toNat
  · rw [if_pos c1, if_pos (by omega), if_pos (by omega)]
  by_cases c2 : k = (b + 17).toNat
  · rw [if_neg (by omega), if_pos c2, if_pos (by omega), if_neg (by omega), if_pos (by omega)]
  by_cases c3 : k = (b + 150 + 4 * h 77 (b + 17).toNat).toNat
  · simp (disch := omega) only [if_pos, if_neg]
  by_cases c4 : k = (b + 150 + 4 * h 77 (b + 17).toNat + 1).toNat
  · simp (disch := omega) only [if_pos, if_neg]
  by_cases c5 : k = (b + 150 + 4 * h 77 (b + 17).toNat + 2).toNat
  · simp (disch := omega) only [if_pos, if_neg]
  by_cases c6 : k = (b + 150 + 4 * h 77 (b + 17).toNat + 3).toNat
  · simp (disch := omega) only [if_pos, if_neg]
  by_cases c7 : b.toNat ≤ k ∧ k < b.toNat + 190
  · simp (disch := omega) only [if_pos, if_neg]
    congr 1
    omega
  · simp (disch := omega) only [if_pos, if_neg]
end Rows1
end
section
/-! the pure part: the model's weeks -/
section Weeks1
theorem rd_mst {b c : Int} {h : Hp} {s : Rw} (hb : 0 ≤ b) (hc : 0 ≤ c) (q : hiR h b.toNat s) : mst b.toNat h s 77 (b + c).toNat = s c.toNat := by
  rw [rd_sl (h := mst b.toNat h s) hb hc, mst_sl q]
theorem p_wri_L {b kind age coins : Int} {c31 : Hp → Option (Int × Hp)} (hb : 0 ≤ b ∧ b ≤ 1140) : ∀ (m n : Nat) (h0 h : Hp) (p : Int), m < n → b + 150 ≤ p → p + m = b + 186 → h = hrow h0 77 (gsh (h0 77) (b + 150).toNat p.toNat 4) →
    f_X5_writes_L12 b kind age coins c31 n p h = c31 (hrow h0 77 (gsh (h0 77) (b + 150).toNat (b + 186).toNat 4)) := by
  intro m
  induction m with
  | zero =>
    intro n h0 h p hn hp0 hp hh
    obtain ⟨n, rfl⟩ : ∃ n', n = n' + 1 := ⟨n - 1, by omega⟩
    rw [f_X5_writes_L12_s]
    simp (disch := omega) only [if_pos, wr_id]
    rw [hh, show p = b + 186 by omega]
  | succ m ih =>
    intro n h0 h p hn hp0 hp hh
    obtain ⟨n, rfl⟩ : ∃ n', n = n' + 1 := ⟨n - 1, by omega⟩
    rw [f_X5_writes_L12_s]
    simp (disch := omega) only [lt, inb, if_pos, if_neg, wr_id, hup_row]
    refine ih n h0 _ (p + 1) (by omega) (by omega) (by omega) ?_
    rw [hh, hrow_hrow, hrow_get]
    congr 1
    funext k
    unfold gup gsh
    try dsimp only
    repeat' split
    all_goals first | rfl | omega | (congr 1; omega)
theorem hi_wr1 {h : Hp} {b : Nat} {s : Rw} {x y z : Int} (q : hiR h b s) (hn : s 17 ≤ 9) : hiR h b (wr1 s x y z) := by
  intro k hk
  unfold wr1
  simp (disch := omega) only [if_neg]
  exact q k hk
theorem hi_wsh {h : Hp} {b : Nat} {s : Rw} (q : hiR h b s) : hiR h b (wsh s) := by
  intro k hk
  unfold wsh
  simp (disch := omega) only [if_neg]
  exact q k hk
theorem wsh_17 (s : Rw) : wsh s 17 = s 17 - 1 := by simp [wsh]
theorem hi_wri {h : Hp} {b : Nat} {s : Rw} {x y z : Int} (q : hiR h b s) (hn : s 17 ≤ 10) : hiR h b (wri s x y z) := by
  unfold wri
  by_cases c : s 17 = 10
  · rw [if_pos c]
    exact hi_wr1 (hi_wsh q) (by rw [wsh_17]; omega)
  · rw [if_neg c]
    exact hi_wr1 q (by omega)
theorem p_wri {b kind age coins : Int} {h : Hp} (hb : 0 ≤ b ∧ b ≤ 1140) (h0 : 0 ≤ gsl (h 77) b.toNat 17) (h1 : gsl (h 77) b.toNat 17 ≤ 10) : f_X5_writes b kind age coins h = some (0, mst b.toNat h (wri (gsl (h 77) b.toNat) kind age coins)) := by
  have e : h 77 (b + 17).toNat = gsl (h 77) b.toNat 17 := rd_sl (c := 17) hb.1 (by omega)
  unfold f_X5_writes
  by_cases c : gsl (h 77) b.toNat 17 = 10
  · simp (disch := omega) only [inb, if_pos, if_neg, wr_id, lv]
    rw [p_wri_L hb 36 fu h h (b + 150) (by have := fu_gt; omega) (by omega) (by omega) ?_]
    · have e5 : hrow h 77 (gsh (h 77) (b + 150).toNat (b + 186).toNat 4) 77 (b + 17).toNat = 10 := by
        rw [hrow_get]
        unfold gsh
        rw [if_neg (by omega), e, c]
      simp (disch := omega) only [if_pos, lt, e5, wr_id]
      have e6 : hup (hrow h 77 (gsh (h 77) (b + 150).toNat (b + 186).toNat 4)) 77 (b + 17).toNat (10 - 1) = mst b.toNat h (wsh (gsl (h 77) b.toNat)) := by
        rw [hup_row, hrow_hrow, hrow_get]
        unfold mst
        congr 1
        funext k
        have e17 : b.toNat + 17 = (b + 17).toNat := by omega
        unfold gup gsh gat wsh
        unfold gsl at c ⊢
        try dsimp only
        rw [c]
        repeat' split
        all_goals first | rfl | omega | (congr 1; omega)
      rw [e6]
      have e7 : mst b.toNat h (wsh (gsl (h 77) b.toNat)) 77 (b + 17).toNat = 9 := by
        rw [rd_mst hb.1 (by omega) (hi_wsh (hi_sl _ _))]
        show wsh _ 17 = 9
        rw [wsh_17, c]
        rfl
      rw [p_wr1 hb (by rw [e7]; omega) (by rw [e7]; omega), mst_sl (hi_wsh (hi_sl _ _)), mst_mst]
      unfold wri
      rw [if_pos c]
    · rw [show gsh (h 77) (b + 150).toNat (b + 150).toNat 4 = h 77 from ?_, hrow_self]
      funext k
      unfold gsh
      rw [if_neg (by omega)]
  · simp (disch := omega) only [inb, if_pos, if_neg, wr_id]
    rw [p_wr1 hb (by omega) (by omega)]
    unfold wri
    rw [if_neg c]
theorem wri_n (s : Rw) (x y z : Int) (h0 : 0 ≤ s 17) (h1 : s 17 ≤ 10) : 0 ≤ wri s x y z 17 ∧ wri s x y z 17 ≤ 10 := by
  unfold wri
  by_cases c : s 17 = 10
  · rw [if_pos c]
    unfold wr1
    rw [if_neg (by omega), if_pos rfl, wsh_17]
    omega
  · rw [if_neg c]
    unfold wr1
    rw [if_neg (by omega), if_pos rfl]
    omega
theorem wri_lo {s : Rw} {x y z : Int} {k : Nat} (h0 : 0 ≤ s 17) (hk : k < 150) (k1 : k ≠ 13) (k2 : k ≠ 17) : wri s x y z k = s k := by
  unfold wri
  by_cases c : s 17 = 10
  · rw [if_pos c]
    unfold wr1
    simp (disch := omega) only [if_neg]
    unfold wsh
    simp (disch := omega) only [if_neg]
  · rw [if_neg c]
    unfold wr1
    simp (disch := omega) only [if_neg]
/-- the umbrellas that are too old are sold, from one on; so many are looked at -/
noncomputable def sel : Nat → Nat → Rw → Rw
  | 0, _, s => s
  | n + 1, u, s => if s (18 + 5 * u + 4) < s 6 then sel n (u + 1) s else sel n u (ugo (gup (wri s 1 (s (18 + 5 * u + 4)) (s 7)) 11 (wr (s 11 + 1))) u)
theorem sel_step (n u : Nat) (s : Rw) : sel (n + 1) u s = if s (18 + 5 * u + 4) < s 6 then sel n (u + 1) s else sel n u (ugo (gup (wri s 1 (s (18 + 5 * u + 4)) (s 7)) 11 (wr (s 11 + 1))) u) := rfl
theorem p_sells_L {b : Int} (hb : 0 ≤ b ∧ b ≤ 1140) : ∀ (m n : Nat) (h : Hp) (u : Int), m < n → 0 ≤ u → gsl (h 77) b.toNat 15 ≤ 12 → u + m = gsl (h 77) b.toNat 15 → 0 ≤ gsl (h 77) b.toNat 17 → gsl (h 77) b.toNat 17 ≤ 10 →
    f_X5_sells_L2 b n u h = some (0, mst b.toNat h (sel m u.toNat (gsl (h 77) b.toNat))) := by
  intro m
  induction m with
  | zero =>
    intro n h u hn hu hN hum h0 h1
    obtain ⟨n, rfl⟩ : ∃ n', n = n' + 1 := ⟨n - 1, by omega⟩
    have e : h 77 (b + 15).toNat = gsl (h 77) b.toNat 15 := rd_sl (c := 15) hb.1 (by omega)
    rw [f_X5_sells_L2_s]
    simp (disch := omega) only [inb, if_pos, wr_id]
    show _ = some (0, mst b.toNat h (gsl (h 77) b.toNat))
    rw [mst_self]
  | succ m ih =>
    intro n h u hn hu hN hum h0 h1
    obtain ⟨n, rfl⟩ : ∃ n', n = n' + 1 := ⟨n - 1, by omega⟩
    have e15 : h 77 (b + 15).toNat = gsl (h 77) b.toNat 15 := rd_sl (c := 15) hb.1 (by omega)
    have e6 : h 77 (b + 6).toNat = gsl (h 77) b.toNat 6 := rd_sl (c := 6) hb.1 (by omega)
    have e7 : h 77 (b + 7).toNat = gsl (h 77) b.toNat 7 := rd_sl (c := 7) hb.1 (by omega)
    have ea : h 77 (b + 18 + 5 * u + 4).toNat = gsl (h 77) b.toNat (18 + 5 * u.toNat + 4) := by
      unfold gsl
      congr 1
      omega
    rw [f_X5_sells_L2_s, sel_step]
    simp (disch := omega) only [inb, if_pos, if_neg, wr_id, p_uAt, bd_s, lv, e15, e6, e7, ea]
    by_cases c : gsl (h 77) b.toNat (18 + 5 * u.toNat + 4) < gsl (h 77) b.toNat 6
    · rw [if_pos c, if_pos c, show u.toNat + 1 = (u + 1).toNat by omega]
      exact ih n h (u + 1) (by omega) (by omega) hN (by omega) h0 h1
    · rw [if_neg c, if_neg c, p_wri hb h0 h1, bd_s]
      have hw := hi_wri (x := 1) (y := gsl (h 77) b.toNat (18 + 5 * u.toNat + 4)) (z := gsl (h 77) b.toNat 7) (hi_sl h b.toNat) h1
      have e11 : mst b.toNat h (wri (gsl (h 77) b.toNat) 1 (gsl (h 77) b.toNat (18 + 5 * u.toNat + 4)) (gsl (h 77) b.toNat 7)) 77 (b + 11).toNat = gsl (h 77) b.toNat 11 := by
        rw [rd_mst hb.1 (by omega) hw]
        exact wri_lo h0 (by decide) (by decide) (by decide)
      simp (disch := omega) only [lt, e11, hup_mst, Int.reduceToNat]
      rw [mst_sl hw, mst_mst]
      have hg := hi_gup (i := 11) (x := wr (gsl (h 77) b.toNat 11 + 1)) hw (by omega)
      have n15 : gsl (mst b.toNat h (gup (wri (gsl (h 77) b.toNat) 1 (gsl (h 77) b.toNat (18 + 5 * u.toNat + 4)) (gsl (h 77) b.toNat 7)) 11 (wr (gsl (h 77) b.toNat 11 + 1))) 77) b.toNat 15 = gsl (h 77) b.toNat 15 := by
        rw [mst_sl hg, gup_far (by decide)]
        exact wri_lo h0 (by decide) (by decide) (by decide)
      rw [p_ugo2 hb hu (by rw [n15]; omega) (by rw [n15]; omega), bd_s, mst_sl hg, mst_mst]
      have hu2 := hi_ugo (u := u.toNat) hg (by rw [gup_far (by decide), wri_lo h0 (by decide) (by decide) (by decide)]; exact hN)
      have key := ih n (mst b.toNat h (ugo (gup (wri (gsl (h 77) b.toNat) 1 (gsl (h 77) b.toNat (18 + 5 * u.toNat + 4)) (gsl (h 77) b.toNat 7)) 11 (wr (gsl (h 77) b.toNat 11 + 1))) u.toNat)) u (by omega) hu
      rw [mst_sl hu2, mst_mst] at key
      have q15 : ugo (gup (wri (gsl (h 77) b.toNat) 1 (gsl (h 77) b.toNat (18 + 5 * u.toNat + 4)) (gsl (h 77) b.toNat 7)) 11 (wr (gsl (h 77) b.toNat 11 + 1))) u.toNat 15 = gsl (h 77) b.toNat 15 - 1 := by
        unfold ugo
        rw [if_pos rfl, gup_far (by decide), wri_lo h0 (by decide) (by decide) (by decide)]
      have q17 : ugo (gup (wri (gsl (h 77) b.toNat) 1 (gsl (h 77) b.toNat (18 + 5 * u.toNat + 4)) (gsl (h 77) b.toNat 7)) 11 (wr (gsl (h 77) b.toNat 11 + 1))) u.toNat 17 = wri (gsl (h 77) b.toNat) 1 (gsl (h 77) b.toNat (18 + 5 * u.toNat + 4)) (gsl (h 77) b.toNat 7) 17 := by
        unfold ugo
        rw [if_neg (by decide), if_neg (by omega), gup_far (by decide)]
      have w17 := wri_n (gsl (h 77) b.toNat) 1 (gsl (h 77) b.toNat (18 + 5 * u.toNat + 4)) (gsl (h 77) b.toNat 7) h0 h1
      exact key (by rw [q15]; omega) (by rw [q15]; omega) (by rw [q17]; exact w17.1) (by rw [q17]; exact w17.2)
end Weeks1
end
