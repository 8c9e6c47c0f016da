section
-- ===== PART A: goes FIRST, ahead of the names: the tables' words, and 'selects' of the private methods out of them =====
/-- a private method of a class that the tables say can be made, by its rows of tables_1 -/
def lw_okq (q : MethodName × Nat) : Prop := (q.1.cls ≠ "java/lang/invoke/MethodHandle" ∧ q.1.cls ≠ "java/lang/invoke/VarHandle") ∧ Cond.instantiable q.1.cls q.2 ∈ tables_1 ∧ Cond.privateMethod q.1 ∈ tables_1 ∧ Cond.instanceMethod q.1 ∈ tables_1
theorem lw_p0 : lw_okq (⟨"OddUmbrellas", "keepState", "()V"⟩, 10) := ⟨⟨by decide +kernel, by decide +kernel⟩, List.mem_of_getElem? (i := 9) (by decide +kernel), List.mem_of_getElem? (i := 166) (by decide +kernel), List.mem_of_getElem? (i := 167) (by decide +kernel)⟩
theorem lw_p1 : lw_okq (⟨"OddUmbrellas$Office", "addTo", "(II)V"⟩, 5) := ⟨⟨by decide +kernel, by decide +kernel⟩, List.mem_of_getElem? (i := 17) (by decide +kernel), List.mem_of_getElem? (i := 188) (by decide +kernel), List.mem_of_getElem? (i := 189) (by decide +kernel)⟩
theorem lw_p2 : lw_okq (⟨"OddUmbrellas", "recorded", "(I)I"⟩, 10) := ⟨⟨by decide +kernel, by decide +kernel⟩, List.mem_of_getElem? (i := 9) (by decide +kernel), List.mem_of_getElem? (i := 196) (by decide +kernel), List.mem_of_getElem? (i := 197) (by decide +kernel)⟩
theorem lw_p3 : lw_okq (⟨"OddUmbrellas", "forgetOldestState", "()V"⟩, 10) := ⟨⟨by decide +kernel, by decide +kernel⟩, List.mem_of_getElem? (i := 9) (by decide +kernel), List.mem_of_getElem? (i := 200) (by decide +kernel), List.mem_of_getElem? (i := 201) (by decide +kernel)⟩
theorem lw_p4 : lw_okq (⟨"OddUmbrellas$Matching", "noteOddness", "(LOddUmbrellas$Office;)V"⟩, 10) := ⟨⟨by decide +kernel, by decide +kernel⟩, List.mem_of_getElem? (i := 66) (by decide +kernel), List.mem_of_getElem? (i := 236) (by decide +kernel), List.mem_of_getElem? (i := 237) (by decide +kernel)⟩
theorem lw_p5 : lw_okq (⟨"OddUmbrellas$Matching", "weigh", "(IILOddUmbrellas$Office;)V"⟩, 10) := ⟨⟨by decide +kernel, by decide +kernel⟩, List.mem_of_getElem? (i := 66) (by decide +kernel), List.mem_of_getElem? (i := 244) (by decide +kernel), List.mem_of_getElem? (i := 245) (by decide +kernel)⟩
theorem lw_p6 : lw_okq (⟨"OddUmbrellas$Matching", "pairOf", "(II)I"⟩, 10) := ⟨⟨by decide +kernel, by decide +kernel⟩, List.mem_of_getElem? (i := 66) (by decide +kernel), List.mem_of_getElem? (i := 252) (by decide +kernel), List.mem_of_getElem? (i := 253) (by decide +kernel)⟩
theorem lw_p7 : lw_okq (⟨"OddUmbrellas$Matching", "matchNone", "()V"⟩, 10) := ⟨⟨by decide +kernel, by decide +kernel⟩, List.mem_of_getElem? (i := 66) (by decide +kernel), List.mem_of_getElem? (i := 256) (by decide +kernel), List.mem_of_getElem? (i := 257) (by decide +kernel)⟩
theorem lw_p8 : lw_okq (⟨"OddUmbrellas$Matching", "bestFreePair", "()I"⟩, 10) := ⟨⟨by decide +kernel, by decide +kernel⟩, List.mem_of_getElem? (i := 66) (by decide +kernel), List.mem_of_getElem? (i := 260) (by decide +kernel), List.mem_of_getElem? (i := 261) (by decide +kernel)⟩
theorem lw_p9 : lw_okq (⟨"OddUmbrellas$Matching", "suits", "(II)Z"⟩, 10) := ⟨⟨by decide +kernel, by decide +kernel⟩, List.mem_of_getElem? (i := 66) (by decide +kernel), List.mem_of_getElem? (i := 272) (by decide +kernel), List.mem_of_getElem? (i := 273) (by decide +kernel)⟩
theorem lw_p10 : lw_okq (⟨"OddUmbrellas$Matching", "aheadOf", "(II)I"⟩, 10) := ⟨⟨by decide +kernel, by decide +kernel⟩, List.mem_of_getElem? (i := 66) (by decide +kernel), List.mem_of_getElem? (i := 276) (by decide +kernel), List.mem_of_getElem? (i := 277) (by decide +kernel)⟩
theorem lw_p11 : lw_okq (⟨"OddUmbrellas$Matching", "join", "(II)V"⟩, 10) := ⟨⟨by decide +kernel, by decide +kernel⟩, List.mem_of_getElem? (i := 66) (by decide +kernel), List.mem_of_getElem? (i := 280) (by decide +kernel), List.mem_of_getElem? (i := 281) (by decide +kernel)⟩
theorem lw_p12 : lw_okq (⟨"OddUmbrellas$Matching", "nextAsk", "()I"⟩, 10) := ⟨⟨by decide +kernel, by decide +kernel⟩, List.mem_of_getElem? (i := 66) (by decide +kernel), List.mem_of_getElem? (i := 288) (by decide +kernel), List.mem_of_getElem? (i := 289) (by decide +kernel)⟩
theorem lw_p13 : lw_okq (⟨"OddUmbrellas$Matching", "nextPairOf", "(I)I"⟩, 10) := ⟨⟨by decide +kernel, by decide +kernel⟩, List.mem_of_getElem? (i := 66) (by decide +kernel), List.mem_of_getElem? (i := 292) (by decide +kernel), List.mem_of_getElem? (i := 293) (by decide +kernel)⟩
theorem lw_p14 : lw_okq (⟨"OddUmbrellas$Matching", "askFor", "(I)V"⟩, 10) := ⟨⟨by decide +kernel, by decide +kernel⟩, List.mem_of_getElem? (i := 66) (by decide +kernel), List.mem_of_getElem? (i := 296) (by decide +kernel), List.mem_of_getElem? (i := 297) (by decide +kernel)⟩
theorem lw_p15 : lw_okq (⟨"OddUmbrellas$Matching", "part", "(II)V"⟩, 10) := ⟨⟨by decide +kernel, by decide +kernel⟩, List.mem_of_getElem? (i := 66) (by decide +kernel), List.mem_of_getElem? (i := 300) (by decide +kernel), List.mem_of_getElem? (i := 301) (by decide +kernel)⟩
def lw_privs_1 : List (MethodName × Nat) := [(⟨"OddUmbrellas", "keepState", "()V"⟩, 10), (⟨"OddUmbrellas$Office", "addTo", "(II)V"⟩, 5), (⟨"OddUmbrellas", "recorded", "(I)I"⟩, 10), (⟨"OddUmbrellas", "forgetOldestState", "()V"⟩, 10), (⟨"OddUmbrellas$Matching", "noteOddness", "(LOddUmbrellas$Office;)V"⟩, 10), (⟨"OddUmbrellas$Matching", "weigh", "(IILOddUmbrellas$Office;)V"⟩, 10), (⟨"OddUmbrellas$Matching", "pairOf", "(II)I"⟩, 10), (⟨"OddUmbrellas$Matching", "matchNone", "()V"⟩, 10), (⟨"OddUmbrellas$Matching", "bestFreePair", "()I"⟩, 10), (⟨"OddUmbrellas$Matching", "suits", "(II)Z"⟩, 10), (⟨"OddUmbrellas$Matching", "aheadOf", "(II)I"⟩, 10), (⟨"OddUmbrellas$Matching", "join", "(II)V"⟩, 10), (⟨"OddUmbrellas$Matching", "nextAsk", "()I"⟩, 10), (⟨"OddUmbrellas$Matching", "nextPairOf", "(I)I"⟩, 10), (⟨"OddUmbrellas$Matching", "askFor", "(I)V"⟩, 10), (⟨"OddUmbrellas$Matching", "part", "(II)V"⟩, 10)]
theorem lw_r1 : ∀ q ∈ lw_privs_1, lw_okq q := List.forall_mem_cons.mpr ⟨lw_p0, List.forall_mem_cons.mpr ⟨lw_p1, List.forall_mem_cons.mpr ⟨lw_p2, List.forall_mem_cons.mpr ⟨lw_p3, List.forall_mem_cons.mpr ⟨lw_p4, List.forall_mem_cons.mpr ⟨lw_p5, List.forall_mem_cons.mpr ⟨lw_p6, List.forall_mem_cons.mpr ⟨lw_p7, List.forall_mem_cons.mpr ⟨lw_p8, List.forall_mem_cons.mpr ⟨lw_p9, List.forall_mem_cons.mpr ⟨lw_p10, List.forall_mem_cons.mpr ⟨lw_p11, List.forall_mem_cons.mpr ⟨lw_p12, List.forall_mem_cons.mpr ⟨lw_p13, List.forall_mem_cons.mpr ⟨lw_p14, List.forall_mem_cons.mpr ⟨lw_p15, fun _ h => absurd h List.not_mem_nil⟩⟩⟩⟩⟩⟩⟩⟩⟩⟩⟩⟩⟩⟩⟩⟩
theorem lw_p16 : lw_okq (⟨"OddUmbrellas$Office", "enter", "(III)V"⟩, 5) := ⟨⟨by decide +kernel, by decide +kernel⟩, List.mem_of_getElem? (i := 17) (by decide +kernel), List.mem_of_getElem? (i := 368) (by decide +kernel), List.mem_of_getElem? (i := 369) (by decide +kernel)⟩
theorem lw_p17 : lw_okq (⟨"OddUmbrellas$Office", "growOlder", "(LOddUmbrellas$Rows;)V"⟩, 5) := ⟨⟨by decide +kernel, by decide +kernel⟩, List.mem_of_getElem? (i := 17) (by decide +kernel), List.mem_of_getElem? (i := 385) (by decide +kernel), List.mem_of_getElem? (i := 386) (by decide +kernel)⟩
theorem lw_p18 : lw_okq (⟨"OddUmbrellas$Office", "endOld", "(LOddUmbrellas$Rows;III)V"⟩, 5) := ⟨⟨by decide +kernel, by decide +kernel⟩, List.mem_of_getElem? (i := 17) (by decide +kernel), List.mem_of_getElem? (i := 389) (by decide +kernel), List.mem_of_getElem? (i := 390) (by decide +kernel)⟩
theorem lw_p19 : lw_okq (⟨"OddUmbrellas", "isPair", "(II)Z"⟩, 10) := ⟨⟨by decide +kernel, by decide +kernel⟩, List.mem_of_getElem? (i := 9) (by decide +kernel), List.mem_of_getElem? (i := 455) (by decide +kernel), List.mem_of_getElem? (i := 456) (by decide +kernel)⟩
def lw_privs_2 : List (MethodName × Nat) := [(⟨"OddUmbrellas$Office", "enter", "(III)V"⟩, 5), (⟨"OddUmbrellas$Office", "growOlder", "(LOddUmbrellas$Rows;)V"⟩, 5), (⟨"OddUmbrellas$Office", "endOld", "(LOddUmbrellas$Rows;III)V"⟩, 5), (⟨"OddUmbrellas", "isPair", "(II)Z"⟩, 10)]
theorem lw_r2 : ∀ q ∈ lw_privs_2, lw_okq q := List.forall_mem_cons.mpr ⟨lw_p16, List.forall_mem_cons.mpr ⟨lw_p17, List.forall_mem_cons.mpr ⟨lw_p18, List.forall_mem_cons.mpr ⟨lw_p19, fun _ h => absurd h List.not_mem_nil⟩⟩⟩⟩
def lw_privs : List (MethodName × Nat) := lw_privs_1 ++ (lw_privs_2)
def lw_tbl : List Cond := k2_sels lw_privs ++ tables_1
theorem lw_privs_ok : ∀ q ∈ lw_privs, lw_okq q := by
  show ∀ q ∈ lw_privs_1 ++ (lw_privs_2), lw_okq q
  exact List.forall_mem_append.mpr ⟨lw_r1, lw_r2⟩
/-- the streams that the claim lets the run draw from -/
abbrev lw_cs : List Choice := [Jvm.Choice.named "NaN.bits"]
theorem lw_bits : nanBits ∈ lw_cs := by first | decide | exact List.mem_cons_self | simp [lw_cs, nanBits]

def RX0 : String := "OddUmbrellas$Matching"
def TX0 : u_T := fun k => match k with
  | 0 => ("OddUmbrellas$Matching", "misses", "[I", true)
  | 1 => ("OddUmbrellas$Matching", "worth", "[I", true)
  | 2 => ("OddUmbrellas$Matching", "suiting", "[Z", true)
  | 3 => ("OddUmbrellas$Matching", "asked", "[Z", true)
  | 4 => ("OddUmbrellas$Matching", "oddness", "[I", true)
  | 5 => ("OddUmbrellas$Matching", "claimOfUmbrella", "[I", true)
  | 6 => ("OddUmbrellas$Matching", "umbrellaOfClaim", "[I", true)
  | 7 => ("OddUmbrellas$Matching", "umbrellas", "I", false)
  | 8 => ("OddUmbrellas$Matching", "claims", "I", false)
  | _ => ("OddUmbrellas$Matching", "pairs", "I", false)
def tyX0 : Nat → FieldType := fun k => match k with
  | 0 => .array .int
  | 1 => .array .int
  | 2 => .array .boolean
  | 3 => .array .boolean
  | 4 => .array .int
  | 5 => .array .int
  | 6 => .array .int
  | 7 => .int
  | 8 => .int
  | _ => .int
abbrev wsX00 : List Cond := u_ws RX0 TX0 10
theorem nmX0 : ∀ a, a < 10 → ∀ b, b < 10 → a ≠ b → (TX0 a).2.1 ≠ (TX0 b).2.1 := by decide +kernel
theorem tyX0_ok : ∀ k, k < 10 → parseFieldDescriptor (TX0 k).2.2.1 = some (tyX0 k) := by decide +kernel
abbrev cX0_init : ByteArray := prog_2_method_1_code
def yX0_init : MethodName := ⟨RX0, "<init>", "()V"⟩
abbrev cX0_weighAll : ByteArray := prog_2_method_2_code
def yX0_weighAll : MethodName := ⟨RX0, "weighAll", "(LOddUmbrellas$Office;)V"⟩
abbrev cX0_noteOddness : ByteArray := prog_2_method_3_code
def yX0_noteOddness : MethodName := ⟨RX0, "noteOddness", "(LOddUmbrellas$Office;)V"⟩
abbrev cX0_weigh : ByteArray := prog_2_method_4_code
def yX0_weigh : MethodName := ⟨RX0, "weigh", "(IILOddUmbrellas$Office;)V"⟩
abbrev cX0_pairOf : ByteArray := prog_2_method_5_code
def yX0_pairOf : MethodName := ⟨RX0, "pairOf", "(II)I"⟩
abbrev cX0_worthOf : ByteArray := prog_2_method_6_code
def yX0_worthOf : MethodName := ⟨RX0, "worthOf", "(II)I"⟩
abbrev cX0_suits : ByteArray := prog_2_method_7_code
def yX0_suits : MethodName := ⟨RX0, "suits", "(II)Z"⟩
abbrev cX0_claimsSuiting : ByteArray := prog_2_method_8_code
def yX0_claimsSuiting : MethodName := ⟨RX0, "claimsSuiting", "(I)I"⟩
abbrev cX0_umbrellasSuiting : ByteArray := prog_2_method_9_code
def yX0_umbrellasSuiting : MethodName := ⟨RX0, "umbrellasSuiting", "(I)I"⟩
abbrev cX0_matchAll : ByteArray := prog_2_method_10_code
def yX0_matchAll : MethodName := ⟨RX0, "matchAll", "(LOddUmbrellas$Office;)V"⟩
abbrev cX0_matchNone : ByteArray := prog_2_method_11_code
def yX0_matchNone : MethodName := ⟨RX0, "matchNone", "()V"⟩
abbrev cX0_bestFreePair : ByteArray := prog_2_method_12_code
def yX0_bestFreePair : MethodName := ⟨RX0, "bestFreePair", "()I"⟩
abbrev cX0_aheadOf : ByteArray := prog_2_method_13_code
def yX0_aheadOf : MethodName := ⟨RX0, "aheadOf", "(II)I"⟩
abbrev cX0_join : ByteArray := prog_2_method_14_code
def yX0_join : MethodName := ⟨RX0, "join", "(II)V"⟩
abbrev cX0_part : ByteArray := prog_2_method_15_code
def yX0_part : MethodName := ⟨RX0, "part", "(II)V"⟩
abbrev cX0_claimMatched : ByteArray := prog_2_method_16_code
def yX0_claimMatched : MethodName := ⟨RX0, "claimMatched", "(I)I"⟩
abbrev cX0_umbrellaMatched : ByteArray := prog_2_method_17_code
def yX0_umbrellaMatched : MethodName := ⟨RX0, "umbrellaMatched", "(I)I"⟩
abbrev cX0_worthOfMatched : ByteArray := prog_2_method_18_code
def yX0_worthOfMatched : MethodName := ⟨RX0, "worthOfMatched", "()I"⟩
abbrev cX0_reasonAgainst : ByteArray := prog_2_method_19_code
def yX0_reasonAgainst : MethodName := ⟨RX0, "reasonAgainst", "(IILOddUmbrellas$Office;)I"⟩
abbrev cX0_matchByAsking : ByteArray := prog_2_method_20_code
def yX0_matchByAsking : MethodName := ⟨RX0, "matchByAsking", "(LOddUmbrellas$Office;)V"⟩
abbrev cX0_nextAsk : ByteArray := prog_2_method_21_code
def yX0_nextAsk : MethodName := ⟨RX0, "nextAsk", "()I"⟩
abbrev cX0_nextPairOf : ByteArray := prog_2_method_22_code
def yX0_nextPairOf : MethodName := ⟨RX0, "nextPairOf", "(I)I"⟩
abbrev cX0_askFor : ByteArray := prog_2_method_23_code
def yX0_askFor : MethodName := ⟨RX0, "askFor", "(I)V"⟩
def RX1 : String := "OddUmbrellas$Office"
def TX1 : u_T := fun k => match k with
  | 0 => ("OddUmbrellas$Office", "umbrellas", "LOddUmbrellas$Rows;", true)
  | 1 => ("OddUmbrellas$Office", "claims", "LOddUmbrellas$Rows;", true)
  | 2 => ("OddUmbrellas$Office", "entries", "LOddUmbrellas$Rows;", true)
  | 3 => ("OddUmbrellas$Office", "settings", "[I", true)
  | _ => ("OddUmbrellas$Office", "sums", "[I", true)
def tyX1 : Nat → FieldType := fun k => match k with
  | 0 => .object "OddUmbrellas$Rows"
  | 1 => .object "OddUmbrellas$Rows"
  | 2 => .object "OddUmbrellas$Rows"
  | 3 => .array .int
  | _ => .array .int
abbrev wsX10 : List Cond := u_ws RX1 TX1 5
theorem nmX1 : ∀ a, a < 5 → ∀ b, b < 5 → a ≠ b → (TX1 a).2.1 ≠ (TX1 b).2.1 := by decide +kernel
theorem tyX1_ok : ∀ k, k < 5 → parseFieldDescriptor (TX1 k).2.2.1 = some (tyX1 k) := by decide +kernel
abbrev cX1_init : ByteArray := prog_3_method_1_code
def yX1_init : MethodName := ⟨RX1, "<init>", "()V"⟩
abbrev cX1_become : ByteArray := prog_3_method_2_code
def yX1_become : MethodName := ⟨RX1, "become", "(LOddUmbrellas$Office;)V"⟩
abbrev cX1_setting : ByteArray := prog_3_method_3_code
def yX1_setting : MethodName := ⟨RX1, "setting", "(I)I"⟩
abbrev cX1_sum : ByteArray := prog_3_method_4_code
def yX1_sum : MethodName := ⟨RX1, "sum", "(I)I"⟩
abbrev cX1_addTo : ByteArray := prog_3_method_5_code
def yX1_addTo : MethodName := ⟨RX1, "addTo", "(II)V"⟩
abbrev cX1_umbrellasWith : ByteArray := prog_3_method_6_code
def yX1_umbrellasWith : MethodName := ⟨RX1, "umbrellasWith", "(II)I"⟩
abbrev cX1_oddnessTogether : ByteArray := prog_3_method_7_code
def yX1_oddnessTogether : MethodName := ⟨RX1, "oddnessTogether", "(I)I"⟩
abbrev cX1_takeUmbrella : ByteArray := prog_3_method_8_code
def yX1_takeUmbrella : MethodName := ⟨RX1, "takeUmbrella", "(IIII)I"⟩
abbrev cX1_takeClaim : ByteArray := prog_3_method_9_code
def yX1_takeClaim : MethodName := ⟨RX1, "takeClaim", "(IIII)I"⟩
abbrev cX1_noteDetail : ByteArray := prog_3_method_10_code
def yX1_noteDetail : MethodName := ⟨RX1, "noteDetail", "(III)I"⟩
abbrev cX1_dropClaim : ByteArray := prog_3_method_11_code
def yX1_dropClaim : MethodName := ⟨RX1, "dropClaim", "(I)I"⟩
abbrev cX1_changeSetting : ByteArray := prog_3_method_12_code
def yX1_changeSetting : MethodName := ⟨RX1, "changeSetting", "(II)I"⟩
abbrev cX1_passWeeks : ByteArray := prog_3_method_13_code
def yX1_passWeeks : MethodName := ⟨RX1, "passWeeks", "(II)I"⟩
abbrev cX1_growOlder : ByteArray := prog_3_method_14_code
def yX1_growOlder : MethodName := ⟨RX1, "growOlder", "(LOddUmbrellas$Rows;)V"⟩
abbrev cX1_endOld : ByteArray := prog_3_method_15_code
def yX1_endOld : MethodName := ⟨RX1, "endOld", "(LOddUmbrellas$Rows;III)V"⟩
abbrev cX1_handOut : ByteArray := prog_3_method_16_code
def yX1_handOut : MethodName := ⟨RX1, "handOut", "(LOddUmbrellas$Matching;)I"⟩
abbrev cX1_enter : ByteArray := prog_3_method_17_code
def yX1_enter : MethodName := ⟨RX1, "enter", "(III)V"⟩
def RX2 : String := "OddUmbrellas$Rows"
def TX2 : u_T := fun k => match k with
  | 0 => ("OddUmbrellas$Rows", "cells", "[I", true)
  | _ => ("OddUmbrellas$Rows", "size", "I", false)
def tyX2 : Nat → FieldType := fun k => match k with
  | 0 => .array .int
  | _ => .int
abbrev wsX20 : List Cond := u_ws RX2 TX2 2
theorem nmX2 : ∀ a, a < 2 → ∀ b, b < 2 → a ≠ b → (TX2 a).2.1 ≠ (TX2 b).2.1 := by decide +kernel
theorem tyX2_ok : ∀ k, k < 2 → parseFieldDescriptor (TX2 k).2.2.1 = some (tyX2 k) := by decide +kernel
abbrev cX2_init : ByteArray := prog_4_method_1_code
def yX2_init : MethodName := ⟨RX2, "<init>", "()V"⟩
abbrev cX2_has : ByteArray := prog_4_method_2_code
def yX2_has : MethodName := ⟨RX2, "has", "(I)Z"⟩
abbrev cX2_cell : ByteArray := prog_4_method_3_code
def yX2_cell : MethodName := ⟨RX2, "cell", "(II)I"⟩
abbrev cX2_put : ByteArray := prog_4_method_4_code
def yX2_put : MethodName := ⟨RX2, "put", "(III)V"⟩
abbrev cX2_append : ByteArray := prog_4_method_5_code
def yX2_append : MethodName := ⟨RX2, "append", "(IIII)I"⟩
abbrev cX2_remove : ByteArray := prog_4_method_6_code
def yX2_remove : MethodName := ⟨RX2, "remove", "(I)V"⟩
abbrev cX2_become : ByteArray := prog_4_method_7_code
def yX2_become : MethodName := ⟨RX2, "become", "(LOddUmbrellas$Rows;)V"⟩
def RX3 : String := "OddUmbrellas$Text"
def TX3 : u_T := fun k => match k with
  | 0 => ("OddUmbrellas$Text", "signs", "[C", true)
  | 1 => ("OddUmbrellas$Text", "length", "I", false)
  | 2 => ("OddUmbrellas$Text", "place", "I", false)
  | 3 => ("OddUmbrellas$Text", "kind", "I", false)
  | _ => ("OddUmbrellas$Text", "numbers", "[I", true)
def tyX3 : Nat → FieldType := fun k => match k with
  | 0 => .array .char
  | 1 => .int
  | 2 => .int
  | 3 => .int
  | _ => .array .int
abbrev wsX30 : List Cond := u_ws RX3 TX3 5
theorem nmX3 : ∀ a, a < 5 → ∀ b, b < 5 → a ≠ b → (TX3 a).2.1 ≠ (TX3 b).2.1 := by decide +kernel
theorem tyX3_ok : ∀ k, k < 5 → parseFieldDescriptor (TX3 k).2.2.1 = some (tyX3 k) := by decide +kernel
abbrev cX3_init : ByteArray := prog_5_method_1_code
def yX3_init : MethodName := ⟨RX3, "<init>", "()V"⟩
def RX4 : String := "OddUmbrellas"
def TX4 : u_T := fun k => match k with
  | 0 => ("OddUmbrellas", "office", "LOddUmbrellas$Office;", true)
  | 1 => ("OddUmbrellas", "trial", "LOddUmbrellas$Office;", true)
  | 2 => ("OddUmbrellas", "matching", "LOddUmbrellas$Matching;", true)
  | 3 => ("OddUmbrellas", "history", "[LOddUmbrellas$Office;", true)
  | 4 => ("OddUmbrellas", "states", "I", false)
  | 5 => ("OddUmbrellas", "text", "LOddUmbrellas$Text;", true)
  | 6 => ("OddUmbrellas", "ordersTried", "I", false)
  | 7 => ("OddUmbrellas", "faultPlace", "I", false)
  | 8 => ("OddUmbrellas", "faultReason", "I", false)
  | _ => ("OddUmbrellas", "faultCause", "I", false)
def tyX4 : Nat → FieldType := fun k => match k with
  | 0 => .object "OddUmbrellas$Office"
  | 1 => .object "OddUmbrellas$Office"
  | 2 => .object "OddUmbrellas$Matching"
  | 3 => .array (.object "OddUmbrellas$Office")
  | 4 => .int
  | 5 => .object "OddUmbrellas$Text"
  | 6 => .int
  | 7 => .int
  | 8 => .int
  | _ => .int
abbrev wsX40 : List Cond := u_ws RX4 TX4 10
theorem nmX4 : ∀ a, a < 10 → ∀ b, b < 10 → a ≠ b → (TX4 a).2.1 ≠ (TX4 b).2.1 := by decide +kernel
theorem tyX4_ok : ∀ k, k < 10 → parseFieldDescriptor (TX4 k).2.2.1 = some (tyX4 k) := by decide +kernel
abbrev cX4_init : ByteArray := prog_1_method_1_code
def yX4_init : MethodName := ⟨RX4, "<init>", "()V"⟩
abbrev cX4_find : ByteArray := prog_1_method_2_code
def yX4_find : MethodName := ⟨RX4, "find", "(IIII)I"⟩
abbrev cX4_claim : ByteArray := prog_1_method_3_code
def yX4_claim : MethodName := ⟨RX4, "claim", "(IIII)I"⟩
abbrev cX4_tell : ByteArray := prog_1_method_4_code
def yX4_tell : MethodName := ⟨RX4, "tell", "(III)I"⟩
abbrev cX4_drop : ByteArray := prog_1_method_5_code
def yX4_drop : MethodName := ⟨RX4, "drop", "(I)I"⟩
abbrev cX4_weeks : ByteArray := prog_1_method_6_code
def yX4_weeks : MethodName := ⟨RX4, "weeks", "(I)I"⟩
abbrev cX4_hand : ByteArray := prog_1_method_7_code
def yX4_hand : MethodName := ⟨RX4, "hand", "()I"⟩
abbrev cX4_set : ByteArray := prog_1_method_8_code
def yX4_set : MethodName := ⟨RX4, "set", "(II)I"⟩
abbrev cX4_umbrella : ByteArray := prog_1_method_9_code
def yX4_umbrella : MethodName := ⟨RX4, "umbrella", "(II)I"⟩
abbrev cX4_claimOf : ByteArray := prog_1_method_10_code
def yX4_claimOf : MethodName := ⟨RX4, "claimOf", "(II)I"⟩
abbrev cX4_points : ByteArray := prog_1_method_11_code
def yX4_points : MethodName := ⟨RX4, "points", "(II)I"⟩
abbrev cX4_having : ByteArray := prog_1_method_12_code
def yX4_having : MethodName := ⟨RX4, "having", "(II)I"⟩
abbrev cX4_book : ByteArray := prog_1_method_13_code
def yX4_book : MethodName := ⟨RX4, "book", "(II)I"⟩
abbrev cX4_why : ByteArray := prog_1_method_14_code
def yX4_why : MethodName := ⟨RX4, "why", "(II)I"⟩
abbrev cX4_ifTold : ByteArray := prog_1_method_15_code
def yX4_ifTold : MethodName := ⟨RX4, "ifTold", "(III)I"⟩
abbrev cX4_oddest : ByteArray := prog_1_method_16_code
def yX4_oddest : MethodName := ⟨RX4, "oddest", "()I"⟩
abbrev cX4_ifWeeks : ByteArray := prog_1_method_17_code
def yX4_ifWeeks : MethodName := ⟨RX4, "ifWeeks", "(II)I"⟩
abbrev cX4_mean : ByteArray := prog_1_method_18_code
def yX4_mean : MethodName := ⟨RX4, "mean", "()I"⟩
abbrev cX4_count : ByteArray := prog_1_method_19_code
def yX4_count : MethodName := ⟨RX4, "count", "(I)I"⟩
abbrev cX4_undo : ByteArray := prog_1_method_20_code
def yX4_undo : MethodName := ⟨RX4, "undo", "()I"⟩
abbrev cX4_keepState : ByteArray := prog_1_method_25_code
def yX4_keepState : MethodName := ⟨RX4, "keepState", "()V"⟩
abbrev cX4_recorded : ByteArray := prog_1_method_26_code
def yX4_recorded : MethodName := ⟨RX4, "recorded", "(I)I"⟩
abbrev cX4_forgetOldestState : ByteArray := prog_1_method_27_code
def yX4_forgetOldestState : MethodName := ⟨RX4, "forgetOldestState", "()V"⟩
abbrev cX4_isPair : ByteArray := prog_1_method_31_code
def yX4_isPair : MethodName := ⟨RX4, "isPair", "(II)Z"⟩
abbrev cX4_isDetail : ByteArray := prog_1_method_32_code
def yX4_isDetail : MethodName := ⟨RX4, "isDetail", "(I)Z"⟩
abbrev cX4_isValue : ByteArray := prog_1_method_33_code
def yX4_isValue : MethodName := ⟨RX4, "isValue", "(I)Z"⟩
abbrev cX4_isValueOrNotTold : ByteArray := prog_1_method_34_code
def yX4_isValueOrNotTold : MethodName := ⟨RX4, "isValueOrNotTold", "(I)Z"⟩
abbrev cX4_isWeeksAtOnce : ByteArray := prog_1_method_35_code
def yX4_isWeeksAtOnce : MethodName := ⟨RX4, "isWeeksAtOnce", "(I)Z"⟩
abbrev cX4_orNotFound : ByteArray := prog_1_method_36_code
def yX4_orNotFound : MethodName := ⟨RX4, "orNotFound", "(I)I"⟩
abbrev cX4_numberAt : ByteArray := prog_1_method_37_code
def yX4_numberAt : MethodName := ⟨RX4, "numberAt", "([II)I"⟩
abbrev cX4_bitsOf : ByteArray := prog_1_method_38_code
def yX4_bitsOf : MethodName := ⟨RX4, "bitsOf", "(F)I"⟩
def RL : String := "OddUmbrellasLaw"
abbrev cL_cell : ByteArray := method_2_code
def yL_cell : MethodName := ⟨RL, "cell", "([II)I"⟩
abbrev cL_low : ByteArray := method_3_code
def yL_low : MethodName := ⟨RL, "low", "(II)I"⟩
abbrev cL_act : ByteArray := method_4_code
def yL_act : MethodName := ⟨RL, "act", "(LOddUmbrellas;II)I"⟩
abbrev cL_quotient : ByteArray := method_5_code
def yL_quotient : MethodName := ⟨RL, "quotient", "(II)I"⟩
abbrev cL_hangs : ByteArray := method_6_code
def yL_hangs : MethodName := ⟨RL, "hangs", "(LOddUmbrellas;)Z"⟩
abbrev cL_stable : ByteArray := method_7_code
def yL_stable : MethodName := ⟨RL, "stable", "(LOddUmbrellas;)Z"⟩
abbrev cL_print : ByteArray := method_8_code
def yL_print : MethodName := ⟨RL, "print", "(LOddUmbrellas;)J"⟩
abbrev cL_weeks : ByteArray := method_9_code
def yL_weeks : MethodName := ⟨RL, "weeks", "(LOddUmbrellas;I)Z"⟩
abbrev cL_hands : ByteArray := method_10_code
def yL_hands : MethodName := ⟨RL, "hands", "(LOddUmbrellas;)Z"⟩
abbrev cL_tells : ByteArray := method_11_code
def yL_tells : MethodName := ⟨RL, "tells", "(LOddUmbrellas;III)Z"⟩
abbrev cL_law : ByteArray := code
def yL_law : MethodName := ⟨RL, "law", "([I)Z"⟩
abbrev vwCl : List vw_C := [(RX0, TX0, 10), (RX1, TX1, 5), (RX2, TX2, 2), (RX3, TX3, 5), (RX4, TX4, 10)]
set_option maxRecDepth 100000 in
theorem inX0 : ∀ w ∈ u_ws RX0 TX0 10, w ∈ lw_tbl := by decide +kernel
set_option maxRecDepth 100000 in
theorem inX1 : ∀ w ∈ u_ws RX1 TX1 5, w ∈ lw_tbl := by decide +kernel
set_option maxRecDepth 100000 in
theorem inX2 : ∀ w ∈ u_ws RX2 TX2 2, w ∈ lw_tbl := by decide +kernel
set_option maxRecDepth 100000 in
theorem inX3 : ∀ w ∈ u_ws RX3 TX3 5, w ∈ lw_tbl := by decide +kernel
set_option maxRecDepth 100000 in
theorem inX4 : ∀ w ∈ u_ws RX4 TX4 10, w ∈ lw_tbl := by decide +kernel
/-! THE CLAIM OUT OF ONE WALK OF THE LAW'S BODY. Your part is whole_start (and what it stands on); all else here is the same for every law, but numbers. -/
def R_law : String := "OddUmbrellasLaw"
def lw_P (b : Addr) (xs : List Int32) (args : Array Value) (s : State) : Prop := args = #[.ref b] ∧ s.IntsAt b xs ∧ xs.length ≤ 260 ∧ (Jvm.Cond.and given_1 narrow_1).before args s = true
/-- what a walk over the start with the record d0 says of its end, said of the start itself -/
theorem lw_closed {s t : State} {o : Outcome} {d0 : Drawn} {L : List Loc} {k n : Nat} (hd0 : s.drawn.sameBut d0 lw_cs) (hv : ∃ v, o = .returned v) (hW : (s.setDrawn d0).WarmedH t.vm) (hs : (s.setDrawn d0).sameButNew ({ t with vm := s.vm } : State) L k n) : State.butDraws s t lw_cs (fun t1 => Framed s o t1 L k n) := by
  have h2 : t.drawn = d0 := congrArg State.drawn hs.1
  refine ⟨⟨hv, hW, State.sameButNew.setDrawn hs s.drawn⟩, ?_, by decide⟩
  rw [h2]
  exact hd0
def lw_Q (_ : Array Value) (s : State) (o : Outcome) (t : State) : Prop := o = .returned (some (.int 1)) ∧ State.butDraws s t lw_cs (fun t1 => Framed s o t1 [] 600000 7302250)
def lw_Z (below : List Frame) (a : Array Value) (s : State) : State → Prop := fun t => ∃ o, t.status = .running ∧ Ended t below o ∧ lw_Q a s o t
/-- the law's own end, with 1 on the stack, nothing written that was there before, its room as the claim has it; d0: the record of draws at this point (at the entry s.drawn: begin with 'refine W.base ?_' and 'have hd0 := Drawn.sameBut.refl s.drawn lw_cs') -/
theorem lw_ret {p : Program} {l : Launch} {e : Env} {s : State} {m : MethodId} {below : List Frame} {meth : Method} {c : Code} {b : Nat} {d0 : Drawn} (hd0 : s.drawn.sameBut d0 lw_cs) (hx : p.tables.exec = Jvm.exec) (hb : c.code = code) (hr : meth.sig.returnType = ret) (hlocks : meth.locks = false) {pc : Nat} {H : Heap} {ls : Array Slot} (hdg : decode code pc = .ok (.ireturn, 1)) : W p l e room_1 (s.setDrawn d0) m #[Value.ref b] below meth c H [] 600000 7302250 (lw_Z below #[Value.ref b] s) (F0 m pc ls [.int 1]) := by
  intro T hT X
  obtain ⟨fs, hret, hrun, hended, hW, hframe⟩ := X.leave (v := some (.int 1)) (hlocks := hlocks) (fun h => by rw [hr] at h; cases h)
  have hmeth' : T.vm.method? m = some meth := X.method'
  refine ⟨T.setFrames fs, ?_, .returned (some (.int 1)), hrun, hended, rfl, lw_closed hd0 ⟨_, rfl⟩ hW hframe⟩
  jvm_step X.here [X.here.top, hx, hb, hdg, hmeth', hr, ret, narrow_b1]
  (try refine ⟨rfl, ?_⟩); (try refine ⟨rfl, ?_⟩)
  first | (intro acts; rw [hret _ acts rfl rfl rfl]) | rw [hret _ _ rfl rfl rfl]
  exact Steps.refl _
/-- what holds at the law's entry: the machine, the code, the tables' words (any of lw_tbl by 'hts w (by decide +kernel)'), the script of L ints xs at the cell b, what the Statement gives of the start (any of its parts by flat_of_before) -/
def lw_At (p : Program) (s : State) (m : MethodId) (meth : Method) (c : Code) (b L : Nat) (xs : Nat → Int32) : Prop :=
  p.tables.exec = Jvm.exec ∧ c.code = code ∧ meth.sig.returnType = ret ∧ c.maxLocals = 10 ∧ s.vm.findClass R_law = some m.cls ∧ (∀ w ∈ lw_tbl, w.before #[Value.ref b] s = true) ∧ va_X b L xs s s.heap ∧ b < s.heap.size ∧ meth.locks = false ∧ (Jvm.Cond.and given_1 narrow_1).before #[Value.ref b] s = true
end
section
/-! the ground: numbers, abstract values, the heap as numbers, the layout of the cells, the judgement Z -/
section Ground
/-- the words that travel into any call, and those of nest mates, which travel beside -/
def lwT : List Cond := lw_tbl.filter goodWord
theorem lwT_of {w : Cond} (i : Nat) (h : lw_tbl[i]? = some w) (hg : goodWord w = true) : w ∈ lwT := List.mem_filter.mpr ⟨List.mem_of_getElem? h, hg⟩
theorem lwT_G : GoodIn lwT lwT := fun w hw => ⟨hw, good_of_word (List.mem_filter.mp hw).2⟩
def lwNest (w : Cond) : Bool := match w with
  | .methodLinkNest .. => true
  | .fieldLinkNest .. => true
  | _ => false
def lwN (s : State) : Prop := ∀ w ∈ lw_tbl, lwNest w = true → va_Nw w s
theorem lwN.warm {s U : State} (hW : s.WarmedH U.vm) (h : lwN s) : lwN U := by
  intro w hw hn
  have h1 := h w hw hn
  cases w with
  | methodLinkNest a i x b => exact h1.warmM hW
  | fieldLinkNest a i b n d x => exact h1.warmF hW
  | _ => cases hn
abbrev AV : Type := Int ⊕ Nat ⊕ Value
abbrev vi (z : Int) : AV := Sum.inl z
abbrev vr (i : Nat) : AV := Sum.inr (Sum.inl i)
abbrev vx (v : Value) : AV := Sum.inr (Sum.inr v)
def mv (ad : Nat → Nat) (v : AV) : Value := match v with
  | .inl z => .int (Int32.ofInt z)
  | .inr (.inl i) => .ref (ad i)
  | .inr (.inr v) => v
def iR (z : Int) : Prop := -2147483648 ≤ z ∧ z < 2147483648
def avR (v : AV) : Prop := match v with
  | .inl z => iR z
  | _ => True
def acat (v : AV) : Nat := match v with
  | .inl _ => 1
  | .inr (.inl _) => 1
  | .inr (.inr v) => v.category
theorem acat_mv (ad : Nat → Nat) (v : AV) : (mv ad v).category = acat v := by
  rcases v with z | i | v <;> rfl
abbrev Hp : Type := Nat → Nat → Int
def hR (h : Hp) : Prop := ∀ i k, iR (h i k)
def hup (h : Hp) (i k : Nat) (x : Int) : Hp := fun a b => if a = i ∧ b = k then x else h a b
/-- a number as the machine keeps it; hidden behind a choice, so that nothing computes with it -/
theorem wr_ex (z : Int) : ∃ y : Int, y = (z + 2147483648) % 4294967296 - 2147483648 := ⟨_, rfl⟩
noncomputable def wr (z : Int) : Int := Classical.choose (wr_ex z)
theorem wr_def (z : Int) : wr z = (z + 2147483648) % 4294967296 - 2147483648 := Classical.choose_spec (wr_ex z)
theorem wr_R (z : Int) : iR (wr z) := by rw [wr_def]; unfold iR; omega
theorem wr_e {z : Int} (h : iR z) : wr z = z := by rw [wr_def]; unfold iR at h; omega
theorem ofI_T {z : Int} (h : iR z) : (Int32.ofInt z).toInt = z := Int32.toInt_ofInt_of_le h.1 h.2
theorem ofI_eq {a b : Int} (h : a % 4294967296 = b % 4294967296) : Int32.ofInt a = Int32.ofInt b := by
  apply Int32.toInt.inj
  rw [Int32.toInt_ofInt, Int32.toInt_ofInt]
  show a.bmod 4294967296 = b.bmod 4294967296
  rw [Int.bmod_def, Int.bmod_def]
  have : ((4294967296 : Nat) : Int) = 4294967296 := rfl
  rw [this, h]
theorem ofI_wr (z : Int) : Int32.ofInt (wr z) = Int32.ofInt z := ofI_eq (by rw [wr_def]; omega)
theorem ofI_le {a b : Int} (ha : iR a) (hb : iR b) : Int32.ofInt a ≤ Int32.ofInt b ↔ a ≤ b := by rw [Int32.le_iff_toInt_le, ofI_T ha, ofI_T hb]
theorem ofI_lt {a b : Int} (ha : iR a) (hb : iR b) : Int32.ofInt a < Int32.ofInt b ↔ a < b := by rw [Int32.lt_iff_toInt_lt, ofI_T ha, ofI_T hb]
theorem ofI_inj {a b : Int} (ha : iR a) (hb : iR b) : Int32.ofInt a = Int32.ofInt b ↔ a = b := by
  constructor
  · intro h
    rw [← ofI_T ha, ← ofI_T hb, h]
  · intro h
    rw [h]
theorem iR_0 : iR 0 := by unfold iR; omega
theorem ofI_0 : Int32.ofInt 0 = 0 := rfl
abbrev inb (x : Int) (n : Nat) : Prop := 0 ≤ x ∧ x < n
theorem ofI_in {x : Int} {n : Nat} (hx : iR x) (h : 0 ≤ x ∧ x < n) : vp_in (Int32.ofInt x) n := vp_in_iff.mpr (by rw [ofI_T hx]; exact h)
theorem ofI_cl {x : Int} (hx : iR x) : (Int32.ofInt x).toNatClampNeg = x.toNat := by
  show (Int32.ofInt x).toInt.toNat = x.toNat
  rw [ofI_T hx]
theorem hR_hup {h : Hp} {i k : Nat} {x : Int} (hh : hR h) (hx : iR x) : hR (hup h i k x) := by
  intro a b
  unfold hup
  split
  · exact hx
  · exact hh a b
/-- the cells in the order in which they come: what each is, and of arrays how long; behind them the statics and the texts -/
def lay : List (Nat × Nat) :=
  [(4, 0)] ++ [(1, 0), (2, 0), (10, 72), (2, 0), (10, 72), (2, 0), (10, 72), (10, 7), (10, 12)] ++ [(1, 0), (2, 0), (10, 72), (2, 0), (10, 72), (2, 0), (10, 72), (10, 7), (10, 12)] ++
  [(0, 0), (10, 144), (10, 144), (11, 144), (11, 144), (10, 40), (10, 12), (10, 12)] ++ [(13, 5)] ++ [(3, 0), (12, 60), (10, 4)] ++
  [(1, 0), (2, 0), (10, 72), (2, 0), (10, 72), (2, 0), (10, 72), (10, 7), (10, 12)] ++ [(1, 0), (2, 0), (10, 72), (2, 0), (10, 72), (2, 0), (10, 72), (10, 7), (10, 12)] ++
  [(1, 0), (2, 0), (10, 72), (2, 0), (10, 72), (2, 0), (10, 72), (10, 7), (10, 12)] ++ [(1, 0), (2, 0), (10, 72), (2, 0), (10, 72), (2, 0), (10, 72), (10, 7), (10, 12)] ++
  [(1, 0), (2, 0), (10, 72), (2, 0), (10, 72), (2, 0), (10, 72), (10, 7), (10, 12)] ++
  [(20, 12), (20, 12), (99, 0), (99, 0), (99, 0), (99, 0), (99, 0), (99, 0)] ++
  [(30, 7), (30, 7), (30, 7)] ++ [(31, 5), (31, 6), (31, 5), (31, 5), (31, 4)] ++ [(32, 5), (32, 6), (32, 5), (32, 5), (32, 4)]
def kd (i : Nat) : Nat × Nat := lay.getD i (99, 0)
/-- the places of the references in an object: how far behind it the cell lies that it holds -/
def off (c k : Nat) : Option Nat := match c with
  | 0 => if k < 7 then some (k + 1) else none
  | 1 => [1, 3, 5, 7, 8][k]?
  | 2 => [1][k]?
  | 3 => [some 1, none, none, none, some 2].getD k none
  | 4 => [some 1, some 10, some 19, some 27, none, some 28].getD k none
  | _ => none
/-- the numbers of the static rows -/
def sA (i k : Nat) : Int := match i with
  | 84 => [1, 4, 2, 8, 1, 6, 5].getD k 0
  | 85 => [0, 0, 0, 1, 0, 1, 1].getD k 0
  | 86 => [3, 20, 20, 48, 9, 20, 20].getD k 0
  | _ => 0
def sN (i : Nat) : String := match i with
  | 84 => "FIRST_SETTINGS"
  | 85 => "LEAST_SETTINGS"
  | _ => "GREATEST_SETTINGS"
def LI (h : Hp) : Prop := (∀ i k o, off (kd i).1 k = some o → h i k = ((i + o : Nat) : Int)) ∧ (∀ i k, 84 ≤ i → i < 87 → h i k = sA i k) ∧ ∀ i k, (kd i).1 = 13 → h i k < 76
theorem kd_lt {i c : Nat} (h : (kd i).1 = c) (hc : c < 20) : i < 76 := by
  subst h
  have key : ∀ i, i < 97 → (kd i).1 < 20 → i < 76 := by decide +kernel
  rcases Nat.lt_or_ge i 97 with h | h
  · exact key i h hc
  · have : kd i = (99, 0) := by
      unfold kd
      rw [List.getD_eq_getElem?_getD, List.getElem?_eq_none (by exact h)]
      rfl
    rw [this] at hc
    exact absurd hc (by decide)
def rfo (ad : Nat → Nat) (z : Int) : Option Nat := if z < 0 then none else some (ad z.toNat)
def vw_N (c : Nat) : Nat := [10, 5, 2, 5, 10].getD c 0
def fvl (c k : Nat) (ad : Nat → Nat) (z : Int) : Value := match off c k with
  | some _ => va_rf (rfo ad z)
  | none => .int (Int32.ofInt z)
def ofl (c : Nat) (ad : Nat → Nat) (f : Nat → Int) : List Value := (List.range (vw_N c)).map (fun k => fvl c k ad (f k))
def wcell (ad : Nat → Nat) (ca : Nat → ClassId) (f : Nat → Int) (i : Nat) : va_E :=
  if (kd i).1 = 13 then .inl (ca 3, (kd i).2, .inr (.inr (.inr (.inr (fun k => rfo ad (f k))))))
  else if 10 ≤ (kd i).1 then .inl (ca (((kd i).1 - 10) % 10), (kd i).2, .inl (fun k => Int32.ofInt (f k)))
  else .inr ((kd i).1, ofl (kd i).1 ad f)
def tysOf (ca : Nat → ClassId) : List (ClassId × FieldType) := [(ca 0, .int), (ca 1, .boolean), (ca 2, .char), (ca 3, .object "OddUmbrellas$Office")]
def wsN (N : Nat) (ad : Nat → Nat) (ca : Nat → ClassId) (h : Hp) : va_W := (List.range N).map (fun i => (ad i, wcell ad ca (h i) i))
theorem wsN_get {N : Nat} {ad : Nat → Nat} {ca : Nat → ClassId} {h : Hp} {i : Nat} (hi : i < N) : (wsN N ad ca h)[i]? = some (ad i, wcell ad ca (h i) i) := by
  simp [wsN, hi]
theorem wsN_set {N : Nat} {ad : Nat → Nat} {ca : Nat → ClassId} {h h' : Hp} {i : Nat} (ho : ∀ j, j ≠ i → h' j = h j) {e : va_E} (he : e = wcell ad ca (h' i) i) : (wsN N ad ca h).set i (ad i, e) = wsN N ad ca h' := by
  subst he
  apply List.ext_getElem?
  intro j
  by_cases hj : j < N
  · by_cases hji : j = i
    · subst hji
      rw [List.getElem?_set_self (by simp [wsN, hj]), wsN_get hj]
    · rw [List.getElem?_set_ne (fun q => hji q.symm), wsN_get hj, wsN_get hj, ho j hji]
  · rw [List.getElem?_eq_none (by simp [wsN]; omega), List.getElem?_eq_none (by simp [wsN]; omega)]
/-- how many cells the world has: those of the class, and rows of the law behind them -/
def nW (ad : Nat → Nat) : Nat := 76 + ad 200
theorem wsN_g7 {ad : Nat → Nat} {ca : Nat → ClassId} {h : Hp} {i : Nat} (hi : i < 76) : (wsN (nW ad) ad ca h)[i]? = some (ad i, wcell ad ca (h i) i) := wsN_get (Nat.lt_of_lt_of_le hi (Nat.le_add_right 76 _))
/-- the methods: owner, name, bytes, locals, what it returns, its rows, its room, the cells that it may make, whose it is -/
abbrev MI : Type := String × MethodName × ByteArray × Nat × Option FieldType × List (Nat × Instr × Nat × Nat) × Room × Nat × Nat
def mO (M : MI) : String := M.1
def mY (M : MI) : MethodName := M.2.1
def mC (M : MI) : ByteArray := M.2.2.1
def mN (M : MI) : Nat := M.2.2.2.1
def mR (M : MI) : Option FieldType := M.2.2.2.2.1
def mT (M : MI) : List (Nat × Instr × Nat × Nat) := M.2.2.2.2.2.1
def rmM (M : MI) : Room := M.2.2.2.2.2.2.1
/-- how many cells a call of it may make, of 12 places each -/
def mB (M : MI) : Nat := M.2.2.2.2.2.2.2.1
/-- 0: the class's; 1: the law's; 2: the law -/
def mF (M : MI) : Nat := M.2.2.2.2.2.2.2.2
def pcO (M : MI) (k : Nat) : Nat := ((mT M).getD k (0, .nop, 0, 0)).1
def okJ (i : Instr) (pc t : Int) : Bool := match i with
  | .if_icmp _ o => decide (pc + o = t)
  | .ifCond _ o => decide (pc + o = t)
  | .goto o => decide (pc + o = t)
  | .ifnull o => decide (pc + o = t)
  | .ifnonnull o => decide (pc + o = t)
  | _ => true
def nxJ (i : Instr) : Bool := match i with
  | .goto _ => true
  | .ireturn => true
  | .return_ => true
  | .tableswitch .. => true
  | .lookupswitch .. => true
  | _ => false
def okE (M : MI) (k : Nat) (q : Nat × Instr × Nat × Nat) : Bool := decide (decode (mC M) q.1 = .ok (q.2.1, q.2.2.1)) && okJ q.2.1 (q.1 : Int) (pcO M q.2.2.2 : Int) && (nxJ q.2.1 || decide (pcO M (k + 1) = q.1 + q.2.2.1))
def okM (M : MI) : Bool := decide (pcO M 0 = 0) && (List.range (mT M).length).all (fun k => okE M k ((mT M).getD k (0, .nop, 0, 0)))
theorem okM_at {M : MI} (h : okM M = true) {k pc n t : Nat} {i : Instr} (hk : (mT M)[k]? = some (pc, i, n, t)) : decode (mC M) pc = .ok (i, n) ∧ okJ i pc (pcO M t) = true ∧ (nxJ i = false → pcO M (k + 1) = pc + n) ∧ pcO M k = pc := by
  have hl := (List.getElem?_eq_some_iff.mp hk).1
  have hg : (mT M).getD k (0, .nop, 0, 0) = (pc, i, n, t) := by rw [List.getD_eq_getElem?_getD, hk]; rfl
  unfold okM at h
  simp only [Bool.and_eq_true] at h
  have h1 := List.all_eq_true.mp h.2 k (List.mem_range.mpr hl)
  rw [hg] at h1
  unfold okE at h1
  simp only [Bool.and_eq_true, Bool.or_eq_true, decide_eq_true_eq] at h1
  refine ⟨h1.1.1, h1.1.2, fun hn => ?_, ?_⟩
  · rcases h1.2 with h2 | h2
    · rw [hn] at h2; cases h2
    · exact h2
  · show ((mT M).getD k (0, .nop, 0, 0)).1 = pc
    rw [hg]
def wsM (M : MI) : List Cond := Cond.code (mY M) (mC M) (mN M) (mR M) :: lwT
/-- what stands ready ahead of all: the static rows -/
def SF (base : Nat) (ad : Nat → Nat) (s : State) : Prop :=
  (∀ i, 84 ≤ i → i < 87 → va_T .int (ad i) 7 (fun k => .int (Int32.ofInt (sA i k))) (fun q => base ≤ q) s s.heap ∧ va_Z "OddUmbrellas" (sN i) "[I" (.ref (ad i)) (fun q => base ≤ q) s s.heap) ∧ True
def CX (base : Nat) (D : va_G) (ca : Nat → ClassId) (ad : Nat → Nat) (s : State) : Prop := va_K D vwCl (tysOf ca) s ∧ lwN s ∧ SF base ad s
def WD (base : Nat) (D : va_G) (ca : Nat → ClassId) (ad : Nat → Nat) (h : Hp) (H : Heap) : Prop := va_P D vwCl (wsN (nW ad) ad ca h) H ∧ va_D (fun q => base ≤ q) (wsN (nW ad) ad ca h)
theorem CX.at {base : Nat} {D : va_G} {ca : Nat → ClassId} {ad : Nat → Nat} {s U : State} (h : CX base D ca ad s) (hv : s.WarmedH U.vm) (hq : ∀ a : Nat, a < s.heap.size → ¬ base ≤ a → U.heap[a]? = s.heap[a]?) : CX base D ca ad U := by
  obtain ⟨hK, hN, h1, -⟩ := h
  have ha := hv.alike
  refine ⟨hK.moved ha, hN.warm hv, fun i a b => ?_, True.intro⟩
  obtain ⟨q1, q2⟩ := h1 i a b
  exact ⟨(q1.moved ha).kept hq, (q2.moved ha).kept hq⟩
def PcO (M : MI) (base : Nat) (D : va_G) (ca : Nat → ClassId) (ad : Nat → Nat) (av : List AV) (h : Hp) : Array Value → State → Prop := va_Pc (av.map (mv ad)) (fun U => CX base D ca ad U ∧ WD base D ca ad h U.heap)
def isL (t : FieldType) : Bool := match t with
  | .long => true
  | _ => false
def isLo (t : Option FieldType) : Bool := match t with
  | some t => isL t
  | none => false
def QcO (M : MI) (base : Nat) (D : va_G) (ca : Nat → ClassId) (ad : Nat → Nat) (r : Int) (h' : Hp) : Array Value → State → Outcome → State → Prop := match mR M with
  | none => va_Qv (S := Unit) (fun _ => True) (fun _ t => WD base D ca ad h' t.heap) (fun q => base ≤ q)
  | some ty => if isL ty = true then va_Ql (S := Unit) (fun x _ => x = Int64.ofInt r) (fun _ t => WD base D ca ad h' t.heap) (fun q => base ≤ q) else va_Qi (S := Unit) (fun x _ => x = Int32.ofInt r) (fun _ t => WD base D ca ad h' t.heap) (fun q => base ≤ q)
theorem QcO_v {M : MI} {base : Nat} {D : va_G} {ca : Nat → ClassId} {ad : Nat → Nat} {r : Int} {h' : Hp} (hr : mR M = none) : QcO M base D ca ad r h' = va_Qv (S := Unit) (fun _ => True) (fun _ t => WD base D ca ad h' t.heap) (fun q => base ≤ q) := by unfold QcO; rw [hr]
theorem QcO_i {M : MI} {base : Nat} {D : va_G} {ca : Nat → ClassId} {ad : Nat → Nat} {r : Int} {h' : Hp} {ty : FieldType} (hr : mR M = some ty) (hl : isL ty = false) : QcO M base D ca ad r h' = va_Qi (S := Unit) (fun x _ => x = Int32.ofInt r) (fun _ t => WD base D ca ad h' t.heap) (fun q => base ≤ q) := by
  unfold QcO
  rw [hr]
  show (if isL ty = true then _ else _) = _
  rw [if_neg (by rw [hl]; decide)]
theorem QcO_l {M : MI} {base : Nat} {D : va_G} {ca : Nat → ClassId} {ad : Nat → Nat} {r : Int} {h' : Hp} (hr : mR M = some .long) : QcO M base D ca ad r h' = va_Ql (S := Unit) (fun x _ => x = Int64.ofInt r) (fun _ t => WD base D ca ad h' t.heap) (fun q => base ≤ q) := by
  unfold QcO
  rw [hr]
  show (if isL .long = true then _ else _) = _
  rw [if_pos (show isL .long = true from rfl)]
/-- what a method answers is a number of 32 digits of two, but where it is a long -/
def rR (M : MI) (r : Int) : Prop := isLo (mR M) = false → iR r
/-- of the law's methods: how many rows of the law the world has -/
def okX (M : MI) (x : Nat) (ad : Nat → Nat) : Prop := mF M ≠ 0 → nW ad = 76 + x
/-- a method's contract: if e is an answer and a heap, the method ends so -/
def Ct (M : MI) (av : List AV) (h : Hp) (e : Option (Int × Hp)) : Prop := LI h → hR h → (∀ v ∈ av, avR v) → ∀ r h', e = some (r, h') →
  (rR M r ∧ LI h' ∧ hR h') ∧ ∀ (l : Launch) (base : Nat) (D : va_G) (ca : Nat → ClassId) (ad : Nat → Nat), okX M 0 ad → Met l (mY M) (wsM M) (rmM M) (PcO M base D ca ad av h) (QcO M base D ca ad r h') (mB M) (12 * mB M) (fun q => base ≤ q)
/-- of the law alone: where its script lies -/
def lawS (s : State) (args : Array Value) (base : Nat) : Prop := base = s.heap.size ∧ ∃ (b L : Nat) (xs : Nat → Int32), args = #[Value.ref b] ∧ va_X b L xs s s.heap ∧ b < s.heap.size
def ZC (M : MI) (x : Nat) (p : Program) (s : State) (m : MethodId) (args : Array Value) (meth : Method) (c : Code) (base : Nat) (D : va_G) (ca : Nat → ClassId) (ad : Nat → Nat) : Prop :=
  (okM M = true ∧ okX M x ad ∧ (mF M = 2 → lawS s args base)) ∧ p.tables.exec = Jvm.exec ∧ c.code = mC M ∧ c.maxLocals = mN M ∧ meth.sig.returnType = mR M ∧ meth.locks = false ∧ s.vm.findClass (mO M) = some m.cls ∧ (∀ w ∈ lwT, w.before args s = true) ∧ CX base D ca ad s
/-- the locals -/
def LH (ad : Nat → Nat) (la : Array Slot) (n : Nat) (ls : List (Option AV)) : Prop := la.size = n ∧ lv_wf la ∧ ∀ (i : Nat) (v : AV), ls[i]? = some (some v) → la[i]? = some (.val (mv ad v))
/-- the end: the law's, or that of another method -/
def PQ (M : MI) (below : List Frame) (base : Nat) (D : va_G) (ca : Nat → ClassId) (ad : Nat → Nat) (r : Int) (h' : Hp) (args : Array Value) (s : State) : State → Prop := if mF M = 2 then lw_Z below args s else MQ below (QcO M base D ca ad r h') args s (mB M) (12 * mB M) (fun q => base ≤ q)
theorem PQ_n {M : MI} {below : List Frame} {base : Nat} {D : va_G} {ca : Nat → ClassId} {ad : Nat → Nat} {r : Int} {h' : Hp} {args : Array Value} {s : State} (hf : (mF M == 2) = false) : PQ M below base D ca ad r h' args s = MQ below (QcO M base D ca ad r h') args s (mB M) (12 * mB M) (fun q => base ≤ q) := if_neg (by simpa using hf)
def ZW (M : MI) (uu xw k : Nat) (ls : List (Option AV)) (st : List AV) (h : Hp) (r : Int) (h' : Hp) : Prop :=
  ∀ (p : Program) (l : Launch) (e : Env) (s : State) (m : MethodId) (args : Array Value) (below : List Frame) (meth : Method) (c : Code) (base : Nat) (D : va_G) (ca : Nat → ClassId) (ad : Nat → Nat) (H : Heap) (locs : List Loc) (la : Array Slot),
    ZC M xw p s m args meth c base D ca ad → LH ad la (mN M) ls → WD base D ca ad h H → va_S (fun q => base ≤ q) s.heap H locs →
    W p l e (rmM M) s m args below meth c H locs uu (12 * uu) (PQ M below base D ca ad r h' args s) (F0 m (pcO M k) la (st.map (mv ad)))
def Z (M : MI) (uu xw k : Nat) (ls : List (Option AV)) (st : List AV) (h : Hp) (e : Option (Int × Hp)) : Prop :=
  LI h → hR h → (∀ v ∈ st, avR v) → (∀ (i : Nat) (v : AV), ls[i]? = some (some v) → avR v) → ∀ r h', e = some (r, h') → (rR M r ∧ LI h' ∧ hR h') ∧ ZW M uu xw k ls st h r h'
def bd (e : Option (Int × Hp)) (K : Int → Hp → Option (Int × Hp)) : Option (Int × Hp) := match e with
  | none => none
  | some q => K q.1 q.2
theorem bd_s (r : Int) (h : Hp) (K : Int → Hp → Option (Int × Hp)) : bd (some (r, h)) K = K r h := rfl
theorem bd_n (K : Int → Hp → Option (Int × Hp)) : bd none K = none := rfl
theorem Z.nix {M : MI} {uu xw k : Nat} {ls : List (Option AV)} {st : List AV} {h : Hp} : Z M uu xw k ls st h none := fun _ _ _ _ _ _ he => by cases he
/-- fewer locals known -/
def wkL (ls ls' : List (Option AV)) : Prop := ∀ (i : Nat) (v : AV), ls'[i]? = some (some v) → ls[i]? = some (some v)
theorem Z.weak {M : MI} {uu xw k : Nat} {ls ls' : List (Option AV)} {st : List AV} {h : Hp} {e : Option (Int × Hp)} (hw : wkL ls ls') (z : Z M uu xw k ls' st h e) : Z M uu xw k ls st h e := by
  intro a b c d r h' he
  obtain ⟨z1, z2⟩ := z a b c (fun i v hi => d i v (hw i v hi)) r h' he
  exact ⟨z1, fun p l e s m args below meth c base D ca ad H locs la C L W0 S => z2 p l e s m args below meth c base D ca ad H locs la C ⟨L.1, L.2.1, fun i v hi => L.2.2 i v (hw i v hi)⟩ W0 S⟩
theorem wkL_nil (ls : List (Option AV)) : wkL ls [] := fun i v h => by simp at h
theorem wkL_n {a : Option AV} {ls ls' : List (Option AV)} (h : wkL ls ls') : wkL (a :: ls) (none :: ls') := by
  intro i v hi
  cases i with
  | zero => simp at hi
  | succ i => exact h i v hi
theorem wkL_c {a : Option AV} {ls ls' : List (Option AV)} (h : wkL ls ls') : wkL (a :: ls) (a :: ls') := by
  intro i v hi
  cases i with
  | zero => exact hi
  | succ i => exact h i v hi
end Ground
end
section
/-! the judgement Z, instruction by instruction: what moves no cell -/
section Steps1
theorem lh_at {ad : Nat → Nat} {la : Array Slot} {n : Nat} {ls : List (Option AV)} (h : LH ad la n ls) {i : Nat} {v : AV} (hi : ls[i]? = some (some v)) : la[i]? = some (.val (mv ad v)) := h.2.2 i v hi
/-- is the value ahead of a place one of two slots -/
def c2 (ls : List (Option AV)) (i : Nat) : Bool := match ls.getD (i - 1) none with
  | some v => decide (acat v = 2)
  | none => false
theorem lh_list {ad : Nat → Nat} {la : Array Slot} {n : Nat} {ls : List (Option AV)} (h : LH ad la n ls) : lv_has la n ((List.range ls.length).filterMap (fun i => match ls[i]? with
  | some (some v) => some (i, mv ad v)
  | _ => none)) := by
  refine ⟨h.1, h.2.1, fun q hq => ?_⟩
  obtain ⟨i, hi, hv⟩ := List.mem_filterMap.mp hq
  split at hv
  · rename_i v hv2
    cases hv
    exact h.2.2 i v hv2
  · cases hv
theorem lh_set {ad : Nat → Nat} {la' : Array Slot} {n i : Nat} {ls : List (Option AV)} {x : Value} {v : AV} (hx : x = mv ad v) (hc : c2 ls i = false)
    (h : lv_has la' n ((i, x) :: ((List.range ls.length).filterMap (fun i => match ls[i]? with
  | some (some v) => some (i, mv ad v)
  | _ => none)).filter (fun q => !(q.1 == i) && !(q.1 + 1 == i && q.2.category == 2)))) : LH ad la' n (ls.set i (some v)) := by
  refine ⟨h.1, h.2.1, fun j w hj => ?_⟩
  by_cases e : j = i
  · subst e
    by_cases hl : j < ls.length
    · rw [List.getElem?_set_self hl] at hj
      cases hj
      have h1 := h.2.2 (j, x) List.mem_cons_self
      rw [hx] at h1
      exact h1
    · rw [List.getElem?_eq_none (by simp; omega)] at hj
      cases hj
  · rw [List.getElem?_set_ne (fun q => e q.symm)] at hj
    have hjl := (List.getElem?_eq_some_iff.mp hj).1
    have h1 : (j, mv ad w) ∈ ((List.range ls.length).filterMap (fun i => match ls[i]? with
  | some (some v) => some (i, mv ad v)
  | _ => none)) := List.mem_filterMap.mpr ⟨j, List.mem_range.mpr hjl, by rw [hj]⟩
    refine h.2.2 (j, mv ad w) (List.mem_cons_of_mem _ (List.mem_filter.mpr ⟨h1, ?_⟩))
    simp only [Bool.and_eq_true, Bool.not_eq_true', beq_eq_false_iff_ne, ne_eq, Bool.and_eq_false_iff]
    refine ⟨e, ?_⟩
    by_cases e2 : j + 1 = i
    · right
      intro h2
      rw [acat_mv] at h2
      subst e2
      unfold c2 at hc
      rw [List.getD_eq_getElem?_getD, Nat.add_sub_cancel, hj] at hc
      simp [h2] at hc
    · left
      exact e2
/-- a step that moves no cell and no local -/
theorem Z.pure {M : MI} {uu xw k k2 : Nat} {ls : List (Option AV)} {st st2 : List AV} {h : Hp} {e : Option (Int × Hp)} (hr : (∀ v ∈ st, avR v) → (∀ (i : Nat) (v : AV), ls[i]? = some (some v) → avR v) → ∀ v ∈ st2, avR v)
    (hw : ∀ (p : Program) (l : Launch) (e : Env) (s : State) (m : MethodId) (args : Array Value) (below : List Frame) (meth : Method) (c : Code) (base : Nat) (D : va_G) (ca : Nat → ClassId) (ad : Nat → Nat) (H : Heap) (locs : List Loc) (la : Array Slot) (Q : State → Prop), (∀ v ∈ st, avR v) → (∀ (i : Nat) (v : AV), ls[i]? = some (some v) → avR v) →
      ZC M xw p s m args meth c base D ca ad → LH ad la (mN M) ls → WD base D ca ad h H → va_S (fun q => base ≤ q) s.heap H locs → LI h → hR h →
      W p l e (rmM M) s m args below meth c H locs uu (12 * uu) Q (F0 m (pcO M k2) la (st2.map (mv ad))) → W p l e (rmM M) s m args below meth c H locs uu (12 * uu) Q (F0 m (pcO M k) la (st.map (mv ad))))
    (kk : Z M uu xw k2 ls st2 h e) : Z M uu xw k ls st h e := by
  intro a b c d r h' he
  obtain ⟨z1, z2⟩ := kk a b (hr c d) d r h' he
  refine ⟨z1, ?_⟩
  intro p l e s m args below meth cc base D ca ad H locs la C L W0 S
  exact hw p l e s m args below meth cc base D ca ad H locs la _ c d C L W0 S a b (z2 p l e s m args below meth cc base D ca ad H locs la C L W0 S)
theorem avR_c {v : AV} {st : List AV} (h1 : avR v) (h2 : ∀ w ∈ st, avR w) : ∀ w ∈ v :: st, avR w := List.forall_mem_cons.mpr ⟨h1, h2⟩
theorem avR_i {x : Int} {st : List AV} (h1 : iR x) (h2 : ∀ w ∈ st, avR w) : ∀ w ∈ vi x :: st, avR w := avR_c (v := vi x) h1 h2
theorem avR_t {v : AV} {st : List AV} (h : ∀ w ∈ v :: st, avR w) : ∀ w ∈ st, avR w := (List.forall_mem_cons.mp h).2
theorem avR_h {v : AV} {st : List AV} (h : ∀ w ∈ v :: st, avR w) : avR v := (List.forall_mem_cons.mp h).1
variable {M : MI} {uu xw k pc t : Nat} {ls : List (Option AV)} {st : List AV} {h : Hp} {e e1 e2 : Option (Int × Hp)}
theorem z_iload_n {j : Fin 4} {x : Int} (hd : (mT M)[k]? = some (pc, .iload_n j, 1, t)) (hl : ls[(j : Nat)]? = some (some (vi x))) (kk : Z M uu xw (k + 1) ls (vi x :: st) h e) : Z M uu xw k ls st h e := by
  refine Z.pure (fun a b => avR_c (b _ _ hl) a) ?_ kk
  intro p l e s m args below meth c base D ca ad H locs la Q _ _ C L _ _ _ _ kk
  obtain ⟨o1, -, o3, o4⟩ := okM_at C.1.1 hd
  rw [o4]
  rw [o3 rfl] at kk
  exact lv_iload_n C.2.1 C.2.2.1 o1 rfl (lh_at L hl) kk
theorem z_iload {j : Nat} {x : Int} (hd : (mT M)[k]? = some (pc, .iload j, 2, t)) (hl : ls[j]? = some (some (vi x))) (kk : Z M uu xw (k + 1) ls (vi x :: st) h e) : Z M uu xw k ls st h e := by
  refine Z.pure (fun a b => avR_c (b _ _ hl) a) ?_ kk
  intro p l e s m args below meth c base D ca ad H locs la Q _ _ C L _ _ _ _ kk
  obtain ⟨o1, -, o3, o4⟩ := okM_at C.1.1 hd
  rw [o4]
  rw [o3 rfl] at kk
  exact lv_iload C.2.1 C.2.2.1 o1 (lh_at L hl) kk
theorem z_aload_n {j : Fin 4} {x : Nat} (hd : (mT M)[k]? = some (pc, .aload_n j, 1, t)) (hl : ls[(j : Nat)]? = some (some (vr x))) (kk : Z M uu xw (k + 1) ls (vr x :: st) h e) : Z M uu xw k ls st h e := by
  refine Z.pure (fun a b => avR_c (b _ _ hl) a) ?_ kk
  intro p l e s m args below meth c base D ca ad H locs la Q _ _ C L _ _ _ _ kk
  obtain ⟨o1, -, o3, o4⟩ := okM_at C.1.1 hd
  rw [o4]
  rw [o3 rfl] at kk
  exact lv_aload_n C.2.1 C.2.2.1 o1 rfl (lh_at L hl) kk
theorem z_aload {j : Nat} {x : Nat} (hd : (mT M)[k]? = some (pc, .aload j, 2, t)) (hl : ls[j]? = some (some (vr x))) (kk : Z M uu xw (k + 1) ls (vr x :: st) h e) : Z M uu xw k ls st h e := by
  refine Z.pure (fun a b => avR_c (b _ _ hl) a) ?_ kk
  intro p l e s m args below meth c base D ca ad H locs la Q _ _ C L _ _ _ _ kk
  obtain ⟨o1, -, o3, o4⟩ := okM_at C.1.1 hd
  rw [o4]
  rw [o3 rfl] at kk
  exact lv_aload C.2.1 C.2.2.1 o1 (lh_at L hl) kk
theorem z_iconst {x : Int} (hd : (mT M)[k]? = some (pc, .iconst x, 1, t)) (hx : (decide (-128 ≤ x) && decide (x < 128)) = true) (kk : Z M uu xw (k + 1) ls (vi x :: st) h e) : Z M uu xw k ls st h e := by
  simp only [Bool.and_eq_true, decide_eq_true_eq] at hx
  refine Z.pure (fun a b => avR_i (show iR x from ⟨by omega, by omega⟩) a) ?_ kk
  intro p l e s m args below meth c base D ca ad H locs la Q _ _ C L _ _ _ _ kk
  obtain ⟨o1, -, o3, o4⟩ := okM_at C.1.1 hd
  rw [o4]
  rw [o3 rfl] at kk
  exact lv_iconst C.2.1 C.2.2.1 o1 rfl kk
theorem i8_of {x : Int} (h1 : -128 ≤ x) (h2 : x < 128) : (Int8.ofInt x).toInt32 = Int32.ofInt x := by
  apply Int32.toInt.inj
  rw [Int8.toInt_toInt32, Int8.toInt_ofInt_of_le (by omega) (by omega), Int32.toInt_ofInt_of_le (by omega) (by omega)]
theorem i16_of {x : Int} (h1 : -32768 ≤ x) (h2 : x < 32768) : (Int16.ofInt x).toInt32 = Int32.ofInt x := by
  apply Int32.toInt.inj
  rw [Int16.toInt_toInt32, Int16.toInt_ofInt_of_le (by omega) (by omega), Int32.toInt_ofInt_of_le (by omega) (by omega)]
theorem z_bipush {x : Int} (hd : (mT M)[k]? = some (pc, .bipush x, 2, t)) (hx : (decide (-128 ≤ x) && decide (x < 128)) = true) (kk : Z M uu xw (k + 1) ls (vi x :: st) h e) : Z M uu xw k ls st h e := by
  simp only [Bool.and_eq_true, decide_eq_true_eq] at hx
  refine Z.pure (fun a b => avR_i (show iR x from ⟨by omega, by omega⟩) a) ?_ kk
  intro p l e s m args below meth c base D ca ad H locs la Q _ _ C L _ _ _ _ kk
  obtain ⟨o1, -, o3, o4⟩ := okM_at C.1.1 hd
  rw [o4]
  rw [o3 rfl] at kk
  exact lv_bipush C.2.1 C.2.2.1 o1 (i8_of hx.1 hx.2) kk
theorem z_sipush {x : Int} (hd : (mT M)[k]? = some (pc, .sipush x, 3, t)) (hx : (decide (-32768 ≤ x) && decide (x < 32768)) = true) (kk : Z M uu xw (k + 1) ls (vi x :: st) h e) : Z M uu xw k ls st h e := by
  simp only [Bool.and_eq_true, decide_eq_true_eq] at hx
  refine Z.pure (fun a b => avR_i (show iR x from ⟨by omega, by omega⟩) a) ?_ kk
  intro p l e s m args below meth c base D ca ad H locs la Q _ _ C L _ _ _ _ kk
  obtain ⟨o1, -, o3, o4⟩ := okM_at C.1.1 hd
  rw [o4]
  rw [o3 rfl] at kk
  exact lv_sipush C.2.1 C.2.2.1 o1 (i16_of hx.1 hx.2) kk
theorem z_ldc {x : Int} {ix : Nat} (hd : (mT M)[k]? = some (pc, .ldc ix, 2, t)) (hc : Cond.constant (mO M) ix (Int32.ofInt x) ∈ lwT) (hx : (decide (-2147483648 ≤ x) && decide (x < 2147483648)) = true) (kk : Z M uu xw (k + 1) ls (vi x :: st) h e) : Z M uu xw k ls st h e := by
  simp only [Bool.and_eq_true, decide_eq_true_eq] at hx
  refine Z.pure (fun a b => avR_i (show iR x from hx) a) ?_ kk
  intro p l e s m args below meth c base D ca ad H locs la Q _ _ C L _ _ _ _ kk
  obtain ⟨o1, -, o3, o4⟩ := okM_at C.1.1 hd
  rw [o4]
  rw [o3 rfl] at kk
  exact lv_ldc C.2.1 C.2.2.1 C.2.2.2.2.2.2.1 (C.2.2.2.2.2.2.2.1 _ hc) o1 kk
theorem z_iadd {x y : Int} (hd : (mT M)[k]? = some (pc, .iadd, 1, t)) (kk : Z M uu xw (k + 1) ls (vi (wr (x + y)) :: st) h e) : Z M uu xw k ls (vi y :: vi x :: st) h e := by
  refine Z.pure (fun a b => avR_i (wr_R _) (avR_t (avR_t a))) ?_ kk
  intro p l e s m args below meth c base D ca ad H locs la Q _ _ C L _ _ _ _ kk
  obtain ⟨o1, -, o3, o4⟩ := okM_at C.1.1 hd
  rw [o4]
  rw [o3 rfl] at kk
  refine lv_iadd C.2.1 C.2.2.1 o1 ?_
  rw [← Int32.ofInt_add, ← ofI_wr]
  exact kk
theorem z_isub {x y : Int} (hd : (mT M)[k]? = some (pc, .isub, 1, t)) (kk : Z M uu xw (k + 1) ls (vi (wr (x - y)) :: st) h e) : Z M uu xw k ls (vi y :: vi x :: st) h e := by
  refine Z.pure (fun a b => avR_i (wr_R _) (avR_t (avR_t a))) ?_ kk
  intro p l e s m args below meth c base D ca ad H locs la Q _ _ C L _ _ _ _ kk
  obtain ⟨o1, -, o3, o4⟩ := okM_at C.1.1 hd
  rw [o4]
  rw [o3 rfl] at kk
  refine lv_isub C.2.1 C.2.2.1 o1 ?_
  rw [← Int32.ofInt_sub, ← ofI_wr]
  exact kk
theorem z_imul {x y : Int} (hd : (mT M)[k]? = some (pc, .imul, 1, t)) (kk : Z M uu xw (k + 1) ls (vi (wr (x * y)) :: st) h e) : Z M uu xw k ls (vi y :: vi x :: st) h e := by
  refine Z.pure (fun a b => avR_i (wr_R _) (avR_t (avR_t a))) ?_ kk
  intro p l e s m args below meth c base D ca ad H locs la Q _ _ C L _ _ _ _ kk
  obtain ⟨o1, -, o3, o4⟩ := okM_at C.1.1 hd
  rw [o4]
  rw [o3 rfl] at kk
  refine lv_imul C.2.1 C.2.2.1 o1 ?_
  rw [← Int32.ofInt_mul, ← ofI_wr]
  exact kk
theorem z_ineg {x : Int} (hd : (mT M)[k]? = some (pc, .ineg, 1, t)) (kk : Z M uu xw (k + 1) ls (vi (wr (-x)) :: st) h e) : Z M uu xw k ls (vi x :: st) h e := by
  refine Z.pure (fun a b => avR_i (wr_R _) (avR_t a)) ?_ kk
  intro p l e s m args below meth c base D ca ad H locs la Q _ _ C L _ _ _ _ kk
  obtain ⟨o1, -, o3, o4⟩ := okM_at C.1.1 hd
  rw [o4]
  rw [o3 rfl] at kk
  refine lv_ineg C.2.1 C.2.2.1 o1 ?_
  rw [← Int32.ofInt_neg, ← ofI_wr]
  exact kk
theorem ofI_div {x y : Int} (hx : iR x) (hy : iR y) (h1 : y ≠ -1) : Int32.ofInt x / Int32.ofInt y = Int32.ofInt (wr (x.tdiv y)) := by
  rw [ofI_wr]
  apply Int32.toInt.inj
  rw [Int32.toInt_div, ofI_T hx, ofI_T hy, Int32.toInt_ofInt]
theorem z_idiv {x y : Int} (hd : (mT M)[k]? = some (pc, .idiv, 1, t)) (hy : (decide (0 < y)) = true) (kk : Z M uu xw (k + 1) ls (vi (wr (x.tdiv y)) :: st) h e) : Z M uu xw k ls (vi y :: vi x :: st) h e := by
  simp only [decide_eq_true_eq] at hy
  refine Z.pure (fun a b => avR_i (wr_R _) (avR_t (avR_t a))) ?_ kk
  intro p l e s m args below meth c base D ca ad H locs la Q a _ C L _ _ _ _ kk
  obtain ⟨o1, -, o3, o4⟩ := okM_at C.1.1 hd
  have ry : iR y := avR_h a
  have rx : iR x := avR_h (avR_t a)
  rw [o4]
  rw [o3 rfl] at kk
  refine lv_idiv C.2.1 C.2.2.1 o1 (fun z => ?_) ?_
  · rw [← ofI_0, ofI_inj ry iR_0] at z
    omega
  · rw [ofI_div rx ry (by omega)]
    exact kk
theorem z_irem {x y : Int} (hd : (mT M)[k]? = some (pc, .irem, 1, t)) (hy : (decide (0 < y)) = true) (kk : Z M uu xw (k + 1) ls (vi (wr (x - x.tdiv y * y)) :: st) h e) : Z M uu xw k ls (vi y :: vi x :: st) h e := by
  simp only [decide_eq_true_eq] at hy
  refine Z.pure (fun a b => avR_i (wr_R _) (avR_t (avR_t a))) ?_ kk
  intro p l e s m args below meth c base D ca ad H locs la Q a _ C L _ _ _ _ kk
  obtain ⟨o1, -, o3, o4⟩ := okM_at C.1.1 hd
  have ry : iR y := avR_h a
  have rx : iR x := avR_h (avR_t a)
  rw [o4]
  rw [o3 rfl] at kk
  refine lv_irem C.2.1 C.2.2.1 o1 (fun z => ?_) ?_
  · rw [← ofI_0, ofI_inj ry iR_0] at z
    omega
  · rw [ofI_div rx ry (by omega), ofI_wr, ← Int32.ofInt_mul, ← Int32.ofInt_sub, ← ofI_wr]
    exact kk
theorem z_pop {v : AV} (hd : (mT M)[k]? = some (pc, .pop, 1, t)) (hv : acat v = 1) (kk : Z M uu xw (k + 1) ls st h e) : Z M uu xw k ls (v :: st) h e := by
  refine Z.pure (fun a b => avR_t a) ?_ kk
  intro p l e s m args below meth c base D ca ad H locs la Q a _ C L _ _ _ _ kk
  obtain ⟨o1, -, o3, o4⟩ := okM_at C.1.1 hd
  rw [o4]
  rw [o3 rfl] at kk
  exact lv_pop C.2.1 C.2.2.1 o1 (by rw [acat_mv]; exact hv) kk
theorem z_dup {v : AV} (hd : (mT M)[k]? = some (pc, .dup, 1, t)) (hv : acat v = 1) (kk : Z M uu xw (k + 1) ls (v :: v :: st) h e) : Z M uu xw k ls (v :: st) h e := by
  refine Z.pure (fun a b => avR_c (avR_h a) a) ?_ kk
  intro p l e s m args below meth c base D ca ad H locs la Q a _ C L _ _ _ _ kk
  obtain ⟨o1, -, o3, o4⟩ := okM_at C.1.1 hd
  rw [o4]
  rw [o3 rfl] at kk
  exact lv_dup C.2.1 C.2.2.1 o1 (by rw [acat_mv]; exact hv) kk
theorem z_dup2 {v w : AV} (hd : (mT M)[k]? = some (pc, .dup2, 1, t)) (hv : acat v = 1) (hw : acat w = 1) (kk : Z M uu xw (k + 1) ls (v :: w :: v :: w :: st) h e) : Z M uu xw k ls (v :: w :: st) h e := by
  refine Z.pure (fun a b => avR_c (avR_h a) (avR_c (avR_h (avR_t a)) a)) ?_ kk
  intro p l e s m args below meth c base D ca ad H locs la Q a _ C L _ _ _ _ kk
  obtain ⟨o1, -, o3, o4⟩ := okM_at C.1.1 hd
  rw [o4]
  rw [o3 rfl] at kk
  exact lv_dup2_11 C.2.1 C.2.2.1 o1 (by rw [acat_mv]; exact hv) (by rw [acat_mv]; exact hw) kk
theorem z_goto {o : Int} (hd : (mT M)[k]? = some (pc, .goto o, 3, t)) (kk : Z M uu xw t ls st h e) : Z M uu xw k ls st h e := by
  refine Z.pure (fun a b => a) ?_ kk
  intro p l e s m args below meth c base D ca ad H locs la Q a _ C L _ _ _ _ kk
  obtain ⟨o1, o2, o3, o4⟩ := okM_at C.1.1 hd
  rw [o4]
  exact lv_goto C.2.1 C.2.2.1 o1 (of_decide_eq_true o2) kk
theorem z_ifnull {o : Int} {x : Nat} (hd : (mT M)[k]? = some (pc, .ifnull o, 3, t)) (kk : Z M uu xw (k + 1) ls st h e) : Z M uu xw k ls (vr x :: st) h e := by
  refine Z.pure (fun a b => avR_t a) ?_ kk
  intro p l e s m args below meth c base D ca ad H locs la Q a _ C L _ _ _ _ kk
  obtain ⟨o1, o2, o3, o4⟩ := okM_at C.1.1 hd
  rw [o4]
  rw [o3 rfl] at kk
  exact lv_ifnull C.2.1 C.2.2.1 o1 kk
/-- a branch -/
theorem Z.branch {t f : Nat} {st2 : List AV} {P : Prop} [Decidable P] (hr : (∀ v ∈ st, avR v) → ∀ v ∈ st2, avR v)
    (hw : ∀ (p : Program) (l : Launch) (e : Env) (s : State) (m : MethodId) (args : Array Value) (below : List Frame) (meth : Method) (c : Code) (base : Nat) (D : va_G) (ca : Nat → ClassId) (ad : Nat → Nat) (H : Heap) (locs : List Loc) (la : Array Slot) (Q : State → Prop), (∀ v ∈ st, avR v) →
      ZC M xw p s m args meth c base D ca ad →
      (P → W p l e (rmM M) s m args below meth c H locs uu (12 * uu) Q (F0 m (pcO M t) la (st2.map (mv ad)))) → (¬ P → W p l e (rmM M) s m args below meth c H locs uu (12 * uu) Q (F0 m (pcO M f) la (st2.map (mv ad)))) → W p l e (rmM M) s m args below meth c H locs uu (12 * uu) Q (F0 m (pcO M k) la (st.map (mv ad))))
    (kt : Z M uu xw t ls st2 h e1) (kf : Z M uu xw f ls st2 h e2) : Z M uu xw k ls st h (if P then e1 else e2) := by
  intro a b c d r h' he
  by_cases hP : P
  · rw [if_pos hP] at he
    obtain ⟨z1, z2⟩ := kt a b (hr c) d r h' he
    refine ⟨z1, ?_⟩
    intro p l e s m args below meth cc base D ca ad H locs la C L W0 S
    exact hw p l e s m args below meth cc base D ca ad H locs la _ c C (fun _ => z2 p l e s m args below meth cc base D ca ad H locs la C L W0 S) (fun hn => absurd hP hn)
  · rw [if_neg hP] at he
    obtain ⟨z1, z2⟩ := kf a b (hr c) d r h' he
    refine ⟨z1, ?_⟩
    intro p l e s m args below meth cc base D ca ad H locs la C L W0 S
    exact hw p l e s m args below meth cc base D ca ad H locs la _ c C (fun hp => absurd hp hP) (fun _ => z2 p l e s m args below meth cc base D ca ad H locs la C L W0 S)
theorem z_icmp_eq {o : Int} {x y : Int} (hd : (mT M)[k]? = some (pc, .if_icmp .eq o, 3, t)) (kt : Z M uu xw t ls st h e1) (kf : Z M uu xw (k + 1) ls st h e2) : Z M uu xw k ls (vi y :: vi x :: st) h (if x = y then e1 else e2) := by
  refine Z.branch (fun a => avR_t (avR_t a)) ?_ kt kf
  intro p l e s m args below meth c base D ca ad H locs la Q a C kt kf
  obtain ⟨o1, o2, o3, o4⟩ := okM_at C.1.1 hd
  have ry : iR y := avR_h a
  have rx : iR x := avR_h (avR_t a)
  rw [o4]
  rw [o3 rfl] at kf
  exact lv_icmp_eq C.2.1 C.2.2.1 o1 (of_decide_eq_true o2) (fun q => kt (by first | exact (ofI_inj rx ry).mp q | exact (ofI_lt rx ry).mp q | exact (ofI_le rx ry).mp q | exact (ofI_lt ry rx).mp q | exact (ofI_le ry rx).mp q | exact fun z => q ((ofI_inj rx ry).mpr z))) (fun q => kf (by first | exact fun z => z ((ofI_inj rx ry).mp q) | exact fun z => q ((ofI_inj rx ry).mpr z) | exact fun z => q ((ofI_lt rx ry).mpr z) | exact fun z => q ((ofI_le rx ry).mpr z) | exact fun z => q ((ofI_lt ry rx).mpr z) | exact fun z => q ((ofI_le ry rx).mpr z)))
theorem z_icmp_ne {o : Int} {x y : Int} (hd : (mT M)[k]? = some (pc, .if_icmp .ne o, 3, t)) (kt : Z M uu xw t ls st h e1) (kf : Z M uu xw (k + 1) ls st h e2) : Z M uu xw k ls (vi y :: vi x :: st) h (if ¬ x = y then e1 else e2) := by
  refine Z.branch (fun a => avR_t (avR_t a)) ?_ kt kf
  intro p l e s m args below meth c base D ca ad H locs la Q a C kt kf
  obtain ⟨o1, o2, o3, o4⟩ := okM_at C.1.1 hd
  have ry : iR y := avR_h a
  have rx : iR x := avR_h (avR_t a)
  rw [o4]
  rw [o3 rfl] at kf
  exact lv_icmp_ne C.2.1 C.2.2.1 o1 (of_decide_eq_true o2) (fun q => kt (by first | exact (ofI_inj rx ry).mp q | exact (ofI_lt rx ry).mp q | exact (ofI_le rx ry).mp q | exact (ofI_lt ry rx).mp q | exact (ofI_le ry rx).mp q | exact fun z => q ((ofI_inj rx ry).mpr z))) (fun q => kf (by first | exact fun z => z ((ofI_inj rx ry).mp q) | exact fun z => q ((ofI_inj rx ry).mpr z) | exact fun z => q ((ofI_lt rx ry).mpr z) | exact fun z => q ((ofI_le rx ry).mpr z) | exact fun z => q ((ofI_lt ry rx).mpr z) | exact fun z => q ((ofI_le ry rx).mpr z)))
theorem z_icmp_lt {o : Int} {x y : Int} (hd : (mT M)[k]? = some (pc, .if_icmp .lt o, 3, t)) (kt : Z M uu xw t ls st h e1) (kf : Z M uu xw (k + 1) ls st h e2) : Z M uu xw k ls (vi y :: vi x :: st) h (if x < y then e1 else e2) := by
  refine Z.branch (fun a => avR_t (avR_t a)) ?_ kt kf
  intro p l e s m args below meth c base D ca ad H locs la Q a C kt kf
  obtain ⟨o1, o2, o3, o4⟩ := okM_at C.1.1 hd
  have ry : iR y := avR_h a
  have rx : iR x := avR_h (avR_t a)
  rw [o4]
  rw [o3 rfl] at kf
  exact lv_icmp_lt C.2.1 C.2.2.1 o1 (of_decide_eq_true o2) (fun q => kt (by first | exact (ofI_inj rx ry).mp q | exact (ofI_lt rx ry).mp q | exact (ofI_le rx ry).mp q | exact (ofI_lt ry rx).mp q | exact (ofI_le ry rx).mp q | exact fun z => q ((ofI_inj rx ry).mpr z))) (fun q => kf (by first | exact fun z => z ((ofI_inj rx ry).mp q) | exact fun z => q ((ofI_inj rx ry).mpr z) | exact fun z => q ((ofI_lt rx ry).mpr z) | exact fun z => q ((ofI_le rx ry).mpr z) | exact fun z => q ((ofI_lt ry rx).mpr z) | exact fun z => q ((ofI_le ry rx).mpr z)))
theorem z_icmp_ge {o : Int} {x y : Int} (hd : (mT M)[k]? = some (pc, .if_icmp .ge o, 3, t)) (kt : Z M uu xw t ls st h e1) (kf : Z M uu xw (k + 1) ls st h e2) : Z M uu xw k ls (vi y :: vi x :: st) h (if y ≤ x then e1 else e2) := by
  refine Z.branch (fun a => avR_t (avR_t a)) ?_ kt kf
  intro p l e s m args below meth c base D ca ad H locs la Q a C kt kf
  obtain ⟨o1, o2, o3, o4⟩ := okM_at C.1.1 hd
  have ry : iR y := avR_h a
  have rx : iR x := avR_h (avR_t a)
  rw [o4]
  rw [o3 rfl] at kf
  exact lv_icmp_ge C.2.1 C.2.2.1 o1 (of_decide_eq_true o2) (fun q => kt (by first | exact (ofI_inj rx ry).mp q | exact (ofI_lt rx ry).mp q | exact (ofI_le rx ry).mp q | exact (ofI_lt ry rx).mp q | exact (ofI_le ry rx).mp q | exact fun z => q ((ofI_inj rx ry).mpr z))) (fun q => kf (by first | exact fun z => z ((ofI_inj rx ry).mp q) | exact fun z => q ((ofI_inj rx ry).mpr z) | exact fun z => q ((ofI_lt rx ry).mpr z) | exact fun z => q ((ofI_le rx ry).mpr z) | exact fun z => q ((ofI_lt ry rx).mpr z) | exact fun z => q ((ofI_le ry rx).mpr z)))
theorem z_icmp_gt {o : Int} {x y : Int} (hd : (mT M)[k]? = some (pc, .if_icmp .gt o, 3, t)) (kt : Z M uu xw t ls st h e1) (kf : Z M uu xw (k + 1) ls st h e2) : Z M uu xw k ls (vi y :: vi x :: st) h (if y < x then e1 else e2) := by
  refine Z.branch (fun a => avR_t (avR_t a)) ?_ kt kf
  intro p l e s m args below meth c base D ca ad H locs la Q a C kt kf
  obtain ⟨o1, o2, o3, o4⟩ := okM_at C.1.1 hd
  have ry : iR y := avR_h a
  have rx : iR x := avR_h (avR_t a)
  rw [o4]
  rw [o3 rfl] at kf
  exact lv_icmp_gt C.2.1 C.2.2.1 o1 (of_decide_eq_true o2) (fun q => kt (by first | exact (ofI_inj rx ry).mp q | exact (ofI_lt rx ry).mp q | exact (ofI_le rx ry).mp q | exact (ofI_lt ry rx).mp q | exact (ofI_le ry rx).mp q | exact fun z => q ((ofI_inj rx ry).mpr z))) (fun q => kf (by first | exact fun z => z ((ofI_inj rx ry).mp q) | exact fun z => q ((ofI_inj rx ry).mpr z) | exact fun z => q ((ofI_lt rx ry).mpr z) | exact fun z => q ((ofI_le rx ry).mpr z) | exact fun z => q ((ofI_lt ry rx).mpr z) | exact fun z => q ((ofI_le ry rx).mpr z)))
theorem z_icmp_le {o : Int} {x y : Int} (hd : (mT M)[k]? = some (pc, .if_icmp .le o, 3, t)) (kt : Z M uu xw t ls st h e1) (kf : Z M uu xw (k + 1) ls st h e2) : Z M uu xw k ls (vi y :: vi x :: st) h (if x ≤ y then e1 else e2) := by
  refine Z.branch (fun a => avR_t (avR_t a)) ?_ kt kf
  intro p l e s m args below meth c base D ca ad H locs la Q a C kt kf
  obtain ⟨o1, o2, o3, o4⟩ := okM_at C.1.1 hd
  have ry : iR y := avR_h a
  have rx : iR x := avR_h (avR_t a)
  rw [o4]
  rw [o3 rfl] at kf
  exact lv_icmp_le C.2.1 C.2.2.1 o1 (of_decide_eq_true o2) (fun q => kt (by first | exact (ofI_inj rx ry).mp q | exact (ofI_lt rx ry).mp q | exact (ofI_le rx ry).mp q | exact (ofI_lt ry rx).mp q | exact (ofI_le ry rx).mp q | exact fun z => q ((ofI_inj rx ry).mpr z))) (fun q => kf (by first | exact fun z => z ((ofI_inj rx ry).mp q) | exact fun z => q ((ofI_inj rx ry).mpr z) | exact fun z => q ((ofI_lt rx ry).mpr z) | exact fun z => q ((ofI_le rx ry).mpr z) | exact fun z => q ((ofI_lt ry rx).mpr z) | exact fun z => q ((ofI_le ry rx).mpr z)))
theorem z_if_eq {o : Int} {x : Int} (hd : (mT M)[k]? = some (pc, .ifCond .eq o, 3, t)) (kt : Z M uu xw t ls st h e1) (kf : Z M uu xw (k + 1) ls st h e2) : Z M uu xw k ls (vi x :: st) h (if x = 0 then e1 else e2) := by
  refine Z.branch (fun a => avR_t a) ?_ kt kf
  intro p l e s m args below meth c base D ca ad H locs la Q a C kt kf
  obtain ⟨o1, o2, o3, o4⟩ := okM_at C.1.1 hd
  have rx : iR x := avR_h a
  have ry := iR_0
  rw [o4]
  rw [o3 rfl] at kf
  exact lv_if_eq C.2.1 C.2.2.1 o1 (of_decide_eq_true o2) (fun q => kt (by first | exact (ofI_inj rx ry).mp q | exact (ofI_lt rx ry).mp q | exact (ofI_le rx ry).mp q | exact (ofI_lt ry rx).mp q | exact (ofI_le ry rx).mp q | exact fun z => q ((ofI_inj rx ry).mpr z))) (fun q => kf (by first | exact fun z => z ((ofI_inj rx ry).mp q) | exact fun z => q ((ofI_inj rx ry).mpr z) | exact fun z => q ((ofI_lt rx ry).mpr z) | exact fun z => q ((ofI_le rx ry).mpr z) | exact fun z => q ((ofI_lt ry rx).mpr z) | exact fun z => q ((ofI_le ry rx).mpr z)))
theorem z_if_ne {o : Int} {x : Int} (hd : (mT M)[k]? = some (pc, .ifCond .ne o, 3, t)) (kt : Z M uu xw t ls st h e1) (kf : Z M uu xw (k + 1) ls st h e2) : Z M uu xw k ls (vi x :: st) h (if ¬ x = 0 then e1 else e2) := by
  refine Z.branch (fun a => avR_t a) ?_ kt kf
  intro p l e s m args below meth c base D ca ad H locs la Q a C kt kf
  obtain ⟨o1, o2, o3, o4⟩ := okM_at C.1.1 hd
  have rx : iR x := avR_h a
  have ry := iR_0
  rw [o4]
  rw [o3 rfl] at kf
  exact lv_if_ne C.2.1 C.2.2.1 o1 (of_decide_eq_true o2) (fun q => kt (by first | exact (ofI_inj rx ry).mp q | exact (ofI_lt rx ry).mp q | exact (ofI_le rx ry).mp q | exact (ofI_lt ry rx).mp q | exact (ofI_le ry rx).mp q | exact fun z => q ((ofI_inj rx ry).mpr z))) (fun q => kf (by first | exact fun z => z ((ofI_inj rx ry).mp q) | exact fun z => q ((ofI_inj rx ry).mpr z) | exact fun z => q ((ofI_lt rx ry).mpr z) | exact fun z => q ((ofI_le rx ry).mpr z) | exact fun z => q ((ofI_lt ry rx).mpr z) | exact fun z => q ((ofI_le ry rx).mpr z)))
theorem z_if_lt {o : Int} {x : Int} (hd : (mT M)[k]? = some (pc, .ifCond .lt o, 3, t)) (kt : Z M uu xw t ls st h e1) (kf : Z M uu xw (k + 1) ls st h e2) : Z M uu xw k ls (vi x :: st) h (if x < 0 then e1 else e2) := by
  refine Z.branch (fun a => avR_t a) ?_ kt kf
  intro p l e s m args below meth c base D ca ad H locs la Q a C kt kf
  obtain ⟨o1, o2, o3, o4⟩ := okM_at C.1.1 hd
  have rx : iR x := avR_h a
  have ry := iR_0
  rw [o4]
  rw [o3 rfl] at kf
  exact lv_if_lt C.2.1 C.2.2.1 o1 (of_decide_eq_true o2) (fun q => kt (by first | exact (ofI_inj rx ry).mp q | exact (ofI_lt rx ry).mp q | exact (ofI_le rx ry).mp q | exact (ofI_lt ry rx).mp q | exact (ofI_le ry rx).mp q | exact fun z => q ((ofI_inj rx ry).mpr z))) (fun q => kf (by first | exact fun z => z ((ofI_inj rx ry).mp q) | exact fun z => q ((ofI_inj rx ry).mpr z) | exact fun z => q ((ofI_lt rx ry).mpr z) | exact fun z => q ((ofI_le rx ry).mpr z) | exact fun z => q ((ofI_lt ry rx).mpr z) | exact fun z => q ((ofI_le ry rx).mpr z)))
theorem z_if_ge {o : Int} {x : Int} (hd : (mT M)[k]? = some (pc, .ifCond .ge o, 3, t)) (kt : Z M uu xw t ls st h e1) (kf : Z M uu xw (k + 1) ls st h e2) : Z M uu xw k ls (vi x :: st) h (if 0 ≤ x then e1 else e2) := by
  refine Z.branch (fun a => avR_t a) ?_ kt kf
  intro p l e s m args below meth c base D ca ad H locs la Q a C kt kf
  obtain ⟨o1, o2, o3, o4⟩ := okM_at C.1.1 hd
  have rx : iR x := avR_h a
  have ry := iR_0
  rw [o4]
  rw [o3 rfl] at kf
  exact lv_if_ge C.2.1 C.2.2.1 o1 (of_decide_eq_true o2) (fun q => kt (by first | exact (ofI_inj rx ry).mp q | exact (ofI_lt rx ry).mp q | exact (ofI_le rx ry).mp q | exact (ofI_lt ry rx).mp q | exact (ofI_le ry rx).mp q | exact fun z => q ((ofI_inj rx ry).mpr z))) (fun q => kf (by first | exact fun z => z ((ofI_inj rx ry).mp q) | exact fun z => q ((ofI_inj rx ry).mpr z) | exact fun z => q ((ofI_lt rx ry).mpr z) | exact fun z => q ((ofI_le rx ry).mpr z) | exact fun z => q ((ofI_lt ry rx).mpr z) | exact fun z => q ((ofI_le ry rx).mpr z)))
theorem z_if_gt {o : Int} {x : Int} (hd : (mT M)[k]? = some (pc, .ifCond .gt o, 3, t)) (kt : Z M uu xw t ls st h e1) (kf : Z M uu xw (k + 1) ls st h e2) : Z M uu xw k ls (vi x :: st) h (if 0 < x then e1 else e2) := by
  refine Z.branch (fun a => avR_t a) ?_ kt kf
  intro p l e s m args below meth c base D ca ad H locs la Q a C kt kf
  obtain ⟨o1, o2, o3, o4⟩ := okM_at C.1.1 hd
  have rx : iR x := avR_h a
  have ry := iR_0
  rw [o4]
  rw [o3 rfl] at kf
  exact lv_if_gt C.2.1 C.2.2.1 o1 (of_decide_eq_true o2) (fun q => kt (by first | exact (ofI_inj rx ry).mp q | exact (ofI_lt rx ry).mp q | exact (ofI_le rx ry).mp q | exact (ofI_lt ry rx).mp q | exact (ofI_le ry rx).mp q | exact fun z => q ((ofI_inj rx ry).mpr z))) (fun q => kf (by first | exact fun z => z ((ofI_inj rx ry).mp q) | exact fun z => q ((ofI_inj rx ry).mpr z) | exact fun z => q ((ofI_lt rx ry).mpr z) | exact fun z => q ((ofI_le rx ry).mpr z) | exact fun z => q ((ofI_lt ry rx).mpr z) | exact fun z => q ((ofI_le ry rx).mpr z)))
theorem z_if_le {o : Int} {x : Int} (hd : (mT M)[k]? = some (pc, .ifCond .le o, 3, t)) (kt : Z M uu xw t ls st h e1) (kf : Z M uu xw (k + 1) ls st h e2) : Z M uu xw k ls (vi x :: st) h (if x ≤ 0 then e1 else e2) := by
  refine Z.branch (fun a => avR_t a) ?_ kt kf
  intro p l e s m args below meth c base D ca ad H locs la Q a C kt kf
  obtain ⟨o1, o2, o3, o4⟩ := okM_at C.1.1 hd
  have rx : iR x := avR_h a
  have ry := iR_0
  rw [o4]
  rw [o3 rfl] at kf
  exact lv_if_le C.2.1 C.2.2.1 o1 (of_decide_eq_true o2) (fun q => kt (by first | exact (ofI_inj rx ry).mp q | exact (ofI_lt rx ry).mp q | exact (ofI_le rx ry).mp q | exact (ofI_lt ry rx).mp q | exact (ofI_le ry rx).mp q | exact fun z => q ((ofI_inj rx ry).mpr z))) (fun q => kf (by first | exact fun z => z ((ofI_inj rx ry).mp q) | exact fun z => q ((ofI_inj rx ry).mpr z) | exact fun z => q ((ofI_lt rx ry).mpr z) | exact fun z => q ((ofI_le rx ry).mpr z) | exact fun z => q ((ofI_lt ry rx).mpr z) | exact fun z => q ((ofI_le ry rx).mpr z)))
end Steps1
end
section
/-! the judgement Z, instruction by instruction: locals, cells, ends, calls -/
section Steps2
variable {M : MI} {uu xw k pc t : Nat} {ls : List (Option AV)} {st : List AV} {h : Hp} {e e1 e2 : Option (Int × Hp)}
theorem lsR_set {ls : List (Option AV)} {j : Nat} {v : AV} (hv : avR v) (b : ∀ (i : Nat) (v : AV), ls[i]? = some (some v) → avR v) : ∀ (i : Nat) (w : AV), (ls.set j (some v))[i]? = some (some w) → avR w := by
  intro i w hi
  by_cases e : i = j
  · subst e
    by_cases hl : i < ls.length
    · rw [List.getElem?_set_self hl] at hi
      cases hi
      exact hv
    · rw [List.getElem?_eq_none (by simp; omega)] at hi
      cases hi
  · rw [List.getElem?_set_ne (fun q => e q.symm)] at hi
    exact b i w hi
/-- a step that stores a local -/
theorem Z.store {k2 j : Nat} {v : AV} {st2 : List AV} (hr : (∀ w ∈ st, avR w) → (∀ (i : Nat) (v : AV), ls[i]? = some (some v) → avR v) → avR v ∧ ∀ w ∈ st2, avR w)
    (hw : ∀ (p : Program) (l : Launch) (e : Env) (s : State) (m : MethodId) (args : Array Value) (below : List Frame) (meth : Method) (c : Code) (base : Nat) (D : va_G) (ca : Nat → ClassId) (ad : Nat → Nat) (H : Heap) (locs : List Loc) (la : Array Slot) (Q : State → Prop),
      ZC M xw p s m args meth c base D ca ad → LH ad la (mN M) ls →
      (∀ la' : Array Slot, LH ad la' (mN M) (ls.set j (some v)) → W p l e (rmM M) s m args below meth c H locs uu (12 * uu) Q (F0 m (pcO M k2) la' (st2.map (mv ad)))) → W p l e (rmM M) s m args below meth c H locs uu (12 * uu) Q (F0 m (pcO M k) la (st.map (mv ad))))
    (kk : Z M uu xw k2 (ls.set j (some v)) st2 h e) : Z M uu xw k ls st h e := by
  intro a b c d r h' he
  obtain ⟨r1, r2⟩ := hr c d
  obtain ⟨z1, z2⟩ := kk a b r2 (lsR_set r1 d) r h' he
  refine ⟨z1, ?_⟩
  intro p l e s m args below meth cc base D ca ad H locs la C L W0 S
  exact hw p l e s m args below meth cc base D ca ad H locs la _ C L (fun la' L' => z2 p l e s m args below meth cc base D ca ad H locs la' C L' W0 S)
theorem z_istore_n {j : Fin 4} {x : Int} (hd : (mT M)[k]? = some (pc, .istore_n j, 1, t)) (hc : (decide ((j : Nat) < mN M) && !(c2 ls j)) = true) (kk : Z M uu xw (k + 1) (ls.set j (some (vi x))) st h e) : Z M uu xw k ls (vi x :: st) h e := by
  simp only [Bool.and_eq_true, decide_eq_true_eq, Bool.not_eq_true'] at hc
  refine Z.store (fun a b => ⟨avR_h a, avR_t a⟩) ?_ kk
  intro p l e s m args below meth c base D ca ad H locs la Q C L kk
  obtain ⟨o1, -, o3, o4⟩ := okM_at C.1.1 hd
  rw [o4]
  rw [o3 rfl] at kk
  exact lv_istore_n C.2.1 C.2.2.1 o1 rfl (lh_list L) hc.1 rfl (fun ls' hl => kk ls' (lh_set rfl hc.2 hl))
theorem z_istore {j : Nat} {x : Int} (hd : (mT M)[k]? = some (pc, .istore j, 2, t)) (hc : (decide (j < mN M) && !(c2 ls j)) = true) (kk : Z M uu xw (k + 1) (ls.set j (some (vi x))) st h e) : Z M uu xw k ls (vi x :: st) h e := by
  simp only [Bool.and_eq_true, decide_eq_true_eq, Bool.not_eq_true'] at hc
  refine Z.store (fun a b => ⟨avR_h a, avR_t a⟩) ?_ kk
  intro p l e s m args below meth c base D ca ad H locs la Q C L kk
  obtain ⟨o1, -, o3, o4⟩ := okM_at C.1.1 hd
  rw [o4]
  rw [o3 rfl] at kk
  exact lv_istore C.2.1 C.2.2.1 o1 (lh_list L) hc.1 rfl (fun ls' hl => kk ls' (lh_set rfl hc.2 hl))
theorem z_astore_n {j : Fin 4} {x : Nat} (hd : (mT M)[k]? = some (pc, .astore_n j, 1, t)) (hc : (decide ((j : Nat) < mN M) && !(c2 ls j)) = true) (kk : Z M uu xw (k + 1) (ls.set j (some (vr x))) st h e) : Z M uu xw k ls (vr x :: st) h e := by
  simp only [Bool.and_eq_true, decide_eq_true_eq, Bool.not_eq_true'] at hc
  refine Z.store (fun a b => ⟨avR_h a, avR_t a⟩) ?_ kk
  intro p l e s m args below meth c base D ca ad H locs la Q C L kk
  obtain ⟨o1, -, o3, o4⟩ := okM_at C.1.1 hd
  rw [o4]
  rw [o3 rfl] at kk
  exact lv_astore_n C.2.1 C.2.2.1 o1 rfl (lh_list L) hc.1 rfl (fun ls' hl => kk ls' (lh_set rfl hc.2 hl))
theorem z_iinc {j : Nat} {n x : Int} (hd : (mT M)[k]? = some (pc, .iinc j n, 3, t)) (hl : ls[j]? = some (some (vi x))) (hc : (decide (j < mN M) && !(c2 ls j)) = true) (kk : Z M uu xw (k + 1) (ls.set j (some (vi (wr (x + n))))) st h e) : Z M uu xw k ls st h e := by
  simp only [Bool.and_eq_true, decide_eq_true_eq, Bool.not_eq_true'] at hc
  refine Z.store (v := vi (wr (x + n))) (fun a b => ⟨wr_R (x + n), a⟩) ?_ kk
  intro p l e s m args below meth c base D ca ad H locs la Q C L kk
  obtain ⟨o1, -, o3, o4⟩ := okM_at C.1.1 hd
  rw [o4]
  rw [o3 rfl] at kk
  have hm : (j, Value.int (Int32.ofInt x)) ∈ ((List.range ls.length).filterMap (fun i => match ls[i]? with
    | some (some v) => some (i, mv ad v)
    | _ => none)) := List.mem_filterMap.mpr ⟨j, List.mem_range.mpr (List.getElem?_eq_some_iff.mp hl).1, by rw [hl]; rfl⟩
  obtain ⟨q, hq⟩ := List.getElem?_of_mem hm
  exact lv_iinc C.2.1 C.2.2.1 o1 (lh_list L) hq (by rw [← Int32.ofInt_add]) hc.1 rfl (fun ls' hl' => kk ls' (lh_set (by show Value.int _ = Value.int _; rw [ofI_wr]) hc.2 hl'))
/-! cells -/
theorem inT0 : ∀ w ∈ u_ws RX0 TX0 10, w ∈ lwT := fun w hw => List.mem_filter.mpr ⟨inX0 w hw, List.all_eq_true.mp (show (u_ws RX0 TX0 10).all goodWord = true by decide +kernel) w hw⟩
theorem inT1 : ∀ w ∈ u_ws RX1 TX1 5, w ∈ lwT := fun w hw => List.mem_filter.mpr ⟨inX1 w hw, List.all_eq_true.mp (show (u_ws RX1 TX1 5).all goodWord = true by decide +kernel) w hw⟩
theorem inT2 : ∀ w ∈ u_ws RX2 TX2 2, w ∈ lwT := fun w hw => List.mem_filter.mpr ⟨inX2 w hw, List.all_eq_true.mp (show (u_ws RX2 TX2 2).all goodWord = true by decide +kernel) w hw⟩
theorem inT3 : ∀ w ∈ u_ws RX3 TX3 5, w ∈ lwT := fun w hw => List.mem_filter.mpr ⟨inX3 w hw, List.all_eq_true.mp (show (u_ws RX3 TX3 5).all goodWord = true by decide +kernel) w hw⟩
theorem inT4 : ∀ w ∈ u_ws RX4 TX4 10, w ∈ lwT := fun w hw => List.mem_filter.mpr ⟨inX4 w hw, List.all_eq_true.mp (show (u_ws RX4 TX4 10).all goodWord = true by decide +kernel) w hw⟩
/-- a kind of object, as the tables have it -/
def KO (ci : Nat) (R : String) (T : u_T) (ty : Nat → FieldType) (N : Nat) : Prop := vwCl[ci]? = some (R, T, N) ∧ N = vw_N ci ∧ ci < 10 ∧ (∀ w ∈ u_ws R T N, w ∈ lwT) ∧ (∀ k, k < N → parseFieldDescriptor (T k).2.2.1 = some (ty k)) ∧ (∀ a, a < N → ∀ b, b < N → a ≠ b → (T a).2.1 ≠ (T b).2.1)
theorem ko0 : KO 0 RX0 TX0 tyX0 10 := ⟨rfl, rfl, by omega, inT0, tyX0_ok, nmX0⟩
theorem ko1 : KO 1 RX1 TX1 tyX1 5 := ⟨rfl, rfl, by omega, inT1, tyX1_ok, nmX1⟩
theorem ko2 : KO 2 RX2 TX2 tyX2 2 := ⟨rfl, rfl, by omega, inT2, tyX2_ok, nmX2⟩
theorem ko3 : KO 3 RX3 TX3 tyX3 5 := ⟨rfl, rfl, by omega, inT3, tyX3_ok, nmX3⟩
theorem ko4 : KO 4 RX4 TX4 tyX4 10 := ⟨rfl, rfl, by omega, inT4, tyX4_ok, nmX4⟩
/-- an entry of a pool that is a field of a kind, of the same owner or of a nest mate -/
def FL (own : String) (ix ci f : Nat) : Prop := ∃ R T ty N, KO ci R T ty N ∧ f < N ∧ ((Cond.fieldLink own ix (T f).1 (T f).2.1 (T f).2.2.1 ∈ lwT) ∨ ∃ host, Cond.fieldLinkNest own ix (T f).1 (T f).2.1 (T f).2.2.1 host ∈ lw_tbl)
theorem wcell_o {ad : Nat → Nat} {ca : Nat → ClassId} {f : Nat → Int} {i ci : Nat} (hk : kd i = (ci, 0)) (hc : ci < 10) : wcell ad ca f i = .inr (ci, ofl ci ad f) := by
  unfold wcell
  rw [hk, if_neg (by show ¬ ci = 13; omega), if_neg (by show ¬ 10 ≤ ci; omega)]
theorem ofl_get {c k : Nat} {ad : Nat → Nat} {f : Nat → Int} (hk : k < vw_N c) : (ofl c ad f)[k]? = some (fvl c k ad (f k)) := by
  unfold ofl
  rw [List.getElem?_map, List.getElem?_range hk]
  rfl
theorem ofl_len {c : Nat} {ad : Nat → Nat} {f : Nat → Int} : (ofl c ad f).length = vw_N c := by simp [ofl]
theorem ofl_set {c k : Nat} {ad : Nat → Nat} {f : Nat → Int} {x : Int} {v : Value} (hv : v = fvl c k ad x) : (ofl c ad f).set k v = ofl c ad (fun b => if b = k then x else f b) := by
  subst hv
  apply List.ext_getElem?
  intro j
  by_cases hj : j < vw_N c
  · by_cases e : j = k
    · subst e
      rw [List.getElem?_set_self (by rw [ofl_len]; exact hj), ofl_get hj]
      simp
    · rw [List.getElem?_set_ne (fun q => e q.symm), ofl_get hj, ofl_get hj]
      simp [e]
  · rw [List.getElem?_eq_none (by simp [ofl_len]; omega), List.getElem?_eq_none (by rw [ofl_len]; omega)]
theorem fvl_i {c k : Nat} {ad : Nat → Nat} {z : Int} (ho : off c k = none) : fvl c k ad z = .int (Int32.ofInt z) := by
  unfold fvl
  rw [ho]
theorem fvl_r {c k o i : Nat} {ad : Nat → Nat} (ho : off c k = some o) : fvl c k ad ((i + o : Nat) : Int) = .ref (ad (i + o)) := by
  unfold fvl
  rw [ho]
  show va_rf (rfo ad _) = _
  unfold rfo
  rw [if_neg (by omega), Int.toNat_natCast]
  rfl
theorem hup_o {h : Hp} {i k j : Nat} {x : Int} (hj : j ≠ i) : hup h i k x j = h j := by
  funext b
  simp [hup, hj]
theorem hup_s {h : Hp} {i k : Nat} {x : Int} : hup h i k x i = fun b => if b = k then x else h i b := by
  funext b
  simp [hup]
theorem li_hup {h : Hp} {i k : Nat} {x : Int} (hL : LI h) (hi : i < 84) (ho : off (kd i).1 k = none) (h13 : (kd i).1 = 13 → x < 76) : LI (hup h i k x) := by
  refine ⟨fun a b o q => ?_, fun a b q1 q2 => ?_, fun a b q => ?_⟩
  · unfold hup
    rw [if_neg]
    · exact hL.1 a b o q
    · rintro ⟨rfl, rfl⟩
      rw [ho] at q
      cases q
  · unfold hup
    rw [if_neg (by omega)]
    exact hL.2.1 a b q1 q2
  · unfold hup
    split
    · rename_i z
      exact h13 (by rw [← z.1]; exact q)
    · exact hL.2.2 a b q
theorem z_getI {ix ci f i : Nat} (hd : (mT M)[k]? = some (pc, .getfield ix, 3, t)) (hl : FL (mO M) ix ci f) (ho : off ci f = none) (hk : kd i = (ci, 0)) (kk : Z M uu xw (k + 1) ls (vi (h i f) :: st) h e) : Z M uu xw k ls (vr i :: st) h e := by
  intro a b c d r h' he
  obtain ⟨z1, z2⟩ := kk a b (avR_i (b i f) (avR_t c)) d r h' he
  refine ⟨z1, ?_⟩
  intro p l e s m args below meth cc base D ca ad H locs la C L W0 S
  have z3 := z2 p l e s m args below meth cc base D ca ad H locs la C L W0 S
  obtain ⟨o1, -, o3, o4⟩ := okM_at C.1.1 hd
  rw [o4]
  rw [o3 rfl] at z3
  obtain ⟨R, T, ty, N, ⟨k1, k2, k3, k4, k5, k6⟩, hf, hn⟩ := hl
  have hi : i < 76 := kd_lt (c := ci) (by rw [hk]) (by omega)
  have hg := wsN_g7 (ad := ad) (ca := ca) (h := h) hi
  rw [wcell_o hk k3] at hg
  have hv : (ofl ci ad (h i))[f]? = some (.int (Int32.ofInt (h i f))) := by rw [ofl_get (by omega), fvl_i ho]
  rcases hn with hn | ⟨host, hn⟩
  · exact va_get C.2.1 C.2.2.1 C.2.2.2.2.2.2.2.1 k4 C.2.2.2.2.2.2.1 C.2.2.2.2.2.2.2.2.1 W0.1 i hg k1 f hf (C.2.2.2.2.2.2.2.1 _ hn) (fun _ q => q) hv o1 z3
  · exact va_getN C.2.1 C.2.2.1 C.2.2.2.2.2.2.2.1 k4 C.2.2.2.2.2.2.1 C.2.2.2.2.2.2.2.2.1 W0.1 i hg k1 f hf (va_Nw.use rfl (C.2.2.2.2.2.2.2.2.2.1 _ hn rfl)) (fun _ q => q) hv o1 z3
theorem z_getR {ix ci f i o : Nat} (hd : (mT M)[k]? = some (pc, .getfield ix, 3, t)) (hl : FL (mO M) ix ci f) (ho : off ci f = some o) (hk : kd i = (ci, 0)) (kk : Z M uu xw (k + 1) ls (vr (i + o) :: st) h e) : Z M uu xw k ls (vr i :: st) h e := by
  intro a b c d r h' he
  obtain ⟨z1, z2⟩ := kk a b (avR_c (v := vr (i + o)) True.intro (avR_t c)) d r h' he
  refine ⟨z1, ?_⟩
  intro p l e s m args below meth cc base D ca ad H locs la C L W0 S
  have z3 := z2 p l e s m args below meth cc base D ca ad H locs la C L W0 S
  obtain ⟨o1, -, o3, o4⟩ := okM_at C.1.1 hd
  rw [o4]
  rw [o3 rfl] at z3
  obtain ⟨R, T, ty, N, ⟨k1, k2, k3, k4, k5, k6⟩, hf, hn⟩ := hl
  have hi : i < 76 := kd_lt (c := ci) (by rw [hk]) (by omega)
  have hg := wsN_g7 (ad := ad) (ca := ca) (h := h) hi
  rw [wcell_o hk k3] at hg
  have hv : (ofl ci ad (h i))[f]? = some (.ref (ad (i + o))) := by rw [ofl_get (by omega), a.1 i f o (by rw [hk]; exact ho), fvl_r ho]
  rcases hn with hn | ⟨host, hn⟩
  · exact va_get C.2.1 C.2.2.1 C.2.2.2.2.2.2.2.1 k4 C.2.2.2.2.2.2.1 C.2.2.2.2.2.2.2.2.1 W0.1 i hg k1 f hf (C.2.2.2.2.2.2.2.1 _ hn) (fun _ q => q) hv o1 z3
  · exact va_getN C.2.1 C.2.2.1 C.2.2.2.2.2.2.2.1 k4 C.2.2.2.2.2.2.1 C.2.2.2.2.2.2.2.2.1 W0.1 i hg k1 f hf (va_Nw.use rfl (C.2.2.2.2.2.2.2.2.2.1 _ hn rfl)) (fun _ q => q) hv o1 z3
/-- an entry of a pool that is a field of whole numbers, not final -/
def FI (own : String) (ix ci f : Nat) : Prop := ∃ R T ty N, KO ci R T ty N ∧ f < N ∧ (T f).2.2.2 = false ∧ ty f = .int ∧ ((Cond.fieldLink own ix (T f).1 (T f).2.1 (T f).2.2.1 ∈ lwT) ∨ ∃ host, Cond.fieldLinkNest own ix (T f).1 (T f).2.1 (T f).2.2.1 host ∈ lw_tbl)
theorem z_putI {ix ci f i : Nat} {x : Int} (hd : (mT M)[k]? = some (pc, .putfield ix, 3, t)) (hl : FI (mO M) ix ci f) (ho : off ci f = none) (hk : kd i = (ci, 0)) (kk : Z M uu xw (k + 1) ls st (hup h i f x) e) : Z M uu xw k ls (vi x :: vr i :: st) h e := by
  intro a b c d r h' he
  obtain ⟨R, T, ty, N, ⟨k1, k2, k3, k4, k5, k6⟩, hf, hfin, hty, hn⟩ := hl
  have hi : i < 76 := kd_lt (c := ci) (by rw [hk]) (by omega)
  obtain ⟨z1, z2⟩ := kk (li_hup a (by omega) (by rw [hk]; exact ho) (fun q => by (rw [hk] at q; exact absurd (show ci = 13 from q) (by omega)))) (hR_hup b (avR_h c)) (avR_t (avR_t c)) d r h' he
  refine ⟨z1, ?_⟩
  intro p l e s m args below meth cc base D ca ad H locs la C L W0 S
  obtain ⟨o1, -, o3, o4⟩ := okM_at C.1.1 hd
  rw [o4]
  have hg := wsN_g7 (ad := ad) (ca := ca) (h := h) hi
  rw [wcell_o hk k3] at hg
  have key : ∀ (H1 : Heap) (locs1 : List Loc), va_P D vwCl ((wsN (nW ad) ad ca h).set i (ad i, .inr (ci, (ofl ci ad (h i)).set f (.int (Int32.ofInt x))))) H1 → va_D (fun q => base ≤ q) ((wsN (nW ad) ad ca h).set i (ad i, .inr (ci, (ofl ci ad (h i)).set f (.int (Int32.ofInt x))))) → va_S (fun q => base ≤ q) s.heap H1 locs1 →
      W p l e (rmM M) s m args below meth cc H1 locs1 uu (12 * uu) (PQ M below base D ca ad r h' args s) (F0 m (pc + 3) la (st.map (mv ad))) := by
    intro H1 locs1 w1 w2 w3
    have e1 : (wsN (nW ad) ad ca h).set i (ad i, .inr (ci, (ofl ci ad (h i)).set f (.int (Int32.ofInt x)))) = wsN (nW ad) ad ca (hup h i f x) := by
      apply wsN_set (fun j hj => hup_o hj)
      rw [wcell_o hk k3, hup_s, ofl_set (fvl_i ho).symm]
    rw [e1] at w1 w2
    have z3 := z2 p l e s m args below meth cc base D ca ad H1 locs1 la C L ⟨w1, w2⟩ w3
    rw [o3 rfl] at z3
    exact z3
  have hdd : parseFieldDescriptor (T f).2.2.1 = some .int := by rw [k5 f hf, hty]
  rcases hn with hn | ⟨host, hn⟩
  · exact va_put C.2.1 C.2.2.1 C.2.2.2.2.2.2.2.1 k4 ty k5 k6 C.2.2.2.2.2.2.1 C.2.2.2.2.2.2.2.2.1 W0.1 W0.2 S i hg k1 f hf (C.2.2.2.2.2.2.2.1 _ hn) (fun _ q => q) hfin hdd rfl rfl (by rw [ofl_len]; omega) o1 key
  · exact va_putN C.2.1 C.2.2.1 C.2.2.2.2.2.2.2.1 k4 ty k5 k6 C.2.2.2.2.2.2.1 C.2.2.2.2.2.2.2.2.1 W0.1 W0.2 S i hg k1 f hf (va_Nw.use rfl (C.2.2.2.2.2.2.2.2.2.1 _ hn rfl)) (fun _ q => q) hfin hdd rfl rfl (by rw [ofl_len]; omega) o1 key
theorem wcell_a {ad : Nat → Nat} {ca : Nat → ClassId} {f : Nat → Int} {i c n : Nat} (hk : kd i = (10 + c, n)) (hc : c < 3) : wcell ad ca f i = .inl (ca c, n, .inl (fun k => Int32.ofInt (f k))) := by
  unfold wcell
  rw [hk, if_neg (by show ¬ 10 + c = 13; omega), if_pos (by show 10 ≤ 10 + c; omega)]
  show Sum.inl (ca ((10 + c - 10) % 10), n, _) = _
  rw [Nat.add_sub_cancel_left, Nat.mod_eq_of_lt (by omega)]
theorem wcell_q {ad : Nat → Nat} {ca : Nat → ClassId} {f : Nat → Int} {i n : Nat} (hk : kd i = (13, n)) : wcell ad ca f i = .inl (ca 3, n, .inr (.inr (.inr (.inr (fun k => rfo ad (f k)))))) := by
  unfold wcell
  rw [hk, if_pos rfl]
theorem Z.guard {P : Prop} [Decidable P] (kk : P → Z M uu xw k ls st h e) : Z M uu xw k ls st h (if P then e else none) := by
  intro a b c d r h' he
  by_cases hP : P
  · rw [if_pos hP] at he
    exact kk hP a b c d r h' he
  · rw [if_neg hP] at he
    cases he
/-- a step that reads a cell -/
theorem Z.read {v : AV} {st2 : List AV} {k2 : Nat} (hr : LI h → hR h → (∀ w ∈ st, avR w) → ∀ w ∈ st2, avR w)
    (hw : ∀ (p : Program) (l : Launch) (e : Env) (s : State) (m : MethodId) (args : Array Value) (below : List Frame) (meth : Method) (c : Code) (base : Nat) (D : va_G) (ca : Nat → ClassId) (ad : Nat → Nat) (H : Heap) (locs : List Loc) (la : Array Slot) (Q : State → Prop), (∀ v ∈ st, avR v) →
      ZC M xw p s m args meth c base D ca ad → LH ad la (mN M) ls → WD base D ca ad h H → va_S (fun q => base ≤ q) s.heap H locs → LI h → hR h →
      W p l e (rmM M) s m args below meth c H locs uu (12 * uu) Q (F0 m (pcO M k2) la (st2.map (mv ad))) → W p l e (rmM M) s m args below meth c H locs uu (12 * uu) Q (F0 m (pcO M k) la (st.map (mv ad))))
    (kk : Z M uu xw k2 ls st2 h e) : Z M uu xw k ls st h e := by
  intro a b c d r h' he
  obtain ⟨z1, z2⟩ := kk a b (hr a b c) d r h' he
  refine ⟨z1, ?_⟩
  intro p l e s m args below meth cc base D ca ad H locs la C L W0 S
  exact hw p l e s m args below meth cc base D ca ad H locs la _ c C L W0 S a b (z2 p l e s m args below meth cc base D ca ad H locs la C L W0 S)
theorem z_iaload {i n : Nat} {x : Int} (hd : (mT M)[k]? = some (pc, .iaload, 1, t)) (hk : kd i = (10, n)) (kk : Z M uu xw (k + 1) ls (vi (h i x.toNat) :: st) h e) : Z M uu xw k ls (vi x :: vr i :: st) h (if inb x n then e else none) := by
  refine Z.guard (P := inb x n) (fun hin => ?_)
  refine Z.read (v := vi x) (fun _ b c => avR_i (b _ _) (avR_t (avR_t c))) ?_ kk
  intro p l e s m args below meth c base D ca ad H locs la Q rs C L W0 S _ _ kk
  obtain ⟨o1, -, o3, o4⟩ := okM_at C.1.1 hd
  rw [o4]
  rw [o3 rfl] at kk
  have rx : iR x := avR_h rs
  have hi : i < 76 := kd_lt (c := 10) (by rw [hk]) (by omega)
  have hg := wsN_g7 (ad := ad) (ca := ca) (h := h) hi
  rw [wcell_a (c := 0) hk (by omega)] at hg
  refine va_iald C.2.1 C.2.2.1 C.2.2.2.2.2.2.2.2.1 W0.1 i 0 hg rfl (ofI_in rx hin) o1 ?_
  rw [ofI_cl rx]
  exact kk
theorem z_baload {i n : Nat} {x : Int} (hd : (mT M)[k]? = some (pc, .baload, 1, t)) (hk : kd i = (11, n)) (kk : Z M uu xw (k + 1) ls (vi (h i x.toNat) :: st) h e) : Z M uu xw k ls (vi x :: vr i :: st) h (if inb x n then e else none) := by
  refine Z.guard (P := inb x n) (fun hin => ?_)
  refine Z.read (v := vi x) (fun _ b c => avR_i (b _ _) (avR_t (avR_t c))) ?_ kk
  intro p l e s m args below meth c base D ca ad H locs la Q rs C L W0 S _ _ kk
  obtain ⟨o1, -, o3, o4⟩ := okM_at C.1.1 hd
  rw [o4]
  rw [o3 rfl] at kk
  have rx : iR x := avR_h rs
  have hi : i < 76 := kd_lt (c := 11) (by rw [hk]) (by omega)
  have hg := wsN_g7 (ad := ad) (ca := ca) (h := h) hi
  rw [wcell_a (c := 1) hk (by omega)] at hg
  refine va_zald C.2.1 C.2.2.1 C.2.2.2.2.2.2.2.2.1 W0.1 i 1 hg rfl (ofI_in rx hin) o1 ?_
  rw [ofI_cl rx]
  exact kk
theorem z_caload {i n : Nat} {x : Int} (hd : (mT M)[k]? = some (pc, .caload, 1, t)) (hk : kd i = (12, n)) (kk : Z M uu xw (k + 1) ls (vi (h i x.toNat) :: st) h e) : Z M uu xw k ls (vi x :: vr i :: st) h (if inb x n then e else none) := by
  refine Z.guard (P := inb x n) (fun hin => ?_)
  refine Z.read (v := vi x) (fun _ b c => avR_i (b _ _) (avR_t (avR_t c))) ?_ kk
  intro p l e s m args below meth c base D ca ad H locs la Q rs C L W0 S _ _ kk
  obtain ⟨o1, -, o3, o4⟩ := okM_at C.1.1 hd
  rw [o4]
  rw [o3 rfl] at kk
  have rx : iR x := avR_h rs
  have hi : i < 76 := kd_lt (c := 12) (by rw [hk]) (by omega)
  have hg := wsN_g7 (ad := ad) (ca := ca) (h := h) hi
  rw [wcell_a (c := 2) hk (by omega)] at hg
  refine va_cald C.2.1 C.2.2.1 C.2.2.2.2.2.2.2.2.1 W0.1 i 2 hg rfl (ofI_in rx hin) o1 ?_
  rw [ofI_cl rx]
  exact kk
/-- a reference in a row of offices is one of an office -/
abbrev okA (h : Hp) (i : Nat) (x : Int) (n : Nat) : Prop := inb x n ∧ 0 ≤ h i x.toNat ∧ kd (h i x.toNat).toNat = (1, 0)
theorem z_aaload {i n : Nat} {x : Int} (hd : (mT M)[k]? = some (pc, .aaload, 1, t)) (hk : kd i = (13, n)) (kk : kd (h i x.toNat).toNat = (1, 0) → Z M uu xw (k + 1) ls (vr (h i x.toNat).toNat :: st) h e) : Z M uu xw k ls (vi x :: vr i :: st) h (if okA h i x n then e else none) := by
  refine Z.guard (P := okA h i x n) (fun hin => ?_)
  refine Z.read (v := vi x) (fun _ b c => avR_c (v := vr _) True.intro (avR_t (avR_t c))) ?_ (kk hin.2.2)
  intro p l e s m args below meth c base D ca ad H locs la Q rs C L W0 S _ _ kk
  obtain ⟨o1, -, o3, o4⟩ := okM_at C.1.1 hd
  rw [o4]
  rw [o3 rfl] at kk
  have rx : iR x := avR_h rs
  have hi : i < 76 := kd_lt (c := 13) (by rw [hk]) (by omega)
  have hg := wsN_g7 (ad := ad) (ca := ca) (h := h) hi
  rw [wcell_q hk] at hg
  refine va_aldq C.2.1 C.2.2.1 C.2.2.2.2.2.2.2.2.1 W0.1 i 3 hg rfl (ofI_in rx hin.1) o1 ?_
  rw [ofI_cl rx]
  have e1 : va_rf (rfo ad (h i x.toNat)) = .ref (ad (h i x.toNat).toNat) := by
    unfold rfo
    rw [if_neg (by omega)]
    rfl
  rw [e1]
  exact kk
theorem z_alen {i c n : Nat} (hd : (mT M)[k]? = some (pc, .arraylength, 1, t)) (hk : kd i = (10 + c, n)) (hc : c < 4) (kk : Z M uu xw (k + 1) ls (vi (n : Int) :: st) h e) : Z M uu xw k ls (vr i :: st) h e := by
  have key : ∀ i, i < 76 → (kd i).2 < 2000 := by decide +kernel
  have hi : i < 76 := kd_lt (c := 10 + c) (by rw [hk]) (by omega)
  have hn := key i hi
  rw [hk] at hn
  refine Z.read (v := vi 0) (fun _ b c => avR_i (show iR (n : Int) from ⟨by omega, by omega⟩) (avR_t c)) ?_ kk
  intro p l e s m args below meth cc base D ca ad H locs la Q rs C L W0 S _ _ kk
  obtain ⟨o1, -, o3, o4⟩ := okM_at C.1.1 hd
  rw [o4]
  rw [o3 rfl] at kk
  have hg := wsN_g7 (ad := ad) (ca := ca) (h := h) hi
  have h3 : c < 3 ∨ c = 3 := by omega
  rcases h3 with h3 | rfl
  · rw [wcell_a hk h3] at hg
    obtain ⟨ty, hty⟩ : ∃ ty, (tysOf ca)[c]? = some (ca c, ty) := by
      rcases (show c = 0 ∨ c = 1 ∨ c = 2 by omega) with rfl | rfl | rfl <;> exact ⟨_, rfl⟩
    exact va_alen C.2.1 C.2.2.1 C.2.2.2.2.2.2.2.2.1 W0.1 i c hg hty (v := Int32.ofInt (n : Int)) (Int32.ofInt_eq_ofNat).symm o1 kk
  · rw [wcell_q hk] at hg
    exact va_alen C.2.1 C.2.2.1 C.2.2.2.2.2.2.2.2.1 W0.1 i 3 hg (show (tysOf ca)[3]? = some (ca 3, _) from rfl) (v := Int32.ofInt (n : Int)) (Int32.ofInt_eq_ofNat).symm o1 kk
/-- a step that writes a cell -/
theorem Z.write {i k2 : Nat} {x : Int} {j : Nat} {st2 : List AV} {ev : (Nat → Nat) → (Nat → ClassId) → va_E} (hi : i < 84) (ho : off (kd i).1 j = none) (h13 : (kd i).1 = 13 → x < 76) (hx : (∀ w ∈ st, avR w) → iR x) (hr : (∀ w ∈ st, avR w) → ∀ w ∈ st2, avR w)
    (hev : ∀ ad ca, ev ad ca = wcell ad ca (hup h i j x i) i)
    (hw : ∀ (p : Program) (l : Launch) (e : Env) (s : State) (m : MethodId) (args : Array Value) (below : List Frame) (meth : Method) (c : Code) (base : Nat) (D : va_G) (ca : Nat → ClassId) (ad : Nat → Nat) (H : Heap) (locs : List Loc) (la : Array Slot) (Q : State → Prop), (∀ v ∈ st, avR v) →
      ZC M xw p s m args meth c base D ca ad → LH ad la (mN M) ls → WD base D ca ad h H → va_S (fun q => base ≤ q) s.heap H locs → LI h → hR h →
      (∀ (H1 : Heap) (locs1 : List Loc), va_P D vwCl ((wsN (nW ad) ad ca h).set i (ad i, ev ad ca)) H1 → va_D (fun q => base ≤ q) ((wsN (nW ad) ad ca h).set i (ad i, ev ad ca)) → va_S (fun q => base ≤ q) s.heap H1 locs1 →
        W p l e (rmM M) s m args below meth c H1 locs1 uu (12 * uu) Q (F0 m (pcO M k2) la (st2.map (mv ad)))) → W p l e (rmM M) s m args below meth c H locs uu (12 * uu) Q (F0 m (pcO M k) la (st.map (mv ad))))
    (kk : Z M uu xw k2 ls st2 (hup h i j x) e) : Z M uu xw k ls st h e := by
  intro a b c d r h' he
  obtain ⟨z1, z2⟩ := kk (li_hup a hi ho h13) (hR_hup b (hx c)) (hr c) d r h' he
  refine ⟨z1, ?_⟩
  intro p l e s m args below meth cc base D ca ad H locs la C L W0 S
  refine hw p l e s m args below meth cc base D ca ad H locs la _ c C L W0 S a b ?_
  intro H1 locs1 w1 w2 w3
  have e1 : (wsN (nW ad) ad ca h).set i (ad i, ev ad ca) = wsN (nW ad) ad ca (hup h i j x) := wsN_set (fun j hj => hup_o hj) (hev ad ca)
  rw [e1] at w1 w2
  exact z2 p l e s m args below meth cc base D ca ad H1 locs1 la C L ⟨w1, w2⟩ w3
theorem off_a {i c n j : Nat} (hk : kd i = (10 + c, n)) : off (kd i).1 j = none := by
  rw [hk]
  show off (10 + c) j = none
  unfold off
  split <;> first | rfl | omega
theorem wcell_up {ad : Nat → Nat} {ca : Nat → ClassId} {h : Hp} {i c n : Nat} {x y : Int} (hk : kd i = (10 + c, n)) (hc : c < 3) : (Sum.inl (ca c, n, Sum.inl (upd (fun k => Int32.ofInt (h i k)) y.toNat (Int32.ofInt x))) : va_E) = wcell ad ca (hup h i y.toNat x i) i := by
  rw [wcell_a hk hc, hup_s]
  congr 4
  funext q
  show (if q = y.toNat then Int32.ofInt x else Int32.ofInt (h i q)) = Int32.ofInt (if q = y.toNat then x else h i q)
  split <;> rfl
theorem z_iastore {i n : Nat} {x y : Int} (hd : (mT M)[k]? = some (pc, .iastore, 1, t)) (hk : kd i = (10, n)) (kk : Z M uu xw (k + 1) ls st (hup h i y.toNat x) e) : Z M uu xw k ls (vi x :: vi y :: vr i :: st) h (if inb y n then e else none) := by
  refine Z.guard (P := inb y n) (fun hin => ?_)
  have hi : i < 76 := kd_lt (c := 10) (by rw [hk]) (by omega)
  refine Z.write (ev := fun ad ca => .inl (ca 0, n, .inl (upd (fun k => Int32.ofInt (h i k)) y.toNat (Int32.ofInt x)))) (by omega) (off_a (c := 0) hk) (fun q => by (rw [hk] at q; cases q)) (fun a => avR_h a) (fun a => avR_t (avR_t (avR_t a))) (fun ad ca => wcell_up (c := 0) hk (by omega)) ?_ kk
  intro p l e s m args below meth c base D ca ad H locs la Q rs C L W0 S _ _ kk
  obtain ⟨o1, -, o3, o4⟩ := okM_at C.1.1 hd
  rw [o4]
  rw [o3 rfl] at kk
  have ry : iR y := avR_h (avR_t rs)
  have hg := wsN_g7 (ad := ad) (ca := ca) (h := h) hi
  rw [wcell_a (c := 0) hk (by omega)] at hg
  refine va_iast C.2.1 C.2.2.1 C.2.2.2.2.2.2.2.2.1 W0.1 W0.2 S i 0 hg rfl (ofI_in ry hin) o1 ?_
  rw [ofI_cl ry]
  exact kk
abbrev isB (x : Int) : Prop := x = 0 ∨ x = 1
theorem nar_B {x : Int} (h : isB x) : vp_nar .boolean (Int32.ofInt x) = Int32.ofInt x := by
  rcases h with rfl | rfl <;> rfl
theorem z_bastore {i n : Nat} {x y : Int} (hd : (mT M)[k]? = some (pc, .bastore, 1, t)) (hk : kd i = (11, n)) (kk : Z M uu xw (k + 1) ls st (hup h i y.toNat x) e) : Z M uu xw k ls (vi x :: vi y :: vr i :: st) h (if inb y n ∧ isB x then e else none) := by
  refine Z.guard (P := inb y n ∧ isB x) (fun hin => ?_)
  have hi : i < 76 := kd_lt (c := 11) (by rw [hk]) (by omega)
  refine Z.write (ev := fun ad ca => .inl (ca 1, n, .inl (upd (fun k => Int32.ofInt (h i k)) y.toNat (Int32.ofInt x)))) (by omega) (off_a (c := 1) hk) (fun q => by (rw [hk] at q; cases q)) (fun a => avR_h a) (fun a => avR_t (avR_t (avR_t a))) (fun ad ca => wcell_up (c := 1) hk (by omega)) ?_ kk
  intro p l e s m args below meth c base D ca ad H locs la Q rs C L W0 S _ _ kk
  obtain ⟨o1, -, o3, o4⟩ := okM_at C.1.1 hd
  rw [o4]
  rw [o3 rfl] at kk
  have ry : iR y := avR_h (avR_t rs)
  have hg := wsN_g7 (ad := ad) (ca := ca) (h := h) hi
  rw [wcell_a (c := 1) hk (by omega)] at hg
  refine va_zast C.2.1 C.2.2.1 C.2.2.2.2.2.2.2.2.1 W0.1 W0.2 S i 1 hg rfl (ofI_in ry hin.1) o1 ?_
  rw [ofI_cl ry, nar_B hin.2]
  exact kk
abbrev isC (x : Int) : Prop := 0 ≤ x ∧ x < 65536
theorem nI_of_Int {x : Int} (h : 0 ≤ x) : Int32.ofInt x = nI x.toNat := by
  obtain ⟨n, rfl⟩ := Int.eq_ofNat_of_zero_le h
  rw [Int.toNat_natCast]
  exact Int32.ofInt_eq_ofNat
theorem nar_C {x : Int} (h : isC x) : narrow .char (.int (Int32.ofInt x)) = .int (Int32.ofInt x) := by
  rw [nI_of_Int h.1]
  exact (pk_charN (by omega)).1
theorem z_castore {i n : Nat} {x y : Int} (hd : (mT M)[k]? = some (pc, .castore, 1, t)) (hk : kd i = (12, n)) (kk : Z M uu xw (k + 1) ls st (hup h i y.toNat x) e) : Z M uu xw k ls (vi x :: vi y :: vr i :: st) h (if inb y n ∧ isC x then e else none) := by
  refine Z.guard (P := inb y n ∧ isC x) (fun hin => ?_)
  have hi : i < 76 := kd_lt (c := 12) (by rw [hk]) (by omega)
  refine Z.write (ev := fun ad ca => .inl (ca 2, n, .inl (upd (fun k => Int32.ofInt (h i k)) y.toNat (Int32.ofInt x)))) (by omega) (off_a (c := 2) hk) (fun q => by (rw [hk] at q; cases q)) (fun a => avR_h a) (fun a => avR_t (avR_t (avR_t a))) (fun ad ca => wcell_up (c := 2) hk (by omega)) ?_ kk
  intro p l e s m args below meth c base D ca ad H locs la Q rs C L W0 S _ _ kk
  obtain ⟨o1, -, o3, o4⟩ := okM_at C.1.1 hd
  rw [o4]
  rw [o3 rfl] at kk
  have ry : iR y := avR_h (avR_t rs)
  have hg := wsN_g7 (ad := ad) (ca := ca) (h := h) hi
  rw [wcell_a (c := 2) hk (by omega)] at hg
  refine va_cast C.2.1 C.2.2.1 C.2.2.2.2.2.2.2.2.1 W0.1 W0.2 S i 2 hg rfl (ofI_in ry hin.1) o1 ?_
  have e2 : vp_nar .char (Int32.ofInt x) = Int32.ofInt x := by unfold vp_nar; rw [nar_C hin.2]
  rw [ofI_cl ry, e2]
  exact kk
theorem z_i2c {x : Int} (hd : (mT M)[k]? = some (pc, .i2c, 1, t)) (kk : Z M uu xw (k + 1) ls (vi x :: st) h e) : Z M uu xw k ls (vi x :: st) h (if isC x then e else none) := by
  refine Z.guard (P := isC x) (fun hin => ?_)
  refine Z.pure (fun a b => a) ?_ kk
  intro p l e s m args below meth c base D ca ad H locs la Q a _ C L _ _ _ _ kk
  obtain ⟨o1, -, o3, o4⟩ := okM_at C.1.1 hd
  rw [o4]
  rw [o3 rfl] at kk
  refine lv_i2c C.2.1 C.2.2.1 o1 ?_ kk
  rw [nI_of_Int hin.1, pk_char, pk_tn (by omega), Nat.mod_eq_of_lt (by omega)]
theorem rfo_s {ad : Nat → Nat} {j : Nat} : rfo ad (j : Int) = some (ad j) := by
  unfold rfo
  rw [if_neg (by omega), Int.toNat_natCast]
theorem z_aastore {i n j : Nat} {y : Int} (hd : (mT M)[k]? = some (pc, .aastore, 1, t)) (hk : kd i = (13, n)) (hj : kd j = (1, 0)) (kk : Z M uu xw (k + 1) ls st (hup h i y.toNat (j : Int)) e) : Z M uu xw k ls (vr j :: vi y :: vr i :: st) h (if inb y n then e else none) := by
  refine Z.guard (P := inb y n) (fun hin => ?_)
  have hi : i < 76 := kd_lt (c := 13) (by rw [hk]) (by omega)
  have hj2 : j < 76 := kd_lt (c := 1) (by rw [hj]) (by omega)
  refine Z.write (ev := fun ad ca => .inl (ca 3, n, .inr (.inr (.inr (.inr (va_up (fun k => rfo ad (h i k)) y.toNat (some (ad j)))))))) (by omega) (off_a (c := 3) hk) (fun _ => by omega) (fun a => ⟨by omega, by omega⟩) (fun a => avR_t (avR_t (avR_t a))) (fun ad ca => ?_) ?_ kk
  · rw [wcell_q hk, hup_s]
    congr 7
    funext q
    show (if q = y.toNat then some (ad j) else rfo ad (h i q)) = rfo ad (if q = y.toNat then (j : Int) else h i q)
    split
    · exact rfo_s.symm
    · rfl
  intro p l e s m args below meth c base D ca ad H locs la Q rs C L W0 S _ _ kk
  obtain ⟨o1, -, o3, o4⟩ := okM_at C.1.1 hd
  rw [o4]
  rw [o3 rfl] at kk
  have ry : iR y := avR_h (avR_t rs)
  have hg := wsN_g7 (ad := ad) (ca := ca) (h := h) hi
  rw [wcell_q hk] at hg
  have hg2 := wsN_g7 (ad := ad) (ca := ca) (h := h) hj2
  rw [wcell_o hj (by omega)] at hg2
  refine va_astq C.2.1 C.2.2.1 C.2.2.2.2.2.2.2.2.1 W0.1 W0.2 S i 3 j 1 hg rfl hg2 (r := (RX1, TX1, 5)) rfl (ofI_in ry hin) o1 ?_
  rw [ofI_cl ry]
  exact kk
/-! ends -/
theorem z_ireturn {x : Int} (hd : (mT M)[k]? = some (pc, .ireturn, 1, t)) (hr : mR M = some .int) (hu : uu.ble (mB M) = true := by rfl) (hf : (mF M == 2) = false := by rfl) : Z M uu xw k ls [vi x] h (some (x, h)) := by
  intro a b c d r h' he
  cases he
  refine ⟨⟨fun _ => avR_h c, a, b⟩, ?_⟩
  intro p l e s m args below meth cc base D ca ad H locs la C L W0 S
  obtain ⟨o1, -, -, o4⟩ := okM_at C.1.1 hd
  have hu := Nat.le_of_ble_eq_true hu
  rw [o4, PQ_n hf, QcO_i hr rfl]
  refine W.widen (k := mB M) (n := 12 * mB M) hu (Nat.mul_le_mul_left 12 hu) ?_
  exact W.iret (v := Int32.ofInt x) C.2.1 C.2.2.1 (C.2.2.2.2.1.trans hr) (fun t ht hW => ⟨⟨_, (), rfl, rfl, by show WD base D ca ad h t.heap; rw [ht]; exact W0⟩, S.F ht⟩) S.2.2 o1 C.2.2.2.2.2.1
theorem z_ret {x : Int} {ty : FieldType} (hr : mR M = some ty) (hn : narrow ty (.int (Int32.ofInt x)) = .int (Int32.ofInt x)) (hd : (mT M)[k]? = some (pc, .ireturn, 1, t)) (hl : isL ty = false := by rfl) (hu : uu.ble (mB M) = true := by rfl) (hf : (mF M == 2) = false := by rfl) : Z M uu xw k ls [vi x] h (some (x, h)) := by
  intro a b c d r h' he
  cases he
  refine ⟨⟨fun _ => avR_h c, a, b⟩, ?_⟩
  intro p l e s m args below meth cc base D ca ad H locs la C L W0 S
  obtain ⟨o1, -, -, o4⟩ := okM_at C.1.1 hd
  have hu := Nat.le_of_ble_eq_true hu
  rw [o4, PQ_n hf, QcO_i hr hl]
  refine W.widen (k := mB M) (n := 12 * mB M) hu (Nat.mul_le_mul_left 12 hu) ?_
  exact W.zret (v := Int32.ofInt x) (ty := ty) C.2.1 C.2.2.1 (C.2.2.2.2.1.trans hr) hn (fun t ht hW => ⟨⟨_, (), rfl, rfl, by show WD base D ca ad h t.heap; rw [ht]; exact W0⟩, S.F ht⟩) S.2.2 o1 C.2.2.2.2.2.1
theorem z_lreturn {x : Int64} (hd : (mT M)[k]? = some (pc, .lreturn, 1, t)) (hr : mR M = some .long) (hu : uu.ble (mB M) = true := by rfl) (hf : (mF M == 2) = false := by rfl) : Z M uu xw k ls [vx (.long x)] h (some (x.toInt, h)) := by
  intro a b c d r h' he
  cases he
  refine ⟨⟨fun q => by (rw [hr] at q; cases q), a, b⟩, ?_⟩
  intro p l e s m args below meth cc base D ca ad H locs la C L W0 S
  obtain ⟨o1, -, -, o4⟩ := okM_at C.1.1 hd
  have hu := Nat.le_of_ble_eq_true hu
  rw [o4, PQ_n hf, QcO_l hr]
  refine W.widen (k := mB M) (n := 12 * mB M) hu (Nat.mul_le_mul_left 12 hu) ?_
  exact W.lret (v := x) C.2.1 C.2.2.1 (C.2.2.2.2.1.trans hr) (fun t ht hW => ⟨⟨_, (), rfl, (Int64.ofInt_toInt x).symm, by show WD base D ca ad h t.heap; rw [ht]; exact W0⟩, S.F ht⟩) S.2.2 o1 C.2.2.2.2.2.1
theorem z_zret {x : Int} (hd : (mT M)[k]? = some (pc, .ireturn, 1, t)) (hr : mR M = some .boolean) (hu : uu.ble (mB M) = true := by rfl) (hf : (mF M == 2) = false := by rfl) : Z M uu xw k ls [vi x] h (if isB x then some (x, h) else none) := by
  refine Z.guard (P := isB x) (fun hb => z_ret hr ?_ hd rfl hu hf)
  rcases hb with rfl | rfl <;> rfl
theorem z_zret0 (hd : (mT M)[k]? = some (pc, .ireturn, 1, t)) (hr : mR M = some .boolean) (hu : uu.ble (mB M) = true := by rfl) (hf : (mF M == 2) = false := by rfl) : Z M uu xw k ls [vi 0] h (some (0, h)) := z_ret hr rfl hd rfl hu hf
theorem z_zret1 (hd : (mT M)[k]? = some (pc, .ireturn, 1, t)) (hr : mR M = some .boolean) (hu : uu.ble (mB M) = true := by rfl) (hf : (mF M == 2) = false := by rfl) : Z M uu xw k ls [vi 1] h (some (1, h)) := z_ret hr rfl hd rfl hu hf
theorem z_cret {x : Int} (hd : (mT M)[k]? = some (pc, .ireturn, 1, t)) (hr : mR M = some .char) (hu : uu.ble (mB M) = true := by rfl) (hf : (mF M == 2) = false := by rfl) : Z M uu xw k ls [vi x] h (if isC x then some (x, h) else none) :=
  Z.guard (P := isC x) (fun hb => z_ret hr (nar_C hb) hd rfl hu hf)
theorem z_return (hd : (mT M)[k]? = some (pc, .return_, 1, t)) (hr : mR M = none) (hu : uu.ble (mB M) = true := by rfl) (hf : (mF M == 2) = false := by rfl) : Z M uu xw k ls [] h (some (0, h)) := by
  intro a b c d r h' he
  cases he
  refine ⟨⟨fun _ => iR_0, a, b⟩, ?_⟩
  intro p l e s m args below meth cc base D ca ad H locs la C L W0 S
  obtain ⟨o1, -, -, o4⟩ := okM_at C.1.1 hd
  have hu := Nat.le_of_ble_eq_true hu
  rw [o4, PQ_n hf, QcO_v hr]
  refine W.widen (k := mB M) (n := 12 * mB M) hu (Nat.mul_le_mul_left 12 hu) ?_
  exact W.vret C.2.1 C.2.2.1 (C.2.2.2.2.1.trans hr) (fun t ht hW => ⟨⟨(), rfl, True.intro, by show WD base D ca ad h t.heap; rw [ht]; exact W0⟩, S.F ht⟩) S.2.2 o1 C.2.2.2.2.2.1
/-- cells rounded up -/
theorem Z.up {u2 : Nat} (hu : uu ≤ u2) (z : Z M u2 xw k ls st h e) : Z M uu xw k ls st h e := by
  intro a b c d r h' he
  obtain ⟨z1, z2⟩ := z a b c d r h' he
  refine ⟨z1, ?_⟩
  intro p l e s m args below meth cc base D ca ad H locs la C L W0 S
  exact W.widen hu (Nat.mul_le_mul_left 12 hu) (z2 p l e s m args below meth cc base D ca ad H locs la C L W0 S)
end Steps2
end
section
/-! the judgement Z: a method out of its body, calls -/
section Steps3
/-- the locals with which a method begins -/
def lsA : List AV → List (Option AV)
  | [] => []
  | v :: r => if acat v = 2 then some v :: none :: lsA r else some v :: lsA r
theorem lsA_args (ad : Nat → Nat) : ∀ (av : List AV) (o i : Nat) (v : AV), (lsA av)[i]? = some (some v) → (o + i, mv ad v) ∈ lv_args o (av.map (mv ad)) ∧ v ∈ av
  | [], o, i, v, h => by simp [lsA] at h
  | w :: r, o, i, v, h => by
    unfold lsA at h
    by_cases hc : acat w = 2
    · rw [if_pos hc] at h
      match i, h with
      | 0, h =>
        simp at h
        subst h
        exact ⟨List.mem_cons_self, List.mem_cons_self⟩
      | 1, h => simp at h
      | i + 2, h =>
        have h1 := lsA_args ad r (o + 2) i v (by simpa using h)
        refine ⟨?_, List.mem_cons_of_mem _ h1.2⟩
        show _ ∈ (o, mv ad w) :: lv_args (if (mv ad w).category = 2 then o + 2 else o + 1) (r.map (mv ad))
        rw [acat_mv, if_pos hc]
        rw [show o + (i + 2) = o + 2 + i by omega]
        exact List.mem_cons_of_mem _ h1.1
    · rw [if_neg hc] at h
      match i, h with
      | 0, h =>
        simp at h
        subst h
        exact ⟨List.mem_cons_self, List.mem_cons_self⟩
      | i + 1, h =>
        have h1 := lsA_args ad r (o + 1) i v (by simpa using h)
        refine ⟨?_, List.mem_cons_of_mem _ h1.2⟩
        show _ ∈ (o, mv ad w) :: lv_args (if (mv ad w).category = 2 then o + 2 else o + 1) (r.map (mv ad))
        rw [acat_mv, if_neg hc]
        rw [show o + (i + 1) = o + 1 + i by omega]
        exact List.mem_cons_of_mem _ h1.1
theorem lsA_len : ∀ (ad : Nat → Nat) (av : List AV), (lg_sl (av.map (mv ad))).length = (lsA av).length
  | ad, [] => rfl
  | ad, v :: r => by
    have h1 := lsA_len ad r
    unfold lsA
    show (lg_sl (mv ad v :: r.map (mv ad))).length = _
    unfold lg_sl at h1 ⊢
    rw [List.flatMap_cons, List.length_append, h1, acat_mv]
    by_cases hc : acat v = 2
    · rw [if_pos hc, if_pos hc]
      simp only [List.length_cons, List.length_nil]
      omega
    · rw [if_neg hc, if_neg hc]
      simp only [List.length_cons, List.length_nil]
      omega
theorem Met.ofWF {l : Launch} {y : MethodName} {ws ws' : List Cond} {rm : Room} {Pc : Array Value → State → Prop} {Qc : Array Value → State → Outcome → State → Prop} {mc ms : Nat} {free : Addr → Prop} {cc : ByteArray} {maxL : Nat} {ret : Option FieldType}
    (hy : plainFor y = true) (hw : ws = Cond.code y cc maxL ret :: ws')
    (body : ∀ p e s m args below meth c s₁, BodyLoose p l y (headSpec ws rm) cc maxL ret e s m args below meth c s₁ → c.maxLocals = maxL → Pc args s →
      W p l e (headSpec ws rm).room s m args below meth c s.heap [] 0 0 (MQ below Qc args s mc ms free) (entryFrame m args maxL)) : Met l y ws rm Pc Qc mc ms free := by
  refine MetFree.of_bodySF (code := cc) (maxLocals := maxL) (ret := ret) hy ?_ ?_
  · intro args s m h hn
    obtain ⟨meth, c, h1, h2, h3, h4, h5, h6, -, -⟩ := Cond.code_spec hn (atoms_spec (ws := ws) h _ (by rw [hw]; exact List.mem_cons_self))
    exact ⟨meth, c, h1, h2, h3, h4, h5, h6⟩
  · intro p e s m args below meth c s₁ B hml hP _
    have hh0 : s₁.heap = s.heap := by rw [B.state]; rfl
    obtain ⟨t, a1, o, b1, b2, b3⟩ := body p e s m args below meth c s₁ B hml hP s₁ hh0 (Stand.of_body B)
    exact ⟨t, o, a1, b1, b2, ⟨b3.1, b3.2⟩⟩
theorem Ct.mk {M : MI} {av : List AV} {h : Hp} {e : Option (Int × Hp)} (hok : okM M = true) (hp : plainFor (mY M) = true) (ho : (mY M).cls = mO M) (hl : (decide ((lsA av).length ≤ mN M)) = true) (z : Z M 0 0 0 (lsA av ++ List.replicate (mN M - (lsA av).length) none) [] h e) (hf : (mF M == 2) = false := by rfl) : Ct M av h e := by
  intro a b c r h' he
  simp only [decide_eq_true_eq] at hl
  have hls : ∀ (i : Nat) (v : AV), (lsA av ++ List.replicate (mN M - (lsA av).length) none)[i]? = some (some v) → (lsA av)[i]? = some (some v) := by
    intro i v hi
    by_cases q : i < (lsA av).length
    · rwa [List.getElem?_append_left q] at hi
    · rw [List.getElem?_append_right (by omega), List.getElem?_replicate] at hi
      split at hi
      · cases hi
      · cases hi
  obtain ⟨z1, z2⟩ := z a b (fun _ q => by cases q) (fun i v hi => c v (lsA_args (fun q => q) av 0 i v (hls i v hi)).2) r h' he
  refine ⟨z1, ?_⟩
  intro l base D ca ad hX0
  refine Met.ofWF (cc := mC M) (maxL := mN M) (ret := mR M) hp rfl ?_
  intro p e s m args below meth c s₁ B hml hv
  obtain ⟨rfl, hX, hW⟩ := hv
  have hts := atoms_spec (ws := wsM M) B.pre
  have hown : s.vm.findClass (mO M) = some m.cls := by rw [← ho]; exact findClass_of_methodNamed B.named
  have C : ZC M 0 p s m (av.map (mv ad)).toArray meth c base D ca ad := ⟨⟨hok, hX0, fun q => by (rw [q] at hf; cases hf)⟩, B.exec, B.bytes, hml, B.returns, B.notSynchronized, hown, fun w hw => hts w (List.mem_cons_of_mem _ hw), hX⟩
  have hle := lv_entry (av.map (mv ad)) (n := mN M) (by rw [lsA_len]; exact hl)
  rw [lg_entry_eq]
  generalize (lg_sl (av.map (mv ad)) ++ List.replicate (mN M - (lg_sl (av.map (mv ad))).length) Slot.unset).toArray = la at hle ⊢
  have L : LH ad la (mN M) (lsA av ++ List.replicate (mN M - (lsA av).length) none) := by
    refine ⟨hle.1, hle.2.1, fun i v hi => ?_⟩
    have h1 := (lsA_args ad av 0 i v (hls i v hi)).1
    rw [Nat.zero_add] at h1
    exact hle.2.2 (i, mv ad v) h1
  have hpc : pcO M 0 = 0 := by
    unfold okM at hok
    simp only [Bool.and_eq_true, decide_eq_true_eq] at hok
    exact hok.1
  have z3 := z2 p l e s m (av.map (mv ad)).toArray below meth c base D ca ad s.heap [] la C L hW va_S.rf
  rw [hpc, PQ_n hf] at z3
  exact z3
/-- an entry of a pool that is a method: of a named kind (virtual), of its own owner or of a nest mate -/
def MV (own : String) (ix : Nat) (M : MI) (n : Nat) : Prop := (((Cond.methodLink own ix (mY M)) ∈ lwT) ∧ (Cond.instanceMethod (mY M)) ∈ lwT ∧ (Cond.selects (mY M).cls (mY M) (mY M)) ∈ lwT ∧ (Cond.initialized (mY M).cls) ∈ lwT ∧ Cond.code (mY M) (mC M) (mN M) (mR M) ∈ lwT) ∧ ((mY M).cls ≠ "java/lang/invoke/MethodHandle" ∧ (mY M).cls ≠ "java/lang/invoke/VarHandle" ∧ (parseMethodDescriptor (mY M).desc).map (fun d => d.parameters.length) = some n)
def MS (own : String) (ix : Nat) (M : MI) (n : Nat) : Prop := (((Cond.methodLink own ix (mY M)) ∈ lwT) ∧ (Cond.static (mY M)) ∈ lwT ∧ (Cond.initialized (mY M).cls) ∈ lwT ∧ Cond.code (mY M) (mC M) (mN M) (mR M) ∈ lwT) ∧ ((mY M).cls ≠ "java/lang/invoke/MethodHandle" ∧ (mY M).cls ≠ "java/lang/invoke/VarHandle" ∧ (parseMethodDescriptor (mY M).desc).map (fun d => d.parameters.length) = some n)
def MSN (own : String) (ix : Nat) (M : MI) (n : Nat) : Prop := (∃ host, ((Cond.methodLinkNest own ix (mY M) host) ∈ lw_tbl)) ∧ ((Cond.static (mY M)) ∈ lwT ∧ (Cond.initialized (mY M).cls) ∈ lwT ∧ Cond.code (mY M) (mC M) (mN M) (mR M) ∈ lwT) ∧ ((mY M).cls ≠ "java/lang/invoke/MethodHandle" ∧ (mY M).cls ≠ "java/lang/invoke/VarHandle" ∧ (parseMethodDescriptor (mY M).desc).map (fun d => d.parameters.length) = some n)
/-- the callee is lower, its locals fit, so do its cells; one of the law's own is called in the law's world alone -/
def lowM (M M' : MI) (uu xw : Nat) : Bool := (decide ((rmM M').frames + 1 ≤ (rmM M).frames) && decide (8 + (mN M' + 11) + (rmM M').locals ≤ (rmM M).locals)) && ((mF M' == 0 || (!(mF M == 0) && xw == 0)) && ((decide (uu + mB M' ≤ (rmM M).cells) && decide (12 * uu + 12 * mB M' ≤ (rmM M).slots)) && (decide ((rmM M').cells = mB M') && decide ((rmM M').slots = 12 * mB M'))))
theorem low_1 {M M' : MI} {uu xw : Nat} (h : lowM M M' uu xw = true) : (rmM M').frames + 1 ≤ (rmM M).frames ∧ 8 + (mN M' + 11) + (rmM M').locals ≤ (rmM M).locals := by
  unfold lowM at h
  simp only [Bool.and_eq_true, decide_eq_true_eq] at h
  exact h.1
theorem low_2 {M M' : MI} {uu xw : Nat} (h : lowM M M' uu xw = true) : uu + mB M' ≤ (rmM M).cells ∧ 12 * uu + 12 * mB M' ≤ (rmM M).slots := by
  unfold lowM at h
  simp only [Bool.and_eq_true, decide_eq_true_eq] at h
  exact h.2.2.1
theorem low_3 {M M' : MI} {uu xw : Nat} (h : lowM M M' uu xw = true) : (rmM M').cells = mB M' ∧ (rmM M').slots = 12 * mB M' := by
  unfold lowM at h
  simp only [Bool.and_eq_true, decide_eq_true_eq] at h
  exact h.2.2.2
theorem low_x {M M' : MI} {uu xw : Nat} {ad : Nat → Nat} (h : lowM M M' uu xw = true) (o : okX M xw ad) : okX M' 0 ad := by
  unfold lowM at h
  simp only [Bool.and_eq_true, decide_eq_true_eq, Bool.or_eq_true, beq_iff_eq, Bool.not_eq_true', beq_eq_false_iff_ne] at h
  intro q
  rcases h.2.1 with z | z
  · exact absurd z q
  · have := o z.1
    rw [z.2] at this
    exact this
theorem wsM_G {M : MI} (h : Cond.code (mY M) (mC M) (mN M) (mR M) ∈ lwT) : GoodIn lwT (wsM M) := fun w hw => by
  rcases List.mem_cons.mp hw with rfl | hw
  · exact lwT_G _ h
  · exact lwT_G _ hw
theorem acat_sum (ad : Nat → Nat) : ∀ (st : List AV), ((st.map (mv ad)).map fun v => v.category).sum = (st.map acat).sum
  | [] => rfl
  | v :: r => by
    have h1 := acat_sum ad r
    simp only [List.map_cons, List.sum_cons, acat_mv, h1]
theorem PcO_blind {M : MI} {base : Nat} {D : va_G} {ca : Nat → ClassId} {ad : Nat → Nat} {av : List AV} {h : Hp} : FrameBlind (PcO M base D ca ad av h) := by
  intro a U g mk q
  obtain ⟨q0, q1, q2⟩ := q
  refine ⟨q0, ?_, q2⟩
  exact CX.at (U := U.calling g mk a) q1 (State.WarmedH.refl (s := U)) (fun _ _ _ => rfl)
theorem PcO_at {M : MI} {base : Nat} {D : va_G} {ca : Nat → ClassId} {ad : Nat → Nat} {av : List AV} {h : Hp} {s U : State} {H : Heap} {locs : List Loc} {as : List Value} (has : as = av.map (mv ad)) (hX : CX base D ca ad s) (hW : WD base D ca ad h H) (hS : va_S (fun q => base ≤ q) s.heap H locs) (hU : U.heap = H) (hw : s.WarmedH U.vm) : PcO M base D ca ad av h as.toArray U := by
  refine ⟨by rw [has], hX.at hw (fun a q1 q2 => by rw [hU]; exact hS.2.1 a q1 q2), by rw [hU]; exact hW⟩
variable {M : MI} {uu xw k pc t : Nat} {ls : List (Option AV)} {st : List AV} {h : Hp} {e e1 e2 : Option (Int × Hp)}
/-- a call, whatever its kind: what is behind it -/
theorem Z.call {M' : MI} {as stk : List AV} {st2 : Int → List AV} {K : Int → Hp → Option (Int × Hp)} {k2 : Nat} (ct : Ct M' as h e1) (has : (∀ v ∈ stk, avR v) → ∀ v ∈ as, avR v) (hst : (∀ v ∈ stk, avR v) → ∀ r, rR M' r → ∀ v ∈ st2 r, avR v) (hlow : lowM M M' uu xw = true)
    (hw : ∀ (p : Program) (l : Launch) (e : Env) (s : State) (m : MethodId) (args : Array Value) (below : List Frame) (meth : Method) (c : Code) (base : Nat) (D : va_G) (ca : Nat → ClassId) (ad : Nat → Nat) (H : Heap) (locs : List Loc) (la : Array Slot) (Q : State → Prop) (r1 : Int) (h1 : Hp),
      ZC M xw p s m args meth c base D ca ad → LH ad la (mN M) ls → WD base D ca ad h H → va_S (fun q => base ≤ q) s.heap H locs →
      Met l (mY M') (wsM M') (rmM M') (PcO M' base D ca ad as h) (QcO M' base D ca ad r1 h1) (mB M') (12 * mB M') (fun q => base ≤ q) →
      (∀ (H1 : Heap) (locs1 : List Loc), WD base D ca ad h1 H1 → va_S (fun q => base ≤ q) s.heap H1 locs1 → W p l e (rmM M) s m args below meth c H1 locs1 (uu + mB M') (12 * uu + 12 * mB M') Q (F0 m (pcO M k2) la ((st2 r1).map (mv ad)))) →
      W p l e (rmM M) s m args below meth c H locs uu (12 * uu) Q (F0 m (pcO M k) la (stk.map (mv ad))))
    (kk : ∀ r1 h1, Z M (uu + mB M') xw k2 ls (st2 r1) h1 (K r1 h1)) : Z M uu xw k ls stk h (bd e1 K) := by
  intro a b c d r h' he
  cases hq : e1 with
  | none =>
    rw [hq] at he
    cases he
  | some q =>
    obtain ⟨r1, h1⟩ := q
    rw [hq] at he
    obtain ⟨⟨c1, c2, c3⟩, c4⟩ := ct a b (has c) r1 h1 hq
    obtain ⟨z1, z2⟩ := kk r1 h1 c2 c3 (hst c r1 c1) d r h' he
    refine ⟨z1, ?_⟩
    intro p l e s m args below meth cc base D ca ad H locs la C L W0 S
    exact hw p l e s m args below meth cc base D ca ad H locs la _ r1 h1 C L W0 S (c4 l base D ca ad (low_x hlow C.1.2.1)) (fun H1 locs1 w1 s1 => by
      have z3 := z2 p l e s m args below meth cc base D ca ad H1 locs1 la C L w1 s1
      rw [Nat.mul_add] at z3
      exact z3)
theorem avR_rev {as st : List AV} {v : AV} (h : ∀ w ∈ as.reverse ++ v :: st, avR w) : ∀ w ∈ v :: as, avR w := by
  intro w hw
  apply h
  rcases List.mem_cons.mp hw with rfl | hw
  · exact List.mem_append_right _ List.mem_cons_self
  · exact List.mem_append_left _ (List.mem_reverse.mpr hw)
theorem kdV {ci i : Nat} {R : String} {T : u_T} {ty : Nat → FieldType} {N : Nat} {base : Nat} {D : va_G} {ca : Nat → ClassId} {ad : Nat → Nat} {h : Hp} {H : Heap} {s : State} (ko : KO ci R T ty N) (hk : kd i = (ci, 0)) (hX : CX base D ca ad s) (hW : WD base D ca ad h H) : ∃ cell : Cell, H[ad i]? = some cell ∧ cell.vm.isStatics = false ∧ s.vm.findClass R = some cell.cls := by
  obtain ⟨k1, k2, k3, -⟩ := ko
  have hi : i < 76 := kd_lt (c := ci) (by rw [hk]) (by omega)
  have hg := wsN_g7 (ad := ad) (ca := ca) (h := h) hi
  rw [wcell_o hk k3] at hg
  exact va_recv hX.1 hW.1 (ci := ci) (q0 := i) k1 hg
theorem z_callVi {M' : MI} {ix ci i n : Nat} {R : String} {T : u_T} {ty : Nat → FieldType} {N : Nat} {rt : FieldType} {as : List AV} {K : Int → Hp → Option (Int × Hp)} (ko : KO ci R T ty N) (hd : (mT M)[k]? = some (pc, .invokevirtual ix, 3, t)) (hm : MV (mO M) ix M' n) (hk : kd i = (ci, 0)) (hc : (mY M').cls = R) (hr : mR M' = some rt) (hl : isL rt = false) (hn : as.length = n) (hlow : lowM M M' uu xw = true) (hst : ((st.map acat).sum).ble 8 = true)
    (ct : Ct M' (vr i :: as) h e1) (kk : ∀ r1 h1, Z M (uu + mB M') xw (k + 1) ls (vi r1 :: st) h1 (K r1 h1)) : Z M uu xw k ls (as.reverse ++ vr i :: st) h (bd e1 K) := by
  refine Z.call (st2 := fun r => vi r :: st) ct avR_rev (fun q r hr2 => avR_i (hr2 (by rw [hr]; exact hl)) (fun w hw => q w (List.mem_append_right _ (List.mem_cons_of_mem _ hw)))) hlow ?_ kk
  intro p l e s m args below meth c base D ca ad H locs la Q r1 h1 C L W0 S hM kk
  obtain ⟨o1, -, o3, o4⟩ := okM_at C.1.1 hd
  rw [o4]
  rw [o3 rfl] at kk
  have hlo := low_1 hlow
  have hlc := low_2 hlow
  have hlr := low_3 hlow
  obtain ⟨⟨m1, m2, m3, m4, m5⟩, m6⟩ := hm
  rw [QcO_i hr hl] at hM
  have hG : GoodIn lwT (wsV (mO M) ix R (mY M') (wsM M')) := by
    intro w hw
    rcases List.mem_append.mp hw with hw | hw
    · simp only [List.mem_cons, List.not_mem_nil, or_false] at hw
      rw [hc] at m3 m4
      rcases hw with rfl | rfl | rfl | rfl
      · exact lwT_G _ m1
      · exact lwT_G _ m2
      · exact lwT_G _ m3
      · exact lwT_G _ m4
    · exact wsM_G m5 w hw
  have e5 : (as.reverse ++ vr i :: st).map (mv ad) = (as.map (mv ad)).reverse ++ .ref (ad i) :: st.map (mv ad) := by simp [mv]
  rw [e5]
  refine va_calli (va_runV (As := as.map (mv ad)) (rest := st.map (mv ad)) ⟨C.2.1, C.2.2.1, C.2.2.2.1, C.2.2.2.2.2.2.1, C.2.2.2.2.2.2.2.1⟩ hM (cwV n C.2.2.2.2.2.2.2.1 hG rfl hlr.1 hlr.2 ⟨hc, m6.1, m6.2.1, m6.2.2⟩ hlo) ⟨PcO_blind, kdV ko hk C.2.2.2.2.2.2.2.2 W0, fun U hU hW => PcO_at rfl C.2.2.2.2.2.2.2.2 W0 S hU hW⟩ rfl (by simp [hn]) L.1 rfl (lv_room (by rw [acat_sum]; exact Nat.le_of_ble_eq_true hst)) o1 hlc) S (fun q _ h => h) (fun q h => h) (fun r2 u t H1 locs1 ht hvm hpo hB hz1 hk1 hS1 => ?_)
  subst hpo
  have hB : WD base D ca ad h1 t.heap := hB
  rw [ht] at hB
  exact kk H1 locs1 hB hS1
theorem z_callVv {M' : MI} {ix ci i n : Nat} {R : String} {T : u_T} {ty : Nat → FieldType} {N : Nat} {as : List AV} {K : Int → Hp → Option (Int × Hp)} (ko : KO ci R T ty N) (hd : (mT M)[k]? = some (pc, .invokevirtual ix, 3, t)) (hm : MV (mO M) ix M' n) (hk : kd i = (ci, 0)) (hc : (mY M').cls = R) (hr : mR M' = none) (hn : as.length = n) (hlow : lowM M M' uu xw = true) (hst : ((st.map acat).sum).ble 8 = true)
    (ct : Ct M' (vr i :: as) h e1) (kk : ∀ r1 h1, Z M (uu + mB M') xw (k + 1) ls st h1 (K r1 h1)) : Z M uu xw k ls (as.reverse ++ vr i :: st) h (bd e1 K) := by
  refine Z.call (st2 := fun r => st) ct avR_rev (fun q r hr w hw => q w (List.mem_append_right _ (List.mem_cons_of_mem _ hw))) hlow ?_ kk
  intro p l e s m args below meth c base D ca ad H locs la Q r1 h1 C L W0 S hM kk
  obtain ⟨o1, -, o3, o4⟩ := okM_at C.1.1 hd
  rw [o4]
  rw [o3 rfl] at kk
  have hlo := low_1 hlow
  have hlc := low_2 hlow
  have hlr := low_3 hlow
  obtain ⟨⟨m1, m2, m3, m4, m5⟩, m6⟩ := hm
  rw [QcO_v hr] at hM
  have hG : GoodIn lwT (wsV (mO M) ix R (mY M') (wsM M')) := by
    intro w hw
    rcases List.mem_append.mp hw with hw | hw
    · simp only [List.mem_cons, List.not_mem_nil, or_false] at hw
      rw [hc] at m3 m4
      rcases hw with rfl | rfl | rfl | rfl
      · exact lwT_G _ m1
      · exact lwT_G _ m2
      · exact lwT_G _ m3
      · exact lwT_G _ m4
    · exact wsM_G m5 w hw
  have e5 : (as.reverse ++ vr i :: st).map (mv ad) = (as.map (mv ad)).reverse ++ .ref (ad i) :: st.map (mv ad) := by simp [mv]
  rw [e5]
  refine va_callv (va_runV (As := as.map (mv ad)) (rest := st.map (mv ad)) ⟨C.2.1, C.2.2.1, C.2.2.2.1, C.2.2.2.2.2.2.1, C.2.2.2.2.2.2.2.1⟩ hM (cwV n C.2.2.2.2.2.2.2.1 hG rfl hlr.1 hlr.2 ⟨hc, m6.1, m6.2.1, m6.2.2⟩ hlo) ⟨PcO_blind, kdV ko hk C.2.2.2.2.2.2.2.2 W0, fun U hU hW => PcO_at rfl C.2.2.2.2.2.2.2.2 W0 S hU hW⟩ rfl (by simp [hn]) L.1 rfl (lv_room (by rw [acat_sum]; exact Nat.le_of_ble_eq_true hst)) o1 hlc) S (fun q _ h => h) (fun q h => h) (fun u t H1 locs1 ht hvm hpo hB hz1 hk1 hS1 => ?_)
  have hB : WD base D ca ad h1 t.heap := hB
  rw [ht] at hB
  exact kk H1 locs1 hB hS1
theorem avR_revS {as st : List AV} (h : ∀ w ∈ as.reverse ++ st, avR w) : ∀ w ∈ as, avR w := fun w hw => h w (List.mem_append_left _ (List.mem_reverse.mpr hw))
/-- a static call, all that return a number -/
theorem z_callSi {M' : MI} {ix n : Nat} {rt : FieldType} {as : List AV} {K : Int → Hp → Option (Int × Hp)} (hd : (mT M)[k]? = some (pc, .invokestatic ix, 3, t)) (hm : MS (mO M) ix M' n) (hr : mR M' = some rt) (hl : isL rt = false) (hn : as.length = n) (hlow : lowM M M' uu xw = true) (hst : ((st.map acat).sum).ble 8 = true)
    (ct : Ct M' as h e1) (kk : ∀ r1 h1, Z M (uu + mB M') xw (k + 1) ls (vi r1 :: st) h1 (K r1 h1)) : Z M uu xw k ls (as.reverse ++ st) h (bd e1 K) := by
  refine Z.call (st2 := fun r => vi r :: st) ct avR_revS (fun q r hr2 => avR_i (hr2 (by rw [hr]; exact hl)) (fun w hw => q w (List.mem_append_right _ hw))) hlow ?_ kk
  intro p l e s m args below meth c base D ca ad H locs la Q r1 h1 C L W0 S hM kk
  obtain ⟨o1, -, o3, o4⟩ := okM_at C.1.1 hd
  rw [o4]
  rw [o3 rfl] at kk
  have hlo := low_1 hlow
  have hlc := low_2 hlow
  have hlr := low_3 hlow
  obtain ⟨⟨m1, m2, m4, m5⟩, m6⟩ := hm
  rw [QcO_i hr hl] at hM
  have e5 : (as.reverse ++ st).map (mv ad) = (as.map (mv ad)).reverse ++ st.map (mv ad) := by simp
  rw [e5]
  have hts := C.2.2.2.2.2.2.2.1
  refine va_calli (va_runS (As := as.map (mv ad)) (rest := st.map (mv ad)) ⟨C.2.1, C.2.2.1, C.2.2.2.1, C.2.2.2.2.2.2.1, hts⟩ hM ⟨callB_of n hts (wsM_G m5) rfl hlr.1 hlr.2 (hts _ m4) (hts _ m1) m6 hlo, hts _ m2⟩ ⟨PcO_blind, fun U hU hW => PcO_at rfl C.2.2.2.2.2.2.2.2 W0 S hU hW⟩ rfl (by simp [hn]) L.1 rfl (lv_room (by rw [acat_sum]; exact Nat.le_of_ble_eq_true hst)) o1 hlc) S (fun q _ h => h) (fun q h => h) (fun r2 u t H1 locs1 ht hvm hpo hB hz1 hk1 hS1 => ?_)
  subst hpo
  have hB : WD base D ca ad h1 t.heap := hB
  rw [ht] at hB
  exact kk H1 locs1 hB hS1
/-- a static call, one that returns a long -/
theorem z_callSl {M' : MI} {ix n : Nat} {as : List AV} {K : Int → Hp → Option (Int × Hp)} (hd : (mT M)[k]? = some (pc, .invokestatic ix, 3, t)) (hm : MS (mO M) ix M' n) (hr : mR M' = some .long) (hn : as.length = n) (hlow : lowM M M' uu xw = true) (hst : ((st.map acat).sum).ble 8 = true)
    (ct : Ct M' as h e1) (kk : ∀ r1 h1, Z M (uu + mB M') xw (k + 1) ls (vx (.long (Int64.ofInt r1)) :: st) h1 (K r1 h1)) : Z M uu xw k ls (as.reverse ++ st) h (bd e1 K) := by
  refine Z.call (st2 := fun r => vx (.long (Int64.ofInt r)) :: st) ct avR_revS (fun q r hr2 => avR_c (v := vx (.long _)) True.intro (fun w hw => q w (List.mem_append_right _ hw))) hlow ?_ kk
  intro p l e s m args below meth c base D ca ad H locs la Q r1 h1 C L W0 S hM kk
  obtain ⟨o1, -, o3, o4⟩ := okM_at C.1.1 hd
  rw [o4]
  rw [o3 rfl] at kk
  have hlo := low_1 hlow
  have hlc := low_2 hlow
  have hlr := low_3 hlow
  obtain ⟨⟨m1, m2, m4, m5⟩, m6⟩ := hm
  rw [QcO_l hr] at hM
  have e5 : (as.reverse ++ st).map (mv ad) = (as.map (mv ad)).reverse ++ st.map (mv ad) := by simp
  rw [e5]
  have hts := C.2.2.2.2.2.2.2.1
  refine va_calll (va_runS (As := as.map (mv ad)) (rest := st.map (mv ad)) ⟨C.2.1, C.2.2.1, C.2.2.2.1, C.2.2.2.2.2.2.1, hts⟩ hM ⟨callB_of n hts (wsM_G m5) rfl hlr.1 hlr.2 (hts _ m4) (hts _ m1) m6 hlo, hts _ m2⟩ ⟨PcO_blind, fun U hU hW => PcO_at rfl C.2.2.2.2.2.2.2.2 W0 S hU hW⟩ rfl (by simp [hn]) L.1 rfl (lv_room (by rw [acat_sum]; exact Nat.le_of_ble_eq_true hst)) o1 hlc) S (fun q _ h => h) (fun q h => h) (fun r2 u t H1 locs1 ht hvm hpo hB hz1 hk1 hS1 => ?_)
  subst hpo
  have hB : WD base D ca ad h1 t.heap := hB
  rw [ht] at hB
  exact kk H1 locs1 hB hS1
theorem z_callNi {M' : MI} {ix n : Nat} {rt : FieldType} {as : List AV} {K : Int → Hp → Option (Int × Hp)} (hd : (mT M)[k]? = some (pc, .invokestatic ix, 3, t)) (hm : MSN (mO M) ix M' n) (hr : mR M' = some rt) (hl : isL rt = false) (hn : as.length = n) (hlow : lowM M M' uu xw = true) (hst : ((st.map acat).sum).ble 8 = true)
    (ct : Ct M' as h e1) (kk : ∀ r1 h1, Z M (uu + mB M') xw (k + 1) ls (vi r1 :: st) h1 (K r1 h1)) : Z M uu xw k ls (as.reverse ++ st) h (bd e1 K) := by
  refine Z.call (st2 := fun r => vi r :: st) ct avR_revS (fun q r hr2 => avR_i (hr2 (by rw [hr]; exact hl)) (fun w hw => q w (List.mem_append_right _ hw))) hlow ?_ kk
  intro p l e s m args below meth c base D ca ad H locs la Q r1 h1 C L W0 S hM kk
  obtain ⟨o1, -, o3, o4⟩ := okM_at C.1.1 hd
  rw [o4]
  rw [o3 rfl] at kk
  have hlo := low_1 hlow
  have hlc := low_2 hlow
  have hlr := low_3 hlow
  obtain ⟨⟨host, m1⟩, ⟨m2, m4, m5⟩, m6⟩ := hm
  rw [QcO_i hr hl] at hM
  have e5 : (as.reverse ++ st).map (mv ad) = (as.map (mv ad)).reverse ++ st.map (mv ad) := by simp
  rw [e5]
  have hts := C.2.2.2.2.2.2.2.1
  refine va_calli (va_runSN (As := as.map (mv ad)) (rest := st.map (mv ad)) ⟨C.2.1, C.2.2.1, C.2.2.2.1, C.2.2.2.2.2.2.1, hts⟩ hM ⟨va_cnB n hts (wsM_G m5) rfl hlr.1 hlr.2 (C.2.2.2.2.2.2.2.2.2.1 _ m1 rfl) (hts _ m4) m6 hlo, hts _ m2, True.intro⟩ ⟨PcO_blind, fun U hU hW => PcO_at rfl C.2.2.2.2.2.2.2.2 W0 S hU hW⟩ rfl (by simp [hn]) L.1 rfl (lv_room (by rw [acat_sum]; exact Nat.le_of_ble_eq_true hst)) o1 hlc) S (fun q _ h => h) (fun q h => h) (fun r2 u t H1 locs1 ht hvm hpo hB hz1 hk1 hS1 => ?_)
  subst hpo
  have hB : WD base D ca ad h1 t.heap := hB
  rw [ht] at hB
  exact kk H1 locs1 hB hS1
end Steps3
end
section
/-! the judgement Z: what is named on the way, calls by their number of arguments, switches, rows that are static, copies, floats, longs -/
section Steps4
/-- a heap, a number, under a name -/
def lt (h : Hp) (K : Hp → Option (Int × Hp)) : Option (Int × Hp) := K h
def lv (x : Int) (K : Int → Option (Int × Hp)) : Option (Int × Hp) := K x
variable {M : MI} {uu xw k pc t : Nat} {ls : List (Option AV)} {st : List AV} {h : Hp} {e e1 e2 : Option (Int × Hp)}
theorem z_putL {ix ci f i : Nat} {x : Int} {K : Hp → Option (Int × Hp)} (hl : FI (mO M) ix ci f) (ho : off ci f = none) (hk : kd i = (ci, 0)) (hd : (mT M)[k]? = some (pc, .putfield ix, 3, t)) (kk : ∀ h1, Z M uu xw (k + 1) ls st h1 (K h1)) : Z M uu xw k ls (vi x :: vr i :: st) h (lt (hup h i f x) K) := z_putI hd hl ho hk (kk _)
theorem z_iastoreL {i n : Nat} {x y : Int} {K : Hp → Option (Int × Hp)} (hk : kd i = (10, n)) (hd : (mT M)[k]? = some (pc, .iastore, 1, t)) (kk : ∀ h1, Z M uu xw (k + 1) ls st h1 (K h1)) : Z M uu xw k ls (vi x :: vi y :: vr i :: st) h (if inb y n then lt (hup h i y.toNat x) K else none) := z_iastore hd hk (kk _)
theorem z_bastoreL {i n : Nat} {x y : Int} {K : Hp → Option (Int × Hp)} (hk : kd i = (11, n)) (hd : (mT M)[k]? = some (pc, .bastore, 1, t)) (kk : ∀ h1, Z M uu xw (k + 1) ls st h1 (K h1)) : Z M uu xw k ls (vi x :: vi y :: vr i :: st) h (if inb y n ∧ isB x then lt (hup h i y.toNat x) K else none) := z_bastore hd hk (kk _)
theorem z_castoreL {i n : Nat} {x y : Int} {K : Hp → Option (Int × Hp)} (hk : kd i = (12, n)) (hd : (mT M)[k]? = some (pc, .castore, 1, t)) (kk : ∀ h1, Z M uu xw (k + 1) ls st h1 (K h1)) : Z M uu xw k ls (vi x :: vi y :: vr i :: st) h (if inb y n ∧ isC x then lt (hup h i y.toNat x) K else none) := z_castore hd hk (kk _)
theorem z_aastoreL {i n j : Nat} {y : Int} {K : Hp → Option (Int × Hp)} (hk : kd i = (13, n)) (hj : kd j = (1, 0)) (hd : (mT M)[k]? = some (pc, .aastore, 1, t)) (kk : ∀ h1, Z M uu xw (k + 1) ls st h1 (K h1)) : Z M uu xw k ls (vr j :: vi y :: vr i :: st) h (if inb y n then lt (hup h i y.toNat (j : Int)) K else none) := z_aastore hd hk hj (kk _)
theorem z_istore_nL {j : Fin 4} {x : Int} {K : Int → Option (Int × Hp)} (hd : (mT M)[k]? = some (pc, .istore_n j, 1, t)) (hc : (decide ((j : Nat) < mN M) && !(c2 ls j)) = true) (kk : ∀ y, Z M uu xw (k + 1) (ls.set j (some (vi y))) st h (K y)) : Z M uu xw k ls (vi x :: st) h (lv x K) := z_istore_n hd hc (kk _)
theorem z_istoreL {j : Nat} {x : Int} {K : Int → Option (Int × Hp)} (hd : (mT M)[k]? = some (pc, .istore j, 2, t)) (hc : (decide (j < mN M) && !(c2 ls j)) = true) (kk : ∀ y, Z M uu xw (k + 1) (ls.set j (some (vi y))) st h (K y)) : Z M uu xw k ls (vi x :: st) h (lv x K) := z_istore hd hc (kk _)

theorem z_V0i {M' : MI} {ix ci i : Nat} {R : String} {T : u_T} {ty : Nat → FieldType} {N : Nat} {rt : FieldType} {K : Int → Hp → Option (Int × Hp)} (ko : KO ci R T ty N) (hm : MV (mO M) ix M' 0) (hk : kd i = (ci, 0)) (ct : Ct M' (vr i :: []) h e1) (hd : (mT M)[k]? = some (pc, .invokevirtual ix, 3, t)) (hc : (mY M').cls = R) (hr : mR M' = some rt) (hl : isL rt = false) (hlow : lowM M M' uu xw = true) (hst : ((st.map acat).sum).ble 8 = true)
    (kk : ∀ r1 h1, Z M (uu + mB M') xw (k + 1) ls (vi r1 :: st) h1 (K r1 h1)) : Z M uu xw k ls (vr i :: st) h (bd e1 K) := z_callVi (as := []) ko hd hm hk hc hr hl rfl hlow hst ct kk
theorem z_V0v {M' : MI} {ix ci i : Nat} {R : String} {T : u_T} {ty : Nat → FieldType} {N : Nat} {K : Int → Hp → Option (Int × Hp)} (ko : KO ci R T ty N) (hm : MV (mO M) ix M' 0) (hk : kd i = (ci, 0)) (ct : Ct M' (vr i :: []) h e1) (hd : (mT M)[k]? = some (pc, .invokevirtual ix, 3, t)) (hc : (mY M').cls = R) (hr : mR M' = none) (hlow : lowM M M' uu xw = true) (hst : ((st.map acat).sum).ble 8 = true)
    (kk : ∀ r1 h1, Z M (uu + mB M') xw (k + 1) ls (st) h1 (K r1 h1)) : Z M uu xw k ls (vr i :: st) h (bd e1 K) := z_callVv (as := []) ko hd hm hk hc hr rfl hlow hst ct kk
theorem z_S0i {M' : MI} {ix : Nat} {rt : FieldType} {K : Int → Hp → Option (Int × Hp)} (hm : MS (mO M) ix M' 0) (ct : Ct M' [] h e1) (hd : (mT M)[k]? = some (pc, .invokestatic ix, 3, t)) (hr : mR M' = some rt) (hl : isL rt = false) (hlow : lowM M M' uu xw = true) (hst : ((st.map acat).sum).ble 8 = true)
    (kk : ∀ r1 h1, Z M (uu + mB M') xw (k + 1) ls (vi r1 :: st) h1 (K r1 h1)) : Z M uu xw k ls (st) h (bd e1 K) := z_callSi (as := []) hd hm hr hl rfl hlow hst ct kk
theorem z_N0i {M' : MI} {ix : Nat} {rt : FieldType} {K : Int → Hp → Option (Int × Hp)} (hm : MSN (mO M) ix M' 0) (ct : Ct M' [] h e1) (hd : (mT M)[k]? = some (pc, .invokestatic ix, 3, t)) (hr : mR M' = some rt) (hl : isL rt = false) (hlow : lowM M M' uu xw = true) (hst : ((st.map acat).sum).ble 8 = true)
    (kk : ∀ r1 h1, Z M (uu + mB M') xw (k + 1) ls (vi r1 :: st) h1 (K r1 h1)) : Z M uu xw k ls (st) h (bd e1 K) := z_callNi (as := []) hd hm hr hl rfl hlow hst ct kk
theorem z_V1i {M' : MI} {ix ci i : Nat} {R : String} {T : u_T} {ty : Nat → FieldType} {N : Nat} {rt : FieldType} {v1 : AV} {K : Int → Hp → Option (Int × Hp)} (ko : KO ci R T ty N) (hm : MV (mO M) ix M' 1) (hk : kd i = (ci, 0)) (ct : Ct M' (vr i :: [v1]) h e1) (hd : (mT M)[k]? = some (pc, .invokevirtual ix, 3, t)) (hc : (mY M').cls = R) (hr : mR M' = some rt) (hl : isL rt = false) (hlow : lowM M M' uu xw = true) (hst : ((st.map acat).sum).ble 8 = true)
    (kk : ∀ r1 h1, Z M (uu + mB M') xw (k + 1) ls (vi r1 :: st) h1 (K r1 h1)) : Z M uu xw k ls (v1 :: vr i :: st) h (bd e1 K) := z_callVi (as := [v1]) ko hd hm hk hc hr hl rfl hlow hst ct kk
theorem z_V1v {M' : MI} {ix ci i : Nat} {R : String} {T : u_T} {ty : Nat → FieldType} {N : Nat} {v1 : AV} {K : Int → Hp → Option (Int × Hp)} (ko : KO ci R T ty N) (hm : MV (mO M) ix M' 1) (hk : kd i = (ci, 0)) (ct : Ct M' (vr i :: [v1]) h e1) (hd : (mT M)[k]? = some (pc, .invokevirtual ix, 3, t)) (hc : (mY M').cls = R) (hr : mR M' = none) (hlow : lowM M M' uu xw = true) (hst : ((st.map acat).sum).ble 8 = true)
    (kk : ∀ r1 h1, Z M (uu + mB M') xw (k + 1) ls (st) h1 (K r1 h1)) : Z M uu xw k ls (v1 :: vr i :: st) h (bd e1 K) := z_callVv (as := [v1]) ko hd hm hk hc hr rfl hlow hst ct kk
theorem z_S1i {M' : MI} {ix : Nat} {rt : FieldType} {v1 : AV} {K : Int → Hp → Option (Int × Hp)} (hm : MS (mO M) ix M' 1) (ct : Ct M' [v1] h e1) (hd : (mT M)[k]? = some (pc, .invokestatic ix, 3, t)) (hr : mR M' = some rt) (hl : isL rt = false) (hlow : lowM M M' uu xw = true) (hst : ((st.map acat).sum).ble 8 = true)
    (kk : ∀ r1 h1, Z M (uu + mB M') xw (k + 1) ls (vi r1 :: st) h1 (K r1 h1)) : Z M uu xw k ls (v1 :: st) h (bd e1 K) := z_callSi (as := [v1]) hd hm hr hl rfl hlow hst ct kk
theorem z_N1i {M' : MI} {ix : Nat} {rt : FieldType} {v1 : AV} {K : Int → Hp → Option (Int × Hp)} (hm : MSN (mO M) ix M' 1) (ct : Ct M' [v1] h e1) (hd : (mT M)[k]? = some (pc, .invokestatic ix, 3, t)) (hr : mR M' = some rt) (hl : isL rt = false) (hlow : lowM M M' uu xw = true) (hst : ((st.map acat).sum).ble 8 = true)
    (kk : ∀ r1 h1, Z M (uu + mB M') xw (k + 1) ls (vi r1 :: st) h1 (K r1 h1)) : Z M uu xw k ls (v1 :: st) h (bd e1 K) := z_callNi (as := [v1]) hd hm hr hl rfl hlow hst ct kk
theorem z_V2i {M' : MI} {ix ci i : Nat} {R : String} {T : u_T} {ty : Nat → FieldType} {N : Nat} {rt : FieldType} {v1 v2 : AV} {K : Int → Hp → Option (Int × Hp)} (ko : KO ci R T ty N) (hm : MV (mO M) ix M' 2) (hk : kd i = (ci, 0)) (ct : Ct M' (vr i :: [v1, v2]) h e1) (hd : (mT M)[k]? = some (pc, .invokevirtual ix, 3, t)) (hc : (mY M').cls = R) (hr : mR M' = some rt) (hl : isL rt = false) (hlow : lowM M M' uu xw = true) (hst : ((st.map acat).sum).ble 8 = true)
    (kk : ∀ r1 h1, Z M (uu + mB M') xw (k + 1) ls (vi r1 :: st) h1 (K r1 h1)) : Z M uu xw k ls (v2 :: v1 :: vr i :: st) h (bd e1 K) := z_callVi (as := [v1, v2]) ko hd hm hk hc hr hl rfl hlow hst ct kk
theorem z_V2v {M' : MI} {ix ci i : Nat} {R : String} {T : u_T} {ty : Nat → FieldType} {N : Nat} {v1 v2 : AV} {K : Int → Hp → Option (Int × Hp)} (ko : KO ci R T ty N) (hm : MV (mO M) ix M' 2) (hk : kd i = (ci, 0)) (ct : Ct M' (vr i :: [v1, v2]) h e1) (hd : (mT M)[k]? = some (pc, .invokevirtual ix, 3, t)) (hc : (mY M').cls = R) (hr : mR M' = none) (hlow : lowM M M' uu xw = true) (hst : ((st.map acat).sum).ble 8 = true)
    (kk : ∀ r1 h1, Z M (uu + mB M') xw (k + 1) ls (st) h1 (K r1 h1)) : Z M uu xw k ls (v2 :: v1 :: vr i :: st) h (bd e1 K) := z_callVv (as := [v1, v2]) ko hd hm hk hc hr rfl hlow hst ct kk
theorem z_S2i {M' : MI} {ix : Nat} {rt : FieldType} {v1 v2 : AV} {K : Int → Hp → Option (Int × Hp)} (hm : MS (mO M) ix M' 2) (ct : Ct M' [v1, v2] h e1) (hd : (mT M)[k]? = some (pc, .invokestatic ix, 3, t)) (hr : mR M' = some rt) (hl : isL rt = false) (hlow : lowM M M' uu xw = true) (hst : ((st.map acat).sum).ble 8 = true)
    (kk : ∀ r1 h1, Z M (uu + mB M') xw (k + 1) ls (vi r1 :: st) h1 (K r1 h1)) : Z M uu xw k ls (v2 :: v1 :: st) h (bd e1 K) := z_callSi (as := [v1, v2]) hd hm hr hl rfl hlow hst ct kk
theorem z_N2i {M' : MI} {ix : Nat} {rt : FieldType} {v1 v2 : AV} {K : Int → Hp → Option (Int × Hp)} (hm : MSN (mO M) ix M' 2) (ct : Ct M' [v1, v2] h e1) (hd : (mT M)[k]? = some (pc, .invokestatic ix, 3, t)) (hr : mR M' = some rt) (hl : isL rt = false) (hlow : lowM M M' uu xw = true) (hst : ((st.map acat).sum).ble 8 = true)
    (kk : ∀ r1 h1, Z M (uu + mB M') xw (k + 1) ls (vi r1 :: st) h1 (K r1 h1)) : Z M uu xw k ls (v2 :: v1 :: st) h (bd e1 K) := z_callNi (as := [v1, v2]) hd hm hr hl rfl hlow hst ct kk
theorem z_V3i {M' : MI} {ix ci i : Nat} {R : String} {T : u_T} {ty : Nat → FieldType} {N : Nat} {rt : FieldType} {v1 v2 v3 : AV} {K : Int → Hp → Option (Int × Hp)} (ko : KO ci R T ty N) (hm : MV (mO M) ix M' 3) (hk : kd i = (ci, 0)) (ct : Ct M' (vr i :: [v1, v2, v3]) h e1) (hd : (mT M)[k]? = some (pc, .invokevirtual ix, 3, t)) (hc : (mY M').cls = R) (hr : mR M' = some rt) (hl : isL rt = false) (hlow : lowM M M' uu xw = true) (hst : ((st.map acat).sum).ble 8 = true)
    (kk : ∀ r1 h1, Z M (uu + mB M') xw (k + 1) ls (vi r1 :: st) h1 (K r1 h1)) : Z M uu xw k ls (v3 :: v2 :: v1 :: vr i :: st) h (bd e1 K) := z_callVi (as := [v1, v2, v3]) ko hd hm hk hc hr hl rfl hlow hst ct kk
theorem z_V3v {M' : MI} {ix ci i : Nat} {R : String} {T : u_T} {ty : Nat → FieldType} {N : Nat} {v1 v2 v3 : AV} {K : Int → Hp → Option (Int × Hp)} (ko : KO ci R T ty N) (hm : MV (mO M) ix M' 3) (hk : kd i = (ci, 0)) (ct : Ct M' (vr i :: [v1, v2, v3]) h e1) (hd : (mT M)[k]? = some (pc, .invokevirtual ix, 3, t)) (hc : (mY M').cls = R) (hr : mR M' = none) (hlow : lowM M M' uu xw = true) (hst : ((st.map acat).sum).ble 8 = true)
    (kk : ∀ r1 h1, Z M (uu + mB M') xw (k + 1) ls (st) h1 (K r1 h1)) : Z M uu xw k ls (v3 :: v2 :: v1 :: vr i :: st) h (bd e1 K) := z_callVv (as := [v1, v2, v3]) ko hd hm hk hc hr rfl hlow hst ct kk
theorem z_S3i {M' : MI} {ix : Nat} {rt : FieldType} {v1 v2 v3 : AV} {K : Int → Hp → Option (Int × Hp)} (hm : MS (mO M) ix M' 3) (ct : Ct M' [v1, v2, v3] h e1) (hd : (mT M)[k]? = some (pc, .invokestatic ix, 3, t)) (hr : mR M' = some rt) (hl : isL rt = false) (hlow : lowM M M' uu xw = true) (hst : ((st.map acat).sum).ble 8 = true)
    (kk : ∀ r1 h1, Z M (uu + mB M') xw (k + 1) ls (vi r1 :: st) h1 (K r1 h1)) : Z M uu xw k ls (v3 :: v2 :: v1 :: st) h (bd e1 K) := z_callSi (as := [v1, v2, v3]) hd hm hr hl rfl hlow hst ct kk
theorem z_N3i {M' : MI} {ix : Nat} {rt : FieldType} {v1 v2 v3 : AV} {K : Int → Hp → Option (Int × Hp)} (hm : MSN (mO M) ix M' 3) (ct : Ct M' [v1, v2, v3] h e1) (hd : (mT M)[k]? = some (pc, .invokestatic ix, 3, t)) (hr : mR M' = some rt) (hl : isL rt = false) (hlow : lowM M M' uu xw = true) (hst : ((st.map acat).sum).ble 8 = true)
    (kk : ∀ r1 h1, Z M (uu + mB M') xw (k + 1) ls (vi r1 :: st) h1 (K r1 h1)) : Z M uu xw k ls (v3 :: v2 :: v1 :: st) h (bd e1 K) := z_callNi (as := [v1, v2, v3]) hd hm hr hl rfl hlow hst ct kk
theorem z_V4i {M' : MI} {ix ci i : Nat} {R : String} {T : u_T} {ty : Nat → FieldType} {N : Nat} {rt : FieldType} {v1 v2 v3 v4 : AV} {K : Int → Hp → Option (Int × Hp)} (ko : KO ci R T ty N) (hm : MV (mO M) ix M' 4) (hk : kd i = (ci, 0)) (ct : Ct M' (vr i :: [v1, v2, v3, v4]) h e1) (hd : (mT M)[k]? = some (pc, .invokevirtual ix, 3, t)) (hc : (mY M').cls = R) (hr : mR M' = some rt) (hl : isL rt = false) (hlow : lowM M M' uu xw = true) (hst : ((st.map acat).sum).ble 8 = true)
    (kk : ∀ r1 h1, Z M (uu + mB M') xw (k + 1) ls (vi r1 :: st) h1 (K r1 h1)) : Z M uu xw k ls (v4 :: v3 :: v2 :: v1 :: vr i :: st) h (bd e1 K) := z_callVi (as := [v1, v2, v3, v4]) ko hd hm hk hc hr hl rfl hlow hst ct kk
theorem z_V4v {M' : MI} {ix ci i : Nat} {R : String} {T : u_T} {ty : Nat → FieldType} {N : Nat} {v1 v2 v3 v4 : AV} {K : Int → Hp → Option (Int × Hp)} (ko : KO ci R T ty N) (hm : MV (mO M) ix M' 4) (hk : kd i = (ci, 0)) (ct : Ct M' (vr i :: [v1, v2, v3, v4]) h e1) (hd : (mT M)[k]? = some (pc, .invokevirtual ix, 3, t)) (hc : (mY M').cls = R) (hr : mR M' = none) (hlow : lowM M M' uu xw = true) (hst : ((st.map acat).sum).ble 8 = true)
    (kk : ∀ r1 h1, Z M (uu + mB M') xw (k + 1) ls (st) h1 (K r1 h1)) : Z M uu xw k ls (v4 :: v3 :: v2 :: v1 :: vr i :: st) h (bd e1 K) := z_callVv (as := [v1, v2, v3, v4]) ko hd hm hk hc hr rfl hlow hst ct kk
theorem z_S4i {M' : MI} {ix : Nat} {rt : FieldType} {v1 v2 v3 v4 : AV} {K : Int → Hp → Option (Int × Hp)} (hm : MS (mO M) ix M' 4) (ct : Ct M' [v1, v2, v3, v4] h e1) (hd : (mT M)[k]? = some (pc, .invokestatic ix, 3, t)) (hr : mR M' = some rt) (hl : isL rt = false) (hlow : lowM M M' uu xw = true) (hst : ((st.map acat).sum).ble 8 = true)
    (kk : ∀ r1 h1, Z M (uu + mB M') xw (k + 1) ls (vi r1 :: st) h1 (K r1 h1)) : Z M uu xw k ls (v4 :: v3 :: v2 :: v1 :: st) h (bd e1 K) := z_callSi (as := [v1, v2, v3, v4]) hd hm hr hl rfl hlow hst ct kk
theorem z_N4i {M' : MI} {ix : Nat} {rt : FieldType} {v1 v2 v3 v4 : AV} {K : Int → Hp → Option (Int × Hp)} (hm : MSN (mO M) ix M' 4) (ct : Ct M' [v1, v2, v3, v4] h e1) (hd : (mT M)[k]? = some (pc, .invokestatic ix, 3, t)) (hr : mR M' = some rt) (hl : isL rt = false) (hlow : lowM M M' uu xw = true) (hst : ((st.map acat).sum).ble 8 = true)
    (kk : ∀ r1 h1, Z M (uu + mB M') xw (k + 1) ls (vi r1 :: st) h1 (K r1 h1)) : Z M uu xw k ls (v4 :: v3 :: v2 :: v1 :: st) h (bd e1 K) := z_callNi (as := [v1, v2, v3, v4]) hd hm hr hl rfl hlow hst ct kk
theorem z_V5i {M' : MI} {ix ci i : Nat} {R : String} {T : u_T} {ty : Nat → FieldType} {N : Nat} {rt : FieldType} {v1 v2 v3 v4 v5 : AV} {K : Int → Hp → Option (Int × Hp)} (ko : KO ci R T ty N) (hm : MV (mO M) ix M' 5) (hk : kd i = (ci, 0)) (ct : Ct M' (vr i :: [v1, v2, v3, v4, v5]) h e1) (hd : (mT M)[k]? = some (pc, .invokevirtual ix, 3, t)) (hc : (mY M').cls = R) (hr : mR M' = some rt) (hl : isL rt = false) (hlow : lowM M M' uu xw = true) (hst : ((st.map acat).sum).ble 8 = true)
    (kk : ∀ r1 h1, Z M (uu + mB M') xw (k + 1) ls (vi r1 :: st) h1 (K r1 h1)) : Z M uu xw k ls (v5 :: v4 :: v3 :: v2 :: v1 :: vr i :: st) h (bd e1 K) := z_callVi (as := [v1, v2, v3, v4, v5]) ko hd hm hk hc hr hl rfl hlow hst ct kk
theorem z_V5v {M' : MI} {ix ci i : Nat} {R : String} {T : u_T} {ty : Nat → FieldType} {N : Nat} {v1 v2 v3 v4 v5 : AV} {K : Int → Hp → Option (Int × Hp)} (ko : KO ci R T ty N) (hm : MV (mO M) ix M' 5) (hk : kd i = (ci, 0)) (ct : Ct M' (vr i :: [v1, v2, v3, v4, v5]) h e1) (hd : (mT M)[k]? = some (pc, .invokevirtual ix, 3, t)) (hc : (mY M').cls = R) (hr : mR M' = none) (hlow : lowM M M' uu xw = true) (hst : ((st.map acat).sum).ble 8 = true)
    (kk : ∀ r1 h1, Z M (uu + mB M') xw (k + 1) ls (st) h1 (K r1 h1)) : Z M uu xw k ls (v5 :: v4 :: v3 :: v2 :: v1 :: vr i :: st) h (bd e1 K) := z_callVv (as := [v1, v2, v3, v4, v5]) ko hd hm hk hc hr rfl hlow hst ct kk
theorem z_S5i {M' : MI} {ix : Nat} {rt : FieldType} {v1 v2 v3 v4 v5 : AV} {K : Int → Hp → Option (Int × Hp)} (hm : MS (mO M) ix M' 5) (ct : Ct M' [v1, v2, v3, v4, v5] h e1) (hd : (mT M)[k]? = some (pc, .invokestatic ix, 3, t)) (hr : mR M' = some rt) (hl : isL rt = false) (hlow : lowM M M' uu xw = true) (hst : ((st.map acat).sum).ble 8 = true)
    (kk : ∀ r1 h1, Z M (uu + mB M') xw (k + 1) ls (vi r1 :: st) h1 (K r1 h1)) : Z M uu xw k ls (v5 :: v4 :: v3 :: v2 :: v1 :: st) h (bd e1 K) := z_callSi (as := [v1, v2, v3, v4, v5]) hd hm hr hl rfl hlow hst ct kk
theorem z_N5i {M' : MI} {ix : Nat} {rt : FieldType} {v1 v2 v3 v4 v5 : AV} {K : Int → Hp → Option (Int × Hp)} (hm : MSN (mO M) ix M' 5) (ct : Ct M' [v1, v2, v3, v4, v5] h e1) (hd : (mT M)[k]? = some (pc, .invokestatic ix, 3, t)) (hr : mR M' = some rt) (hl : isL rt = false) (hlow : lowM M M' uu xw = true) (hst : ((st.map acat).sum).ble 8 = true)
    (kk : ∀ r1 h1, Z M (uu + mB M') xw (k + 1) ls (vi r1 :: st) h1 (K r1 h1)) : Z M uu xw k ls (v5 :: v4 :: v3 :: v2 :: v1 :: st) h (bd e1 K) := z_callNi (as := [v1, v2, v3, v4, v5]) hd hm hr hl rfl hlow hst ct kk
theorem z_getRn {ix ci f i o m : Nat} (hm : i + o = m) (hl : FL (mO M) ix ci f) (ho : off ci f = some o) (hk : kd i = (ci, 0)) (hd : (mT M)[k]? = some (pc, .getfield ix, 3, t)) (kk : Z M uu xw (k + 1) ls (vr m :: st) h e) : Z M uu xw k ls (vr i :: st) h e := by
  subst hm
  exact z_getR hd hl ho hk kk
def lr (x : Nat) (K : Nat → Option (Int × Hp)) : Option (Int × Hp) := K x
theorem z_astore_nQ {j : Fin 4} {x : Nat} {K : Nat → Option (Int × Hp)} (hk : kd x = (1, 0)) (hd : (mT M)[k]? = some (pc, .astore_n j, 1, t)) (hc : (decide ((j : Nat) < mN M) && !(c2 ls j)) = true) (kk : ∀ y, kd y = (1, 0) → Z M uu xw (k + 1) (ls.set j (some (vr y))) st h (K y)) : Z M uu xw k ls (vr x :: st) h (lr x K) := z_astore_n hd hc (kk _ hk)
/-! switches -/
def swO (i : Instr) (x : Int) : Option Int := match i with
  | .tableswitch d lo hi offs => if x < lo ∨ hi < x then some d else offs[(x - lo).toNat]?
  | .lookupswitch d ps => some (Op.lookupswitch.offset ps.toList d x)
  | _ => none
theorem z_table {x lo hi dd o : Int} {offs : Array Int} {len tg : Nat} (hd : (mT M)[k]? = some (pc, .tableswitch dd lo hi offs, len, t)) (hs : swO (.tableswitch dd lo hi offs) x = some o) (ht : (pc : Int) + o = (pcO M tg : Int)) (kk : Z M uu xw tg ls st h e) : Z M uu xw k ls (vi x :: st) h e := by
  refine Z.pure (fun a b => avR_t a) ?_ kk
  intro p l e s m args below meth c base D ca ad H locs la Q a _ C L _ _ _ _ kk
  obtain ⟨o1, o2, o3, o4⟩ := okM_at C.1.1 hd
  rw [o4]
  have rx : iR x := avR_h a
  unfold swO at hs
  dsimp only at hs
  by_cases hx : x < lo ∨ hi < x
  · rw [if_pos hx] at hs
    cases hs
    exact lv_tableOut C.2.1 C.2.2.1 o1 (by rw [ofI_T rx]; exact hx) ht kk
  · rw [if_neg hx] at hs
    exact lv_tableIn C.2.1 C.2.2.1 o1 (by rw [ofI_T rx]; omega) (by rw [ofI_T rx]; omega) (by rw [ofI_T rx]; exact hs) ht kk
theorem z_look {x dd o : Int} {ps : Array (Int × Int)} {len tg : Nat} (hd : (mT M)[k]? = some (pc, .lookupswitch dd ps, len, t)) (hp : (ps.toList.zip (ps.toList.drop 1)).all (fun (a, next) => a.1 < next.1) = true) (hs : Op.lookupswitch.offset ps.toList dd x = o) (ht : (pc : Int) + o = (pcO M tg : Int)) (kk : Z M uu xw tg ls st h e) : Z M uu xw k ls (vi x :: st) h e := by
  refine Z.pure (fun a b => avR_t a) ?_ kk
  intro p l e s m args below meth c base D ca ad H locs la Q a _ C L _ _ _ _ kk
  obtain ⟨o1, o2, o3, o4⟩ := okM_at C.1.1 hd
  rw [o4]
  have rx : iR x := avR_h a
  exact lv_lookup C.2.1 C.2.2.1 o1 hp (by rw [ofI_T rx]; exact hs) ht kk
theorem Z.ite {P : Prop} [Decidable P] (kt : P → Z M uu xw k ls st h e1) (kf : ¬ P → Z M uu xw k ls st h e2) : Z M uu xw k ls st h (if P then e1 else e2) := by
  by_cases hP : P
  · rw [if_pos hP]
    exact kt hP
  · rw [if_neg hP]
    exact kf hP
/-! static rows -/
theorem kdS {i n : Nat} (hk : kd i = (30, n)) : 84 ≤ i ∧ i < 87 ∧ n = 7 := by
  have key : ∀ i, i < 97 → (kd i).1 = 30 → 84 ≤ i ∧ i < 87 ∧ (kd i).2 = 7 := by decide +kernel
  rcases Nat.lt_or_ge i 97 with q | q
  · have := key i q (by rw [hk])
    rw [hk] at this
    exact this
  · have : kd i = (99, 0) := by
      unfold kd
      rw [List.getD_eq_getElem?_getD, List.getElem?_eq_none (by exact q)]
      rfl
    rw [this] at hk
    cases hk
theorem z_sget {ix i : Nat} {host : String} (hn : Cond.fieldLinkNest (mO M) ix "OddUmbrellas" (sN i) "[I" host ∈ lw_tbl) (hi : (decide (84 ≤ i) && decide (i < 87)) = true) (hd : (mT M)[k]? = some (pc, .getstatic ix, 3, t)) (kk : Z M uu xw (k + 1) ls (vr i :: st) h e) : Z M uu xw k ls st h e := by
  simp only [Bool.and_eq_true, decide_eq_true_eq] at hi
  refine Z.read (v := vi 0) (fun _ b c => avR_c (v := vr i) True.intro c) ?_ kk
  intro p l e s m args below meth c base D ca ad H locs la Q rs C L W0 S _ _ kk
  obtain ⟨o1, -, o3, o4⟩ := okM_at C.1.1 hd
  rw [o4]
  rw [o3 rfl] at kk
  have hSF := C.2.2.2.2.2.2.2.2.2.2
  exact va_getsN C.2.1 C.2.2.1 (hSF.1 i hi.1 hi.2).2 S C.2.2.2.2.2.2.1 (va_Nw.use rfl (C.2.2.2.2.2.2.2.2.2.1 _ hn rfl)) (fun _ q => q) o1 kk
theorem z_ialoadX {i n : Nat} {x : Int} (hk : kd i = (10, n) ∨ kd i = (30, n)) (hd : (mT M)[k]? = some (pc, .iaload, 1, t)) (kk : Z M uu xw (k + 1) ls (vi (h i x.toNat) :: st) h e) : Z M uu xw k ls (vi x :: vr i :: st) h (if inb x n then e else none) := by
  rcases hk with hk | hk
  · exact z_iaload hd hk kk
  refine Z.guard (P := inb x n) (fun hin => ?_)
  obtain ⟨q1, q2, rfl⟩ := kdS hk
  refine Z.read (v := vi x) (fun _ b c => avR_i (b _ _) (avR_t (avR_t c))) ?_ kk
  intro p l e s m args below meth c base D ca ad H locs la Q rs C L W0 S hLI _ kk
  obtain ⟨o1, -, o3, o4⟩ := okM_at C.1.1 hd
  rw [o4]
  rw [o3 rfl] at kk
  have rx : iR x := avR_h rs
  have hSF := C.2.2.2.2.2.2.2.2.2.2
  refine va_ti C.2.1 C.2.2.1 (hSF.1 i q1 q2).1 S (ofI_in rx hin) rfl o1 ?_
  rw [ofI_cl rx, ← hLI.2.1 i x.toNat q1 q2]
  exact kk
theorem z_alenX {i n : Nat} (hk : kd i = (10, n) ∨ kd i = (30, n)) (hd : (mT M)[k]? = some (pc, .arraylength, 1, t)) (kk : Z M uu xw (k + 1) ls (vi (n : Int) :: st) h e) : Z M uu xw k ls (vr i :: st) h e := by
  rcases hk with hk | hk
  · exact z_alen (c := 0) hd hk (by omega) kk
  obtain ⟨q1, q2, rfl⟩ := kdS hk
  refine Z.read (v := vi 0) (fun _ b c => avR_i (show iR ((7 : Nat) : Int) from ⟨by omega, by omega⟩) (avR_t c)) ?_ kk
  intro p l e s m args below meth c base D ca ad H locs la Q rs C L W0 S hLI _ kk
  obtain ⟨o1, -, o3, o4⟩ := okM_at C.1.1 hd
  rw [o4]
  rw [o3 rfl] at kk
  have hSF := C.2.2.2.2.2.2.2.2.2.2
  exact va_tlen C.2.1 C.2.2.1 (hSF.1 i q1 q2).1 S rfl o1 kk
/-! a copy of the head of a row of whole numbers into another -/
def hcpy (h : Hp) (i j n : Nat) : Hp := fun a b => if a = j ∧ b < n then h i b else h a b
theorem off_10 {i n : Nat} (hk : kd i = (10, n)) (j : Nat) : off (kd i).1 j = none := off_a (c := 0) hk
theorem li_hcpy {h : Hp} {i j n m : Nat} (hL : LI h) (hk : kd j = (10, m)) : LI (hcpy h i j n) := by
  have hj : j < 76 := kd_lt (c := 10) (by rw [hk]) (by omega)
  refine ⟨fun a b o q => ?_, fun a b q1 q2 => ?_, fun a b q => ?_⟩
  · unfold hcpy
    rw [if_neg]
    · exact hL.1 a b o q
    · rintro ⟨rfl, -⟩
      rw [off_10 hk] at q
      cases q
  · unfold hcpy
    rw [if_neg (by omega)]
    exact hL.2.1 a b q1 q2
  · unfold hcpy
    rw [if_neg (fun z => by (rw [z.1, hk] at q; cases q))]
    exact hL.2.2 a b q
theorem z_copy {ix i j n n1 n2 : Nat} {K : Int → Hp → Option (Int × Hp)} (hi : kd i = (10, n1)) (hj : kd j = (10, n2)) (hw : (Cond.methodLink (mO M) ix arraycopyName ∈ lwT) ∧ (Cond.native arraycopyName ∈ lwT) ∧ (Cond.static arraycopyName ∈ lwT) ∧ (Cond.initialized "java/lang/System" ∈ lwT)) (hn : (n.ble n1 && n.ble n2 && (1).ble ((rmM M).frames)) = true) (hst : (((st.map acat).sum + (nativeFrameWords "java/lang/System" "arraycopy" 5 + 11)).ble ((rmM M).locals)) = true) (hd : (mT M)[k]? = some (pc, .invokestatic ix, 3, t))
    (kk : ∀ h1, Z M uu xw (k + 1) ls st h1 (K 0 h1)) : Z M uu xw k ls (vi (n : Int) :: vi 0 :: vr j :: vi 0 :: vr i :: st) h (bd (some (0, hcpy h i j n)) K) := by
  simp only [Bool.and_eq_true, Nat.ble_eq] at hn hst
  have hi2 : i < 76 := kd_lt (c := 10) (by rw [hi]) (by omega)
  have hj2 : j < 76 := kd_lt (c := 10) (by rw [hj]) (by omega)
  intro a b c d r h' he
  have hR1 : hR (hcpy h i j n) := fun q1 q2 => by unfold hcpy; split <;> exact b _ _
  obtain ⟨z1, z2⟩ := kk (hcpy h i j n) (li_hcpy a hj) hR1 (avR_t (avR_t (avR_t (avR_t (avR_t c))))) d r h' he
  refine ⟨z1, ?_⟩
  intro p l e s m args below meth cc base D ca ad H locs la C L W0 S
  obtain ⟨o1, -, o3, o4⟩ := okM_at C.1.1 hd
  rw [o4]
  have hts := C.2.2.2.2.2.2.2.1
  have hg := wsN_g7 (ad := ad) (ca := ca) (h := h) hi2
  rw [wcell_a (c := 0) hi (by omega)] at hg
  have hg2 := wsN_g7 (ad := ad) (ca := ca) (h := h) hj2
  rw [wcell_a (c := 0) hj (by omega)] at hg2
  have rn : iR (n : Int) := avR_h c
  have cn : (Int32.ofInt (n : Int)).toNatClampNeg = n := by rw [ofI_cl rn, Int.toNat_natCast]
  have c0 : (Int32.ofInt 0).toNatClampNeg = 0 := rfl
  have p0 : ¬ Int32.ofInt 0 < 0 := by decide
  refine va_copyi C.2.1 C.2.2.1 (C.2.2.2.1.trans L.1.symm) C.2.2.2.2.2.2.1 (hts _ hw.1) (hts _ hw.2.1) (hts _ hw.2.2.1) (hts _ hw.2.2.2) C.2.2.2.2.2.2.2.2.1 W0.1 W0.2 S i j 0 0 hg hg2 rfl rfl rfl (sp := Int32.ofInt 0) (dp := Int32.ofInt 0) (n := Int32.ofInt (n : Int)) p0 p0 (fun q => ?_) (by rw [cn, c0]; omega) (by rw [cn, c0]; omega) (fun _ _ => rfl) hn.2 (by rw [acat_sum]; omega) o1 ?_
  · rw [← ofI_0, ofI_lt rn iR_0] at q
    omega
  · intro H1 locs1 w1 w2 w3
    have e1 : (wsN (nW ad) ad ca h).set j (ad j, (Sum.inl (ca 0, n2, Sum.inl (va_cpy (fun k => Int32.ofInt (h i k)) (fun k => Int32.ofInt (h j k)) (Int32.ofInt 0).toNatClampNeg (Int32.ofInt 0).toNatClampNeg (Int32.ofInt (n : Int)).toNatClampNeg)) : va_E)) = wsN (nW ad) ad ca (hcpy h i j n) := by
      apply wsN_set
      · intro q hq
        funext b
        simp [hcpy, hq]
      · rw [wcell_a (c := 0) hj (by omega), cn, c0]
        congr 4
        funext q
        show (if 0 ≤ q ∧ q < 0 + n then Int32.ofInt (h i (0 + (q - 0))) else Int32.ofInt (h j q)) = Int32.ofInt (hcpy h i j n j q)
        unfold hcpy
        by_cases hq : q < n
        · rw [if_pos ⟨by omega, by omega⟩, if_pos ⟨rfl, hq⟩]
          simp
        · rw [if_neg (by omega), if_neg (by omega)]
    rw [e1] at w1 w2
    have z3 := z2 p l e s m args below meth cc base D ca ad H1 locs1 la C L ⟨w1, w2⟩ w3
    rw [o3 rfl] at z3
    exact z3
/-! longs, floats, bits -/
theorem z_lload_n {j : Fin 4} {x : Int64} (hd : (mT M)[k]? = some (pc, .lload_n j, 1, t)) (hl : ls[(j : Nat)]? = some (some (vx (.long x)))) (kk : Z M uu xw (k + 1) ls (vx (.long x) :: st) h e) : Z M uu xw k ls st h e := by
  refine Z.pure (fun a b => avR_c (b _ _ hl) a) ?_ kk
  intro p l e s m args below meth c base D ca ad H locs la Q _ _ C L _ _ _ _ kk
  obtain ⟨o1, -, o3, o4⟩ := okM_at C.1.1 hd
  rw [o4]
  rw [o3 rfl] at kk
  exact lv_lload_n C.2.1 C.2.2.1 o1 rfl (lh_at L hl) kk
theorem z_ldc2 {x : Int64} {ix : Nat} (hc : Cond.constantLong (mO M) ix x ∈ lwT) (hd : (mT M)[k]? = some (pc, .ldc2_w ix, 3, t)) (kk : Z M uu xw (k + 1) ls (vx (.long x) :: st) h e) : Z M uu xw k ls st h e := by
  refine Z.pure (fun a b => avR_c (v := vx (.long x)) True.intro a) ?_ kk
  intro p l e s m args below meth c base D ca ad H locs la Q _ _ C L _ _ _ _ kk
  obtain ⟨o1, -, o3, o4⟩ := okM_at C.1.1 hd
  rw [o4]
  rw [o3 rfl] at kk
  exact lv_ldc2 C.2.1 C.2.2.1 C.2.2.2.2.2.2.1 (C.2.2.2.2.2.2.2.1 _ hc) o1 kk
theorem z_lshr {x : Int64} {y : Int} (hd : (mT M)[k]? = some (pc, .lshr, 1, t)) (kk : Z M uu xw (k + 1) ls (vx (.long (x >>> ((Int32.ofInt y).toInt64 &&& 63))) :: st) h e) : Z M uu xw k ls (vi y :: vx (.long x) :: st) h e := by
  refine Z.pure (fun a b => avR_c (v := vx (.long _)) True.intro (avR_t (avR_t a))) ?_ kk
  intro p l e s m args below meth c base D ca ad H locs la Q _ _ C L _ _ _ _ kk
  obtain ⟨o1, -, o3, o4⟩ := okM_at C.1.1 hd
  rw [o4]
  rw [o3 rfl] at kk
  exact lv_lshr C.2.1 C.2.2.1 o1 rfl kk
theorem z_land {x y : Int64} (hd : (mT M)[k]? = some (pc, .land, 1, t)) (kk : Z M uu xw (k + 1) ls (vx (.long (x &&& y)) :: st) h e) : Z M uu xw k ls (vx (.long y) :: vx (.long x) :: st) h e := by
  refine Z.pure (fun a b => avR_c (v := vx (.long _)) True.intro (avR_t (avR_t a))) ?_ kk
  intro p l e s m args below meth c base D ca ad H locs la Q _ _ C L _ _ _ _ kk
  obtain ⟨o1, -, o3, o4⟩ := okM_at C.1.1 hd
  rw [o4]
  rw [o3 rfl] at kk
  exact lv_land C.2.1 C.2.2.1 o1 kk
theorem iR_T (x : Int32) : iR x.toInt := ⟨x.le_toInt, x.toInt_lt⟩
theorem z_l2i {x : Int64} (hd : (mT M)[k]? = some (pc, .l2i, 1, t)) (kk : Z M uu xw (k + 1) ls (vi x.toInt32.toInt :: st) h e) : Z M uu xw k ls (vx (.long x) :: st) h e := by
  refine Z.pure (fun a b => avR_i (iR_T _) (avR_t a)) ?_ kk
  intro p l e s m args below meth c base D ca ad H locs la Q _ _ C L _ _ _ _ kk
  obtain ⟨o1, -, o3, o4⟩ := okM_at C.1.1 hd
  rw [o4]
  rw [o3 rfl] at kk
  exact lv_l2i C.2.1 C.2.2.1 o1 (Int32.ofInt_toInt _).symm kk
theorem z_ishl {x y : Int} (hd : (mT M)[k]? = some (pc, .ishl, 1, t)) (kk : Z M uu xw (k + 1) ls (vi (Int32.ofInt x <<< (Int32.ofInt y &&& 31)).toInt :: st) h e) : Z M uu xw k ls (vi y :: vi x :: st) h e := by
  refine Z.pure (fun a b => avR_i (iR_T _) (avR_t (avR_t a))) ?_ kk
  intro p l e s m args below meth c base D ca ad H locs la Q _ _ C L _ _ _ _ kk
  obtain ⟨o1, -, o3, o4⟩ := okM_at C.1.1 hd
  rw [o4]
  rw [o3 rfl] at kk
  refine lv_ishl C.2.1 C.2.2.1 o1 ?_
  rw [← Int32.ofInt_toInt (Int32.ofInt x <<< (Int32.ofInt y &&& 31))]
  exact kk
theorem z_ior {x y : Int} (hd : (mT M)[k]? = some (pc, .ior, 1, t)) (kk : Z M uu xw (k + 1) ls (vi (Int32.ofInt x ||| Int32.ofInt y).toInt :: st) h e) : Z M uu xw k ls (vi y :: vi x :: st) h e := by
  refine Z.pure (fun a b => avR_i (iR_T _) (avR_t (avR_t a))) ?_ kk
  intro p l e s m args below meth c base D ca ad H locs la Q _ _ C L _ _ _ _ kk
  obtain ⟨o1, -, o3, o4⟩ := okM_at C.1.1 hd
  rw [o4]
  rw [o3 rfl] at kk
  refine lv_ior C.2.1 C.2.2.1 o1 ?_
  rw [← Int32.ofInt_toInt (Int32.ofInt x ||| Int32.ofInt y)]
  exact kk
theorem z_i2f {x : Int} (hd : (mT M)[k]? = some (pc, .i2f, 1, t)) (kk : Z M uu xw (k + 1) ls (vx (.float (FP.i2f (Int32.ofInt x))) :: st) h e) : Z M uu xw k ls (vi x :: st) h e := by
  refine Z.pure (fun a b => avR_c (v := vx (.float _)) True.intro (avR_t a)) ?_ kk
  intro p l e s m args below meth c base D ca ad H locs la Q _ _ C L _ _ _ _ kk
  obtain ⟨o1, -, o3, o4⟩ := okM_at C.1.1 hd
  rw [o4]
  rw [o3 rfl] at kk
  exact lv_i2f C.2.1 C.2.2.1 o1 kk
abbrev nN (r : UInt32) : Prop := r &&& 0x7fffffff ≤ 0x7f800000

theorem z_fdiv {x y : UInt32} (hd : (mT M)[k]? = some (pc, .fdiv, 1, t)) (kk : Z M uu xw (k + 1) ls (vx (.float (FP.fdiv x y)) :: st) h e) : Z M uu xw k ls (vx (.float y) :: vx (.float x) :: st) h (if nN (FP.fdiv x y) then e else none) := by
  refine Z.guard (P := nN (FP.fdiv x y)) (fun hn => ?_)
  refine Z.pure (fun a b => avR_c (v := vx (.float _)) True.intro (avR_t (avR_t a))) ?_ kk
  intro p l e s m args below meth c base D ca ad H locs la Q _ _ C L _ _ _ _ kk
  obtain ⟨o1, -, o3, o4⟩ := okM_at C.1.1 hd
  rw [o4]
  rw [o3 rfl] at kk
  exact lv_fdiv C.2.1 C.2.2.1 o1 hn kk
theorem z_fmul {x y : UInt32} (hd : (mT M)[k]? = some (pc, .fmul, 1, t)) (kk : Z M uu xw (k + 1) ls (vx (.float (FP.fmul x y)) :: st) h e) : Z M uu xw k ls (vx (.float y) :: vx (.float x) :: st) h (if nN (FP.fmul x y) then e else none) := by
  refine Z.guard (P := nN (FP.fmul x y)) (fun hn => ?_)
  refine Z.pure (fun a b => avR_c (v := vx (.float _)) True.intro (avR_t (avR_t a))) ?_ kk
  intro p l e s m args below meth c base D ca ad H locs la Q _ _ C L _ _ _ _ kk
  obtain ⟨o1, -, o3, o4⟩ := okM_at C.1.1 hd
  rw [o4]
  rw [o3 rfl] at kk
  exact lv_fmul C.2.1 C.2.2.1 o1 hn kk
theorem z_fsub {x y : UInt32} (hd : (mT M)[k]? = some (pc, .fsub, 1, t)) (kk : Z M uu xw (k + 1) ls (vx (.float (FP.fsub x y)) :: st) h e) : Z M uu xw k ls (vx (.float y) :: vx (.float x) :: st) h (if nN (FP.fsub x y) then e else none) := by
  refine Z.guard (P := nN (FP.fsub x y)) (fun hn => ?_)
  refine Z.pure (fun a b => avR_c (v := vx (.float _)) True.intro (avR_t (avR_t a))) ?_ kk
  intro p l e s m args below meth c base D ca ad H locs la Q _ _ C L _ _ _ _ kk
  obtain ⟨o1, -, o3, o4⟩ := okM_at C.1.1 hd
  rw [o4]
  rw [o3 rfl] at kk
  exact lv_fsub C.2.1 C.2.2.1 o1 hn kk
theorem z_fcmp {x y : UInt32} {op : CmpOp} (hd : (mT M)[k]? = some (pc, .fcmp op, 1, t)) (kk : Z M uu xw (k + 1) ls (vi (Op.cmpValue (FP.fcmp x y) op).toInt :: st) h e) : Z M uu xw k ls (vx (.float y) :: vx (.float x) :: st) h e := by
  refine Z.pure (fun a b => avR_i (iR_T _) (avR_t (avR_t a))) ?_ kk
  intro p l e s m args below meth c base D ca ad H locs la Q _ _ C L _ _ _ _ kk
  obtain ⟨o1, -, o3, o4⟩ := okM_at C.1.1 hd
  rw [o4]
  rw [o3 rfl] at kk
  refine lv_fcmp C.2.1 C.2.2.1 o1 ?_
  rw [← Int32.ofInt_toInt (Op.cmpValue (FP.fcmp x y) op)]
  exact kk
theorem z_f2i {x : UInt32} (hd : (mT M)[k]? = some (pc, .f2i, 1, t)) (kk : Z M uu xw (k + 1) ls (vi (FP.f2i x).toInt :: st) h e) : Z M uu xw k ls (vx (.float x) :: st) h e := by
  refine Z.pure (fun a b => avR_i (iR_T _) (avR_t a)) ?_ kk
  intro p l e s m args below meth c base D ca ad H locs la Q _ _ C L _ _ _ _ kk
  obtain ⟨o1, -, o3, o4⟩ := okM_at C.1.1 hd
  rw [o4]
  rw [o3 rfl] at kk
  refine lv_f2i C.2.1 C.2.2.1 o1 ?_
  rw [← Int32.ofInt_toInt (FP.f2i x)]
  exact kk
theorem z_fload_n {j : Fin 4} {x : UInt32} (hd : (mT M)[k]? = some (pc, .fload_n j, 1, t)) (hl : ls[(j : Nat)]? = some (some (vx (.float x)))) (kk : Z M uu xw (k + 1) ls (vx (.float x) :: st) h e) : Z M uu xw k ls st h e := by
  refine Z.pure (fun a b => avR_c (b _ _ hl) a) ?_ kk
  intro p l e s m args below meth c base D ca ad H locs la Q _ _ C L _ _ _ _ kk
  obtain ⟨o1, -, o3, o4⟩ := okM_at C.1.1 hd
  rw [o4]
  rw [o3 rfl] at kk
  exact lv_fload_n C.2.1 C.2.2.1 o1 rfl (lh_at L hl) kk
theorem z_fstore_n {j : Fin 4} {x : UInt32} (hd : (mT M)[k]? = some (pc, .fstore_n j, 1, t)) (hc : (decide ((j : Nat) < mN M) && !(c2 ls j)) = true) (kk : Z M uu xw (k + 1) (ls.set j (some (vx (.float x)))) st h e) : Z M uu xw k ls (vx (.float x) :: st) h e := by
  simp only [Bool.and_eq_true, decide_eq_true_eq, Bool.not_eq_true'] at hc
  refine Z.store (v := vx (.float x)) (fun a b => ⟨True.intro, avR_t a⟩) ?_ kk
  intro p l e s m args below meth c base D ca ad H locs la Q C L kk
  obtain ⟨o1, -, o3, o4⟩ := okM_at C.1.1 hd
  rw [o4]
  rw [o3 rfl] at kk
  exact lv_fstore_n C.2.1 C.2.2.1 o1 rfl (lh_list L) hc.1 rfl (fun ls' hl => kk ls' (lh_set rfl hc.2 hl))
theorem z_fconst1 (hd : (mT M)[k]? = some (pc, .fconst 1, 1, t)) (kk : Z M uu xw (k + 1) ls (vx (.float 0x3f800000) :: st) h e) : Z M uu xw k ls st h e := by
  refine Z.pure (fun a b => avR_c (v := vx (.float _)) True.intro a) ?_ kk
  intro p l e s m args below meth c base D ca ad H locs la Q _ _ C L _ _ _ _ kk
  obtain ⟨o1, -, o3, o4⟩ := okM_at C.1.1 hd
  rw [o4]
  rw [o3 rfl] at kk
  exact lv_fconst1 C.2.1 C.2.2.1 o1 kk
theorem z_fconst2 (hd : (mT M)[k]? = some (pc, .fconst 2, 1, t)) (kk : Z M uu xw (k + 1) ls (vx (.float 0x40000000) :: st) h e) : Z M uu xw k ls st h e := by
  refine Z.pure (fun a b => avR_c (v := vx (.float _)) True.intro a) ?_ kk
  intro p l e s m args below meth c base D ca ad H locs la Q _ _ C L _ _ _ _ kk
  obtain ⟨o1, -, o3, o4⟩ := okM_at C.1.1 hd
  rw [o4]
  rw [o3 rfl] at kk
  exact lv_fconst2 C.2.1 C.2.2.1 o1 kk
theorem z_ldcf {x : UInt32} {ix : Nat} (hc : Cond.constantFloat (mO M) ix x ∈ lwT) (hd : (mT M)[k]? = some (pc, .ldc ix, 2, t)) (kk : Z M uu xw (k + 1) ls (vx (.float x) :: st) h e) : Z M uu xw k ls st h e := by
  refine Z.pure (fun a b => avR_c (v := vx (.float _)) True.intro a) ?_ kk
  intro p l e s m args below meth c base D ca ad H locs la Q _ _ C L _ _ _ _ kk
  obtain ⟨o1, -, o3, o4⟩ := okM_at C.1.1 hd
  rw [o4]
  rw [o3 rfl] at kk
  exact lv_ldcf C.2.1 C.2.2.1 C.2.2.2.2.2.2.1 (C.2.2.2.2.2.2.2.1 _ hc) o1 kk
end Steps4
/-! words by their place in a piece of the tables -/
theorem lw_k1 {w : Cond} (h : w ∈ tables_1_1) : w ∈ lw_tbl := List.mem_append_right _ (List.mem_append_left _ h)
theorem lw_k2 {w : Cond} (h : w ∈ tables_1_2) : w ∈ lw_tbl := List.mem_append_right _ (List.mem_append_right _ (List.mem_append_left _ h))
theorem lw_k3 {w : Cond} (h : w ∈ tables_1_3) : w ∈ lw_tbl := List.mem_append_right _ (List.mem_append_right _ (List.mem_append_right _ h))
theorem lwT_k1 {w : Cond} (i : Nat) (h : tables_1_1[i]? = some w) (hg : goodWord w = true) : w ∈ lwT := List.mem_filter.mpr ⟨lw_k1 (List.mem_of_getElem? h), hg⟩
theorem lwN_k1 {w : Cond} (i : Nat) (h : tables_1_1[i]? = some w) : w ∈ lw_tbl := lw_k1 (List.mem_of_getElem? h)
theorem lwT_k2 {w : Cond} (i : Nat) (h : tables_1_2[i]? = some w) (hg : goodWord w = true) : w ∈ lwT := List.mem_filter.mpr ⟨lw_k2 (List.mem_of_getElem? h), hg⟩
theorem lwN_k2 {w : Cond} (i : Nat) (h : tables_1_2[i]? = some w) : w ∈ lw_tbl := lw_k2 (List.mem_of_getElem? h)
theorem lwT_k3 {w : Cond} (i : Nat) (h : tables_1_3[i]? = some w) (hg : goodWord w = true) : w ∈ lwT := List.mem_filter.mpr ⟨lw_k3 (List.mem_of_getElem? h), hg⟩
theorem lwN_k3 {w : Cond} (i : Nat) (h : tables_1_3[i]? = some w) : w ∈ lw_tbl := lw_k3 (List.mem_of_getElem? h)
theorem lwT_p1 {q : MethodName × Nat} (i : Nat) (h : lw_privs_1[i]? = some q) : Cond.selects q.1.cls q.1 q.1 ∈ lwT := List.mem_filter.mpr ⟨List.mem_append_left _ (List.mem_map.mpr ⟨q, List.mem_append_left _ (List.mem_of_getElem? h), rfl⟩), rfl⟩
theorem lwT_p2 {q : MethodName × Nat} (i : Nat) (h : lw_privs_2[i]? = some q) : Cond.selects q.1.cls q.1 q.1 ∈ lwT := List.mem_filter.mpr ⟨List.mem_append_left _ (List.mem_map.mpr ⟨q, List.mem_append_right _ (List.mem_of_getElem? h), rfl⟩), rfl⟩
end
section
/-! the judgement Z: what the law's own methods need: longs, bits, rows of the law -/
section Steps6
variable {M : MI} {uu xw k pc t : Nat} {ls : List (Option AV)} {st : List AV} {h : Hp} {e e1 e2 : Option (Int × Hp)}
/-- a long under a name -/
def ll (x : Int64) (K : Int64 → Option (Int × Hp)) : Option (Int × Hp) := K x
theorem z_lload {j : Nat} {x : Int64} (hd : (mT M)[k]? = some (pc, .lload j, 2, t)) (hl : ls[j]? = some (some (vx (.long x)))) (kk : Z M uu xw (k + 1) ls (vx (.long x) :: st) h e) : Z M uu xw k ls st h e := by
  refine Z.pure (fun a b => avR_c (b _ _ hl) a) ?_ kk
  intro p l e s m args below meth c base D ca ad H locs la Q _ _ C L _ _ _ _ kk
  obtain ⟨o1, -, o3, o4⟩ := okM_at C.1.1 hd
  rw [o4]
  rw [o3 rfl] at kk
  exact lv_lload C.2.1 C.2.2.1 o1 (lh_at L hl) kk
theorem z_aloadX_n {j : Fin 4} {x : Value} (hd : (mT M)[k]? = some (pc, .aload_n j, 1, t)) {b : Nat} (hx : x = .ref b) (hl : ls[(j : Nat)]? = some (some (vx x))) (kk : Z M uu xw (k + 1) ls (vx x :: st) h e) : Z M uu xw k ls st h e := by
  subst hx
  refine Z.pure (fun a b => avR_c (b _ _ hl) a) ?_ kk
  intro p l e s m args below meth c base D ca ad H locs la Q _ _ C L _ _ _ _ kk
  obtain ⟨o1, -, o3, o4⟩ := okM_at C.1.1 hd
  rw [o4]
  rw [o3 rfl] at kk
  exact lv_aload_n C.2.1 C.2.2.1 o1 rfl (lh_at L hl) kk
theorem lh_set2 {ad : Nat → Nat} {la' : Array Slot} {n i : Nat} {ls : List (Option AV)} {x : Value} {v : AV} (hx : x = mv ad v) (hc : c2 ls i = false)
    (h : lv_has la' n ((i, x) :: ((List.range ls.length).filterMap (fun i => match ls[i]? with
  | some (some v) => some (i, mv ad v)
  | _ => none)).filter (fun q => !(q.1 == i) && (!(q.1 == i + 1) && !(q.1 + 1 == i && q.2.category == 2))))) : LH ad la' n ((ls.set i (some v)).set (i + 1) none) := by
  refine ⟨h.1, h.2.1, fun j w hj => ?_⟩
  by_cases e0 : j = i + 1
  · subst e0
    by_cases hl : i + 1 < (ls.set i (some v)).length
    · rw [List.getElem?_set_self hl] at hj
      cases hj
    · rw [List.getElem?_eq_none (by simp at hl ⊢; omega)] at hj
      cases hj
  rw [List.getElem?_set_ne (fun q => e0 q.symm)] at hj
  by_cases e : j = i
  · subst e
    by_cases hl : j < ls.length
    · rw [List.getElem?_set_self hl] at hj
      cases hj
      have h1 := h.2.2 (j, x) List.mem_cons_self
      rw [hx] at h1
      exact h1
    · rw [List.getElem?_eq_none (by simp; omega)] at hj
      cases hj
  · rw [List.getElem?_set_ne (fun q => e q.symm)] at hj
    have hjl := (List.getElem?_eq_some_iff.mp hj).1
    have h1 : (j, mv ad w) ∈ ((List.range ls.length).filterMap (fun i => match ls[i]? with
  | some (some v) => some (i, mv ad v)
  | _ => none)) := List.mem_filterMap.mpr ⟨j, List.mem_range.mpr hjl, by rw [hj]⟩
    refine h.2.2 (j, mv ad w) (List.mem_cons_of_mem _ (List.mem_filter.mpr ⟨h1, ?_⟩))
    simp only [Bool.and_eq_true, Bool.not_eq_true', beq_eq_false_iff_ne, ne_eq, Bool.and_eq_false_iff]
    refine ⟨e, e0, ?_⟩
    by_cases e2 : j + 1 = i
    · right
      intro h2
      rw [acat_mv] at h2
      subst e2
      unfold c2 at hc
      rw [List.getD_eq_getElem?_getD, Nat.add_sub_cancel, hj] at hc
      simp [h2] at hc
    · left
      exact e2
theorem lsR_set2 {ls : List (Option AV)} {j : Nat} {v : AV} (hv : avR v) (b : ∀ (i : Nat) (v : AV), ls[i]? = some (some v) → avR v) : ∀ (i : Nat) (w : AV), ((ls.set j (some v)).set (j + 1) none)[i]? = some (some w) → avR w := by
  intro i w hi
  by_cases e : i = j + 1
  · subst e
    by_cases hl : j + 1 < (ls.set j (some v)).length
    · rw [List.getElem?_set_self hl] at hi
      cases hi
    · rw [List.getElem?_eq_none (by simp at hl ⊢; omega)] at hi
      cases hi
  · rw [List.getElem?_set_ne (fun q => e q.symm)] at hi
    exact lsR_set hv b i w hi
theorem z_lstore {j : Nat} {x : Int64} (hd : (mT M)[k]? = some (pc, .lstore j, 2, t)) (hc : (decide (j + 1 < mN M) && !(c2 ls j)) = true) (kk : Z M uu xw (k + 1) ((ls.set j (some (vx (.long x)))).set (j + 1) none) st h e) : Z M uu xw k ls (vx (.long x) :: st) h e := by
  simp only [Bool.and_eq_true, decide_eq_true_eq, Bool.not_eq_true'] at hc
  intro a b c d r h' he
  obtain ⟨z1, z2⟩ := kk a b (avR_t c) (lsR_set2 (avR_h c) d) r h' he
  refine ⟨z1, ?_⟩
  intro p l e s m args below meth cc base D ca ad H locs la C L W0 S
  obtain ⟨o1, -, o3, o4⟩ := okM_at C.1.1 hd
  rw [o4]
  refine lv_lstore C.2.1 C.2.2.1 o1 (lh_list L) hc.1 rfl (fun ls' hl => ?_)
  have z3 := z2 p l e s m args below meth cc base D ca ad H locs ls' C (lh_set2 (v := vx (.long x)) rfl hc.2 hl) W0 S
  rw [o3 rfl] at z3
  exact z3
theorem z_lstore_n {j : Fin 4} {x : Int64} (hd : (mT M)[k]? = some (pc, .lstore_n j, 1, t)) (hc : (decide ((j : Nat) + 1 < mN M) && !(c2 ls j)) = true) (kk : Z M uu xw (k + 1) ((ls.set j (some (vx (.long x)))).set ((j : Nat) + 1) none) st h e) : Z M uu xw k ls (vx (.long x) :: st) h e := by
  simp only [Bool.and_eq_true, decide_eq_true_eq, Bool.not_eq_true'] at hc
  intro a b c d r h' he
  obtain ⟨z1, z2⟩ := kk a b (avR_t c) (lsR_set2 (avR_h c) d) r h' he
  refine ⟨z1, ?_⟩
  intro p l e s m args below meth cc base D ca ad H locs la C L W0 S
  obtain ⟨o1, -, o3, o4⟩ := okM_at C.1.1 hd
  rw [o4]
  refine lv_lstore_n C.2.1 C.2.2.1 o1 rfl (lh_list L) hc.1 rfl (fun ls' hl => ?_)
  have z3 := z2 p l e s m args below meth cc base D ca ad H locs ls' C (lh_set2 (v := vx (.long x)) rfl hc.2 hl) W0 S
  rw [o3 rfl] at z3
  exact z3
theorem z_lstoreL {j : Nat} {x : Int64} {K : Int64 → Option (Int × Hp)} (hd : (mT M)[k]? = some (pc, .lstore j, 2, t)) (hc : (decide (j + 1 < mN M) && !(c2 ls j)) = true) (kk : ∀ y, Z M uu xw (k + 1) ((ls.set j (some (vx (.long y)))).set (j + 1) none) st h (K y)) : Z M uu xw k ls (vx (.long x) :: st) h (ll x K) := z_lstore hd hc (kk _)
theorem z_lstore_nL {j : Fin 4} {x : Int64} {K : Int64 → Option (Int × Hp)} (hd : (mT M)[k]? = some (pc, .lstore_n j, 1, t)) (hc : (decide ((j : Nat) + 1 < mN M) && !(c2 ls j)) = true) (kk : ∀ y, Z M uu xw (k + 1) ((ls.set j (some (vx (.long y)))).set ((j : Nat) + 1) none) st h (K y)) : Z M uu xw k ls (vx (.long x) :: st) h (ll x K) := z_lstore_n hd hc (kk _)
theorem z_lconst {n : Fin 2} (hd : (mT M)[k]? = some (pc, .lconst n, 1, t)) (kk : Z M uu xw (k + 1) ls (vx (.long (Int64.ofNat (n : Nat))) :: st) h e) : Z M uu xw k ls st h e := by
  refine Z.pure (fun a b => avR_c (v := vx (.long _)) True.intro a) ?_ kk
  intro p l e s m args below meth c base D ca ad H locs la Q _ _ C L _ _ _ _ kk
  obtain ⟨o1, -, o3, o4⟩ := okM_at C.1.1 hd
  rw [o4]
  rw [o3 rfl] at kk
  exact lv_lconst C.2.1 C.2.2.1 o1 rfl kk
theorem i2l_of {x : Int} (h : iR x) : (Int32.ofInt x).toInt64 = Int64.ofInt x := by
  apply Int64.toInt.inj
  rw [Int32.toInt_toInt64, ofI_T h, Int64.toInt_ofInt_of_le (by have := h.1; omega) (by have := h.2; omega)]
theorem z_i2l {x : Int} (hd : (mT M)[k]? = some (pc, .i2l, 1, t)) (kk : Z M uu xw (k + 1) ls (vx (.long (Int64.ofInt x)) :: st) h e) : Z M uu xw k ls (vi x :: st) h e := by
  refine Z.pure (fun a b => avR_c (v := vx (.long _)) True.intro (avR_t a)) ?_ kk
  intro p l e s m args below meth c base D ca ad H locs la Q a _ C L _ _ _ _ kk
  obtain ⟨o1, -, o3, o4⟩ := okM_at C.1.1 hd
  rw [o4]
  rw [o3 rfl] at kk
  exact lv_i2l C.2.1 C.2.2.1 o1 (i2l_of (avR_h a)) kk
theorem z_ladd {x y : Int64} (hd : (mT M)[k]? = some (pc, .ladd, 1, t)) (kk : Z M uu xw (k + 1) ls (vx (.long (x + y)) :: st) h e) : Z M uu xw k ls (vx (.long y) :: vx (.long x) :: st) h e := by
  refine Z.pure (fun a b => avR_c (v := vx (.long _)) True.intro (avR_t (avR_t a))) ?_ kk
  intro p l e s m args below meth c base D ca ad H locs la Q _ _ C L _ _ _ _ kk
  obtain ⟨o1, -, o3, o4⟩ := okM_at C.1.1 hd
  rw [o4]
  rw [o3 rfl] at kk
  exact lv_ladd C.2.1 C.2.2.1 o1 kk
theorem z_lsub {x y : Int64} (hd : (mT M)[k]? = some (pc, .lsub, 1, t)) (kk : Z M uu xw (k + 1) ls (vx (.long (x - y)) :: st) h e) : Z M uu xw k ls (vx (.long y) :: vx (.long x) :: st) h e := by
  refine Z.pure (fun a b => avR_c (v := vx (.long _)) True.intro (avR_t (avR_t a))) ?_ kk
  intro p l e s m args below meth c base D ca ad H locs la Q _ _ C L _ _ _ _ kk
  obtain ⟨o1, -, o3, o4⟩ := okM_at C.1.1 hd
  rw [o4]
  rw [o3 rfl] at kk
  exact lv_lsub C.2.1 C.2.2.1 o1 kk
theorem z_lmul {x y : Int64} (hd : (mT M)[k]? = some (pc, .lmul, 1, t)) (kk : Z M uu xw (k + 1) ls (vx (.long (x * y)) :: st) h e) : Z M uu xw k ls (vx (.long y) :: vx (.long x) :: st) h e := by
  refine Z.pure (fun a b => avR_c (v := vx (.long _)) True.intro (avR_t (avR_t a))) ?_ kk
  intro p l e s m args below meth c base D ca ad H locs la Q _ _ C L _ _ _ _ kk
  obtain ⟨o1, -, o3, o4⟩ := okM_at C.1.1 hd
  rw [o4]
  rw [o3 rfl] at kk
  exact lv_lmul C.2.1 C.2.2.1 o1 kk
theorem z_lrem {x y : Int64} (hd : (mT M)[k]? = some (pc, .lrem, 1, t)) (kk : Z M uu xw (k + 1) ls (vx (.long (x - x / y * y)) :: st) h e) : Z M uu xw k ls (vx (.long y) :: vx (.long x) :: st) h (if ¬ y = 0 then e else none) := by
  refine Z.guard (P := ¬ y = 0) (fun hn => ?_)
  refine Z.pure (fun a b => avR_c (v := vx (.long _)) True.intro (avR_t (avR_t a))) ?_ kk
  intro p l e s m args below meth c base D ca ad H locs la Q _ _ C L _ _ _ _ kk
  obtain ⟨o1, -, o3, o4⟩ := okM_at C.1.1 hd
  rw [o4]
  rw [o3 rfl] at kk
  exact lv_lrem C.2.1 C.2.2.1 o1 hn kk
theorem z_ldiv {x y : Int64} (hd : (mT M)[k]? = some (pc, .ldiv, 1, t)) (kk : Z M uu xw (k + 1) ls (vx (.long (x / y)) :: st) h e) : Z M uu xw k ls (vx (.long y) :: vx (.long x) :: st) h (if ¬ y = 0 then e else none) := by
  refine Z.guard (P := ¬ y = 0) (fun hn => ?_)
  refine Z.pure (fun a b => avR_c (v := vx (.long _)) True.intro (avR_t (avR_t a))) ?_ kk
  intro p l e s m args below meth c base D ca ad H locs la Q _ _ C L _ _ _ _ kk
  obtain ⟨o1, -, o3, o4⟩ := okM_at C.1.1 hd
  rw [o4]
  rw [o3 rfl] at kk
  exact lv_ldiv C.2.1 C.2.2.1 o1 hn kk
theorem z_lshl {x : Int64} {y : Int} (hd : (mT M)[k]? = some (pc, .lshl, 1, t)) (kk : Z M uu xw (k + 1) ls (vx (.long (x <<< ((Int32.ofInt y).toInt64 &&& 63))) :: st) h e) : Z M uu xw k ls (vi y :: vx (.long x) :: st) h e := by
  refine Z.pure (fun a b => avR_c (v := vx (.long _)) True.intro (avR_t (avR_t a))) ?_ kk
  intro p l e s m args below meth c base D ca ad H locs la Q _ _ C L _ _ _ _ kk
  obtain ⟨o1, -, o3, o4⟩ := okM_at C.1.1 hd
  rw [o4]
  rw [o3 rfl] at kk
  exact lv_lshl C.2.1 C.2.2.1 o1 rfl kk
theorem z_lcmp {x y : Int64} (hd : (mT M)[k]? = some (pc, .lcmp, 1, t)) (kk : Z M uu xw (k + 1) ls (vi (lg_cmp x y).toInt :: st) h e) : Z M uu xw k ls (vx (.long y) :: vx (.long x) :: st) h e := by
  refine Z.pure (fun a b => avR_i (iR_T _) (avR_t (avR_t a))) ?_ kk
  intro p l e s m args below meth c base D ca ad H locs la Q _ _ C L _ _ _ _ kk
  obtain ⟨o1, -, o3, o4⟩ := okM_at C.1.1 hd
  rw [o4]
  rw [o3 rfl] at kk
  refine W.lcmp C.2.1 C.2.2.1 o1 ?_
  rw [← Int32.ofInt_toInt (lg_cmp x y)]
  exact kk
theorem z_iand {x y : Int} (hd : (mT M)[k]? = some (pc, .iand, 1, t)) (kk : Z M uu xw (k + 1) ls (vi (Int32.ofInt x &&& Int32.ofInt y).toInt :: st) h e) : Z M uu xw k ls (vi y :: vi x :: st) h e := by
  refine Z.pure (fun a b => avR_i (iR_T _) (avR_t (avR_t a))) ?_ kk
  intro p l e s m args below meth c base D ca ad H locs la Q _ _ C L _ _ _ _ kk
  obtain ⟨o1, -, o3, o4⟩ := okM_at C.1.1 hd
  rw [o4]
  rw [o3 rfl] at kk
  refine lv_iand C.2.1 C.2.2.1 o1 ?_
  rw [← Int32.ofInt_toInt (Int32.ofInt x &&& Int32.ofInt y)]
  exact kk
theorem z_ishr {x y : Int} (hd : (mT M)[k]? = some (pc, .ishr, 1, t)) (kk : Z M uu xw (k + 1) ls (vi (Int32.ofInt x >>> (Int32.ofInt y &&& 31)).toInt :: st) h e) : Z M uu xw k ls (vi y :: vi x :: st) h e := by
  refine Z.pure (fun a b => avR_i (iR_T _) (avR_t (avR_t a))) ?_ kk
  intro p l e s m args below meth c base D ca ad H locs la Q _ _ C L _ _ _ _ kk
  obtain ⟨o1, -, o3, o4⟩ := okM_at C.1.1 hd
  rw [o4]
  rw [o3 rfl] at kk
  refine lv_ishr C.2.1 C.2.2.1 o1 ?_
  rw [← Int32.ofInt_toInt (Int32.ofInt x >>> (Int32.ofInt y &&& 31))]
  exact kk
theorem z_iremG {x y : Int} (hd : (mT M)[k]? = some (pc, .irem, 1, t)) (kk : Z M uu xw (k + 1) ls (vi (wr (x - Int.tdiv x y * y)) :: st) h e) : Z M uu xw k ls (vi y :: vi x :: st) h (if 0 < y then e else none) := by
  refine Z.guard (P := 0 < y) (fun hy => ?_)
  refine Z.pure (fun a b => avR_i (wr_R _) (avR_t (avR_t a))) ?_ kk
  intro p l e s m args below meth c base D ca ad H locs la Q a _ C L _ _ _ _ kk
  obtain ⟨o1, -, o3, o4⟩ := okM_at C.1.1 hd
  have ry : iR y := avR_h a
  have rx : iR x := avR_h (avR_t a)
  rw [o4]
  rw [o3 rfl] at kk
  refine lv_irem C.2.1 C.2.2.1 o1 (fun z => ?_) ?_
  · rw [← ofI_0, ofI_inj ry iR_0] at z
    omega
  · rw [ofI_div rx ry (by omega), ofI_wr, ← Int32.ofInt_mul, ← Int32.ofInt_sub, ← ofI_wr]
    exact kk
theorem z_astore {j : Nat} {x : Nat} (hd : (mT M)[k]? = some (pc, .astore j, 2, t)) (hc : (decide ((j : Nat) < mN M) && !(c2 ls j)) = true) (kk : Z M uu xw (k + 1) (ls.set j (some (vr x))) st h e) : Z M uu xw k ls (vr x :: st) h e := by
  simp only [Bool.and_eq_true, decide_eq_true_eq, Bool.not_eq_true'] at hc
  refine Z.store (fun a b => ⟨avR_h a, avR_t a⟩) ?_ kk
  intro p l e s m args below meth c base D ca ad H locs la Q C L kk
  obtain ⟨o1, -, o3, o4⟩ := okM_at C.1.1 hd
  rw [o4]
  rw [o3 rfl] at kk
  exact lv_astore C.2.1 C.2.2.1 o1 (lh_list L) hc.1 rfl (fun ls' hl => kk ls' (lh_set rfl hc.2 hl))
/-! the law's own rows -/
theorem wcell_L {ad : Nat → Nat} {ca : Nat → ClassId} {f : Nat → Int} {i n : Nat} (hk : kd i = (20, n)) : wcell ad ca f i = .inl (ca 0, n, .inl (fun k => Int32.ofInt (f k))) := by
  unfold wcell
  rw [hk, if_neg (show ¬ (20 : Nat) = 13 by omega), if_pos (show 10 ≤ (20 : Nat) by omega)]
  show (Sum.inl (ca ((20 - 10) % 10), n, Sum.inl fun k => Int32.ofInt (f k)) : va_E) = _
  rw [show (20 - 10) % 10 = 0 by decide]
theorem kd20 {i n : Nat} (hk : kd i = (20, n)) : i < 84 ∧ n < 2000 := by
  have key : ∀ i, i < 97 → (kd i).1 = 20 → i < 84 ∧ (kd i).2 < 2000 := by decide +kernel
  rcases Nat.lt_or_ge i 97 with q | q
  · have := key i q (by rw [hk])
    rw [hk] at this
    exact this
  · have : kd i = (99, 0) := by
      unfold kd
      rw [List.getD_eq_getElem?_getD, List.getElem?_eq_none (by exact q)]
      rfl
    rw [this] at hk
    cases hk
theorem z_ialoadW {i n : Nat} {x : Int} (hd : (mT M)[k]? = some (pc, .iaload, 1, t)) (hk : kd i = (20, n)) (kk : Z M uu xw (k + 1) ls (vi (h i x.toNat) :: st) h e) (hx : (decide (i < 76 + xw) && !(mF M == 0)) = true := by rfl) : Z M uu xw k ls (vi x :: vr i :: st) h (if inb x n then e else none) := by
  simp only [Bool.and_eq_true, decide_eq_true_eq, Bool.not_eq_true', beq_eq_false_iff_ne] at hx
  refine Z.guard (P := inb x n) (fun hin => ?_)
  refine Z.read (v := vi x) (fun _ b c => avR_i (b _ _) (avR_t (avR_t c))) ?_ kk
  intro p l e s m args below meth c base D ca ad H locs la Q rs C L W0 S _ _ kk
  obtain ⟨o1, -, o3, o4⟩ := okM_at C.1.1 hd
  rw [o4]
  rw [o3 rfl] at kk
  have rx : iR x := avR_h rs
  have hg := wsN_get (N := nW ad) (ad := ad) (ca := ca) (h := h) (i := i) (by rw [C.1.2.1 hx.2]; exact hx.1)
  rw [wcell_L hk] at hg
  refine va_iald C.2.1 C.2.2.1 C.2.2.2.2.2.2.2.2.1 W0.1 i 0 hg rfl (ofI_in rx hin) o1 ?_
  rw [ofI_cl rx]
  exact kk
theorem z_iastoreW {i n : Nat} {x y : Int} (hd : (mT M)[k]? = some (pc, .iastore, 1, t)) (hk : kd i = (20, n)) (kk : Z M uu xw (k + 1) ls st (hup h i y.toNat x) e) (hx : (decide (i < 76 + xw) && !(mF M == 0)) = true := by rfl) : Z M uu xw k ls (vi x :: vi y :: vr i :: st) h (if inb y n then e else none) := by
  simp only [Bool.and_eq_true, decide_eq_true_eq, Bool.not_eq_true', beq_eq_false_iff_ne] at hx
  refine Z.guard (P := inb y n) (fun hin => ?_)
  have hi := (kd20 hk).1
  refine Z.write (ev := fun ad ca => .inl (ca 0, n, .inl (upd (fun k => Int32.ofInt (h i k)) y.toNat (Int32.ofInt x)))) hi (by rw [hk]; rfl) (fun q => by (rw [hk] at q; cases q)) (fun a => avR_h a) (fun a => avR_t (avR_t (avR_t a))) (fun ad ca => ?_) ?_ kk
  · rw [wcell_L hk, hup_s]
    congr 4
    funext q
    show (if q = y.toNat then Int32.ofInt x else Int32.ofInt (h i q)) = Int32.ofInt (if q = y.toNat then x else h i q)
    split <;> rfl
  intro p l e s m args below meth c base D ca ad H locs la Q rs C L W0 S _ _ kk
  obtain ⟨o1, -, o3, o4⟩ := okM_at C.1.1 hd
  rw [o4]
  rw [o3 rfl] at kk
  have ry : iR y := avR_h (avR_t rs)
  have hg := wsN_get (N := nW ad) (ad := ad) (ca := ca) (h := h) (i := i) (by rw [C.1.2.1 hx.2]; exact hx.1)
  rw [wcell_L hk] at hg
  refine va_iast C.2.1 C.2.2.1 C.2.2.2.2.2.2.2.2.1 W0.1 W0.2 S i 0 hg rfl (ofI_in ry hin) o1 ?_
  rw [ofI_cl ry]
  exact kk
theorem z_iastoreWL {i n : Nat} {x y : Int} {K : Hp → Option (Int × Hp)} (hk : kd i = (20, n)) (hd : (mT M)[k]? = some (pc, .iastore, 1, t)) (kk : ∀ h1, Z M uu xw (k + 1) ls st h1 (K h1)) (hx : (decide (i < 76 + xw) && !(mF M == 0)) = true := by rfl) : Z M uu xw k ls (vi x :: vi y :: vr i :: st) h (if inb y n then lt (hup h i y.toNat x) K else none) := z_iastoreW hd hk (kk _) hx
/-! a new row of the law -/
def hzr (h : Hp) (i : Nat) : Hp := fun a b => if a = i then 0 else h a b
def adW (ad : Nat → Nat) (i q : Nat) : Nat → Nat := fun j => if j = i then q else if j = 200 then ad 200 + 1 else ad j
theorem adW_o {ad : Nat → Nat} {i q j : Nat} (h1 : j ≠ i) (h2 : j ≠ 200) : adW ad i q j = ad j := by
  unfold adW
  rw [if_neg h1, if_neg h2]
theorem off_76 : ∀ i, i < 76 → ∀ k, k < 10 → (match off (kd i).1 k with | some o => decide (i + o < 76) | none => true) = true := by decide +kernel
theorem fvl_o {c k : Nat} {ad ad' : Nat → Nat} {z : Int} (h : off c k = none ∨ ∃ i : Nat, z = (i : Int) ∧ ad' i = ad i) : fvl c k ad' z = fvl c k ad z := by
  unfold fvl
  rcases h with h | ⟨i, rfl, h⟩
  · rw [h]
  · cases off c k with
    | none => rfl
    | some o =>
      show va_rf (rfo ad' _) = va_rf (rfo ad _)
      rw [rfo_s, rfo_s, h]
theorem vw_10 (c : Nat) : vw_N c ≤ 10 := by
  unfold vw_N
  match c with
  | 0 => decide
  | 1 => decide
  | 2 => decide
  | 3 => decide
  | 4 => decide
  | c + 5 => rw [List.getD_eq_getElem?_getD, List.getElem?_eq_none (by simp)]; decide
theorem wcell_ad {ad ad' : Nat → Nat} {ca : Nat → ClassId} {h : Hp} {i : Nat} (hL : LI h) (hi : i < 76 ∨ (kd i).1 = 20) (hq : ∀ j, j < 76 → ad' j = ad j) : wcell ad' ca (h i) i = wcell ad ca (h i) i := by
  unfold wcell
  by_cases c1 : (kd i).1 = 13
  · rw [if_pos c1, if_pos c1]
    congr 7
    funext k
    unfold rfo
    have := hL.2.2 i k c1
    by_cases c2 : h i k < 0
    · rw [if_pos c2, if_pos c2]
    · rw [if_neg c2, if_neg c2, hq _ (by omega)]
  · rw [if_neg c1, if_neg c1]
    by_cases c2 : 10 ≤ (kd i).1
    · rw [if_pos c2, if_pos c2]
    · rw [if_neg c2, if_neg c2]
      have i76 : i < 76 := by
        rcases hi with q | q
        · exact q
        · omega
      congr 2
      unfold ofl
      apply List.map_congr_left
      intro k hk
      have k10 : k < 10 := Nat.lt_of_lt_of_le (List.mem_range.mp hk) (vw_10 _)
      apply fvl_o
      have z := off_76 i i76 k k10
      cases ho : off (kd i).1 k with
      | none => exact Or.inl rfl
      | some o =>
        rw [ho] at z
        exact Or.inr ⟨i + o, hL.1 i k o ho, hq _ (of_decide_eq_true z)⟩
theorem wsN_ad {N : Nat} {ad ad' : Nat → Nat} {ca : Nat → ClassId} {h : Hp} (hL : LI h) (hN : N ≤ 78) (hq : ∀ j, j < N → ad' j = ad j) (hq2 : ∀ j, j < 76 → ad' j = ad j) : wsN N ad' ca h = wsN N ad ca h := by
  unfold wsN
  apply List.map_congr_left
  intro i hi
  have hi := List.mem_range.mp hi
  have c : i < 76 ∨ (kd i).1 = 20 := by
    rcases Nat.lt_or_ge i 76 with q | q
    · exact Or.inl q
    · rcases (show i = 76 ∨ i = 77 by omega) with rfl | rfl
      · exact Or.inr rfl
      · exact Or.inr rfl
  rw [hq i hi, wcell_ad hL c hq2]
theorem wsN_pushW {N : Nat} {ad : Nat → Nat} {ca : Nat → ClassId} {h : Hp} {q : Nat} {e : va_E} (hq : q = ad N) (he : e = wcell ad ca (h N) N) : wsN N ad ca h ++ [(q, e)] = wsN (N + 1) ad ca h := by
  subst hq
  subst he
  unfold wsN
  rw [List.range_succ, List.map_append]
  rfl
theorem li_hzr {h : Hp} {i : Nat} (hL : LI h) (hk : (kd i).1 = 20) (hi : i < 84) : LI (hzr h i) := by
  refine ⟨fun a b o q => ?_, fun a b q1 q2 => ?_, fun a b q => ?_⟩
  · unfold hzr
    rw [if_neg]
    · exact hL.1 a b o q
    · rintro rfl
      rw [hk] at q
      cases q
  · unfold hzr
    rw [if_neg (by omega)]
    exact hL.2.1 a b q1 q2
  · unfold hzr
    split
    · omega
    · exact hL.2.2 a b q
def refOk (i : Nat) (v : AV) : Bool := match v with
  | .inr (.inl j) => !(j == i) && !(j == 200)
  | _ => true
def lsOk (i : Nat) (ls : List (Option AV)) : Bool := ls.all (fun v => match v with | some v => refOk i v | none => true)
theorem mv_adW {ad : Nat → Nat} {i q : Nat} {v : AV} (h : refOk i v = true) : mv (adW ad i q) v = mv ad v := by
  rcases v with z | j | v
  · rfl
  · unfold refOk at h
    simp only [Bool.and_eq_true, Bool.not_eq_true', beq_eq_false_iff_ne] at h
    show Value.ref _ = Value.ref _
    rw [adW_o h.1 h.2]
  · rfl
theorem WD_sub {base : Nat} {D : va_G} {ca : Nat → ClassId} {ad ad' : Nat → Nat} {h : Hp} {H : Heap} {N : Nat} (hL : LI h) (hN : N ≤ 78) (e1 : nW ad = N) (e2 : nW ad' = N + 1) (hq : ∀ j, j < N → ad' j = ad j) (hN2 : 76 ≤ N) (w : WD base D ca ad' h H) : WD base D ca ad h H := by
  have e : wsN (N + 1) ad' ca h = wsN N ad ca h ++ [(ad' N, wcell ad' ca (h N) N)] := by
    rw [← wsN_ad hL hN hq (fun j hj => hq j (by omega))]
    exact (wsN_pushW rfl rfl).symm
  obtain ⟨w1, w2⟩ := w
  rw [e2, e] at w1 w2
  have g : ∀ (k : Nat) (x : Nat × va_E), (wsN N ad ca h)[k]? = some x → (wsN N ad ca h ++ [(ad' N, wcell ad' ca (h N) N)])[k]? = some x := fun k x hx => by
    rw [List.getElem?_append_left (List.getElem?_eq_some_iff.mp hx).1]
    exact hx
  unfold WD
  rw [e1]
  exact ⟨fun k x hx => w1 k x (g k x hx), ⟨fun i j p q hp hq hne => w2.1 i j p q (g i p hp) (g j q hq) hne, fun k x hx => w2.2 k x (g k x hx)⟩⟩
theorem QcO_sub {base : Nat} {D : va_G} {ca : Nat → ClassId} {ad ad' : Nat → Nat} {r : Int} {h' : Hp} {a : Array Value} {s : State} {o : Outcome} {t : State} (w : ∀ H, WD base D ca ad' h' H → WD base D ca ad h' H) (q : QcO M base D ca ad' r h' a s o t) : QcO M base D ca ad r h' a s o t := by
  cases hr : mR M with
  | none =>
    rw [QcO_v hr] at q ⊢
    obtain ⟨⟨u, q1, q2, q3⟩, q4⟩ := q
    exact ⟨⟨u, q1, q2, w _ q3⟩, q4⟩
  | some ty =>
    cases hl : isL ty with
    | false =>
      rw [QcO_i hr hl] at q ⊢
      obtain ⟨⟨x, u, q1, q2, q3⟩, q4⟩ := q
      exact ⟨⟨x, u, q1, q2, w _ q3⟩, q4⟩
    | true =>
      have : ty = .long := by
        cases ty <;> first | rfl | cases hl
      subst this
      rw [QcO_l hr] at q ⊢
      obtain ⟨⟨x, u, q1, q2, q3⟩, q4⟩ := q
      exact ⟨⟨x, u, q1, q2, w _ q3⟩, q4⟩
theorem PQ_sub {below : List Frame} {base : Nat} {D : va_G} {ca : Nat → ClassId} {ad ad' : Nat → Nat} {r : Int} {h' : Hp} {a : Array Value} {s t : State} (w : ∀ H, WD base D ca ad' h' H → WD base D ca ad h' H) (q : PQ M below base D ca ad' r h' a s t) : PQ M below base D ca ad r h' a s t := by
  unfold PQ at q ⊢
  split
  · rename_i c
    rw [if_pos c] at q
    exact q
  · rename_i c
    rw [if_neg c] at q
    obtain ⟨o, q1, q2, q3, q4⟩ := q
    exact ⟨o, q1, q2, QcO_sub w q3, q4⟩
theorem W.post {p : Program} {l : Launch} {e : Env} {R : Room} {s : State} {m : MethodId} {args : Array Value} {below : List Frame} {meth : Method} {c : Code} {H : Heap} {locs : List Loc} {cells slots : Nat} {Q Q' : State → Prop} {g : JFrame} (hq : ∀ t, Q' t → Q t) (k : W p l e R s m args below meth c H locs cells slots Q' g) : W p l e R s m args below meth c H locs cells slots Q g := by
  intro T hT X
  obtain ⟨t, a, b⟩ := k T hT X
  exact ⟨t, a, hq t b⟩
theorem z_newI {i : Nat} {K : Hp → Option (Int × Hp)} (hk : kd i = (20, 12)) (hx : i = 76 + xw) (harr : Cond.arrayClass (newarray.typeOf .int) ∈ lwT) (hd : (mT M)[k]? = some (pc, .newarray .int, 2, t)) (kk : ∀ h1, Z M (uu + 1) (xw + 1) (k + 1) ls (vr i :: st) h1 (K h1))
    (hls : (lsOk i ls && st.all (refOk i)) = true := by rfl) (hu : ((uu + 1).ble ((rmM M).cells) && (12 * uu + 12).ble ((rmM M).slots) && (decide (xw < 2)) && !(mF M == 0) && !(mF M == 2)) = true := by rfl) : Z M uu xw k ls (vi 12 :: st) h (lt (hzr h i) K) := by
  subst hx
  simp only [Bool.and_eq_true, decide_eq_true_eq, Nat.ble_eq, Bool.not_eq_true', beq_eq_false_iff_ne] at hls hu
  obtain ⟨⟨⟨⟨u1, u2⟩, u3⟩, u4⟩, u5⟩ := hu
  obtain ⟨s1, s2⟩ := hls
  intro a b c d r h' he
  have hL2 : LI (hzr h (76 + xw)) := li_hzr a (by rw [hk]) (by omega)
  have hR2 : hR (hzr h (76 + xw)) := fun x y => by
    unfold hzr
    split
    · exact iR_0
    · exact b x y
  obtain ⟨z1, z2⟩ := kk (hzr h (76 + xw)) hL2 hR2 (avR_c (v := vr _) True.intro (avR_t c)) d r h' he
  refine ⟨z1, ?_⟩
  intro p l e s m args below meth cc base D ca ad H locs la C L W0 S
  obtain ⟨o1, -, o3, o4⟩ := okM_at C.1.1 hd
  rw [o4]
  have hts := C.2.2.2.2.2.2.2.1
  have X := C.2.2.2.2.2.2.2.2
  have eW : nW ad = 76 + xw := C.1.2.1 u4
  have rn : iR 12 := ⟨by omega, by omega⟩
  show W p l e (rmM M) s m args below meth cc H locs uu (12 * uu) _ (F0 m pc la (.int (Int32.ofInt 12) :: st.map (mv ad)))
  refine va_newaK (N := 12) C.2.1 C.2.2.1 (hts _ harr) rfl o1 rfl (fun q => by rw [← ofI_0, ofI_lt rn iR_0] at q; omega) (by rw [ofI_cl rn]; rfl) (by decide) u1 u2 rfl fun H1 cA e1 y1 q1 hAr hNm => ?_
  have eA : cA = ca 0 := Option.some.inj (hNm.symm.trans (X.1.2 0 _ (show (tysOf ca)[0]? = some (ca 0, .int) from rfl)).2)
  have hkp : ∀ (k : Nat) (x : Nat × va_E), (wsN (nW ad) ad ca h)[k]? = some x → H1[x.1]? = H[x.1]? := fun k x hx => q1 x.1 ((W0.1 k x hx).lt)
  have bH : base ≤ H.size := by
    have g := wsN_g7 (ad := ad) (ca := ca) (h := h) (i := 0) (by omega)
    have g1 : base ≤ ad 0 := W0.2.2 0 _ g
    have g2 : ad 0 < H.size := (W0.1 0 _ g).lt
    omega
  have w200 : adW ad (76 + xw) H.size 200 = ad 200 + 1 := by
    unfold adW
    rw [if_neg (by omega), if_pos rfl]
  have eW2 : nW (adW ad (76 + xw) H.size) = 76 + xw + 1 := by
    unfold nW at eW ⊢
    rw [w200]
    omega
  have eq0 : ∀ j, j < 76 + xw → adW ad (76 + xw) H.size j = ad j := fun j hj => adW_o (by omega) (by omega)
  have eN : H.size = adW ad (76 + xw) H.size (76 + xw) := by
    unfold adW
    rw [if_pos rfl]
  have ews : wsN (76 + xw) (adW ad (76 + xw) H.size) ca (hzr h (76 + xw)) = wsN (76 + xw) ad ca h := by
    rw [wsN_ad hL2 (by omega) eq0 (fun j hj => eq0 j (by omega))]
    unfold wsN
    apply List.map_congr_left
    intro i hi
    have hi := List.mem_range.mp hi
    have : hzr h (76 + xw) i = h i := by
      funext y
      unfold hzr
      rw [if_neg (by omega)]
    rw [this]
  have ew := wcell_L (ad := adW ad (76 + xw) H.size) (ca := ca) (f := hzr h (76 + xw) (76 + xw)) hk
  rw [eW] at hkp
  have hP0 := W0.1
  have hD0 := W0.2
  rw [eW] at hP0 hD0
  have P1 : va_P D vwCl (wsN (76 + xw + 1) (adW ad (76 + xw) H.size) ca (hzr h (76 + xw))) H1 := by
    rw [← wsN_pushW eN ew.symm, ews]
    refine (hP0.kept hkp).app (fun k x hx => ?_)
    have hz : k < 1 := (List.getElem?_eq_some_iff.mp hx).1
    rw [show k = 0 by omega] at hx
    cases hx
    show H1[H.size]? = some (vp_cell _ _)
    rw [e1, vp_cell_i, eA]
    congr 2
    funext j
    show defaultValue .int = _
    unfold hzr
    rw [if_pos rfl]
    rfl
  have D1 : va_D (fun q => base ≤ q) (wsN (76 + xw + 1) (adW ad (76 + xw) H.size) ca (hzr h (76 + xw))) := by
    rw [← wsN_pushW eN ew.symm, ews]
    exact hD0.push hP0 rfl bH
  have S1 : va_S (fun q => base ≤ q) s.heap H1 locs := ⟨Nat.le_trans S.1 (by omega), fun x y1 y2 => (q1 x (Nat.lt_of_lt_of_le y1 S.1)).trans (S.2.1 x y1 y2), S.2.2⟩
  have X2 : CX base D ca (adW ad (76 + xw) H.size) s := by
    refine ⟨X.1, X.2.1, fun i i1 i2 => ?_, True.intro⟩
    rw [adW_o (by omega) (by omega)]
    exact X.2.2.1 i i1 i2
  have C2 : ZC M (xw + 1) p s m args meth cc base D ca (adW ad (76 + xw) H.size) := ⟨⟨C.1.1, fun _ => by rw [eW2, Nat.add_assoc], C.1.2.2⟩, C.2.1, C.2.2.1, C.2.2.2.1, C.2.2.2.2.1, C.2.2.2.2.2.1, C.2.2.2.2.2.2.1, C.2.2.2.2.2.2.2.1, X2⟩
  have L2 : LH (adW ad (76 + xw) H.size) la (mN M) ls := ⟨L.1, L.2.1, fun i v hi => by
    have z := List.all_eq_true.mp s1 (some v) (List.mem_of_getElem? hi)
    rw [mv_adW z]
    exact L.2.2 i v hi⟩
  have est : st.map (mv (adW ad (76 + xw) H.size)) = st.map (mv ad) := List.map_congr_left (fun v hv => mv_adW (List.all_eq_true.mp s2 v hv))
  have z := z2 p l e s m args below meth cc base D ca (adW ad (76 + xw) H.size) H1 locs la C2 L2 ⟨by rw [eW2]; exact P1, by rw [eW2]; exact D1⟩ S1
  rw [o3 rfl, List.map_cons, est, show mv (adW ad (76 + xw) H.size) (vr (76 + xw)) = .ref (adW ad (76 + xw) H.size (76 + xw)) from rfl, ← eN] at z
  exact W.post (fun t q => PQ_sub (fun H2 w => WD_sub (N := 76 + xw) z1.2.1 (by omega) eW eW2 eq0 (by omega) w) q) z
end Steps6
end
