/-! printed by wip/gen/gen.py: the entries of the pools -/
theorem ar_int : Cond.arrayClass (newarray.typeOf .int) ∈ lwT := lwT_k1 38 rfl rfl
theorem cp_X1_34 : (Cond.methodLink RX1 34 arraycopyName ∈ lwT) ∧ (Cond.native arraycopyName ∈ lwT) ∧ (Cond.static arraycopyName ∈ lwT) ∧ (Cond.initialized "java/lang/System" ∈ lwT) := ⟨lwT_k1 41 rfl rfl, lwT_k1 43 rfl rfl, lwT_k1 42 rfl rfl, lwT_k1 4 rfl rfl⟩
theorem cp_X2_19 : (Cond.methodLink RX2 19 arraycopyName ∈ lwT) ∧ (Cond.native arraycopyName ∈ lwT) ∧ (Cond.static arraycopyName ∈ lwT) ∧ (Cond.initialized "java/lang/System" ∈ lwT) := ⟨lwT_k1 177 rfl rfl, lwT_k1 43 rfl rfl, lwT_k1 42 rfl rfl, lwT_k1 4 rfl rfl⟩
theorem cst_X1_59 : Cond.constant RX1 59 (Int32.ofInt (-1000001)) ∈ lwT := lwT_k1 185 rfl rfl
theorem cst_X1_60 : Cond.constant RX1 60 (Int32.ofInt (-1000003)) ∈ lwT := lwT_k1 186 rfl rfl
theorem cst_X1_72 : Cond.constant RX1 72 (Int32.ofInt (-1000002)) ∈ lwT := lwT_k1 215 rfl rfl
theorem cst_X4_112 : Cond.constant RX4 112 (Int32.ofInt (-1000004)) ∈ lwT := lwT_k2 187 rfl rfl
theorem cst_X4_183 : Cond.constant RX4 183 (Int32.ofInt (-1000002)) ∈ lwT := lwT_k2 72 rfl rfl
theorem cst_X4_99 : Cond.constant RX4 99 (Int32.ofInt (-1000001)) ∈ lwT := lwT_k2 67 rfl rfl
theorem cst_X4_215 : Cond.constantFloat RX4 215 1258291200 ∈ lwT := lwT_k2 239 rfl rfl
theorem fi_X0_34 : FI RX0 34 0 7 := ⟨_, _, _, _, ko0, by decide, rfl, rfl, Or.inl (lwT_k1 78 rfl rfl)⟩
theorem fi_X0_38 : FI RX0 38 0 8 := ⟨_, _, _, _, ko0, by decide, rfl, rfl, Or.inl (lwT_k1 79 rfl rfl)⟩
theorem fi_X0_41 : FI RX0 41 0 9 := ⟨_, _, _, _, ko0, by decide, rfl, rfl, Or.inl (lwT_k1 80 rfl rfl)⟩
theorem fi_X2_15 : FI RX2 15 2 1 := ⟨_, _, _, _, ko2, by decide, rfl, rfl, Or.inl (lwT_k1 29 rfl rfl)⟩
theorem fi_X4_30 : FI RX4 30 4 4 := ⟨_, _, _, _, ko4, by decide, rfl, rfl, Or.inl (lwT_k1 134 rfl rfl)⟩
theorem fl_X0_15 : FL RX0 15 0 1 := ⟨_, _, _, _, ko0, by decide, Or.inl (lwT_k1 72 rfl rfl)⟩
theorem fl_X0_18 : FL RX0 18 0 2 := ⟨_, _, _, _, ko0, by decide, Or.inl (lwT_k1 73 rfl rfl)⟩
theorem fl_X0_22 : FL RX0 22 0 3 := ⟨_, _, _, _, ko0, by decide, Or.inl (lwT_k1 74 rfl rfl)⟩
theorem fl_X0_25 : FL RX0 25 0 4 := ⟨_, _, _, _, ko0, by decide, Or.inl (lwT_k1 75 rfl rfl)⟩
theorem fl_X0_28 : FL RX0 28 0 5 := ⟨_, _, _, _, ko0, by decide, Or.inl (lwT_k1 76 rfl rfl)⟩
theorem fl_X0_31 : FL RX0 31 0 6 := ⟨_, _, _, _, ko0, by decide, Or.inl (lwT_k1 77 rfl rfl)⟩
theorem fl_X0_34 : FL RX0 34 0 7 := ⟨_, _, _, _, ko0, by decide, Or.inl (lwT_k1 78 rfl rfl)⟩
theorem fl_X0_38 : FL RX0 38 0 8 := ⟨_, _, _, _, ko0, by decide, Or.inl (lwT_k1 79 rfl rfl)⟩
theorem fl_X0_41 : FL RX0 41 0 9 := ⟨_, _, _, _, ko0, by decide, Or.inl (lwT_k1 80 rfl rfl)⟩
theorem fl_X0_44 : FL RX0 44 1 0 := ⟨_, _, _, _, ko1, by decide, Or.inr ⟨"OddUmbrellas", lwN_k1 45 rfl⟩⟩
theorem fl_X0_49 : FL RX0 49 2 1 := ⟨_, _, _, _, ko2, by decide, Or.inr ⟨"OddUmbrellas", lwN_k1 30 rfl⟩⟩
theorem fl_X0_60 : FL RX0 60 1 1 := ⟨_, _, _, _, ko1, by decide, Or.inr ⟨"OddUmbrellas", lwN_k1 48 rfl⟩⟩
theorem fl_X0_9 : FL RX0 9 0 0 := ⟨_, _, _, _, ko0, by decide, Or.inl (lwT_k1 71 rfl rfl)⟩
theorem fl_X1_12 : FL RX1 12 1 0 := ⟨_, _, _, _, ko1, by decide, Or.inl (lwT_k1 44 rfl rfl)⟩
theorem fl_X1_125 : FL RX1 125 0 9 := ⟨_, _, _, _, ko0, by decide, Or.inr ⟨"OddUmbrellas", lwN_k1 81 rfl⟩⟩
theorem fl_X1_18 : FL RX1 18 1 1 := ⟨_, _, _, _, ko1, by decide, Or.inl (lwT_k1 47 rfl rfl)⟩
theorem fl_X1_21 : FL RX1 21 1 2 := ⟨_, _, _, _, ko1, by decide, Or.inl (lwT_k1 50 rfl rfl)⟩
theorem fl_X1_24 : FL RX1 24 1 3 := ⟨_, _, _, _, ko1, by decide, Or.inl (lwT_k1 52 rfl rfl)⟩
theorem fl_X1_28 : FL RX1 28 1 4 := ⟨_, _, _, _, ko1, by decide, Or.inl (lwT_k1 53 rfl rfl)⟩
theorem fl_X1_44 : FL RX1 44 2 1 := ⟨_, _, _, _, ko2, by decide, Or.inr ⟨"OddUmbrellas", lwN_k1 31 rfl⟩⟩
theorem fl_X2_15 : FL RX2 15 2 1 := ⟨_, _, _, _, ko2, by decide, Or.inl (lwT_k1 29 rfl rfl)⟩
theorem fl_X2_9 : FL RX2 9 2 0 := ⟨_, _, _, _, ko2, by decide, Or.inl (lwT_k1 28 rfl rfl)⟩
theorem fl_X4_10 : FL RX4 10 4 0 := ⟨_, _, _, _, ko4, by decide, Or.inl (lwT_k1 130 rfl rfl)⟩
theorem fl_X4_116 : FL RX4 116 1 1 := ⟨_, _, _, _, ko1, by decide, Or.inr ⟨"OddUmbrellas", lwN_k1 49 rfl⟩⟩
theorem fl_X4_144 : FL RX4 144 1 2 := ⟨_, _, _, _, ko1, by decide, Or.inr ⟨"OddUmbrellas", lwN_k1 51 rfl⟩⟩
theorem fl_X4_147 : FL RX4 147 2 1 := ⟨_, _, _, _, ko2, by decide, Or.inr ⟨"OddUmbrellas", lwN_k1 32 rfl⟩⟩
theorem fl_X4_16 : FL RX4 16 4 1 := ⟨_, _, _, _, ko4, by decide, Or.inl (lwT_k1 131 rfl rfl)⟩
theorem fl_X4_163 : FL RX4 163 0 9 := ⟨_, _, _, _, ko0, by decide, Or.inr ⟨"OddUmbrellas", lwN_k1 82 rfl⟩⟩
theorem fl_X4_180 : FL RX4 180 3 1 := ⟨_, _, _, _, ko3, by decide, Or.inr ⟨"OddUmbrellas", lwN_k1 114 rfl⟩⟩
theorem fl_X4_22 : FL RX4 22 4 2 := ⟨_, _, _, _, ko4, by decide, Or.inl (lwT_k1 132 rfl rfl)⟩
theorem fl_X4_26 : FL RX4 26 4 3 := ⟨_, _, _, _, ko4, by decide, Or.inl (lwT_k1 133 rfl rfl)⟩
theorem fl_X4_30 : FL RX4 30 4 4 := ⟨_, _, _, _, ko4, by decide, Or.inl (lwT_k1 134 rfl rfl)⟩
theorem fl_X4_37 : FL RX4 37 4 5 := ⟨_, _, _, _, ko4, by decide, Or.inl (lwT_k1 135 rfl rfl)⟩
theorem fl_X4_89 : FL RX4 89 1 0 := ⟨_, _, _, _, ko1, by decide, Or.inr ⟨"OddUmbrellas", lwN_k1 46 rfl⟩⟩
theorem fs_X1_87 : Cond.fieldLinkNest RX1 87 "OddUmbrellas" (sN 85) "[I" "OddUmbrellas" ∈ lw_tbl := lwN_k2 160 rfl
theorem fs_X1_94 : Cond.fieldLinkNest RX1 94 "OddUmbrellas" (sN 86) "[I" "OddUmbrellas" ∈ lw_tbl := lwN_k2 163 rfl
theorem mn_X0_73 : MSN RX0 73 M_X4_numberAt 2 := ⟨⟨"OddUmbrellas", lwN_k2 7 rfl⟩, ⟨lwT_k2 8 rfl rfl, lwT_k1 1 rfl rfl, lwT_k2 9 rfl rfl⟩, ⟨by decide +kernel, by decide +kernel, by decide +kernel⟩⟩
theorem mn_X1_55 : MSN RX1 55 M_X4_isValue 1 := ⟨⟨"OddUmbrellas", lwN_k1 182 rfl⟩, ⟨lwT_k1 183 rfl rfl, lwT_k1 1 rfl rfl, lwT_k1 184 rfl rfl⟩, ⟨by decide +kernel, by decide +kernel, by decide +kernel⟩⟩
theorem mn_X1_69 : MSN RX1 69 M_X4_isValueOrNotTold 1 := ⟨⟨"OddUmbrellas", lwN_k1 211 rfl⟩, ⟨lwT_k1 212 rfl rfl, lwT_k1 1 rfl rfl, lwT_k1 213 rfl rfl⟩, ⟨by decide +kernel, by decide +kernel, by decide +kernel⟩⟩
theorem mn_X1_76 : MSN RX1 76 M_X4_isDetail 1 := ⟨⟨"OddUmbrellas", lwN_k2 97 rfl⟩, ⟨lwT_k2 98 rfl rfl, lwT_k1 1 rfl rfl, lwT_k2 99 rfl rfl⟩, ⟨by decide +kernel, by decide +kernel, by decide +kernel⟩⟩
theorem mn_X1_90 : MSN RX1 90 M_X4_numberAt 2 := ⟨⟨"OddUmbrellas", lwN_k2 162 rfl⟩, ⟨lwT_k2 8 rfl rfl, lwT_k1 1 rfl rfl, lwT_k2 9 rfl rfl⟩, ⟨by decide +kernel, by decide +kernel, by decide +kernel⟩⟩
theorem mn_X1_97 : MSN RX1 97 M_X4_isWeeksAtOnce 1 := ⟨⟨"OddUmbrellas", lwN_k2 141 rfl⟩, ⟨lwT_k2 142 rfl rfl, lwT_k1 1 rfl rfl, lwT_k2 143 rfl rfl⟩, ⟨by decide +kernel, by decide +kernel, by decide +kernel⟩⟩
theorem ms_X0_54 : MS RX0 54 M_J_min 2 := ⟨⟨lwT_k1 232 rfl rfl, lwT_k1 233 rfl rfl, lwT_k1 7 rfl rfl, lwT_k1 234 rfl rfl⟩, ⟨by decide +kernel, by decide +kernel, by decide +kernel⟩⟩
theorem ms_X4_122 : MS RX4 122 M_X4_orNotFound 1 := ⟨⟨lwT_k2 203 rfl rfl, lwT_k2 204 rfl rfl, lwT_k1 1 rfl rfl, lwT_k2 205 rfl rfl⟩, ⟨by decide +kernel, by decide +kernel, by decide +kernel⟩⟩
theorem ms_X4_135 : MS RX4 135 M_X4_isDetail 1 := ⟨⟨lwT_k2 196 rfl rfl, lwT_k2 98 rfl rfl, lwT_k1 1 rfl rfl, lwT_k2 99 rfl rfl⟩, ⟨by decide +kernel, by decide +kernel, by decide +kernel⟩⟩
theorem ms_X4_138 : MS RX4 138 M_X4_isValue 1 := ⟨⟨lwT_k1 214 rfl rfl, lwT_k1 183 rfl rfl, lwT_k1 1 rfl rfl, lwT_k1 184 rfl rfl⟩, ⟨by decide +kernel, by decide +kernel, by decide +kernel⟩⟩
theorem ms_X4_157 : MS RX4 157 M_X4_isWeeksAtOnce 1 := ⟨⟨lwT_k3 30 rfl rfl, lwT_k2 142 rfl rfl, lwT_k1 1 rfl rfl, lwT_k2 143 rfl rfl⟩, ⟨by decide +kernel, by decide +kernel, by decide +kernel⟩⟩
theorem ms_X4_170 : MS RX4 170 M_X4_bitsOf 1 := ⟨⟨lwT_k2 236 rfl rfl, lwT_k2 237 rfl rfl, lwT_k1 1 rfl rfl, lwT_k2 238 rfl rfl⟩, ⟨by decide +kernel, by decide +kernel, by decide +kernel⟩⟩
theorem mv_X0_102 : MV RX0 102 M_X0_claimMatched 1 := ⟨⟨lwT_k2 23 rfl rfl, lwT_k2 24 rfl rfl, lwT_k2 25 rfl rfl, lwT_k1 5 rfl rfl, lwT_k2 26 rfl rfl⟩, ⟨by decide +kernel, by decide +kernel, by decide +kernel⟩⟩
theorem mv_X0_105 : MV RX0 105 M_X0_umbrellaMatched 1 := ⟨⟨lwT_k2 27 rfl rfl, lwT_k2 28 rfl rfl, lwT_k2 29 rfl rfl, lwT_k1 5 rfl rfl, lwT_k2 30 rfl rfl⟩, ⟨by decide +kernel, by decide +kernel, by decide +kernel⟩⟩
theorem mv_X0_108 : MV RX0 108 M_X0_aheadOf 2 := ⟨⟨lwT_k2 35 rfl rfl, lwT_k2 37 rfl rfl, lwT_p1 (q := (_, _)) 10 rfl, lwT_k1 5 rfl rfl, lwT_k2 38 rfl rfl⟩, ⟨by decide +kernel, by decide +kernel, by decide +kernel⟩⟩
theorem mv_X0_111 : MV RX0 111 M_X0_worthOf 2 := ⟨⟨lwT_k2 235 rfl rfl, lwT_k2 189 rfl rfl, lwT_k2 190 rfl rfl, lwT_k1 5 rfl rfl, lwT_k2 191 rfl rfl⟩, ⟨by decide +kernel, by decide +kernel, by decide +kernel⟩⟩
theorem mv_X0_114 : MV RX0 114 M_X0_nextAsk 0 := ⟨⟨lwT_k2 47 rfl rfl, lwT_k2 49 rfl rfl, lwT_p1 (q := (_, _)) 12 rfl, lwT_k1 5 rfl rfl, lwT_k2 50 rfl rfl⟩, ⟨by decide +kernel, by decide +kernel, by decide +kernel⟩⟩
theorem mv_X0_117 : MV RX0 117 M_X0_askFor 1 := ⟨⟨lwT_k2 55 rfl rfl, lwT_k2 57 rfl rfl, lwT_p1 (q := (_, _)) 14 rfl, lwT_k1 5 rfl rfl, lwT_k2 58 rfl rfl⟩, ⟨by decide +kernel, by decide +kernel, by decide +kernel⟩⟩
theorem mv_X0_121 : MV RX0 121 M_X0_nextPairOf 1 := ⟨⟨lwT_k2 51 rfl rfl, lwT_k2 53 rfl rfl, lwT_p1 (q := (_, _)) 13 rfl, lwT_k1 5 rfl rfl, lwT_k2 54 rfl rfl⟩, ⟨by decide +kernel, by decide +kernel, by decide +kernel⟩⟩
theorem mv_X0_124 : MV RX0 124 M_X0_part 2 := ⟨⟨lwT_k2 59 rfl rfl, lwT_k2 61 rfl rfl, lwT_p1 (q := (_, _)) 15 rfl, lwT_k1 5 rfl rfl, lwT_k2 62 rfl rfl⟩, ⟨by decide +kernel, by decide +kernel, by decide +kernel⟩⟩
theorem mv_X0_62 : MV RX0 62 M_X0_noteOddness 1 := ⟨⟨lwT_k1 235 rfl rfl, lwT_k1 237 rfl rfl, lwT_p1 (q := (_, _)) 4 rfl, lwT_k1 5 rfl rfl, lwT_k1 238 rfl rfl⟩, ⟨by decide +kernel, by decide +kernel, by decide +kernel⟩⟩
theorem mv_X0_66 : MV RX0 66 M_X0_weigh 3 := ⟨⟨lwT_k2 3 rfl rfl, lwT_k2 5 rfl rfl, lwT_p1 (q := (_, _)) 5 rfl, lwT_k1 5 rfl rfl, lwT_k2 6 rfl rfl⟩, ⟨by decide +kernel, by decide +kernel, by decide +kernel⟩⟩
theorem mv_X0_70 : MV RX0 70 M_X2_cell 2 := ⟨⟨lwT_k1 239 rfl rfl, lwT_k2 0 rfl rfl, lwT_k2 1 rfl rfl, lwT_k1 3 rfl rfl, lwT_k2 2 rfl rfl⟩, ⟨by decide +kernel, by decide +kernel, by decide +kernel⟩⟩
theorem mv_X0_77 : MV RX0 77 M_X1_setting 1 := ⟨⟨lwT_k2 10 rfl rfl, lwT_k1 221 rfl rfl, lwT_k1 222 rfl rfl, lwT_k1 2 rfl rfl, lwT_k1 223 rfl rfl⟩, ⟨by decide +kernel, by decide +kernel, by decide +kernel⟩⟩
theorem mv_X0_81 : MV RX0 81 M_X0_pairOf 2 := ⟨⟨lwT_k2 11 rfl rfl, lwT_k2 13 rfl rfl, lwT_p1 (q := (_, _)) 6 rfl, lwT_k1 5 rfl rfl, lwT_k2 14 rfl rfl⟩, ⟨by decide +kernel, by decide +kernel, by decide +kernel⟩⟩
theorem mv_X0_84 : MV RX0 84 M_X0_suits 2 := ⟨⟨lwT_k2 31 rfl rfl, lwT_k2 33 rfl rfl, lwT_p1 (q := (_, _)) 9 rfl, lwT_k1 5 rfl rfl, lwT_k2 34 rfl rfl⟩, ⟨by decide +kernel, by decide +kernel, by decide +kernel⟩⟩
theorem mv_X0_88 : MV RX0 88 M_X0_weighAll 1 := ⟨⟨lwT_k1 228 rfl rfl, lwT_k1 229 rfl rfl, lwT_k1 230 rfl rfl, lwT_k1 5 rfl rfl, lwT_k1 231 rfl rfl⟩, ⟨by decide +kernel, by decide +kernel, by decide +kernel⟩⟩
theorem mv_X0_91 : MV RX0 91 M_X0_matchNone 0 := ⟨⟨lwT_k2 15 rfl rfl, lwT_k2 17 rfl rfl, lwT_p1 (q := (_, _)) 7 rfl, lwT_k1 5 rfl rfl, lwT_k2 18 rfl rfl⟩, ⟨by decide +kernel, by decide +kernel, by decide +kernel⟩⟩
theorem mv_X0_94 : MV RX0 94 M_X0_bestFreePair 0 := ⟨⟨lwT_k2 19 rfl rfl, lwT_k2 21 rfl rfl, lwT_p1 (q := (_, _)) 8 rfl, lwT_k1 5 rfl rfl, lwT_k2 22 rfl rfl⟩, ⟨by decide +kernel, by decide +kernel, by decide +kernel⟩⟩
theorem mv_X0_98 : MV RX0 98 M_X0_join 2 := ⟨⟨lwT_k2 39 rfl rfl, lwT_k2 41 rfl rfl, lwT_p1 (q := (_, _)) 11 rfl, lwT_k1 5 rfl rfl, lwT_k2 42 rfl rfl⟩, ⟨by decide +kernel, by decide +kernel, by decide +kernel⟩⟩
theorem mv_X1_100 : MV RX1 100 M_X1_sum 1 := ⟨⟨lwT_k2 131 rfl rfl, lwT_k2 64 rfl rfl, lwT_k2 65 rfl rfl, lwT_k1 2 rfl rfl, lwT_k2 66 rfl rfl⟩, ⟨by decide +kernel, by decide +kernel, by decide +kernel⟩⟩
theorem mv_X1_104 : MV RX1 104 M_X1_growOlder 1 := ⟨⟨lwT_k2 144 rfl rfl, lwT_k2 146 rfl rfl, lwT_p2 (q := (_, _)) 1 rfl, lwT_k1 2 rfl rfl, lwT_k2 147 rfl rfl⟩, ⟨by decide +kernel, by decide +kernel, by decide +kernel⟩⟩
theorem mv_X1_107 : MV RX1 107 M_X1_setting 1 := ⟨⟨lwT_k2 126 rfl rfl, lwT_k1 221 rfl rfl, lwT_k1 222 rfl rfl, lwT_k1 2 rfl rfl, lwT_k1 223 rfl rfl⟩, ⟨by decide +kernel, by decide +kernel, by decide +kernel⟩⟩
theorem mv_X1_110 : MV RX1 110 M_X1_endOld 4 := ⟨⟨lwT_k2 148 rfl rfl, lwT_k2 150 rfl rfl, lwT_p2 (q := (_, _)) 2 rfl, lwT_k1 2 rfl rfl, lwT_k2 151 rfl rfl⟩, ⟨by decide +kernel, by decide +kernel, by decide +kernel⟩⟩
theorem mv_X1_114 : MV RX1 114 M_X1_enter 3 := ⟨⟨lwT_k2 127 rfl rfl, lwT_k2 129 rfl rfl, lwT_p2 (q := (_, _)) 0 rfl, lwT_k1 2 rfl rfl, lwT_k2 130 rfl rfl⟩, ⟨by decide +kernel, by decide +kernel, by decide +kernel⟩⟩
theorem mv_X1_117 : MV RX1 117 M_X0_claimMatched 1 := ⟨⟨lwT_k2 125 rfl rfl, lwT_k2 24 rfl rfl, lwT_k2 25 rfl rfl, lwT_k1 5 rfl rfl, lwT_k2 26 rfl rfl⟩, ⟨by decide +kernel, by decide +kernel, by decide +kernel⟩⟩
theorem mv_X1_122 : MV RX1 122 M_X0_umbrellaMatched 1 := ⟨⟨lwT_k2 132 rfl rfl, lwT_k2 28 rfl rfl, lwT_k2 29 rfl rfl, lwT_k1 5 rfl rfl, lwT_k2 30 rfl rfl⟩, ⟨by decide +kernel, by decide +kernel, by decide +kernel⟩⟩
theorem mv_X1_40 : MV RX1 40 M_X2_become 1 := ⟨⟨lwT_k1 173 rfl rfl, lwT_k1 174 rfl rfl, lwT_k1 175 rfl rfl, lwT_k1 3 rfl rfl, lwT_k1 176 rfl rfl⟩, ⟨by decide +kernel, by decide +kernel, by decide +kernel⟩⟩
theorem mv_X1_48 : MV RX1 48 M_X2_cell 2 := ⟨⟨lwT_k2 100 rfl rfl, lwT_k2 0 rfl rfl, lwT_k2 1 rfl rfl, lwT_k1 3 rfl rfl, lwT_k2 2 rfl rfl⟩, ⟨by decide +kernel, by decide +kernel, by decide +kernel⟩⟩
theorem mv_X1_52 : MV RX1 52 M_X1_umbrellasWith 2 := ⟨⟨lwT_k2 178 rfl rfl, lwT_k2 179 rfl rfl, lwT_k2 180 rfl rfl, lwT_k1 2 rfl rfl, lwT_k2 181 rfl rfl⟩, ⟨by decide +kernel, by decide +kernel, by decide +kernel⟩⟩
theorem mv_X1_61 : MV RX1 61 M_X1_addTo 2 := ⟨⟨lwT_k1 187 rfl rfl, lwT_k1 189 rfl rfl, lwT_p1 (q := (_, _)) 1 rfl, lwT_k1 2 rfl rfl, lwT_k1 190 rfl rfl⟩, ⟨by decide +kernel, by decide +kernel, by decide +kernel⟩⟩
theorem mv_X1_65 : MV RX1 65 M_X2_append 4 := ⟨⟨lwT_k1 191 rfl rfl, lwT_k1 192 rfl rfl, lwT_k1 193 rfl rfl, lwT_k1 3 rfl rfl, lwT_k1 194 rfl rfl⟩, ⟨by decide +kernel, by decide +kernel, by decide +kernel⟩⟩
theorem mv_X1_73 : MV RX1 73 M_X2_has 1 := ⟨⟨lwT_k2 93 rfl rfl, lwT_k2 94 rfl rfl, lwT_k2 95 rfl rfl, lwT_k1 3 rfl rfl, lwT_k2 96 rfl rfl⟩, ⟨by decide +kernel, by decide +kernel, by decide +kernel⟩⟩
theorem mv_X1_79 : MV RX1 79 M_X2_put 3 := ⟨⟨lwT_k2 101 rfl rfl, lwT_k2 102 rfl rfl, lwT_k2 103 rfl rfl, lwT_k1 3 rfl rfl, lwT_k2 104 rfl rfl⟩, ⟨by decide +kernel, by decide +kernel, by decide +kernel⟩⟩
theorem mv_X1_83 : MV RX1 83 M_X2_remove 1 := ⟨⟨lwT_k2 113 rfl rfl, lwT_k2 114 rfl rfl, lwT_k2 115 rfl rfl, lwT_k1 3 rfl rfl, lwT_k2 116 rfl rfl⟩, ⟨by decide +kernel, by decide +kernel, by decide +kernel⟩⟩
theorem mv_X4_100 : MV RX4 100 M_X2_cell 2 := ⟨⟨lwT_k2 173 rfl rfl, lwT_k2 0 rfl rfl, lwT_k2 1 rfl rfl, lwT_k1 3 rfl rfl, lwT_k2 2 rfl rfl⟩, ⟨by decide +kernel, by decide +kernel, by decide +kernel⟩⟩
theorem mv_X4_103 : MV RX4 103 M_X1_oddnessTogether 1 := ⟨⟨lwT_k2 174 rfl rfl, lwT_k2 175 rfl rfl, lwT_k2 176 rfl rfl, lwT_k1 2 rfl rfl, lwT_k2 177 rfl rfl⟩, ⟨by decide +kernel, by decide +kernel, by decide +kernel⟩⟩
theorem mv_X4_106 : MV RX4 106 M_X0_claimsSuiting 1 := ⟨⟨lwT_k2 182 rfl rfl, lwT_k2 183 rfl rfl, lwT_k2 184 rfl rfl, lwT_k1 5 rfl rfl, lwT_k2 185 rfl rfl⟩, ⟨by decide +kernel, by decide +kernel, by decide +kernel⟩⟩
theorem mv_X4_109 : MV RX4 109 M_X0_claimMatched 1 := ⟨⟨lwT_k2 186 rfl rfl, lwT_k2 24 rfl rfl, lwT_k2 25 rfl rfl, lwT_k1 5 rfl rfl, lwT_k2 26 rfl rfl⟩, ⟨by decide +kernel, by decide +kernel, by decide +kernel⟩⟩
theorem mv_X4_113 : MV RX4 113 M_X0_worthOf 2 := ⟨⟨lwT_k2 188 rfl rfl, lwT_k2 189 rfl rfl, lwT_k2 190 rfl rfl, lwT_k1 5 rfl rfl, lwT_k2 191 rfl rfl⟩, ⟨by decide +kernel, by decide +kernel, by decide +kernel⟩⟩
theorem mv_X4_119 : MV RX4 119 M_X0_umbrellaMatched 1 := ⟨⟨lwT_k2 202 rfl rfl, lwT_k2 28 rfl rfl, lwT_k2 29 rfl rfl, lwT_k1 5 rfl rfl, lwT_k2 30 rfl rfl⟩, ⟨by decide +kernel, by decide +kernel, by decide +kernel⟩⟩
theorem mv_X4_125 : MV RX4 125 M_X0_umbrellasSuiting 1 := ⟨⟨lwT_k2 206 rfl rfl, lwT_k2 207 rfl rfl, lwT_k2 208 rfl rfl, lwT_k1 5 rfl rfl, lwT_k2 209 rfl rfl⟩, ⟨by decide +kernel, by decide +kernel, by decide +kernel⟩⟩
theorem mv_X4_128 : MV RX4 128 M_X4_isPair 2 := ⟨⟨lwT_k2 214 rfl rfl, lwT_k2 216 rfl rfl, lwT_p2 (q := (_, _)) 3 rfl, lwT_k1 1 rfl rfl, lwT_k2 217 rfl rfl⟩, ⟨by decide +kernel, by decide +kernel, by decide +kernel⟩⟩
theorem mv_X4_132 : MV RX4 132 M_X0_weighAll 1 := ⟨⟨lwT_k2 218 rfl rfl, lwT_k1 229 rfl rfl, lwT_k1 230 rfl rfl, lwT_k1 5 rfl rfl, lwT_k1 231 rfl rfl⟩, ⟨by decide +kernel, by decide +kernel, by decide +kernel⟩⟩
theorem mv_X4_141 : MV RX4 141 M_X1_umbrellasWith 2 := ⟨⟨lwT_k2 197 rfl rfl, lwT_k2 179 rfl rfl, lwT_k2 180 rfl rfl, lwT_k1 2 rfl rfl, lwT_k2 181 rfl rfl⟩, ⟨by decide +kernel, by decide +kernel, by decide +kernel⟩⟩
theorem mv_X4_150 : MV RX4 150 M_X0_reasonAgainst 3 := ⟨⟨lwT_k2 223 rfl rfl, lwT_k2 224 rfl rfl, lwT_k2 225 rfl rfl, lwT_k1 5 rfl rfl, lwT_k2 226 rfl rfl⟩, ⟨by decide +kernel, by decide +kernel, by decide +kernel⟩⟩
theorem mv_X4_154 : MV RX4 154 M_X1_become 1 := ⟨⟨lwT_k1 169 rfl rfl, lwT_k1 170 rfl rfl, lwT_k1 171 rfl rfl, lwT_k1 2 rfl rfl, lwT_k1 172 rfl rfl⟩, ⟨by decide +kernel, by decide +kernel, by decide +kernel⟩⟩
theorem mv_X4_160 : MV RX4 160 M_X1_sum 1 := ⟨⟨lwT_k2 63 rfl rfl, lwT_k2 64 rfl rfl, lwT_k2 65 rfl rfl, lwT_k1 2 rfl rfl, lwT_k2 66 rfl rfl⟩, ⟨by decide +kernel, by decide +kernel, by decide +kernel⟩⟩
theorem mv_X4_166 : MV RX4 166 M_X0_worthOfMatched 0 := ⟨⟨lwT_k2 231 rfl rfl, lwT_k2 232 rfl rfl, lwT_k2 233 rfl rfl, lwT_k1 5 rfl rfl, lwT_k2 234 rfl rfl⟩, ⟨by decide +kernel, by decide +kernel, by decide +kernel⟩⟩
theorem mv_X4_174 : MV RX4 174 M_X1_setting 1 := ⟨⟨lwT_k1 220 rfl rfl, lwT_k1 221 rfl rfl, lwT_k1 222 rfl rfl, lwT_k1 2 rfl rfl, lwT_k1 223 rfl rfl⟩, ⟨by decide +kernel, by decide +kernel, by decide +kernel⟩⟩
theorem mv_X4_177 : MV RX4 177 M_X0_matchByAsking 1 := ⟨⟨lwT_k2 43 rfl rfl, lwT_k2 44 rfl rfl, lwT_k2 45 rfl rfl, lwT_k1 5 rfl rfl, lwT_k2 46 rfl rfl⟩, ⟨by decide +kernel, by decide +kernel, by decide +kernel⟩⟩
theorem mv_X4_192 : MV RX4 192 M_X4_forgetOldestState 0 := ⟨⟨lwT_k1 199 rfl rfl, lwT_k1 201 rfl rfl, lwT_p1 (q := (_, _)) 3 rfl, lwT_k1 1 rfl rfl, lwT_k1 202 rfl rfl⟩, ⟨by decide +kernel, by decide +kernel, by decide +kernel⟩⟩
theorem mv_X4_53 : MV RX4 53 M_X4_keepState 0 := ⟨⟨lwT_k1 165 rfl rfl, lwT_k1 167 rfl rfl, lwT_p1 (q := (_, _)) 0 rfl, lwT_k1 1 rfl rfl, lwT_k1 168 rfl rfl⟩, ⟨by decide +kernel, by decide +kernel, by decide +kernel⟩⟩
theorem mv_X4_56 : MV RX4 56 M_X1_takeUmbrella 4 := ⟨⟨lwT_k1 178 rfl rfl, lwT_k1 179 rfl rfl, lwT_k1 180 rfl rfl, lwT_k1 2 rfl rfl, lwT_k1 181 rfl rfl⟩, ⟨by decide +kernel, by decide +kernel, by decide +kernel⟩⟩
theorem mv_X4_60 : MV RX4 60 M_X4_recorded 1 := ⟨⟨lwT_k1 195 rfl rfl, lwT_k1 197 rfl rfl, lwT_p1 (q := (_, _)) 2 rfl, lwT_k1 1 rfl rfl, lwT_k1 198 rfl rfl⟩, ⟨by decide +kernel, by decide +kernel, by decide +kernel⟩⟩
theorem mv_X4_64 : MV RX4 64 M_X1_takeClaim 4 := ⟨⟨lwT_k1 207 rfl rfl, lwT_k1 208 rfl rfl, lwT_k1 209 rfl rfl, lwT_k1 2 rfl rfl, lwT_k1 210 rfl rfl⟩, ⟨by decide +kernel, by decide +kernel, by decide +kernel⟩⟩
theorem mv_X4_67 : MV RX4 67 M_X1_noteDetail 3 := ⟨⟨lwT_k2 89 rfl rfl, lwT_k2 90 rfl rfl, lwT_k2 91 rfl rfl, lwT_k1 2 rfl rfl, lwT_k2 92 rfl rfl⟩, ⟨by decide +kernel, by decide +kernel, by decide +kernel⟩⟩
theorem mv_X4_71 : MV RX4 71 M_X1_dropClaim 1 := ⟨⟨lwT_k2 109 rfl rfl, lwT_k2 110 rfl rfl, lwT_k2 111 rfl rfl, lwT_k1 2 rfl rfl, lwT_k2 112 rfl rfl⟩, ⟨by decide +kernel, by decide +kernel, by decide +kernel⟩⟩
theorem mv_X4_74 : MV RX4 74 M_X1_passWeeks 2 := ⟨⟨lwT_k2 137 rfl rfl, lwT_k2 138 rfl rfl, lwT_k2 139 rfl rfl, lwT_k1 2 rfl rfl, lwT_k2 140 rfl rfl⟩, ⟨by decide +kernel, by decide +kernel, by decide +kernel⟩⟩
theorem mv_X4_78 : MV RX4 78 M_X0_matchAll 1 := ⟨⟨lwT_k1 224 rfl rfl, lwT_k1 225 rfl rfl, lwT_k1 226 rfl rfl, lwT_k1 5 rfl rfl, lwT_k1 227 rfl rfl⟩, ⟨by decide +kernel, by decide +kernel, by decide +kernel⟩⟩
theorem mv_X4_82 : MV RX4 82 M_X1_handOut 1 := ⟨⟨lwT_k2 121 rfl rfl, lwT_k2 122 rfl rfl, lwT_k2 123 rfl rfl, lwT_k1 2 rfl rfl, lwT_k2 124 rfl rfl⟩, ⟨by decide +kernel, by decide +kernel, by decide +kernel⟩⟩
theorem mv_X4_86 : MV RX4 86 M_X1_changeSetting 2 := ⟨⟨lwT_k2 156 rfl rfl, lwT_k2 157 rfl rfl, lwT_k2 158 rfl rfl, lwT_k1 2 rfl rfl, lwT_k2 159 rfl rfl⟩, ⟨by decide +kernel, by decide +kernel, by decide +kernel⟩⟩
theorem mv_X4_93 : MV RX4 93 M_X2_has 1 := ⟨⟨lwT_k2 172 rfl rfl, lwT_k2 94 rfl rfl, lwT_k2 95 rfl rfl, lwT_k1 3 rfl rfl, lwT_k2 96 rfl rfl⟩, ⟨by decide +kernel, by decide +kernel, by decide +kernel⟩⟩
