/-! printed by wip/gen/gen.py: the entries of the pools -/
theorem cp_X1_34 : (Cond.methodLink RX1 34 arraycopyName ∈ lwT) ∧ (Cond.native arraycopyName ∈ lwT) ∧ (Cond.static arraycopyName ∈ lwT) ∧ (Cond.initialized "java/lang/System" ∈ lwT) := ⟨lwT_k1 47 rfl rfl, lwT_k1 49 rfl rfl, lwT_k1 48 rfl rfl, lwT_k1 4 rfl rfl⟩
theorem cp_X2_19 : (Cond.methodLink RX2 19 arraycopyName ∈ lwT) ∧ (Cond.native arraycopyName ∈ lwT) ∧ (Cond.static arraycopyName ∈ lwT) ∧ (Cond.initialized "java/lang/System" ∈ lwT) := ⟨lwT_k1 185 rfl rfl, lwT_k1 49 rfl rfl, lwT_k1 48 rfl rfl, lwT_k1 4 rfl rfl⟩
theorem cst_X1_59 : Cond.constant RX1 59 (Int32.ofInt (-1000001)) ∈ lwT := lwT_k1 193 rfl rfl
theorem cst_X1_60 : Cond.constant RX1 60 (Int32.ofInt (-1000003)) ∈ lwT := lwT_k1 194 rfl rfl
theorem cst_X1_72 : Cond.constant RX1 72 (Int32.ofInt (-1000002)) ∈ lwT := lwT_k1 223 rfl rfl
theorem cst_X4_112 : Cond.constant RX4 112 (Int32.ofInt (-1000004)) ∈ lwT := lwT_k2 149 rfl rfl
theorem cst_X4_183 : Cond.constant RX4 183 (Int32.ofInt (-1000002)) ∈ lwT := lwT_k3 9 rfl rfl
theorem cst_X4_188 : Cond.constant RX4 188 (Int32.ofInt (-1000003)) ∈ lwT := lwT_k3 18 rfl rfl
theorem cst_X4_99 : Cond.constant RX4 99 (Int32.ofInt (-1000001)) ∈ lwT := lwT_k2 134 rfl rfl
theorem cst_X5_103 : Cond.constant RX5 103 (Int32.ofInt (-1000002)) ∈ lwT := lwT_k3 226 rfl rfl
theorem cst_X5_144 : Cond.constant RX5 144 (Int32.ofInt (-1000004)) ∈ lwT := lwT_k4 92 rfl rfl
theorem cst_X5_97 : Cond.constant RX5 97 (Int32.ofInt (-1000001)) ∈ lwT := lwT_k3 201 rfl rfl
theorem cst_X5_98 : Cond.constant RX5 98 (Int32.ofInt (-1000003)) ∈ lwT := lwT_k3 202 rfl rfl
theorem cst_Jxf58ca_77 : Cond.constant "java/lang/Float" 77 (Int32.ofInt (2143289344)) ∈ lwT := lwT_k4 150 rfl rfl
theorem cst_X4_215 : Cond.constantFloat RX4 215 1258291200 ∈ lwT := lwT_k2 219 rfl rfl
theorem cst_X5_177 : Cond.constantLong RX5 177 255 ∈ lwT := lwT_k4 196 rfl rfl
theorem cst_X5_196 : Cond.constantLong RX5 196 439855506464 ∈ lwT := lwT_k4 191 rfl rfl
theorem cst_X5_205 : Cond.constantLong RX5 205 109317141916960 ∈ lwT := lwT_k4 217 rfl rfl
theorem cst_X5_207 : Cond.constantLong RX5 207 499917810720 ∈ lwT := lwT_k4 218 rfl rfl
theorem cst_X5_209 : Cond.constantLong RX5 209 512802253600 ∈ lwT := lwT_k4 219 rfl rfl
theorem cst_X5_211 : Cond.constantLong RX5 211 1751215716 ∈ lwT := lwT_k4 220 rfl rfl
theorem fi_X0_34 : FI RX0 34 0 7 := ⟨_, _, _, _, ko0, by decide, rfl, rfl, Or.inl (lwT_k1 84 rfl rfl)⟩
theorem fi_X0_38 : FI RX0 38 0 8 := ⟨_, _, _, _, ko0, by decide, rfl, rfl, Or.inl (lwT_k1 85 rfl rfl)⟩
theorem fi_X0_41 : FI RX0 41 0 9 := ⟨_, _, _, _, ko0, by decide, rfl, rfl, Or.inl (lwT_k1 86 rfl rfl)⟩
theorem fi_X2_15 : FI RX2 15 2 1 := ⟨_, _, _, _, ko2, by decide, rfl, rfl, Or.inl (lwT_k1 35 rfl rfl)⟩
theorem fi_X3_15 : FI RX3 15 3 1 := ⟨_, _, _, _, ko3, by decide, rfl, rfl, Or.inl (lwT_k1 119 rfl rfl)⟩
theorem fi_X3_19 : FI RX3 19 3 2 := ⟨_, _, _, _, ko3, by decide, rfl, rfl, Or.inl (lwT_k1 121 rfl rfl)⟩
theorem fi_X3_22 : FI RX3 22 3 3 := ⟨_, _, _, _, ko3, by decide, rfl, rfl, Or.inl (lwT_k1 123 rfl rfl)⟩
theorem fi_X4_180 : FI RX4 180 3 1 := ⟨_, _, _, _, ko3, by decide, rfl, rfl, Or.inr ⟨"OddUmbrellas", lwN_k1 120 rfl⟩⟩
theorem fi_X4_30 : FI RX4 30 4 4 := ⟨_, _, _, _, ko4, by decide, rfl, rfl, Or.inl (lwT_k1 142 rfl rfl)⟩
theorem fi_X4_41 : FI RX4 41 4 6 := ⟨_, _, _, _, ko4, by decide, rfl, rfl, Or.inl (lwT_k1 144 rfl rfl)⟩
theorem fi_X4_44 : FI RX4 44 4 7 := ⟨_, _, _, _, ko4, by decide, rfl, rfl, Or.inl (lwT_k1 145 rfl rfl)⟩
theorem fi_X4_47 : FI RX4 47 4 8 := ⟨_, _, _, _, ko4, by decide, rfl, rfl, Or.inl (lwT_k1 146 rfl rfl)⟩
theorem fi_X4_50 : FI RX4 50 4 9 := ⟨_, _, _, _, ko4, by decide, rfl, rfl, Or.inl (lwT_k1 147 rfl rfl)⟩
theorem fi_X5_171 : FI RX5 171 5 3 := ⟨_, _, _, _, ko5, by decide, rfl, rfl, Or.inl (lwT_k3 139 rfl rfl)⟩
theorem fi_X5_174 : FI RX5 174 5 8 := ⟨_, _, _, _, ko5, by decide, rfl, rfl, Or.inl (lwT_k3 144 rfl rfl)⟩
theorem fi_X5_193 : FI RX5 193 5 9 := ⟨_, _, _, _, ko5, by decide, rfl, rfl, Or.inl (lwT_k3 145 rfl rfl)⟩
theorem fi_X5_213 : FI RX5 213 5 12 := ⟨_, _, _, _, ko5, by decide, rfl, rfl, Or.inl (lwT_k3 148 rfl rfl)⟩
theorem fi_X5_222 : FI RX5 222 5 11 := ⟨_, _, _, _, ko5, by decide, rfl, rfl, Or.inl (lwT_k3 147 rfl rfl)⟩
theorem fi_X5_225 : FI RX5 225 5 13 := ⟨_, _, _, _, ko5, by decide, rfl, rfl, Or.inl (lwT_k3 149 rfl rfl)⟩
theorem fi_X5_31 : FI RX5 31 5 1 := ⟨_, _, _, _, ko5, by decide, rfl, rfl, Or.inl (lwT_k3 137 rfl rfl)⟩
theorem fl_X0_15 : FL RX0 15 0 1 := ⟨_, _, _, _, ko0, by decide, Or.inl (lwT_k1 78 rfl rfl)⟩
theorem fl_X0_18 : FL RX0 18 0 2 := ⟨_, _, _, _, ko0, by decide, Or.inl (lwT_k1 79 rfl rfl)⟩
theorem fl_X0_22 : FL RX0 22 0 3 := ⟨_, _, _, _, ko0, by decide, Or.inl (lwT_k1 80 rfl rfl)⟩
theorem fl_X0_25 : FL RX0 25 0 4 := ⟨_, _, _, _, ko0, by decide, Or.inl (lwT_k1 81 rfl rfl)⟩
theorem fl_X0_28 : FL RX0 28 0 5 := ⟨_, _, _, _, ko0, by decide, Or.inl (lwT_k1 82 rfl rfl)⟩
theorem fl_X0_31 : FL RX0 31 0 6 := ⟨_, _, _, _, ko0, by decide, Or.inl (lwT_k1 83 rfl rfl)⟩
theorem fl_X0_34 : FL RX0 34 0 7 := ⟨_, _, _, _, ko0, by decide, Or.inl (lwT_k1 84 rfl rfl)⟩
theorem fl_X0_38 : FL RX0 38 0 8 := ⟨_, _, _, _, ko0, by decide, Or.inl (lwT_k1 85 rfl rfl)⟩
theorem fl_X0_41 : FL RX0 41 0 9 := ⟨_, _, _, _, ko0, by decide, Or.inl (lwT_k1 86 rfl rfl)⟩
theorem fl_X0_44 : FL RX0 44 1 0 := ⟨_, _, _, _, ko1, by decide, Or.inr ⟨"OddUmbrellas", lwN_k1 51 rfl⟩⟩
theorem fl_X0_49 : FL RX0 49 2 1 := ⟨_, _, _, _, ko2, by decide, Or.inr ⟨"OddUmbrellas", lwN_k1 36 rfl⟩⟩
theorem fl_X0_60 : FL RX0 60 1 1 := ⟨_, _, _, _, ko1, by decide, Or.inr ⟨"OddUmbrellas", lwN_k1 54 rfl⟩⟩
theorem fl_X0_9 : FL RX0 9 0 0 := ⟨_, _, _, _, ko0, by decide, Or.inl (lwT_k1 77 rfl rfl)⟩
theorem fl_X1_12 : FL RX1 12 1 0 := ⟨_, _, _, _, ko1, by decide, Or.inl (lwT_k1 50 rfl rfl)⟩
theorem fl_X1_125 : FL RX1 125 0 9 := ⟨_, _, _, _, ko0, by decide, Or.inr ⟨"OddUmbrellas", lwN_k1 87 rfl⟩⟩
theorem fl_X1_18 : FL RX1 18 1 1 := ⟨_, _, _, _, ko1, by decide, Or.inl (lwT_k1 53 rfl rfl)⟩
theorem fl_X1_21 : FL RX1 21 1 2 := ⟨_, _, _, _, ko1, by decide, Or.inl (lwT_k1 56 rfl rfl)⟩
theorem fl_X1_24 : FL RX1 24 1 3 := ⟨_, _, _, _, ko1, by decide, Or.inl (lwT_k1 58 rfl rfl)⟩
theorem fl_X1_28 : FL RX1 28 1 4 := ⟨_, _, _, _, ko1, by decide, Or.inl (lwT_k1 59 rfl rfl)⟩
theorem fl_X1_44 : FL RX1 44 2 1 := ⟨_, _, _, _, ko2, by decide, Or.inr ⟨"OddUmbrellas", lwN_k1 37 rfl⟩⟩
theorem fl_X2_15 : FL RX2 15 2 1 := ⟨_, _, _, _, ko2, by decide, Or.inl (lwT_k1 35 rfl rfl)⟩
theorem fl_X2_9 : FL RX2 9 2 0 := ⟨_, _, _, _, ko2, by decide, Or.inl (lwT_k1 34 rfl rfl)⟩
theorem fl_X3_15 : FL RX3 15 3 1 := ⟨_, _, _, _, ko3, by decide, Or.inl (lwT_k1 119 rfl rfl)⟩
theorem fl_X3_19 : FL RX3 19 3 2 := ⟨_, _, _, _, ko3, by decide, Or.inl (lwT_k1 121 rfl rfl)⟩
theorem fl_X3_25 : FL RX3 25 3 4 := ⟨_, _, _, _, ko3, by decide, Or.inl (lwT_k1 125 rfl rfl)⟩
theorem fl_X3_9 : FL RX3 9 3 0 := ⟨_, _, _, _, ko3, by decide, Or.inl (lwT_k1 118 rfl rfl)⟩
theorem fl_X4_10 : FL RX4 10 4 0 := ⟨_, _, _, _, ko4, by decide, Or.inl (lwT_k1 138 rfl rfl)⟩
theorem fl_X4_116 : FL RX4 116 1 1 := ⟨_, _, _, _, ko1, by decide, Or.inr ⟨"OddUmbrellas", lwN_k1 55 rfl⟩⟩
theorem fl_X4_144 : FL RX4 144 1 2 := ⟨_, _, _, _, ko1, by decide, Or.inr ⟨"OddUmbrellas", lwN_k1 57 rfl⟩⟩
theorem fl_X4_147 : FL RX4 147 2 1 := ⟨_, _, _, _, ko2, by decide, Or.inr ⟨"OddUmbrellas", lwN_k1 38 rfl⟩⟩
theorem fl_X4_16 : FL RX4 16 4 1 := ⟨_, _, _, _, ko4, by decide, Or.inl (lwT_k1 139 rfl rfl)⟩
theorem fl_X4_163 : FL RX4 163 0 9 := ⟨_, _, _, _, ko0, by decide, Or.inr ⟨"OddUmbrellas", lwN_k1 88 rfl⟩⟩
theorem fl_X4_180 : FL RX4 180 3 1 := ⟨_, _, _, _, ko3, by decide, Or.inr ⟨"OddUmbrellas", lwN_k1 120 rfl⟩⟩
theorem fl_X4_198 : FL RX4 198 3 2 := ⟨_, _, _, _, ko3, by decide, Or.inr ⟨"OddUmbrellas", lwN_k1 122 rfl⟩⟩
theorem fl_X4_209 : FL RX4 209 3 3 := ⟨_, _, _, _, ko3, by decide, Or.inr ⟨"OddUmbrellas", lwN_k1 124 rfl⟩⟩
theorem fl_X4_22 : FL RX4 22 4 2 := ⟨_, _, _, _, ko4, by decide, Or.inl (lwT_k1 140 rfl rfl)⟩
theorem fl_X4_26 : FL RX4 26 4 3 := ⟨_, _, _, _, ko4, by decide, Or.inl (lwT_k1 141 rfl rfl)⟩
theorem fl_X4_30 : FL RX4 30 4 4 := ⟨_, _, _, _, ko4, by decide, Or.inl (lwT_k1 142 rfl rfl)⟩
theorem fl_X4_37 : FL RX4 37 4 5 := ⟨_, _, _, _, ko4, by decide, Or.inl (lwT_k1 143 rfl rfl)⟩
theorem fl_X4_41 : FL RX4 41 4 6 := ⟨_, _, _, _, ko4, by decide, Or.inl (lwT_k1 144 rfl rfl)⟩
theorem fl_X4_44 : FL RX4 44 4 7 := ⟨_, _, _, _, ko4, by decide, Or.inl (lwT_k1 145 rfl rfl)⟩
theorem fl_X4_47 : FL RX4 47 4 8 := ⟨_, _, _, _, ko4, by decide, Or.inl (lwT_k1 146 rfl rfl)⟩
theorem fl_X4_50 : FL RX4 50 4 9 := ⟨_, _, _, _, ko4, by decide, Or.inl (lwT_k1 147 rfl rfl)⟩
theorem fl_X4_89 : FL RX4 89 1 0 := ⟨_, _, _, _, ko1, by decide, Or.inr ⟨"OddUmbrellas", lwN_k1 52 rfl⟩⟩
theorem fl_X5_13 : FL RX5 13 5 2 := ⟨_, _, _, _, ko5, by decide, Or.inl (lwT_k3 138 rfl rfl)⟩
theorem fl_X5_16 : FL RX5 16 5 4 := ⟨_, _, _, _, ko5, by decide, Or.inl (lwT_k3 140 rfl rfl)⟩
theorem fl_X5_171 : FL RX5 171 5 3 := ⟨_, _, _, _, ko5, by decide, Or.inl (lwT_k3 139 rfl rfl)⟩
theorem fl_X5_174 : FL RX5 174 5 8 := ⟨_, _, _, _, ko5, by decide, Or.inl (lwT_k3 144 rfl rfl)⟩
theorem fl_X5_19 : FL RX5 19 5 5 := ⟨_, _, _, _, ko5, by decide, Or.inl (lwT_k3 141 rfl rfl)⟩
theorem fl_X5_193 : FL RX5 193 5 9 := ⟨_, _, _, _, ko5, by decide, Or.inl (lwT_k3 145 rfl rfl)⟩
theorem fl_X5_213 : FL RX5 213 5 12 := ⟨_, _, _, _, ko5, by decide, Or.inl (lwT_k3 148 rfl rfl)⟩
theorem fl_X5_22 : FL RX5 22 5 6 := ⟨_, _, _, _, ko5, by decide, Or.inl (lwT_k3 142 rfl rfl)⟩
theorem fl_X5_222 : FL RX5 222 5 11 := ⟨_, _, _, _, ko5, by decide, Or.inl (lwT_k3 147 rfl rfl)⟩
theorem fl_X5_225 : FL RX5 225 5 13 := ⟨_, _, _, _, ko5, by decide, Or.inl (lwT_k3 149 rfl rfl)⟩
theorem fl_X5_25 : FL RX5 25 5 7 := ⟨_, _, _, _, ko5, by decide, Or.inl (lwT_k3 143 rfl rfl)⟩
theorem fl_X5_28 : FL RX5 28 5 10 := ⟨_, _, _, _, ko5, by decide, Or.inl (lwT_k3 146 rfl rfl)⟩
theorem fl_X5_31 : FL RX5 31 5 1 := ⟨_, _, _, _, ko5, by decide, Or.inl (lwT_k3 137 rfl rfl)⟩
theorem fl_X5_7 : FL RX5 7 5 0 := ⟨_, _, _, _, ko5, by decide, Or.inl (lwT_k3 136 rfl rfl)⟩
theorem fs_X1_87 : Cond.fieldLinkNest RX1 87 "OddUmbrellas" (sN 85) "[I" "OddUmbrellas" ∈ lw_tbl := lwN_k2 124 rfl
theorem fs_X1_94 : Cond.fieldLinkNest RX1 94 "OddUmbrellas" (sN 86) "[I" "OddUmbrellas" ∈ lw_tbl := lwN_k2 127 rfl
theorem mn_X0_73 : MSN RX0 73 M_X4_numberAt 2 := ⟨⟨"OddUmbrellas", lwN_k2 74 rfl⟩, ⟨lwT_k2 75 rfl rfl, lwT_k1 1 rfl rfl, lwT_k2 76 rfl rfl⟩, ⟨by decide +kernel, by decide +kernel, by decide +kernel⟩⟩
theorem mn_X1_55 : MSN RX1 55 M_X4_isValue 1 := ⟨⟨"OddUmbrellas", lwN_k1 190 rfl⟩, ⟨lwT_k1 191 rfl rfl, lwT_k1 1 rfl rfl, lwT_k1 192 rfl rfl⟩, ⟨by decide +kernel, by decide +kernel, by decide +kernel⟩⟩
theorem mn_X1_69 : MSN RX1 69 M_X4_isValueOrNotTold 1 := ⟨⟨"OddUmbrellas", lwN_k1 219 rfl⟩, ⟨lwT_k1 220 rfl rfl, lwT_k1 1 rfl rfl, lwT_k1 221 rfl rfl⟩, ⟨by decide +kernel, by decide +kernel, by decide +kernel⟩⟩
theorem mn_X1_76 : MSN RX1 76 M_X4_isDetail 1 := ⟨⟨"OddUmbrellas", lwN_k1 236 rfl⟩, ⟨lwT_k1 237 rfl rfl, lwT_k1 1 rfl rfl, lwT_k1 238 rfl rfl⟩, ⟨by decide +kernel, by decide +kernel, by decide +kernel⟩⟩
theorem mn_X1_90 : MSN RX1 90 M_X4_numberAt 2 := ⟨⟨"OddUmbrellas", lwN_k2 126 rfl⟩, ⟨lwT_k2 75 rfl rfl, lwT_k1 1 rfl rfl, lwT_k2 76 rfl rfl⟩, ⟨by decide +kernel, by decide +kernel, by decide +kernel⟩⟩
theorem mn_X1_97 : MSN RX1 97 M_X4_isWeeksAtOnce 1 := ⟨⟨"OddUmbrellas", lwN_k2 27 rfl⟩, ⟨lwT_k2 28 rfl rfl, lwT_k1 1 rfl rfl, lwT_k2 29 rfl rfl⟩, ⟨by decide +kernel, by decide +kernel, by decide +kernel⟩⟩
theorem mn_X3_29 : MSN RX3 29 M_X4_numberAt 2 := ⟨⟨"OddUmbrellas", lwN_k3 124 rfl⟩, ⟨lwT_k2 75 rfl rfl, lwT_k1 1 rfl rfl, lwT_k2 76 rfl rfl⟩, ⟨by decide +kernel, by decide +kernel, by decide +kernel⟩⟩
theorem ms_X0_54 : MS RX0 54 M_J_min 2 := ⟨⟨lwT_k2 62 rfl rfl, lwT_k2 63 rfl rfl, lwT_k1 8 rfl rfl, lwT_k2 64 rfl rfl⟩, ⟨by decide +kernel, by decide +kernel, by decide +kernel⟩⟩
theorem ms_X4_122 : MS RX4 122 M_X4_orNotFound 1 := ⟨⟨lwT_k2 159 rfl rfl, lwT_k2 160 rfl rfl, lwT_k1 1 rfl rfl, lwT_k2 161 rfl rfl⟩, ⟨by decide +kernel, by decide +kernel, by decide +kernel⟩⟩
theorem ms_X4_135 : MS RX4 135 M_X4_isDetail 1 := ⟨⟨lwT_k2 179 rfl rfl, lwT_k1 237 rfl rfl, lwT_k1 1 rfl rfl, lwT_k1 238 rfl rfl⟩, ⟨by decide +kernel, by decide +kernel, by decide +kernel⟩⟩
theorem ms_X4_138 : MS RX4 138 M_X4_isValue 1 := ⟨⟨lwT_k1 222 rfl rfl, lwT_k1 191 rfl rfl, lwT_k1 1 rfl rfl, lwT_k1 192 rfl rfl⟩, ⟨by decide +kernel, by decide +kernel, by decide +kernel⟩⟩
theorem ms_X4_157 : MS RX4 157 M_X4_isWeeksAtOnce 1 := ⟨⟨lwT_k2 205 rfl rfl, lwT_k2 28 rfl rfl, lwT_k1 1 rfl rfl, lwT_k2 29 rfl rfl⟩, ⟨by decide +kernel, by decide +kernel, by decide +kernel⟩⟩
theorem ms_X4_170 : MS RX4 170 M_X4_bitsOf 1 := ⟨⟨lwT_k2 216 rfl rfl, lwT_k2 217 rfl rfl, lwT_k1 1 rfl rfl, lwT_k2 218 rfl rfl⟩, ⟨by decide +kernel, by decide +kernel, by decide +kernel⟩⟩
theorem ms_X5_108 : MS RX5 108 M_X5_isDetail 2 := ⟨⟨lwT_k4 2 rfl rfl, lwT_k4 3 rfl rfl, lwT_k1 7 rfl rfl, lwT_k4 4 rfl rfl⟩, ⟨by decide +kernel, by decide +kernel, by decide +kernel⟩⟩
theorem ms_X5_141 : MS RX5 141 M_X5_isSetting 2 := ⟨⟨lwT_k4 77 rfl rfl, lwT_k4 78 rfl rfl, lwT_k1 7 rfl rfl, lwT_k4 79 rfl rfl⟩, ⟨by decide +kernel, by decide +kernel, by decide +kernel⟩⟩
theorem ms_X5_162 : MS RX5 162 M_J_floatToIntBits 1 := ⟨⟨lwT_k4 141 rfl rfl, lwT_k4 142 rfl rfl, lwT_k1 9 rfl rfl, lwT_k4 143 rfl rfl⟩, ⟨by decide +kernel, by decide +kernel, by decide +kernel⟩⟩
theorem ms_X5_39 : MS RX5 39 M_X5_umbrellaAt 2 := ⟨⟨lwT_k3 203 rfl rfl, lwT_k3 204 rfl rfl, lwT_k1 7 rfl rfl, lwT_k3 205 rfl rfl⟩, ⟨by decide +kernel, by decide +kernel, by decide +kernel⟩⟩
theorem ms_X5_43 : MS RX5 43 M_X5_claimAt 2 := ⟨⟨lwT_k3 227 rfl rfl, lwT_k3 228 rfl rfl, lwT_k1 7 rfl rfl, lwT_k3 229 rfl rfl⟩, ⟨by decide +kernel, by decide +kernel, by decide +kernel⟩⟩
theorem ms_X5_90 : MS RX5 90 M_X5_in 3 := ⟨⟨lwT_k3 198 rfl rfl, lwT_k3 199 rfl rfl, lwT_k1 7 rfl rfl, lwT_k3 200 rfl rfl⟩, ⟨by decide +kernel, by decide +kernel, by decide +kernel⟩⟩
theorem ms_X5_93 : MS RX5 93 M_X5_areValues 5 := ⟨⟨lwT_k3 195 rfl rfl, lwT_k3 196 rfl rfl, lwT_k1 7 rfl rfl, lwT_k3 197 rfl rfl⟩, ⟨by decide +kernel, by decide +kernel, by decide +kernel⟩⟩
theorem ms_Jxf58ca_59 : MS "java/lang/Float" 59 M_J_isNaN 1 := ⟨⟨lwT_k4 144 rfl rfl, lwT_k4 145 rfl rfl, lwT_k1 9 rfl rfl, lwT_k4 146 rfl rfl⟩, ⟨by decide +kernel, by decide +kernel, by decide +kernel⟩⟩
theorem ms_J0_1059 : MS "java/lang/String" 1059 M_J_preCheck 3 := ⟨⟨lwT_k3 70 rfl rfl, lwT_k3 71 rfl rfl, lwT_k1 12 rfl rfl, lwT_k3 72 rfl rfl⟩, ⟨by decide +kernel, by decide +kernel, by decide +kernel⟩⟩
theorem ms_J0_495 : MS "java/lang/String" 495 M_J_latinAt 2 := ⟨⟨lwT_k3 62 rfl rfl, lwT_k3 63 rfl rfl, lwT_k1 11 rfl rfl, lwT_k3 64 rfl rfl⟩, ⟨by decide +kernel, by decide +kernel, by decide +kernel⟩⟩
theorem ms_J1_9 : MS "java/lang/StringLatin1" 9 M_J_checkIndex 2 := ⟨⟨lwT_k3 65 rfl rfl, lwT_k3 66 rfl rfl, lwT_k1 10 rfl rfl, lwT_k3 67 rfl rfl⟩, ⟨by decide +kernel, by decide +kernel, by decide +kernel⟩⟩
theorem mv_X0_102 : MV RX0 102 M_X0_claimMatched 1 := ⟨⟨lwT_k2 90 rfl rfl, lwT_k2 91 rfl rfl, lwT_k2 92 rfl rfl, lwT_k1 5 rfl rfl, lwT_k2 93 rfl rfl⟩, ⟨by decide +kernel, by decide +kernel, by decide +kernel⟩⟩
theorem mv_X0_105 : MV RX0 105 M_X0_umbrellaMatched 1 := ⟨⟨lwT_k2 94 rfl rfl, lwT_k2 95 rfl rfl, lwT_k2 96 rfl rfl, lwT_k1 5 rfl rfl, lwT_k2 97 rfl rfl⟩, ⟨by decide +kernel, by decide +kernel, by decide +kernel⟩⟩
theorem mv_X0_108 : MV RX0 108 M_X0_aheadOf 2 := ⟨⟨lwT_k2 102 rfl rfl, lwT_k2 104 rfl rfl, lwT_p1 (q := (_, _)) 13 rfl, lwT_k1 5 rfl rfl, lwT_k2 105 rfl rfl⟩, ⟨by decide +kernel, by decide +kernel, by decide +kernel⟩⟩
theorem mv_X0_111 : MV RX0 111 M_X0_worthOf 2 := ⟨⟨lwT_k2 215 rfl rfl, lwT_k2 151 rfl rfl, lwT_k2 152 rfl rfl, lwT_k1 5 rfl rfl, lwT_k2 153 rfl rfl⟩, ⟨by decide +kernel, by decide +kernel, by decide +kernel⟩⟩
theorem mv_X0_114 : MV RX0 114 M_X0_nextAsk 0 := ⟨⟨lwT_k2 229 rfl rfl, lwT_k2 231 rfl rfl, lwT_p2 (q := (_, _)) 0 rfl, lwT_k1 5 rfl rfl, lwT_k2 232 rfl rfl⟩, ⟨by decide +kernel, by decide +kernel, by decide +kernel⟩⟩
theorem mv_X0_117 : MV RX0 117 M_X0_askFor 1 := ⟨⟨lwT_k2 237 rfl rfl, lwT_k2 239 rfl rfl, lwT_p2 (q := (_, _)) 2 rfl, lwT_k1 5 rfl rfl, lwT_k3 0 rfl rfl⟩, ⟨by decide +kernel, by decide +kernel, by decide +kernel⟩⟩
theorem mv_X0_121 : MV RX0 121 M_X0_nextPairOf 1 := ⟨⟨lwT_k2 233 rfl rfl, lwT_k2 235 rfl rfl, lwT_p2 (q := (_, _)) 1 rfl, lwT_k1 5 rfl rfl, lwT_k2 236 rfl rfl⟩, ⟨by decide +kernel, by decide +kernel, by decide +kernel⟩⟩
theorem mv_X0_124 : MV RX0 124 M_X0_part 2 := ⟨⟨lwT_k3 1 rfl rfl, lwT_k3 3 rfl rfl, lwT_p2 (q := (_, _)) 3 rfl, lwT_k1 5 rfl rfl, lwT_k3 4 rfl rfl⟩, ⟨by decide +kernel, by decide +kernel, by decide +kernel⟩⟩
theorem mv_X0_62 : MV RX0 62 M_X0_noteOddness 1 := ⟨⟨lwT_k2 65 rfl rfl, lwT_k2 67 rfl rfl, lwT_p1 (q := (_, _)) 7 rfl, lwT_k1 5 rfl rfl, lwT_k2 68 rfl rfl⟩, ⟨by decide +kernel, by decide +kernel, by decide +kernel⟩⟩
theorem mv_X0_66 : MV RX0 66 M_X0_weigh 3 := ⟨⟨lwT_k2 70 rfl rfl, lwT_k2 72 rfl rfl, lwT_p1 (q := (_, _)) 8 rfl, lwT_k1 5 rfl rfl, lwT_k2 73 rfl rfl⟩, ⟨by decide +kernel, by decide +kernel, by decide +kernel⟩⟩
theorem mv_X0_70 : MV RX0 70 M_X2_cell 2 := ⟨⟨lwT_k2 69 rfl rfl, lwT_k2 0 rfl rfl, lwT_k2 1 rfl rfl, lwT_k1 3 rfl rfl, lwT_k2 2 rfl rfl⟩, ⟨by decide +kernel, by decide +kernel, by decide +kernel⟩⟩
theorem mv_X0_77 : MV RX0 77 M_X1_setting 1 := ⟨⟨lwT_k2 77 rfl rfl, lwT_k2 39 rfl rfl, lwT_k2 40 rfl rfl, lwT_k1 2 rfl rfl, lwT_k2 41 rfl rfl⟩, ⟨by decide +kernel, by decide +kernel, by decide +kernel⟩⟩
theorem mv_X0_81 : MV RX0 81 M_X0_pairOf 2 := ⟨⟨lwT_k2 78 rfl rfl, lwT_k2 80 rfl rfl, lwT_p1 (q := (_, _)) 9 rfl, lwT_k1 5 rfl rfl, lwT_k2 81 rfl rfl⟩, ⟨by decide +kernel, by decide +kernel, by decide +kernel⟩⟩
theorem mv_X0_84 : MV RX0 84 M_X0_suits 2 := ⟨⟨lwT_k2 98 rfl rfl, lwT_k2 100 rfl rfl, lwT_p1 (q := (_, _)) 12 rfl, lwT_k1 5 rfl rfl, lwT_k2 101 rfl rfl⟩, ⟨by decide +kernel, by decide +kernel, by decide +kernel⟩⟩
theorem mv_X0_88 : MV RX0 88 M_X0_weighAll 1 := ⟨⟨lwT_k2 58 rfl rfl, lwT_k2 59 rfl rfl, lwT_k2 60 rfl rfl, lwT_k1 5 rfl rfl, lwT_k2 61 rfl rfl⟩, ⟨by decide +kernel, by decide +kernel, by decide +kernel⟩⟩
theorem mv_X0_91 : MV RX0 91 M_X0_matchNone 0 := ⟨⟨lwT_k2 82 rfl rfl, lwT_k2 84 rfl rfl, lwT_p1 (q := (_, _)) 10 rfl, lwT_k1 5 rfl rfl, lwT_k2 85 rfl rfl⟩, ⟨by decide +kernel, by decide +kernel, by decide +kernel⟩⟩
theorem mv_X0_94 : MV RX0 94 M_X0_bestFreePair 0 := ⟨⟨lwT_k2 86 rfl rfl, lwT_k2 88 rfl rfl, lwT_p1 (q := (_, _)) 11 rfl, lwT_k1 5 rfl rfl, lwT_k2 89 rfl rfl⟩, ⟨by decide +kernel, by decide +kernel, by decide +kernel⟩⟩
theorem mv_X0_98 : MV RX0 98 M_X0_join 2 := ⟨⟨lwT_k2 106 rfl rfl, lwT_k2 108 rfl rfl, lwT_p1 (q := (_, _)) 14 rfl, lwT_k1 5 rfl rfl, lwT_k2 109 rfl rfl⟩, ⟨by decide +kernel, by decide +kernel, by decide +kernel⟩⟩
theorem mv_X1_100 : MV RX1 100 M_X1_sum 1 := ⟨⟨lwT_k2 30 rfl rfl, lwT_k2 31 rfl rfl, lwT_k2 32 rfl rfl, lwT_k1 2 rfl rfl, lwT_k2 33 rfl rfl⟩, ⟨by decide +kernel, by decide +kernel, by decide +kernel⟩⟩
theorem mv_X1_104 : MV RX1 104 M_X1_growOlder 1 := ⟨⟨lwT_k2 34 rfl rfl, lwT_k2 36 rfl rfl, lwT_p1 (q := (_, _)) 4 rfl, lwT_k1 2 rfl rfl, lwT_k2 37 rfl rfl⟩, ⟨by decide +kernel, by decide +kernel, by decide +kernel⟩⟩
theorem mv_X1_107 : MV RX1 107 M_X1_setting 1 := ⟨⟨lwT_k2 38 rfl rfl, lwT_k2 39 rfl rfl, lwT_k2 40 rfl rfl, lwT_k1 2 rfl rfl, lwT_k2 41 rfl rfl⟩, ⟨by decide +kernel, by decide +kernel, by decide +kernel⟩⟩
theorem mv_X1_110 : MV RX1 110 M_X1_endOld 4 := ⟨⟨lwT_k2 42 rfl rfl, lwT_k2 44 rfl rfl, lwT_p1 (q := (_, _)) 5 rfl, lwT_k1 2 rfl rfl, lwT_k2 45 rfl rfl⟩, ⟨by decide +kernel, by decide +kernel, by decide +kernel⟩⟩
theorem mv_X1_114 : MV RX1 114 M_X1_enter 3 := ⟨⟨lwT_k2 46 rfl rfl, lwT_k2 48 rfl rfl, lwT_p1 (q := (_, _)) 6 rfl, lwT_k1 2 rfl rfl, lwT_k2 49 rfl rfl⟩, ⟨by decide +kernel, by decide +kernel, by decide +kernel⟩⟩
theorem mv_X1_117 : MV RX1 117 M_X0_claimMatched 1 := ⟨⟨lwT_k2 114 rfl rfl, lwT_k2 91 rfl rfl, lwT_k2 92 rfl rfl, lwT_k1 5 rfl rfl, lwT_k2 93 rfl rfl⟩, ⟨by decide +kernel, by decide +kernel, by decide +kernel⟩⟩
theorem mv_X1_122 : MV RX1 122 M_X0_umbrellaMatched 1 := ⟨⟨lwT_k2 115 rfl rfl, lwT_k2 95 rfl rfl, lwT_k2 96 rfl rfl, lwT_k1 5 rfl rfl, lwT_k2 97 rfl rfl⟩, ⟨by decide +kernel, by decide +kernel, by decide +kernel⟩⟩
theorem mv_X1_40 : MV RX1 40 M_X2_become 1 := ⟨⟨lwT_k1 181 rfl rfl, lwT_k1 182 rfl rfl, lwT_k1 183 rfl rfl, lwT_k1 3 rfl rfl, lwT_k1 184 rfl rfl⟩, ⟨by decide +kernel, by decide +kernel, by decide +kernel⟩⟩
theorem mv_X1_48 : MV RX1 48 M_X2_cell 2 := ⟨⟨lwT_k1 239 rfl rfl, lwT_k2 0 rfl rfl, lwT_k2 1 rfl rfl, lwT_k1 3 rfl rfl, lwT_k2 2 rfl rfl⟩, ⟨by decide +kernel, by decide +kernel, by decide +kernel⟩⟩
theorem mv_X1_52 : MV RX1 52 M_X1_umbrellasWith 2 := ⟨⟨lwT_k2 140 rfl rfl, lwT_k2 141 rfl rfl, lwT_k2 142 rfl rfl, lwT_k1 2 rfl rfl, lwT_k2 143 rfl rfl⟩, ⟨by decide +kernel, by decide +kernel, by decide +kernel⟩⟩
theorem mv_X1_61 : MV RX1 61 M_X1_addTo 2 := ⟨⟨lwT_k1 195 rfl rfl, lwT_k1 197 rfl rfl, lwT_p1 (q := (_, _)) 1 rfl, lwT_k1 2 rfl rfl, lwT_k1 198 rfl rfl⟩, ⟨by decide +kernel, by decide +kernel, by decide +kernel⟩⟩
theorem mv_X1_65 : MV RX1 65 M_X2_append 4 := ⟨⟨lwT_k1 199 rfl rfl, lwT_k1 200 rfl rfl, lwT_k1 201 rfl rfl, lwT_k1 3 rfl rfl, lwT_k1 202 rfl rfl⟩, ⟨by decide +kernel, by decide +kernel, by decide +kernel⟩⟩
theorem mv_X1_73 : MV RX1 73 M_X2_has 1 := ⟨⟨lwT_k1 232 rfl rfl, lwT_k1 233 rfl rfl, lwT_k1 234 rfl rfl, lwT_k1 3 rfl rfl, lwT_k1 235 rfl rfl⟩, ⟨by decide +kernel, by decide +kernel, by decide +kernel⟩⟩
theorem mv_X1_79 : MV RX1 79 M_X2_put 3 := ⟨⟨lwT_k2 3 rfl rfl, lwT_k2 4 rfl rfl, lwT_k2 5 rfl rfl, lwT_k1 3 rfl rfl, lwT_k2 6 rfl rfl⟩, ⟨by decide +kernel, by decide +kernel, by decide +kernel⟩⟩
theorem mv_X1_83 : MV RX1 83 M_X2_remove 1 := ⟨⟨lwT_k2 15 rfl rfl, lwT_k2 16 rfl rfl, lwT_k2 17 rfl rfl, lwT_k1 3 rfl rfl, lwT_k2 18 rfl rfl⟩, ⟨by decide +kernel, by decide +kernel, by decide +kernel⟩⟩
theorem mv_X3_33 : MV RX3 33 M_X3_signHere 0 := ⟨⟨lwT_k3 35 rfl rfl, lwT_k3 37 rfl rfl, lwT_p2 (q := (_, _)) 5 rfl, lwT_k1 6 rfl rfl, lwT_k3 38 rfl rfl⟩, ⟨by decide +kernel, by decide +kernel, by decide +kernel⟩⟩
theorem mv_X3_39 : MV RX3 39 M_X3_readWord 1 := ⟨⟨lwT_k3 40 rfl rfl, lwT_k3 42 rfl rfl, lwT_p2 (q := (_, _)) 6 rfl, lwT_k1 6 rfl rfl, lwT_k3 43 rfl rfl⟩, ⟨by decide +kernel, by decide +kernel, by decide +kernel⟩⟩
theorem mv_X3_43 : MV RX3 43 M_X3_readNumbers 2 := ⟨⟨lwT_k3 96 rfl rfl, lwT_k3 98 rfl rfl, lwT_p2 (q := (_, _)) 8 rfl, lwT_k1 6 rfl rfl, lwT_k3 99 rfl rfl⟩, ⟨by decide +kernel, by decide +kernel, by decide +kernel⟩⟩
theorem mv_X3_47 : MV RX3 47 M_X3_readSign 1 := ⟨⟨lwT_k3 92 rfl rfl, lwT_k3 94 rfl rfl, lwT_p2 (q := (_, _)) 7 rfl, lwT_k1 6 rfl rfl, lwT_k3 95 rfl rfl⟩, ⟨by decide +kernel, by decide +kernel, by decide +kernel⟩⟩
theorem mv_X3_59 : MV RX3 59 M_J_length 0 := ⟨⟨lwT_k3 44 rfl rfl, lwT_k3 45 rfl rfl, lwT_k3 46 rfl rfl, lwT_k1 10 rfl rfl, lwT_k3 47 rfl rfl⟩, ⟨by decide +kernel, by decide +kernel, by decide +kernel⟩⟩
theorem mv_X3_64 : MV RX3 64 M_J_charAt 1 := ⟨⟨lwT_k3 54 rfl rfl, lwT_k3 55 rfl rfl, lwT_k3 56 rfl rfl, lwT_k1 10 rfl rfl, lwT_k3 57 rfl rfl⟩, ⟨by decide +kernel, by decide +kernel, by decide +kernel⟩⟩
theorem mv_X3_68 : MV RX3 68 M_X3_digitHere 0 := ⟨⟨lwT_k3 100 rfl rfl, lwT_k3 102 rfl rfl, lwT_p2 (q := (_, _)) 9 rfl, lwT_k1 6 rfl rfl, lwT_k3 103 rfl rfl⟩, ⟨by decide +kernel, by decide +kernel, by decide +kernel⟩⟩
theorem mv_X3_71 : MV RX3 71 M_X3_readNumber 0 := ⟨⟨lwT_k3 104 rfl rfl, lwT_k3 106 rfl rfl, lwT_p2 (q := (_, _)) 10 rfl, lwT_k1 6 rfl rfl, lwT_k3 107 rfl rfl⟩, ⟨by decide +kernel, by decide +kernel, by decide +kernel⟩⟩
theorem mv_X4_100 : MV RX4 100 M_X2_cell 2 := ⟨⟨lwT_k2 135 rfl rfl, lwT_k2 0 rfl rfl, lwT_k2 1 rfl rfl, lwT_k1 3 rfl rfl, lwT_k2 2 rfl rfl⟩, ⟨by decide +kernel, by decide +kernel, by decide +kernel⟩⟩
theorem mv_X4_103 : MV RX4 103 M_X1_oddnessTogether 1 := ⟨⟨lwT_k2 136 rfl rfl, lwT_k2 137 rfl rfl, lwT_k2 138 rfl rfl, lwT_k1 2 rfl rfl, lwT_k2 139 rfl rfl⟩, ⟨by decide +kernel, by decide +kernel, by decide +kernel⟩⟩
theorem mv_X4_106 : MV RX4 106 M_X0_claimsSuiting 1 := ⟨⟨lwT_k2 144 rfl rfl, lwT_k2 145 rfl rfl, lwT_k2 146 rfl rfl, lwT_k1 5 rfl rfl, lwT_k2 147 rfl rfl⟩, ⟨by decide +kernel, by decide +kernel, by decide +kernel⟩⟩
theorem mv_X4_109 : MV RX4 109 M_X0_claimMatched 1 := ⟨⟨lwT_k2 148 rfl rfl, lwT_k2 91 rfl rfl, lwT_k2 92 rfl rfl, lwT_k1 5 rfl rfl, lwT_k2 93 rfl rfl⟩, ⟨by decide +kernel, by decide +kernel, by decide +kernel⟩⟩
theorem mv_X4_113 : MV RX4 113 M_X0_worthOf 2 := ⟨⟨lwT_k2 150 rfl rfl, lwT_k2 151 rfl rfl, lwT_k2 152 rfl rfl, lwT_k1 5 rfl rfl, lwT_k2 153 rfl rfl⟩, ⟨by decide +kernel, by decide +kernel, by decide +kernel⟩⟩
theorem mv_X4_119 : MV RX4 119 M_X0_umbrellaMatched 1 := ⟨⟨lwT_k2 158 rfl rfl, lwT_k2 95 rfl rfl, lwT_k2 96 rfl rfl, lwT_k1 5 rfl rfl, lwT_k2 97 rfl rfl⟩, ⟨by decide +kernel, by decide +kernel, by decide +kernel⟩⟩
theorem mv_X4_125 : MV RX4 125 M_X0_umbrellasSuiting 1 := ⟨⟨lwT_k2 162 rfl rfl, lwT_k2 163 rfl rfl, lwT_k2 164 rfl rfl, lwT_k1 5 rfl rfl, lwT_k2 165 rfl rfl⟩, ⟨by decide +kernel, by decide +kernel, by decide +kernel⟩⟩
theorem mv_X4_128 : MV RX4 128 M_X4_isPair 2 := ⟨⟨lwT_k2 170 rfl rfl, lwT_k2 172 rfl rfl, lwT_p1 (q := (_, _)) 15 rfl, lwT_k1 1 rfl rfl, lwT_k2 173 rfl rfl⟩, ⟨by decide +kernel, by decide +kernel, by decide +kernel⟩⟩
theorem mv_X4_132 : MV RX4 132 M_X0_weighAll 1 := ⟨⟨lwT_k2 174 rfl rfl, lwT_k2 59 rfl rfl, lwT_k2 60 rfl rfl, lwT_k1 5 rfl rfl, lwT_k2 61 rfl rfl⟩, ⟨by decide +kernel, by decide +kernel, by decide +kernel⟩⟩
theorem mv_X4_141 : MV RX4 141 M_X1_umbrellasWith 2 := ⟨⟨lwT_k2 180 rfl rfl, lwT_k2 141 rfl rfl, lwT_k2 142 rfl rfl, lwT_k1 2 rfl rfl, lwT_k2 143 rfl rfl⟩, ⟨by decide +kernel, by decide +kernel, by decide +kernel⟩⟩
theorem mv_X4_150 : MV RX4 150 M_X0_reasonAgainst 3 := ⟨⟨lwT_k2 189 rfl rfl, lwT_k2 190 rfl rfl, lwT_k2 191 rfl rfl, lwT_k1 5 rfl rfl, lwT_k2 192 rfl rfl⟩, ⟨by decide +kernel, by decide +kernel, by decide +kernel⟩⟩
theorem mv_X4_154 : MV RX4 154 M_X1_become 1 := ⟨⟨lwT_k1 177 rfl rfl, lwT_k1 178 rfl rfl, lwT_k1 179 rfl rfl, lwT_k1 2 rfl rfl, lwT_k1 180 rfl rfl⟩, ⟨by decide +kernel, by decide +kernel, by decide +kernel⟩⟩
theorem mv_X4_160 : MV RX4 160 M_X1_sum 1 := ⟨⟨lwT_k2 206 rfl rfl, lwT_k2 31 rfl rfl, lwT_k2 32 rfl rfl, lwT_k1 2 rfl rfl, lwT_k2 33 rfl rfl⟩, ⟨by decide +kernel, by decide +kernel, by decide +kernel⟩⟩
theorem mv_X4_166 : MV RX4 166 M_X0_worthOfMatched 0 := ⟨⟨lwT_k2 211 rfl rfl, lwT_k2 212 rfl rfl, lwT_k2 213 rfl rfl, lwT_k1 5 rfl rfl, lwT_k2 214 rfl rfl⟩, ⟨by decide +kernel, by decide +kernel, by decide +kernel⟩⟩
theorem mv_X4_174 : MV RX4 174 M_X1_setting 1 := ⟨⟨lwT_k2 224 rfl rfl, lwT_k2 39 rfl rfl, lwT_k2 40 rfl rfl, lwT_k1 2 rfl rfl, lwT_k2 41 rfl rfl⟩, ⟨by decide +kernel, by decide +kernel, by decide +kernel⟩⟩
theorem mv_X4_177 : MV RX4 177 M_X0_matchByAsking 1 := ⟨⟨lwT_k2 225 rfl rfl, lwT_k2 226 rfl rfl, lwT_k2 227 rfl rfl, lwT_k1 5 rfl rfl, lwT_k2 228 rfl rfl⟩, ⟨by decide +kernel, by decide +kernel, by decide +kernel⟩⟩
theorem mv_X4_184 : MV RX4 184 M_X3_append 1 := ⟨⟨lwT_k3 14 rfl rfl, lwT_k3 15 rfl rfl, lwT_k3 16 rfl rfl, lwT_k1 6 rfl rfl, lwT_k3 17 rfl rfl⟩, ⟨by decide +kernel, by decide +kernel, by decide +kernel⟩⟩
theorem mv_X4_189 : MV RX4 189 M_X4_tryText 0 := ⟨⟨lwT_k3 27 rfl rfl, lwT_k3 29 rfl rfl, lwT_p2 (q := (_, _)) 4 rfl, lwT_k1 1 rfl rfl, lwT_k3 30 rfl rfl⟩, ⟨by decide +kernel, by decide +kernel, by decide +kernel⟩⟩
theorem mv_X4_192 : MV RX4 192 M_X4_forgetOldestState 0 := ⟨⟨lwT_k1 207 rfl rfl, lwT_k1 209 rfl rfl, lwT_p1 (q := (_, _)) 3 rfl, lwT_k1 1 rfl rfl, lwT_k1 210 rfl rfl⟩, ⟨by decide +kernel, by decide +kernel, by decide +kernel⟩⟩
theorem mv_X4_195 : MV RX4 195 M_X3_readOrder 1 := ⟨⟨lwT_k3 31 rfl rfl, lwT_k3 32 rfl rfl, lwT_k3 33 rfl rfl, lwT_k1 6 rfl rfl, lwT_k3 34 rfl rfl⟩, ⟨by decide +kernel, by decide +kernel, by decide +kernel⟩⟩
theorem mv_X4_201 : MV RX4 201 M_X4_tellFault 3 := ⟨⟨lwT_k3 112 rfl rfl, lwT_k3 114 rfl rfl, lwT_p2 (q := (_, _)) 11 rfl, lwT_k1 1 rfl rfl, lwT_k3 115 rfl rfl⟩, ⟨by decide +kernel, by decide +kernel, by decide +kernel⟩⟩
theorem mv_X4_205 : MV RX4 205 M_X4_doOrder 1 := ⟨⟨lwT_k3 116 rfl rfl, lwT_k3 118 rfl rfl, lwT_p2 (q := (_, _)) 12 rfl, lwT_k1 1 rfl rfl, lwT_k3 119 rfl rfl⟩, ⟨by decide +kernel, by decide +kernel, by decide +kernel⟩⟩
theorem mv_X4_212 : MV RX4 212 M_X3_number 1 := ⟨⟨lwT_k3 120 rfl rfl, lwT_k3 121 rfl rfl, lwT_k3 122 rfl rfl, lwT_k1 6 rfl rfl, lwT_k3 123 rfl rfl⟩, ⟨by decide +kernel, by decide +kernel, by decide +kernel⟩⟩
theorem mv_X4_53 : MV RX4 53 M_X4_keepState 0 := ⟨⟨lwT_k1 173 rfl rfl, lwT_k1 175 rfl rfl, lwT_p1 (q := (_, _)) 0 rfl, lwT_k1 1 rfl rfl, lwT_k1 176 rfl rfl⟩, ⟨by decide +kernel, by decide +kernel, by decide +kernel⟩⟩
theorem mv_X4_56 : MV RX4 56 M_X1_takeUmbrella 4 := ⟨⟨lwT_k1 186 rfl rfl, lwT_k1 187 rfl rfl, lwT_k1 188 rfl rfl, lwT_k1 2 rfl rfl, lwT_k1 189 rfl rfl⟩, ⟨by decide +kernel, by decide +kernel, by decide +kernel⟩⟩
theorem mv_X4_60 : MV RX4 60 M_X4_recorded 1 := ⟨⟨lwT_k1 203 rfl rfl, lwT_k1 205 rfl rfl, lwT_p1 (q := (_, _)) 2 rfl, lwT_k1 1 rfl rfl, lwT_k1 206 rfl rfl⟩, ⟨by decide +kernel, by decide +kernel, by decide +kernel⟩⟩
theorem mv_X4_64 : MV RX4 64 M_X1_takeClaim 4 := ⟨⟨lwT_k1 215 rfl rfl, lwT_k1 216 rfl rfl, lwT_k1 217 rfl rfl, lwT_k1 2 rfl rfl, lwT_k1 218 rfl rfl⟩, ⟨by decide +kernel, by decide +kernel, by decide +kernel⟩⟩
theorem mv_X4_67 : MV RX4 67 M_X1_noteDetail 3 := ⟨⟨lwT_k1 228 rfl rfl, lwT_k1 229 rfl rfl, lwT_k1 230 rfl rfl, lwT_k1 2 rfl rfl, lwT_k1 231 rfl rfl⟩, ⟨by decide +kernel, by decide +kernel, by decide +kernel⟩⟩
theorem mv_X4_71 : MV RX4 71 M_X1_dropClaim 1 := ⟨⟨lwT_k2 11 rfl rfl, lwT_k2 12 rfl rfl, lwT_k2 13 rfl rfl, lwT_k1 2 rfl rfl, lwT_k2 14 rfl rfl⟩, ⟨by decide +kernel, by decide +kernel, by decide +kernel⟩⟩
theorem mv_X4_74 : MV RX4 74 M_X1_passWeeks 2 := ⟨⟨lwT_k2 23 rfl rfl, lwT_k2 24 rfl rfl, lwT_k2 25 rfl rfl, lwT_k1 2 rfl rfl, lwT_k2 26 rfl rfl⟩, ⟨by decide +kernel, by decide +kernel, by decide +kernel⟩⟩
theorem mv_X4_78 : MV RX4 78 M_X0_matchAll 1 := ⟨⟨lwT_k2 54 rfl rfl, lwT_k2 55 rfl rfl, lwT_k2 56 rfl rfl, lwT_k1 5 rfl rfl, lwT_k2 57 rfl rfl⟩, ⟨by decide +kernel, by decide +kernel, by decide +kernel⟩⟩
theorem mv_X4_82 : MV RX4 82 M_X1_handOut 1 := ⟨⟨lwT_k2 110 rfl rfl, lwT_k2 111 rfl rfl, lwT_k2 112 rfl rfl, lwT_k1 2 rfl rfl, lwT_k2 113 rfl rfl⟩, ⟨by decide +kernel, by decide +kernel, by decide +kernel⟩⟩
theorem mv_X4_86 : MV RX4 86 M_X1_changeSetting 2 := ⟨⟨lwT_k2 120 rfl rfl, lwT_k2 121 rfl rfl, lwT_k2 122 rfl rfl, lwT_k1 2 rfl rfl, lwT_k2 123 rfl rfl⟩, ⟨by decide +kernel, by decide +kernel, by decide +kernel⟩⟩
theorem mv_X4_93 : MV RX4 93 M_X2_has 1 := ⟨⟨lwT_k2 133 rfl rfl, lwT_k1 233 rfl rfl, lwT_k1 234 rfl rfl, lwT_k1 3 rfl rfl, lwT_k1 235 rfl rfl⟩, ⟨by decide +kernel, by decide +kernel, by decide +kernel⟩⟩
theorem mv_X5_104 : MV RX5 104 M_X5_isClaim 2 := ⟨⟨lwT_k3 238 rfl rfl, lwT_k4 0 rfl rfl, lwT_p3 (q := (_, _)) 5 rfl, lwT_k1 7 rfl rfl, lwT_k4 1 rfl rfl⟩, ⟨by decide +kernel, by decide +kernel, by decide +kernel⟩⟩
theorem mv_X5_111 : MV RX5 111 M_X5_goBy 2 := ⟨⟨lwT_k4 21 rfl rfl, lwT_k4 23 rfl rfl, lwT_p3 (q := (_, _)) 8 rfl, lwT_k1 7 rfl rfl, lwT_k4 24 rfl rfl⟩, ⟨by decide +kernel, by decide +kernel, by decide +kernel⟩⟩
theorem mv_X5_114 : MV RX5 114 M_X5_records 0 := ⟨⟨lwT_k3 214 rfl rfl, lwT_k3 216 rfl rfl, lwT_p3 (q := (_, _)) 2 rfl, lwT_k1 7 rfl rfl, lwT_k3 217 rfl rfl⟩, ⟨by decide +kernel, by decide +kernel, by decide +kernel⟩⟩
theorem mv_X5_117 : MV RX5 117 M_X5_tried 0 := ⟨⟨lwT_k3 183 rfl rfl, lwT_k3 185 rfl rfl, lwT_p2 (q := (_, _)) 13 rfl, lwT_k1 7 rfl rfl, lwT_k3 186 rfl rfl⟩, ⟨by decide +kernel, by decide +kernel, by decide +kernel⟩⟩
theorem mv_X5_121 : MV RX5 121 M_X5_finds 5 := ⟨⟨lwT_k3 191 rfl rfl, lwT_k3 193 rfl rfl, lwT_p2 (q := (_, _)) 15 rfl, lwT_k1 7 rfl rfl, lwT_k3 194 rfl rfl⟩, ⟨by decide +kernel, by decide +kernel, by decide +kernel⟩⟩
theorem mv_X5_125 : MV RX5 125 M_X5_done 1 := ⟨⟨lwT_k3 210 rfl rfl, lwT_k3 212 rfl rfl, lwT_p3 (q := (_, _)) 1 rfl, lwT_k1 7 rfl rfl, lwT_k3 213 rfl rfl⟩, ⟨by decide +kernel, by decide +kernel, by decide +kernel⟩⟩
theorem mv_X5_128 : MV RX5 128 M_X5_claims 5 := ⟨⟨lwT_k3 222 rfl rfl, lwT_k3 224 rfl rfl, lwT_p3 (q := (_, _)) 3 rfl, lwT_k1 7 rfl rfl, lwT_k3 225 rfl rfl⟩, ⟨by decide +kernel, by decide +kernel, by decide +kernel⟩⟩
theorem mv_X5_131 : MV RX5 131 M_X5_tells 4 := ⟨⟨lwT_k3 234 rfl rfl, lwT_k3 236 rfl rfl, lwT_p3 (q := (_, _)) 4 rfl, lwT_k1 7 rfl rfl, lwT_k3 237 rfl rfl⟩, ⟨by decide +kernel, by decide +kernel, by decide +kernel⟩⟩
theorem mv_X5_135 : MV RX5 135 M_X5_weeksIn 2 := ⟨⟨lwT_k4 17 rfl rfl, lwT_k4 19 rfl rfl, lwT_p3 (q := (_, _)) 7 rfl, lwT_k1 7 rfl rfl, lwT_k4 20 rfl rfl⟩, ⟨by decide +kernel, by decide +kernel, by decide +kernel⟩⟩
theorem mv_X5_138 : MV RX5 138 M_X5_handsOut 1 := ⟨⟨lwT_k4 45 rfl rfl, lwT_k4 47 rfl rfl, lwT_p3 (q := (_, _)) 13 rfl, lwT_k1 7 rfl rfl, lwT_k4 48 rfl rfl⟩, ⟨by decide +kernel, by decide +kernel, by decide +kernel⟩⟩
theorem mv_X5_145 : MV RX5 145 M_X5_isUmbrella 1 := ⟨⟨lwT_k4 84 rfl rfl, lwT_k4 86 rfl rfl, lwT_p4 (q := (_, _)) 4 rfl, lwT_k1 7 rfl rfl, lwT_k4 87 rfl rfl⟩, ⟨by decide +kernel, by decide +kernel, by decide +kernel⟩⟩
theorem mv_X5_149 : MV RX5 149 M_X5_mateOf 2 := ⟨⟨lwT_k4 88 rfl rfl, lwT_k4 90 rfl rfl, lwT_p4 (q := (_, _)) 5 rfl, lwT_k1 7 rfl rfl, lwT_k4 91 rfl rfl⟩, ⟨by decide +kernel, by decide +kernel, by decide +kernel⟩⟩
theorem mv_X5_153 : MV RX5 153 M_X5_suiting 2 := ⟨⟨lwT_k4 93 rfl rfl, lwT_k4 95 rfl rfl, lwT_p4 (q := (_, _)) 6 rfl, lwT_k1 7 rfl rfl, lwT_k4 96 rfl rfl⟩, ⟨by decide +kernel, by decide +kernel, by decide +kernel⟩⟩
theorem mv_X5_156 : MV RX5 156 M_X5_oddness 1 := ⟨⟨lwT_k4 97 rfl rfl, lwT_k4 99 rfl rfl, lwT_p4 (q := (_, _)) 7 rfl, lwT_k1 7 rfl rfl, lwT_k4 100 rfl rfl⟩, ⟨by decide +kernel, by decide +kernel, by decide +kernel⟩⟩
theorem mv_X5_159 : MV RX5 159 M_X5_matchOf 2 := ⟨⟨lwT_k4 105 rfl rfl, lwT_k4 107 rfl rfl, lwT_p4 (q := (_, _)) 8 rfl, lwT_k1 7 rfl rfl, lwT_k4 108 rfl rfl⟩, ⟨by decide +kernel, by decide +kernel, by decide +kernel⟩⟩
theorem mv_X5_168 : MV RX5 168 M_X5_byAsking 1 := ⟨⟨lwT_k4 155 rfl rfl, lwT_k4 157 rfl rfl, lwT_p4 (q := (_, _)) 9 rfl, lwT_k1 7 rfl rfl, lwT_k4 158 rfl rfl⟩, ⟨by decide +kernel, by decide +kernel, by decide +kernel⟩⟩
theorem mv_X5_179 : MV RX5 179 M_X5_takes 1 := ⟨⟨lwT_k4 197 rfl rfl, lwT_k4 199 rfl rfl, lwT_p4 (q := (_, _)) 15 rfl, lwT_k1 7 rfl rfl, lwT_k4 200 rfl rfl⟩, ⟨by decide +kernel, by decide +kernel, by decide +kernel⟩⟩
theorem mv_X5_182 : MV RX5 182 M_X5_isDigit 0 := ⟨⟨lwT_k4 213 rfl rfl, lwT_k4 215 rfl rfl, lwT_p5 (q := (_, _)) 3 rfl, lwT_k1 7 rfl rfl, lwT_k4 216 rfl rfl⟩, ⟨by decide +kernel, by decide +kernel, by decide +kernel⟩⟩
theorem mv_X5_186 : MV RX5 186 M_X5_readsNumber 1 := ⟨⟨lwT_k4 209 rfl rfl, lwT_k4 211 rfl rfl, lwT_p5 (q := (_, _)) 2 rfl, lwT_k1 7 rfl rfl, lwT_k4 212 rfl rfl⟩, ⟨by decide +kernel, by decide +kernel, by decide +kernel⟩⟩
theorem mv_X5_189 : MV RX5 189 M_X5_readsValue 2 := ⟨⟨lwT_k4 205 rfl rfl, lwT_k4 207 rfl rfl, lwT_p5 (q := (_, _)) 1 rfl, lwT_k1 7 rfl rfl, lwT_k4 208 rfl rfl⟩, ⟨by decide +kernel, by decide +kernel, by decide +kernel⟩⟩
theorem mv_X5_198 : MV RX5 198 M_X5_takesWord 1 := ⟨⟨lwT_k4 192 rfl rfl, lwT_k4 194 rfl rfl, lwT_p4 (q := (_, _)) 14 rfl, lwT_k1 7 rfl rfl, lwT_k4 195 rfl rfl⟩, ⟨by decide +kernel, by decide +kernel, by decide +kernel⟩⟩
theorem mv_X5_202 : MV RX5 202 M_X5_readsRow 2 := ⟨⟨lwT_k4 201 rfl rfl, lwT_k4 203 rfl rfl, lwT_p5 (q := (_, _)) 0 rfl, lwT_k1 7 rfl rfl, lwT_k4 204 rfl rfl⟩, ⟨by decide +kernel, by decide +kernel, by decide +kernel⟩⟩
theorem mv_X5_216 : MV RX5 216 M_X5_readsOrder 0 := ⟨⟨lwT_k4 187 rfl rfl, lwT_k4 189 rfl rfl, lwT_p4 (q := (_, _)) 13 rfl, lwT_k1 7 rfl rfl, lwT_k4 190 rfl rfl⟩, ⟨by decide +kernel, by decide +kernel, by decide +kernel⟩⟩
theorem mv_X5_219 : MV RX5 219 M_X5_does 1 := ⟨⟨lwT_k4 221 rfl rfl, lwT_k4 223 rfl rfl, lwT_p5 (q := (_, _)) 4 rfl, lwT_k1 7 rfl rfl, lwT_k4 224 rfl rfl⟩, ⟨by decide +kernel, by decide +kernel, by decide +kernel⟩⟩
theorem mv_X5_228 : MV RX5 228 M_X5_looks 0 := ⟨⟨lwT_k4 183 rfl rfl, lwT_k4 185 rfl rfl, lwT_p4 (q := (_, _)) 12 rfl, lwT_k1 7 rfl rfl, lwT_k4 186 rfl rfl⟩, ⟨by decide +kernel, by decide +kernel, by decide +kernel⟩⟩
theorem mv_X5_35 : MV RX5 35 M_X5_copies 2 := ⟨⟨lwT_k3 187 rfl rfl, lwT_k3 189 rfl rfl, lwT_p2 (q := (_, _)) 14 rfl, lwT_k1 7 rfl rfl, lwT_k3 190 rfl rfl⟩, ⟨by decide +kernel, by decide +kernel, by decide +kernel⟩⟩
theorem mv_X5_46 : MV RX5 46 M_X5_misses 3 := ⟨⟨lwT_k4 61 rfl rfl, lwT_k4 63 rfl rfl, lwT_p4 (q := (_, _)) 1 rfl, lwT_k1 7 rfl rfl, lwT_k4 64 rfl rfl⟩, ⟨by decide +kernel, by decide +kernel, by decide +kernel⟩⟩
theorem mv_X5_50 : MV RX5 50 M_X5_many 3 := ⟨⟨lwT_k4 69 rfl rfl, lwT_k4 71 rfl rfl, lwT_p4 (q := (_, _)) 3 rfl, lwT_k1 7 rfl rfl, lwT_k4 72 rfl rfl⟩, ⟨by decide +kernel, by decide +kernel, by decide +kernel⟩⟩
theorem mv_X5_53 : MV RX5 53 M_X5_pointsOf 3 := ⟨⟨lwT_k4 65 rfl rfl, lwT_k4 67 rfl rfl, lwT_p4 (q := (_, _)) 2 rfl, lwT_k1 7 rfl rfl, lwT_k4 68 rfl rfl⟩, ⟨by decide +kernel, by decide +kernel, by decide +kernel⟩⟩
theorem mv_X5_56 : MV RX5 56 M_X5_suits 3 := ⟨⟨lwT_k4 57 rfl rfl, lwT_k4 59 rfl rfl, lwT_p4 (q := (_, _)) 0 rfl, lwT_k1 7 rfl rfl, lwT_k4 60 rfl rfl⟩, ⟨by decide +kernel, by decide +kernel, by decide +kernel⟩⟩
theorem mv_X5_60 : MV RX5 60 M_X5_clears 1 := ⟨⟨lwT_k4 53 rfl rfl, lwT_k4 55 rfl rfl, lwT_p3 (q := (_, _)) 15 rfl, lwT_k1 7 rfl rfl, lwT_k4 56 rfl rfl⟩, ⟨by decide +kernel, by decide +kernel, by decide +kernel⟩⟩
theorem mv_X5_64 : MV RX5 64 M_X5_asks 1 := ⟨⟨lwT_k4 163 rfl rfl, lwT_k4 165 rfl rfl, lwT_p4 (q := (_, _)) 11 rfl, lwT_k1 7 rfl rfl, lwT_k4 166 rfl rfl⟩, ⟨by decide +kernel, by decide +kernel, by decide +kernel⟩⟩
theorem mv_X5_68 : MV RX5 68 M_X5_asksOn 1 := ⟨⟨lwT_k4 159 rfl rfl, lwT_k4 161 rfl rfl, lwT_p4 (q := (_, _)) 10 rfl, lwT_k1 7 rfl rfl, lwT_k4 162 rfl rfl⟩, ⟨by decide +kernel, by decide +kernel, by decide +kernel⟩⟩
theorem mv_X5_71 : MV RX5 71 M_X5_writes 4 := ⟨⟨lwT_k4 29 rfl rfl, lwT_k4 31 rfl rfl, lwT_p3 (q := (_, _)) 10 rfl, lwT_k1 7 rfl rfl, lwT_k4 32 rfl rfl⟩, ⟨by decide +kernel, by decide +kernel, by decide +kernel⟩⟩
theorem mv_X5_75 : MV RX5 75 M_X5_umbrellaGoes 2 := ⟨⟨lwT_k4 33 rfl rfl, lwT_k4 35 rfl rfl, lwT_p3 (q := (_, _)) 11 rfl, lwT_k1 7 rfl rfl, lwT_k4 36 rfl rfl⟩, ⟨by decide +kernel, by decide +kernel, by decide +kernel⟩⟩
theorem mv_X5_78 : MV RX5 78 M_X5_claimGoes 2 := ⟨⟨lwT_k4 9 rfl rfl, lwT_k4 11 rfl rfl, lwT_p3 (q := (_, _)) 6 rfl, lwT_k1 7 rfl rfl, lwT_k4 12 rfl rfl⟩, ⟨by decide +kernel, by decide +kernel, by decide +kernel⟩⟩
theorem mv_X5_81 : MV RX5 81 M_X5_sells 1 := ⟨⟨lwT_k4 25 rfl rfl, lwT_k4 27 rfl rfl, lwT_p3 (q := (_, _)) 9 rfl, lwT_k1 7 rfl rfl, lwT_k4 28 rfl rfl⟩, ⟨by decide +kernel, by decide +kernel, by decide +kernel⟩⟩
theorem mv_X5_84 : MV RX5 84 M_X5_lapses 1 := ⟨⟨lwT_k4 37 rfl rfl, lwT_k4 39 rfl rfl, lwT_p3 (q := (_, _)) 12 rfl, lwT_k1 7 rfl rfl, lwT_k4 40 rfl rfl⟩, ⟨by decide +kernel, by decide +kernel, by decide +kernel⟩⟩
theorem mv_X5_87 : MV RX5 87 M_X5_matches 1 := ⟨⟨lwT_k4 49 rfl rfl, lwT_k4 51 rfl rfl, lwT_p3 (q := (_, _)) 14 rfl, lwT_k1 7 rfl rfl, lwT_k4 52 rfl rfl⟩, ⟨by decide +kernel, by decide +kernel, by decide +kernel⟩⟩
theorem mv_X5_99 : MV RX5 99 M_X5_lays 5 := ⟨⟨lwT_k3 206 rfl rfl, lwT_k3 208 rfl rfl, lwT_p3 (q := (_, _)) 0 rfl, lwT_k1 7 rfl rfl, lwT_k3 209 rfl rfl⟩, ⟨by decide +kernel, by decide +kernel, by decide +kernel⟩⟩
theorem mv_J0_335 : MV "java/lang/String" 335 M_J_coder 0 := ⟨⟨lwT_k3 48 rfl rfl, lwT_k3 49 rfl rfl, lwT_k3 50 rfl rfl, lwT_k1 10 rfl rfl, lwT_k3 51 rfl rfl⟩, ⟨by decide +kernel, by decide +kernel, by decide +kernel⟩⟩
theorem mv_J0_492 : MV "java/lang/String" 492 M_J_isLatin1 0 := ⟨⟨lwT_k3 58 rfl rfl, lwT_k3 59 rfl rfl, lwT_k3 60 rfl rfl, lwT_k1 10 rfl rfl, lwT_k3 61 rfl rfl⟩, ⟨by decide +kernel, by decide +kernel, by decide +kernel⟩⟩
theorem rb_Jxf58ca_74 : (Cond.methodLink "java/lang/Float" 74 ⟨"java/lang/Float", "floatToRawIntBits", "(F)I"⟩ ∈ lwT) ∧ (Cond.native ⟨"java/lang/Float", "floatToRawIntBits", "(F)I"⟩ ∈ lwT) ∧ (Cond.static ⟨"java/lang/Float", "floatToRawIntBits", "(F)I"⟩ ∈ lwT) ∧ (Cond.initialized "java/lang/Float" ∈ lwT) := ⟨lwT_k4 147 rfl rfl, lwT_k4 149 rfl rfl, lwT_k4 148 rfl rfl, lwT_k1 9 rfl rfl⟩
theorem sf_J0_1053 : Cond.fieldLink "java/lang/String" 1053 "jdk/internal/util/Preconditions" "SIOOBE_FORMATTER" "Ljava/util/function/BiFunction;" ∈ lwT := lwT_k3 68 rfl rfl
theorem sf_J0_15 : Cond.fieldLink "java/lang/String" 15 "java/lang/String" "coder" "B" ∈ lwT := lwT_k4 230 rfl rfl
theorem sf_J0_38 : Cond.fieldLink "java/lang/String" 38 "java/lang/String" "COMPACT_STRINGS" "Z" ∈ lwT := lwT_k3 52 rfl rfl
theorem sf_J0_9 : Cond.fieldLink "java/lang/String" 9 "java/lang/String" "value" "[B" ∈ lwT := lwT_k4 229 rfl rfl
