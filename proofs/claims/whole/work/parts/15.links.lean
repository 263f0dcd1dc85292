section JL
theorem tb_0 {w : Cond} (h : w ∈ k2_sels lw_privs) : w ∈ lw_tbl := List.mem_append_left _ h
theorem tb_1 {w : Cond} (h : w ∈ tables_1_1) : w ∈ lw_tbl := List.mem_append_right _ (List.mem_append_left _ h)
theorem tb_2 {w : Cond} (h : w ∈ tables_1_2) : w ∈ lw_tbl := List.mem_append_right _ (List.mem_append_right _ (List.mem_append_left _ h))
theorem tb_3 {w : Cond} (h : w ∈ tables_1_3) : w ∈ lw_tbl := List.mem_append_right _ (List.mem_append_right _ (List.mem_append_right _ (List.mem_append_left _ h)))
theorem tb_4 {w : Cond} (h : w ∈ tables_1_4) : w ∈ lw_tbl := List.mem_append_right _ (List.mem_append_right _ (List.mem_append_right _ (List.mem_append_right _ (List.mem_append_left _ h))))
theorem tb_5 {w : Cond} (h : w ∈ tables_1_5) : w ∈ lw_tbl := List.mem_append_right _ (List.mem_append_right _ (List.mem_append_right _ (List.mem_append_right _ (List.mem_append_right _ (List.mem_append_left _ h)))))
theorem tb_6 {w : Cond} (h : w ∈ tables_1_6) : w ∈ lw_tbl := List.mem_append_right _ (List.mem_append_right _ (List.mem_append_right _ (List.mem_append_right _ (List.mem_append_right _ (List.mem_append_right _ h)))))
theorem fX5_9 : jF RX5 9 5 0 := ⟨_, rfl, by decide, rfl, Or.inl (jT_mem (tb_1 (List.mem_of_getElem? (i := 37) (by decide +kernel))) rfl)⟩
theorem fX3_97 : jF RX3 97 5 0 := ⟨_, rfl, by decide, rfl, Or.inr ⟨"HouseManner", tb_1 (List.mem_of_getElem? (i := 38) (by decide +kernel))⟩⟩
theorem fX6_201 : jF RX6 201 5 0 := ⟨_, rfl, by decide, rfl, Or.inr ⟨"HouseManner", tb_1 (List.mem_of_getElem? (i := 39) (by decide +kernel))⟩⟩
theorem fX5_15 : jF RX5 15 5 1 := ⟨_, rfl, by decide, rfl, Or.inl (jT_mem (tb_1 (List.mem_of_getElem? (i := 40) (by decide +kernel))) rfl)⟩
theorem fX6_204 : jF RX6 204 5 1 := ⟨_, rfl, by decide, rfl, Or.inr ⟨"HouseManner", tb_1 (List.mem_of_getElem? (i := 41) (by decide +kernel))⟩⟩
theorem fX5_19 : jF RX5 19 5 2 := ⟨_, rfl, by decide, rfl, Or.inl (jT_mem (tb_1 (List.mem_of_getElem? (i := 42) (by decide +kernel))) rfl)⟩
theorem fX6_207 : jF RX6 207 5 2 := ⟨_, rfl, by decide, rfl, Or.inr ⟨"HouseManner", tb_1 (List.mem_of_getElem? (i := 43) (by decide +kernel))⟩⟩
theorem fX5_22 : jF RX5 22 5 3 := ⟨_, rfl, by decide, rfl, Or.inl (jT_mem (tb_1 (List.mem_of_getElem? (i := 44) (by decide +kernel))) rfl)⟩
theorem fX6_221 : jF RX6 221 5 3 := ⟨_, rfl, by decide, rfl, Or.inr ⟨"HouseManner", tb_1 (List.mem_of_getElem? (i := 45) (by decide +kernel))⟩⟩
theorem fX5_25 : jF RX5 25 5 4 := ⟨_, rfl, by decide, rfl, Or.inl (jT_mem (tb_1 (List.mem_of_getElem? (i := 46) (by decide +kernel))) rfl)⟩
theorem fX6_150 : jF RX6 150 5 4 := ⟨_, rfl, by decide, rfl, Or.inr ⟨"HouseManner", tb_1 (List.mem_of_getElem? (i := 47) (by decide +kernel))⟩⟩
theorem fX5_28 : jF RX5 28 5 5 := ⟨_, rfl, by decide, rfl, Or.inl (jT_mem (tb_1 (List.mem_of_getElem? (i := 48) (by decide +kernel))) rfl)⟩
theorem fX5_31 : jF RX5 31 5 6 := ⟨_, rfl, by decide, rfl, Or.inl (jT_mem (tb_1 (List.mem_of_getElem? (i := 49) (by decide +kernel))) rfl)⟩
theorem fX6_144 : jF RX6 144 5 6 := ⟨_, rfl, by decide, rfl, Or.inr ⟨"HouseManner", tb_1 (List.mem_of_getElem? (i := 50) (by decide +kernel))⟩⟩
theorem fX5_34 : jF RX5 34 5 7 := ⟨_, rfl, by decide, rfl, Or.inl (jT_mem (tb_1 (List.mem_of_getElem? (i := 51) (by decide +kernel))) rfl)⟩
theorem fX6_147 : jF RX6 147 5 7 := ⟨_, rfl, by decide, rfl, Or.inr ⟨"HouseManner", tb_1 (List.mem_of_getElem? (i := 52) (by decide +kernel))⟩⟩
theorem fX6_114 : jF RX6 114 5 8 := ⟨_, rfl, by decide, rfl, Or.inr ⟨"HouseManner", tb_1 (List.mem_of_getElem? (i := 53) (by decide +kernel))⟩⟩
theorem fX6_114w : jFw RX6 114 5 8 := ⟨fX6_114, fun q hq => by cases hq; rfl⟩
theorem fX5_46 : jF RX5 46 5 9 := ⟨_, rfl, by decide, rfl, Or.inl (jT_mem (tb_1 (List.mem_of_getElem? (i := 54) (by decide +kernel))) rfl)⟩
theorem fX5_46w : jFw RX5 46 5 9 := ⟨fX5_46, fun q hq => by cases hq; rfl⟩
theorem fX3_76 : jF RX3 76 5 9 := ⟨_, rfl, by decide, rfl, Or.inr ⟨"HouseManner", tb_1 (List.mem_of_getElem? (i := 55) (by decide +kernel))⟩⟩
theorem fX3_76w : jFw RX3 76 5 9 := ⟨fX3_76, fun q hq => by cases hq; rfl⟩
theorem fX6_131 : jF RX6 131 5 9 := ⟨_, rfl, by decide, rfl, Or.inr ⟨"HouseManner", tb_1 (List.mem_of_getElem? (i := 56) (by decide +kernel))⟩⟩
theorem fX6_131w : jFw RX6 131 5 9 := ⟨fX6_131, fun q hq => by cases hq; rfl⟩
theorem fX5_56 : jF RX5 56 5 10 := ⟨_, rfl, by decide, rfl, Or.inl (jT_mem (tb_1 (List.mem_of_getElem? (i := 57) (by decide +kernel))) rfl)⟩
theorem fX5_56w : jFw RX5 56 5 10 := ⟨fX5_56, fun q hq => by cases hq; rfl⟩
theorem fX6_134 : jF RX6 134 5 10 := ⟨_, rfl, by decide, rfl, Or.inr ⟨"HouseManner", tb_1 (List.mem_of_getElem? (i := 58) (by decide +kernel))⟩⟩
theorem fX6_134w : jFw RX6 134 5 10 := ⟨fX6_134, fun q hq => by cases hq; rfl⟩
theorem fX5_59 : jF RX5 59 5 11 := ⟨_, rfl, by decide, rfl, Or.inl (jT_mem (tb_1 (List.mem_of_getElem? (i := 59) (by decide +kernel))) rfl)⟩
theorem fX5_59w : jFw RX5 59 5 11 := ⟨fX5_59, fun q hq => by cases hq; rfl⟩
theorem fX6_128 : jF RX6 128 5 11 := ⟨_, rfl, by decide, rfl, Or.inr ⟨"HouseManner", tb_1 (List.mem_of_getElem? (i := 60) (by decide +kernel))⟩⟩
theorem fX6_128w : jFw RX6 128 5 11 := ⟨fX6_128, fun q hq => by cases hq; rfl⟩
theorem fX3_48 : jF RX3 48 5 12 := ⟨_, rfl, by decide, rfl, Or.inr ⟨"HouseManner", tb_1 (List.mem_of_getElem? (i := 61) (by decide +kernel))⟩⟩
theorem fX3_48w : jFw RX3 48 5 12 := ⟨fX3_48, fun q hq => by cases hq; rfl⟩
theorem fX6_137 : jF RX6 137 5 12 := ⟨_, rfl, by decide, rfl, Or.inr ⟨"HouseManner", tb_1 (List.mem_of_getElem? (i := 62) (by decide +kernel))⟩⟩
theorem fX6_137w : jFw RX6 137 5 12 := ⟨fX6_137, fun q hq => by cases hq; rfl⟩
theorem fX3_9 : jF RX3 9 3 0 := ⟨_, rfl, by decide, rfl, Or.inl (jT_mem (tb_1 (List.mem_of_getElem? (i := 98) (by decide +kernel))) rfl)⟩
theorem fX3_19 : jF RX3 19 3 1 := ⟨_, rfl, by decide, rfl, Or.inl (jT_mem (tb_1 (List.mem_of_getElem? (i := 99) (by decide +kernel))) rfl)⟩
theorem fX3_19w : jFw RX3 19 3 1 := ⟨fX3_19, fun q hq => by cases hq; rfl⟩
theorem fX3_22 : jF RX3 22 3 2 := ⟨_, rfl, by decide, rfl, Or.inl (jT_mem (tb_1 (List.mem_of_getElem? (i := 100) (by decide +kernel))) rfl)⟩
theorem fX3_22w : jFw RX3 22 3 2 := ⟨fX3_22, fun q hq => by cases hq; rfl⟩
theorem fX3_25 : jF RX3 25 3 3 := ⟨_, rfl, by decide, rfl, Or.inl (jT_mem (tb_1 (List.mem_of_getElem? (i := 101) (by decide +kernel))) rfl)⟩
theorem fX3_25w : jFw RX3 25 3 3 := ⟨fX3_25, fun q hq => by cases hq; rfl⟩
theorem fX3_29 : jF RX3 29 3 4 := ⟨_, rfl, by decide, rfl, Or.inl (jT_mem (tb_1 (List.mem_of_getElem? (i := 102) (by decide +kernel))) rfl)⟩
theorem fX3_29w : jFw RX3 29 3 4 := ⟨fX3_29, fun q hq => by cases hq; rfl⟩
theorem fX3_32 : jF RX3 32 3 5 := ⟨_, rfl, by decide, rfl, Or.inl (jT_mem (tb_1 (List.mem_of_getElem? (i := 103) (by decide +kernel))) rfl)⟩
theorem fX3_32w : jFw RX3 32 3 5 := ⟨fX3_32, fun q hq => by cases hq; rfl⟩
theorem fX3_35 : jF RX3 35 3 6 := ⟨_, rfl, by decide, rfl, Or.inl (jT_mem (tb_1 (List.mem_of_getElem? (i := 104) (by decide +kernel))) rfl)⟩
theorem fX3_35w : jFw RX3 35 3 6 := ⟨fX3_35, fun q hq => by cases hq; rfl⟩
theorem fX3_15 : jF RX3 15 3 7 := ⟨_, rfl, by decide, rfl, Or.inl (jT_mem (tb_1 (List.mem_of_getElem? (i := 105) (by decide +kernel))) rfl)⟩
theorem fX3_15w : jFw RX3 15 3 7 := ⟨fX3_15, fun q hq => by cases hq; rfl⟩
theorem fX6_100 : jF RX6 100 3 7 := ⟨_, rfl, by decide, rfl, Or.inr ⟨"HouseManner", tb_1 (List.mem_of_getElem? (i := 106) (by decide +kernel))⟩⟩
theorem fX6_100w : jFw RX6 100 3 7 := ⟨fX6_100, fun q hq => by cases hq; rfl⟩
theorem fX3_55 : jF RX3 55 3 8 := ⟨_, rfl, by decide, rfl, Or.inl (jT_mem (tb_1 (List.mem_of_getElem? (i := 107) (by decide +kernel))) rfl)⟩
theorem fX3_55w : jFw RX3 55 3 8 := ⟨fX3_55, fun q hq => by cases hq; rfl⟩
theorem fX3_38 : jF RX3 38 3 9 := ⟨_, rfl, by decide, rfl, Or.inl (jT_mem (tb_1 (List.mem_of_getElem? (i := 108) (by decide +kernel))) rfl)⟩
theorem fX3_38w : jFw RX3 38 3 9 := ⟨fX3_38, fun q hq => by cases hq; rfl⟩
theorem fX3_45 : jF RX3 45 3 10 := ⟨_, rfl, by decide, rfl, Or.inl (jT_mem (tb_1 (List.mem_of_getElem? (i := 109) (by decide +kernel))) rfl)⟩
theorem fX3_45w : jFw RX3 45 3 10 := ⟨fX3_45, fun q hq => by cases hq; rfl⟩
theorem fX2_9 : jF RX2 9 2 0 := ⟨_, rfl, by decide, rfl, Or.inl (jT_mem (tb_1 (List.mem_of_getElem? (i := 143) (by decide +kernel))) rfl)⟩
theorem fX6_244 : jF RX6 244 2 0 := ⟨_, rfl, by decide, rfl, Or.inr ⟨"HouseManner", tb_1 (List.mem_of_getElem? (i := 144) (by decide +kernel))⟩⟩
theorem fX2_15 : jF RX2 15 2 1 := ⟨_, rfl, by decide, rfl, Or.inl (jT_mem (tb_1 (List.mem_of_getElem? (i := 145) (by decide +kernel))) rfl)⟩
theorem fX2_15w : jFw RX2 15 2 1 := ⟨fX2_15, fun q hq => by cases hq; rfl⟩
theorem fX6_220 : jF RX6 220 2 1 := ⟨_, rfl, by decide, rfl, Or.inr ⟨"HouseManner", tb_1 (List.mem_of_getElem? (i := 146) (by decide +kernel))⟩⟩
theorem fX6_220w : jFw RX6 220 2 1 := ⟨fX6_220, fun q hq => by cases hq; rfl⟩
theorem fX2_19 : jF RX2 19 2 2 := ⟨_, rfl, by decide, rfl, Or.inl (jT_mem (tb_1 (List.mem_of_getElem? (i := 147) (by decide +kernel))) rfl)⟩
theorem fX2_19w : jFw RX2 19 2 2 := ⟨fX2_19, fun q hq => by cases hq; rfl⟩
theorem fX6_217 : jF RX6 217 2 2 := ⟨_, rfl, by decide, rfl, Or.inr ⟨"HouseManner", tb_1 (List.mem_of_getElem? (i := 148) (by decide +kernel))⟩⟩
theorem fX6_217w : jFw RX6 217 2 2 := ⟨fX6_217, fun q hq => by cases hq; rfl⟩
theorem fX1_9 : jF RX1 9 1 0 := ⟨_, rfl, by decide, rfl, Or.inl (jT_mem (tb_1 (List.mem_of_getElem? (i := 162) (by decide +kernel))) rfl)⟩
theorem fX6_233 : jF RX6 233 1 0 := ⟨_, rfl, by decide, rfl, Or.inr ⟨"HouseManner", tb_1 (List.mem_of_getElem? (i := 163) (by decide +kernel))⟩⟩
theorem fX1_15 : jF RX1 15 1 1 := ⟨_, rfl, by decide, rfl, Or.inl (jT_mem (tb_1 (List.mem_of_getElem? (i := 164) (by decide +kernel))) rfl)⟩
theorem fX1_15w : jFw RX1 15 1 1 := ⟨fX1_15, fun q hq => by cases hq; rfl⟩
theorem fX6_232 : jF RX6 232 1 1 := ⟨_, rfl, by decide, rfl, Or.inr ⟨"HouseManner", tb_1 (List.mem_of_getElem? (i := 165) (by decide +kernel))⟩⟩
theorem fX6_232w : jFw RX6 232 1 1 := ⟨fX6_232, fun q hq => by cases hq; rfl⟩
theorem fX1_19 : jF RX1 19 1 2 := ⟨_, rfl, by decide, rfl, Or.inl (jT_mem (tb_1 (List.mem_of_getElem? (i := 166) (by decide +kernel))) rfl)⟩
theorem fX1_19w : jFw RX1 19 1 2 := ⟨fX1_19, fun q hq => by cases hq; rfl⟩
theorem fX6_258 : jF RX6 258 1 2 := ⟨_, rfl, by decide, rfl, Or.inr ⟨"HouseManner", tb_1 (List.mem_of_getElem? (i := 167) (by decide +kernel))⟩⟩
theorem fX6_258w : jFw RX6 258 1 2 := ⟨fX6_258, fun q hq => by cases hq; rfl⟩
theorem fX4_9 : jF RX4 9 4 0 := ⟨_, rfl, by decide, rfl, Or.inl (jT_mem (tb_1 (List.mem_of_getElem? (i := 180) (by decide +kernel))) rfl)⟩
theorem fX4_15 : jF RX4 15 4 1 := ⟨_, rfl, by decide, rfl, Or.inl (jT_mem (tb_1 (List.mem_of_getElem? (i := 181) (by decide +kernel))) rfl)⟩
theorem fX4_42 : jF RX4 42 4 2 := ⟨_, rfl, by decide, rfl, Or.inl (jT_mem (tb_1 (List.mem_of_getElem? (i := 182) (by decide +kernel))) rfl)⟩
theorem fX4_42w : jFw RX4 42 4 2 := ⟨fX4_42, fun q hq => by cases hq; rfl⟩
theorem fX4_46 : jF RX4 46 4 3 := ⟨_, rfl, by decide, rfl, Or.inl (jT_mem (tb_1 (List.mem_of_getElem? (i := 183) (by decide +kernel))) rfl)⟩
theorem fX4_46w : jFw RX4 46 4 3 := ⟨fX4_46, fun q hq => by cases hq; rfl⟩
theorem fX0_24 : jF RX0 24 0 0 := ⟨_, rfl, by decide, rfl, Or.inl (jT_mem (tb_1 (List.mem_of_getElem? (i := 198) (by decide +kernel))) rfl)⟩
theorem fX0_24w : jFw RX0 24 0 0 := ⟨fX0_24, fun q hq => by cases hq; rfl⟩
theorem fX0_9 : jF RX0 9 0 1 := ⟨_, rfl, by decide, rfl, Or.inl (jT_mem (tb_1 (List.mem_of_getElem? (i := 199) (by decide +kernel))) rfl)⟩
theorem fX0_9w : jFw RX0 9 0 1 := ⟨fX0_9, fun q hq => by cases hq; rfl⟩
theorem fX0_15 : jF RX0 15 0 2 := ⟨_, rfl, by decide, rfl, Or.inl (jT_mem (tb_1 (List.mem_of_getElem? (i := 200) (by decide +kernel))) rfl)⟩
theorem fX0_15w : jFw RX0 15 0 2 := ⟨fX0_15, fun q hq => by cases hq; rfl⟩
theorem fX0_18 : jF RX0 18 0 3 := ⟨_, rfl, by decide, rfl, Or.inl (jT_mem (tb_1 (List.mem_of_getElem? (i := 201) (by decide +kernel))) rfl)⟩
theorem fX0_18w : jFw RX0 18 0 3 := ⟨fX0_18, fun q hq => by cases hq; rfl⟩
theorem fX0_21 : jF RX0 21 0 4 := ⟨_, rfl, by decide, rfl, Or.inl (jT_mem (tb_1 (List.mem_of_getElem? (i := 202) (by decide +kernel))) rfl)⟩
theorem fX0_21w : jFw RX0 21 0 4 := ⟨fX0_21, fun q hq => by cases hq; rfl⟩
theorem fX0_27 : jF RX0 27 0 5 := ⟨_, rfl, by decide, rfl, Or.inl (jT_mem (tb_1 (List.mem_of_getElem? (i := 203) (by decide +kernel))) rfl)⟩
theorem fX0_27w : jFw RX0 27 0 5 := ⟨fX0_27, fun q hq => by cases hq; rfl⟩
theorem fX0_30 : jF RX0 30 0 6 := ⟨_, rfl, by decide, rfl, Or.inl (jT_mem (tb_1 (List.mem_of_getElem? (i := 204) (by decide +kernel))) rfl)⟩
theorem fX0_30w : jFw RX0 30 0 6 := ⟨fX0_30, fun q hq => by cases hq; rfl⟩
theorem fX4_53 : jF RX4 53 0 6 := ⟨_, rfl, by decide, rfl, Or.inr ⟨"HouseManner", tb_1 (List.mem_of_getElem? (i := 205) (by decide +kernel))⟩⟩
theorem fX4_53w : jFw RX4 53 0 6 := ⟨fX4_53, fun q hq => by cases hq; rfl⟩
theorem fX6_168 : jF RX6 168 0 6 := ⟨_, rfl, by decide, rfl, Or.inr ⟨"HouseManner", tb_1 (List.mem_of_getElem? (i := 206) (by decide +kernel))⟩⟩
theorem fX6_168w : jFw RX6 168 0 6 := ⟨fX6_168, fun q hq => by cases hq; rfl⟩
theorem fX0_33 : jF RX0 33 0 7 := ⟨_, rfl, by decide, rfl, Or.inl (jT_mem (tb_1 (List.mem_of_getElem? (i := 207) (by decide +kernel))) rfl)⟩
theorem fX0_33w : jFw RX0 33 0 7 := ⟨fX0_33, fun q hq => by cases hq; rfl⟩
theorem fX6_9 : jF RX6 9 6 0 := ⟨_, rfl, by decide, rfl, Or.inl (jT_mem (tb_1 (List.mem_of_getElem? (i := 225) (by decide +kernel))) rfl)⟩
theorem fX6_79 : jF RX6 79 6 1 := ⟨_, rfl, by decide, rfl, Or.inl (jT_mem (tb_1 (List.mem_of_getElem? (i := 226) (by decide +kernel))) rfl)⟩
theorem fX6_79w : jFw RX6 79 6 1 := ⟨fX6_79, fun q hq => by cases hq; rfl⟩
theorem fX6_15 : jF RX6 15 6 2 := ⟨_, rfl, by decide, rfl, Or.inl (jT_mem (tb_1 (List.mem_of_getElem? (i := 227) (by decide +kernel))) rfl)⟩
theorem fX6_20 : jF RX6 20 6 3 := ⟨_, rfl, by decide, rfl, Or.inl (jT_mem (tb_1 (List.mem_of_getElem? (i := 228) (by decide +kernel))) rfl)⟩
theorem fX6_20w : jFw RX6 20 6 3 := ⟨fX6_20, fun q hq => by cases hq; rfl⟩
theorem fX6_27 : jF RX6 27 6 4 := ⟨_, rfl, by decide, rfl, Or.inl (jT_mem (tb_1 (List.mem_of_getElem? (i := 229) (by decide +kernel))) rfl)⟩
theorem fX6_97 : jF RX6 97 6 5 := ⟨_, rfl, by decide, rfl, Or.inl (jT_mem (tb_1 (List.mem_of_getElem? (i := 230) (by decide +kernel))) rfl)⟩
theorem fX6_97w : jFw RX6 97 6 5 := ⟨fX6_97, fun q hq => by cases hq; rfl⟩
theorem fX6_31 : jF RX6 31 6 6 := ⟨_, rfl, by decide, rfl, Or.inl (jT_mem (tb_1 (List.mem_of_getElem? (i := 231) (by decide +kernel))) rfl)⟩
theorem fX6_31w : jFw RX6 31 6 6 := ⟨fX6_31, fun q hq => by cases hq; rfl⟩
theorem fX6_35 : jF RX6 35 6 7 := ⟨_, rfl, by decide, rfl, Or.inl (jT_mem (tb_1 (List.mem_of_getElem? (i := 232) (by decide +kernel))) rfl)⟩
theorem fX6_35w : jFw RX6 35 6 7 := ⟨fX6_35, fun q hq => by cases hq; rfl⟩
theorem fX6_38 : jF RX6 38 6 8 := ⟨_, rfl, by decide, rfl, Or.inl (jT_mem (tb_1 (List.mem_of_getElem? (i := 233) (by decide +kernel))) rfl)⟩
theorem fX6_38w : jFw RX6 38 6 8 := ⟨fX6_38, fun q hq => by cases hq; rfl⟩
theorem fX6_43 : jF RX6 43 6 9 := ⟨_, rfl, by decide, rfl, Or.inl (jT_mem (tb_1 (List.mem_of_getElem? (i := 234) (by decide +kernel))) rfl)⟩
theorem fX6_49 : jF RX6 49 6 10 := ⟨_, rfl, by decide, rfl, Or.inl (jT_mem (tb_1 (List.mem_of_getElem? (i := 235) (by decide +kernel))) rfl)⟩
theorem fX6_171 : jF RX6 171 6 11 := ⟨_, rfl, by decide, rfl, Or.inl (jT_mem (tb_1 (List.mem_of_getElem? (i := 236) (by decide +kernel))) rfl)⟩
theorem fX6_171w : jFw RX6 171 6 11 := ⟨fX6_171, fun q hq => by cases hq; rfl⟩
theorem fX6_56 : jF RX6 56 6 12 := ⟨_, rfl, by decide, rfl, Or.inl (jT_mem (tb_1 (List.mem_of_getElem? (i := 237) (by decide +kernel))) rfl)⟩
theorem fX6_60 : jF RX6 60 6 13 := ⟨_, rfl, by decide, rfl, Or.inl (jT_mem (tb_1 (List.mem_of_getElem? (i := 238) (by decide +kernel))) rfl)⟩
theorem fX6_60w : jFw RX6 60 6 13 := ⟨fX6_60, fun q hq => by cases hq; rfl⟩
theorem fX6_66 : jF RX6 66 6 14 := ⟨_, rfl, by decide, rfl, Or.inl (jT_mem (tb_1 (List.mem_of_getElem? (i := 239) (by decide +kernel))) rfl)⟩
theorem fX6_70 : jF RX6 70 6 15 := ⟨_, rfl, by decide, rfl, Or.inl (jT_mem (tb_2 (List.mem_of_getElem? (i := 0) (by decide +kernel))) rfl)⟩
theorem fX6_74 : jF RX6 74 6 16 := ⟨_, rfl, by decide, rfl, Or.inl (jT_mem (tb_2 (List.mem_of_getElem? (i := 1) (by decide +kernel))) rfl)⟩
theorem fX7_78 : jF RX7 78 7 0 := ⟨_, rfl, by decide, rfl, Or.inl (jT_mem (tb_4 (List.mem_of_getElem? (i := 120) (by decide +kernel))) rfl)⟩
theorem fX7_78w : jFw RX7 78 7 0 := ⟨fX7_78, fun q hq => by cases hq; rfl⟩
theorem fX7_7 : jF RX7 7 7 1 := ⟨_, rfl, by decide, rfl, Or.inl (jT_mem (tb_4 (List.mem_of_getElem? (i := 121) (by decide +kernel))) rfl)⟩
theorem fX7_81 : jF RX7 81 7 2 := ⟨_, rfl, by decide, rfl, Or.inl (jT_mem (tb_4 (List.mem_of_getElem? (i := 122) (by decide +kernel))) rfl)⟩
theorem fX7_81w : jFw RX7 81 7 2 := ⟨fX7_81, fun q hq => by cases hq; rfl⟩
theorem fX7_119 : jF RX7 119 7 3 := ⟨_, rfl, by decide, rfl, Or.inl (jT_mem (tb_4 (List.mem_of_getElem? (i := 123) (by decide +kernel))) rfl)⟩
theorem fX7_119w : jFw RX7 119 7 3 := ⟨fX7_119, fun q hq => by cases hq; rfl⟩
theorem fX7_13 : jF RX7 13 7 4 := ⟨_, rfl, by decide, rfl, Or.inl (jT_mem (tb_4 (List.mem_of_getElem? (i := 124) (by decide +kernel))) rfl)⟩
theorem fX7_13w : jFw RX7 13 7 4 := ⟨fX7_13, fun q hq => by cases hq; rfl⟩
theorem fX7_17 : jF RX7 17 7 5 := ⟨_, rfl, by decide, rfl, Or.inl (jT_mem (tb_4 (List.mem_of_getElem? (i := 125) (by decide +kernel))) rfl)⟩
theorem fX7_21 : jF RX7 21 7 6 := ⟨_, rfl, by decide, rfl, Or.inl (jT_mem (tb_4 (List.mem_of_getElem? (i := 126) (by decide +kernel))) rfl)⟩
theorem fX7_24 : jF RX7 24 7 7 := ⟨_, rfl, by decide, rfl, Or.inl (jT_mem (tb_4 (List.mem_of_getElem? (i := 127) (by decide +kernel))) rfl)⟩
theorem fX7_27 : jF RX7 27 7 8 := ⟨_, rfl, by decide, rfl, Or.inl (jT_mem (tb_4 (List.mem_of_getElem? (i := 128) (by decide +kernel))) rfl)⟩
theorem fX7_30 : jF RX7 30 7 9 := ⟨_, rfl, by decide, rfl, Or.inl (jT_mem (tb_4 (List.mem_of_getElem? (i := 129) (by decide +kernel))) rfl)⟩
theorem fX7_33 : jF RX7 33 7 10 := ⟨_, rfl, by decide, rfl, Or.inl (jT_mem (tb_4 (List.mem_of_getElem? (i := 130) (by decide +kernel))) rfl)⟩
theorem fX7_36 : jF RX7 36 7 11 := ⟨_, rfl, by decide, rfl, Or.inl (jT_mem (tb_4 (List.mem_of_getElem? (i := 131) (by decide +kernel))) rfl)⟩
theorem fX7_39 : jF RX7 39 7 12 := ⟨_, rfl, by decide, rfl, Or.inl (jT_mem (tb_4 (List.mem_of_getElem? (i := 132) (by decide +kernel))) rfl)⟩
theorem fX7_42 : jF RX7 42 7 13 := ⟨_, rfl, by decide, rfl, Or.inl (jT_mem (tb_4 (List.mem_of_getElem? (i := 133) (by decide +kernel))) rfl)⟩
theorem fX7_45 : jF RX7 45 7 14 := ⟨_, rfl, by decide, rfl, Or.inl (jT_mem (tb_4 (List.mem_of_getElem? (i := 134) (by decide +kernel))) rfl)⟩
theorem fX7_48 : jF RX7 48 7 15 := ⟨_, rfl, by decide, rfl, Or.inl (jT_mem (tb_4 (List.mem_of_getElem? (i := 135) (by decide +kernel))) rfl)⟩
theorem fX7_257 : jF RX7 257 7 16 := ⟨_, rfl, by decide, rfl, Or.inl (jT_mem (tb_4 (List.mem_of_getElem? (i := 136) (by decide +kernel))) rfl)⟩
theorem fX7_257w : jFw RX7 257 7 16 := ⟨fX7_257, fun q hq => by cases hq; rfl⟩
theorem fX7_51 : jF RX7 51 7 17 := ⟨_, rfl, by decide, rfl, Or.inl (jT_mem (tb_4 (List.mem_of_getElem? (i := 137) (by decide +kernel))) rfl)⟩
theorem fX7_54 : jF RX7 54 7 18 := ⟨_, rfl, by decide, rfl, Or.inl (jT_mem (tb_4 (List.mem_of_getElem? (i := 138) (by decide +kernel))) rfl)⟩
theorem fX7_57 : jF RX7 57 7 19 := ⟨_, rfl, by decide, rfl, Or.inl (jT_mem (tb_4 (List.mem_of_getElem? (i := 139) (by decide +kernel))) rfl)⟩
theorem fX7_264 : jF RX7 264 7 20 := ⟨_, rfl, by decide, rfl, Or.inl (jT_mem (tb_4 (List.mem_of_getElem? (i := 140) (by decide +kernel))) rfl)⟩
theorem fX7_264w : jFw RX7 264 7 20 := ⟨fX7_264, fun q hq => by cases hq; rfl⟩
theorem fX7_60 : jF RX7 60 7 21 := ⟨_, rfl, by decide, rfl, Or.inl (jT_mem (tb_4 (List.mem_of_getElem? (i := 141) (by decide +kernel))) rfl)⟩
theorem fX7_60w : jFw RX7 60 7 21 := ⟨fX7_60, fun q hq => by cases hq; rfl⟩
theorem fX7_88 : jF RX7 88 7 22 := ⟨_, rfl, by decide, rfl, Or.inl (jT_mem (tb_4 (List.mem_of_getElem? (i := 142) (by decide +kernel))) rfl)⟩
theorem fX7_88w : jFw RX7 88 7 22 := ⟨fX7_88, fun q hq => by cases hq; rfl⟩
theorem fX7_91 : jF RX7 91 7 23 := ⟨_, rfl, by decide, rfl, Or.inl (jT_mem (tb_4 (List.mem_of_getElem? (i := 143) (by decide +kernel))) rfl)⟩
theorem fX7_91w : jFw RX7 91 7 23 := ⟨fX7_91, fun q hq => by cases hq; rfl⟩
theorem fX7_98 : jF RX7 98 7 24 := ⟨_, rfl, by decide, rfl, Or.inl (jT_mem (tb_4 (List.mem_of_getElem? (i := 144) (by decide +kernel))) rfl)⟩
theorem fX7_98w : jFw RX7 98 7 24 := ⟨fX7_98, fun q hq => by cases hq; rfl⟩
theorem fX7_101 : jF RX7 101 7 25 := ⟨_, rfl, by decide, rfl, Or.inl (jT_mem (tb_4 (List.mem_of_getElem? (i := 145) (by decide +kernel))) rfl)⟩
theorem fX7_101w : jFw RX7 101 7 25 := ⟨fX7_101, fun q hq => by cases hq; rfl⟩
theorem fX7_153 : jF RX7 153 7 26 := ⟨_, rfl, by decide, rfl, Or.inl (jT_mem (tb_4 (List.mem_of_getElem? (i := 146) (by decide +kernel))) rfl)⟩
theorem fX7_153w : jFw RX7 153 7 26 := ⟨fX7_153, fun q hq => by cases hq; rfl⟩
theorem fX7_158 : jF RX7 158 7 27 := ⟨_, rfl, by decide, rfl, Or.inl (jT_mem (tb_4 (List.mem_of_getElem? (i := 147) (by decide +kernel))) rfl)⟩
theorem fX7_158w : jFw RX7 158 7 27 := ⟨fX7_158, fun q hq => by cases hq; rfl⟩
theorem fX7_63 : jF RX7 63 7 28 := ⟨_, rfl, by decide, rfl, Or.inl (jT_mem (tb_4 (List.mem_of_getElem? (i := 148) (by decide +kernel))) rfl)⟩
theorem fX7_66 : jF RX7 66 7 29 := ⟨_, rfl, by decide, rfl, Or.inl (jT_mem (tb_4 (List.mem_of_getElem? (i := 149) (by decide +kernel))) rfl)⟩
theorem fX7_69 : jF RX7 69 7 30 := ⟨_, rfl, by decide, rfl, Or.inl (jT_mem (tb_4 (List.mem_of_getElem? (i := 150) (by decide +kernel))) rfl)⟩
theorem fX7_235 : jF RX7 235 7 31 := ⟨_, rfl, by decide, rfl, Or.inl (jT_mem (tb_4 (List.mem_of_getElem? (i := 151) (by decide +kernel))) rfl)⟩
theorem fX7_235w : jFw RX7 235 7 31 := ⟨fX7_235, fun q hq => by cases hq; rfl⟩
theorem fX7_72 : jF RX7 72 7 32 := ⟨_, rfl, by decide, rfl, Or.inl (jT_mem (tb_4 (List.mem_of_getElem? (i := 152) (by decide +kernel))) rfl)⟩
theorem fX7_75 : jF RX7 75 7 33 := ⟨_, rfl, by decide, rfl, Or.inl (jT_mem (tb_4 (List.mem_of_getElem? (i := 153) (by decide +kernel))) rfl)⟩
theorem fX7_273 : jF RX7 273 7 34 := ⟨_, rfl, by decide, rfl, Or.inl (jT_mem (tb_4 (List.mem_of_getElem? (i := 154) (by decide +kernel))) rfl)⟩
theorem fX7_273w : jFw RX7 273 7 34 := ⟨fX7_273, fun q hq => by cases hq; rfl⟩
theorem fX7_276 : jF RX7 276 7 35 := ⟨_, rfl, by decide, rfl, Or.inl (jT_mem (tb_4 (List.mem_of_getElem? (i := 155) (by decide +kernel))) rfl)⟩
theorem fX7_276w : jFw RX7 276 7 35 := ⟨fX7_276, fun q hq => by cases hq; rfl⟩
end JL
