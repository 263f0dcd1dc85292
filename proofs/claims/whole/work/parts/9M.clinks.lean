section JCL
theorem inX6 : Cond.initialized RX6 ∈ jT := jT_mem (tb_1 (List.mem_of_getElem? (i := 1) (by decide +kernel))) rfl
theorem inX5 : Cond.initialized RX5 ∈ jT := jT_mem (tb_1 (List.mem_of_getElem? (i := 2) (by decide +kernel))) rfl
theorem inX3 : Cond.initialized RX3 ∈ jT := jT_mem (tb_1 (List.mem_of_getElem? (i := 3) (by decide +kernel))) rfl
theorem inX2 : Cond.initialized RX2 ∈ jT := jT_mem (tb_1 (List.mem_of_getElem? (i := 4) (by decide +kernel))) rfl
theorem inX1 : Cond.initialized RX1 ∈ jT := jT_mem (tb_1 (List.mem_of_getElem? (i := 5) (by decide +kernel))) rfl
theorem inX4 : Cond.initialized RX4 ∈ jT := jT_mem (tb_1 (List.mem_of_getElem? (i := 6) (by decide +kernel))) rfl
theorem inX0 : Cond.initialized RX0 ∈ jT := jT_mem (tb_1 (List.mem_of_getElem? (i := 7) (by decide +kernel))) rfl
theorem inX7 : Cond.initialized RX7 ∈ jT := jT_mem (tb_1 (List.mem_of_getElem? (i := 8) (by decide +kernel))) rfl
theorem clL_8 : Cond.classLink RL 8 RX6 ∈ jT := jT_mem (tb_1 (List.mem_of_getElem? (i := 22) (by decide +kernel))) rfl
theorem itX6 : Cond.instantiable RX6 17 ∈ jT := jT_mem (tb_1 (List.mem_of_getElem? (i := 23) (by decide +kernel))) rfl
theorem niL_60 : Cond.methodLink RL 60 yX6_init ∈ jT ∨ ∃ host, Cond.methodLinkNest RL 60 yX6_init host ∈ lw_tbl := Or.inl (jT_mem (tb_1 (List.mem_of_getElem? (i := 24) (by decide +kernel))) rfl)
theorem iiX6 : Cond.instanceMethod yX6_init ∈ jT := jT_mem (tb_1 (List.mem_of_getElem? (i := 25) (by decide +kernel))) rfl
theorem icX6 : Cond.code yX6_init cX6_init 2 none ∈ jT := jT_mem (tb_1 (List.mem_of_getElem? (i := 26) (by decide +kernel))) rfl
theorem oiX6 : Cond.methodLink RX6 1 Lib.objectInit ∈ jT := jT_mem (tb_1 (List.mem_of_getElem? (i := 27) (by decide +kernel))) rfl
theorem oiI : Cond.instanceMethod Lib.objectInit ∈ jT := jT_mem (tb_1 (List.mem_of_getElem? (i := 28) (by decide +kernel))) rfl
theorem oiC : Cond.code Lib.objectInit ⟨#[0xb1]⟩ 1 none ∈ jT := jT_mem (tb_1 (List.mem_of_getElem? (i := 29) (by decide +kernel))) rfl
theorem clX6_13 : Cond.classLink RX6 13 RX5 ∈ jT := jT_mem (tb_1 (List.mem_of_getElem? (i := 30) (by decide +kernel))) rfl
theorem itX5 : Cond.instantiable RX5 13 ∈ jT := jT_mem (tb_1 (List.mem_of_getElem? (i := 32) (by decide +kernel))) rfl
theorem niX6_19 : Cond.methodLink RX6 19 yX5_init ∈ jT ∨ ∃ host, Cond.methodLinkNest RX6 19 yX5_init host ∈ lw_tbl := Or.inr ⟨RX6, tb_1 (List.mem_of_getElem? (i := 33) (by decide +kernel))⟩
theorem iiX5 : Cond.instanceMethod yX5_init ∈ jT := jT_mem (tb_1 (List.mem_of_getElem? (i := 34) (by decide +kernel))) rfl
theorem icX5 : Cond.code yX5_init cX5_init 1 none ∈ jT := jT_mem (tb_1 (List.mem_of_getElem? (i := 35) (by decide +kernel))) rfl
theorem oiX5 : Cond.methodLink RX5 3 Lib.objectInit ∈ jT := jT_mem (tb_1 (List.mem_of_getElem? (i := 36) (by decide +kernel))) rfl
theorem ac_byte : Cond.arrayClass (newarray.typeOf .byte) ∈ jT := jT_mem (tb_1 (List.mem_of_getElem? (i := 90) (by decide +kernel))) rfl
theorem ac_int : Cond.arrayClass (newarray.typeOf .int) ∈ jT := jT_mem (tb_1 (List.mem_of_getElem? (i := 91) (by decide +kernel))) rfl
theorem clX6_24 : Cond.classLink RX6 24 RX3 ∈ jT := jT_mem (tb_1 (List.mem_of_getElem? (i := 92) (by decide +kernel))) rfl
theorem itX3 : Cond.instantiable RX3 11 ∈ jT := jT_mem (tb_1 (List.mem_of_getElem? (i := 93) (by decide +kernel))) rfl
theorem niX6_26 : Cond.methodLink RX6 26 yX3_init ∈ jT ∨ ∃ host, Cond.methodLinkNest RX6 26 yX3_init host ∈ lw_tbl := Or.inr ⟨RX6, tb_1 (List.mem_of_getElem? (i := 94) (by decide +kernel))⟩
theorem iiX3 : Cond.instanceMethod yX3_init ∈ jT := jT_mem (tb_1 (List.mem_of_getElem? (i := 95) (by decide +kernel))) rfl
theorem icX3 : Cond.code yX3_init cX3_init 1 none ∈ jT := jT_mem (tb_1 (List.mem_of_getElem? (i := 96) (by decide +kernel))) rfl
theorem oiX3 : Cond.methodLink RX3 3 Lib.objectInit ∈ jT := jT_mem (tb_1 (List.mem_of_getElem? (i := 97) (by decide +kernel))) rfl
theorem clX6_41 : Cond.classLink RX6 41 RX4 ∈ jT := jT_mem (tb_1 (List.mem_of_getElem? (i := 133) (by decide +kernel))) rfl
theorem clX6_47 : Cond.classLink RX6 47 RX0 ∈ jT := jT_mem (tb_1 (List.mem_of_getElem? (i := 135) (by decide +kernel))) rfl
theorem clX6_53 : Cond.classLink RX6 53 RX2 ∈ jT := jT_mem (tb_1 (List.mem_of_getElem? (i := 137) (by decide +kernel))) rfl
theorem itX2 : Cond.instantiable RX2 3 ∈ jT := jT_mem (tb_1 (List.mem_of_getElem? (i := 138) (by decide +kernel))) rfl
theorem niX6_55 : Cond.methodLink RX6 55 yX2_init ∈ jT ∨ ∃ host, Cond.methodLinkNest RX6 55 yX2_init host ∈ lw_tbl := Or.inr ⟨RX6, tb_1 (List.mem_of_getElem? (i := 139) (by decide +kernel))⟩
theorem iiX2 : Cond.instanceMethod yX2_init ∈ jT := jT_mem (tb_1 (List.mem_of_getElem? (i := 140) (by decide +kernel))) rfl
theorem icX2 : Cond.code yX2_init cX2_init 1 none ∈ jT := jT_mem (tb_1 (List.mem_of_getElem? (i := 141) (by decide +kernel))) rfl
theorem oiX2 : Cond.methodLink RX2 3 Lib.objectInit ∈ jT := jT_mem (tb_1 (List.mem_of_getElem? (i := 142) (by decide +kernel))) rfl
theorem clX6_63 : Cond.classLink RX6 63 RX1 ∈ jT := jT_mem (tb_1 (List.mem_of_getElem? (i := 156) (by decide +kernel))) rfl
theorem itX1 : Cond.instantiable RX1 3 ∈ jT := jT_mem (tb_1 (List.mem_of_getElem? (i := 157) (by decide +kernel))) rfl
theorem niX6_65 : Cond.methodLink RX6 65 yX1_init ∈ jT ∨ ∃ host, Cond.methodLinkNest RX6 65 yX1_init host ∈ lw_tbl := Or.inr ⟨RX6, tb_1 (List.mem_of_getElem? (i := 158) (by decide +kernel))⟩
theorem iiX1 : Cond.instanceMethod yX1_init ∈ jT := jT_mem (tb_1 (List.mem_of_getElem? (i := 159) (by decide +kernel))) rfl
theorem icX1 : Cond.code yX1_init cX1_init 1 none ∈ jT := jT_mem (tb_1 (List.mem_of_getElem? (i := 160) (by decide +kernel))) rfl
theorem oiX1 : Cond.methodLink RX1 3 Lib.objectInit ∈ jT := jT_mem (tb_1 (List.mem_of_getElem? (i := 161) (by decide +kernel))) rfl
theorem itX4 : Cond.instantiable RX4 4 ∈ jT := jT_mem (tb_1 (List.mem_of_getElem? (i := 175) (by decide +kernel))) rfl
theorem niX6_77 : Cond.methodLink RX6 77 yX4_init ∈ jT ∨ ∃ host, Cond.methodLinkNest RX6 77 yX4_init host ∈ lw_tbl := Or.inr ⟨RX6, tb_1 (List.mem_of_getElem? (i := 176) (by decide +kernel))⟩
theorem iiX4 : Cond.instanceMethod yX4_init ∈ jT := jT_mem (tb_1 (List.mem_of_getElem? (i := 177) (by decide +kernel))) rfl
theorem icX4 : Cond.code yX4_init cX4_init 1 none ∈ jT := jT_mem (tb_1 (List.mem_of_getElem? (i := 178) (by decide +kernel))) rfl
theorem oiX4 : Cond.methodLink RX4 3 Lib.objectInit ∈ jT := jT_mem (tb_1 (List.mem_of_getElem? (i := 179) (by decide +kernel))) rfl
theorem itX0 : Cond.instantiable RX0 8 ∈ jT := jT_mem (tb_1 (List.mem_of_getElem? (i := 193) (by decide +kernel))) rfl
theorem niX6_78 : Cond.methodLink RX6 78 yX0_init ∈ jT ∨ ∃ host, Cond.methodLinkNest RX6 78 yX0_init host ∈ lw_tbl := Or.inr ⟨RX6, tb_1 (List.mem_of_getElem? (i := 194) (by decide +kernel))⟩
theorem iiX0 : Cond.instanceMethod yX0_init ∈ jT := jT_mem (tb_1 (List.mem_of_getElem? (i := 195) (by decide +kernel))) rfl
theorem icX0 : Cond.code yX0_init cX0_init 1 none ∈ jT := jT_mem (tb_1 (List.mem_of_getElem? (i := 196) (by decide +kernel))) rfl
theorem oiX0 : Cond.methodLink RX0 3 Lib.objectInit ∈ jT := jT_mem (tb_1 (List.mem_of_getElem? (i := 197) (by decide +kernel))) rfl
theorem clL_61 : Cond.classLink RL 61 RX7 ∈ jT := jT_mem (tb_4 (List.mem_of_getElem? (i := 114) (by decide +kernel))) rfl
theorem itX7 : Cond.instantiable RX7 36 ∈ jT := jT_mem (tb_4 (List.mem_of_getElem? (i := 115) (by decide +kernel))) rfl
theorem niL_63 : Cond.methodLink RL 63 yX7_init ∈ jT ∨ ∃ host, Cond.methodLinkNest RL 63 yX7_init host ∈ lw_tbl := Or.inl (jT_mem (tb_4 (List.mem_of_getElem? (i := 116) (by decide +kernel))) rfl)
theorem iiX7 : Cond.instanceMethod yX7_init ∈ jT := jT_mem (tb_4 (List.mem_of_getElem? (i := 117) (by decide +kernel))) rfl
theorem icX7 : Cond.code yX7_init cX7_init 1 none ∈ jT := jT_mem (tb_4 (List.mem_of_getElem? (i := 118) (by decide +kernel))) rfl
theorem oiX7 : Cond.methodLink RX7 1 Lib.objectInit ∈ jT := jT_mem (tb_4 (List.mem_of_getElem? (i := 119) (by decide +kernel))) rfl
theorem ac_boolean : Cond.arrayClass (newarray.typeOf .boolean) ∈ jT := jT_mem (tb_4 (List.mem_of_getElem? (i := 229) (by decide +kernel))) rfl
theorem ac_long : Cond.arrayClass (newarray.typeOf .long) ∈ jT := jT_mem (tb_6 (List.mem_of_getElem? (i := 61) (by decide +kernel))) rfl
theorem fX5_9F : jFf RX5 9 5 0 := ⟨_, rfl, by decide, rfl, rfl, jT_mem (tb_1 (List.mem_of_getElem? (i := 37) (by decide +kernel))) rfl, rfl⟩
theorem fX5_15F : jFf RX5 15 5 1 := ⟨_, rfl, by decide, rfl, rfl, jT_mem (tb_1 (List.mem_of_getElem? (i := 40) (by decide +kernel))) rfl, rfl⟩
theorem fX5_19F : jFf RX5 19 5 2 := ⟨_, rfl, by decide, rfl, rfl, jT_mem (tb_1 (List.mem_of_getElem? (i := 42) (by decide +kernel))) rfl, rfl⟩
theorem fX5_22F : jFf RX5 22 5 3 := ⟨_, rfl, by decide, rfl, rfl, jT_mem (tb_1 (List.mem_of_getElem? (i := 44) (by decide +kernel))) rfl, rfl⟩
theorem fX5_25F : jFf RX5 25 5 4 := ⟨_, rfl, by decide, rfl, rfl, jT_mem (tb_1 (List.mem_of_getElem? (i := 46) (by decide +kernel))) rfl, rfl⟩
theorem fX5_28F : jFf RX5 28 5 5 := ⟨_, rfl, by decide, rfl, rfl, jT_mem (tb_1 (List.mem_of_getElem? (i := 48) (by decide +kernel))) rfl, rfl⟩
theorem fX5_31F : jFf RX5 31 5 6 := ⟨_, rfl, by decide, rfl, rfl, jT_mem (tb_1 (List.mem_of_getElem? (i := 49) (by decide +kernel))) rfl, rfl⟩
theorem fX5_34F : jFf RX5 34 5 7 := ⟨_, rfl, by decide, rfl, rfl, jT_mem (tb_1 (List.mem_of_getElem? (i := 51) (by decide +kernel))) rfl, rfl⟩
theorem fX3_9F : jFf RX3 9 3 0 := ⟨_, rfl, by decide, rfl, rfl, jT_mem (tb_1 (List.mem_of_getElem? (i := 98) (by decide +kernel))) rfl, rfl⟩
theorem fX2_9F : jFf RX2 9 2 0 := ⟨_, rfl, by decide, rfl, rfl, jT_mem (tb_1 (List.mem_of_getElem? (i := 143) (by decide +kernel))) rfl, rfl⟩
theorem fX1_9F : jFf RX1 9 1 0 := ⟨_, rfl, by decide, rfl, rfl, jT_mem (tb_1 (List.mem_of_getElem? (i := 162) (by decide +kernel))) rfl, rfl⟩
theorem fX4_9F : jFf RX4 9 4 0 := ⟨_, rfl, by decide, rfl, rfl, jT_mem (tb_1 (List.mem_of_getElem? (i := 180) (by decide +kernel))) rfl, rfl⟩
theorem fX4_15F : jFf RX4 15 4 1 := ⟨_, rfl, by decide, rfl, rfl, jT_mem (tb_1 (List.mem_of_getElem? (i := 181) (by decide +kernel))) rfl, rfl⟩
theorem fX6_9F : jFf RX6 9 6 0 := ⟨_, rfl, by decide, rfl, rfl, jT_mem (tb_1 (List.mem_of_getElem? (i := 225) (by decide +kernel))) rfl, rfl⟩
theorem fX6_15F : jFf RX6 15 6 2 := ⟨_, rfl, by decide, rfl, rfl, jT_mem (tb_1 (List.mem_of_getElem? (i := 227) (by decide +kernel))) rfl, rfl⟩
theorem fX6_27F : jFf RX6 27 6 4 := ⟨_, rfl, by decide, rfl, rfl, jT_mem (tb_1 (List.mem_of_getElem? (i := 229) (by decide +kernel))) rfl, rfl⟩
theorem fX6_43F : jFf RX6 43 6 9 := ⟨_, rfl, by decide, rfl, rfl, jT_mem (tb_1 (List.mem_of_getElem? (i := 234) (by decide +kernel))) rfl, rfl⟩
theorem fX6_49F : jFf RX6 49 6 10 := ⟨_, rfl, by decide, rfl, rfl, jT_mem (tb_1 (List.mem_of_getElem? (i := 235) (by decide +kernel))) rfl, rfl⟩
theorem fX6_56F : jFf RX6 56 6 12 := ⟨_, rfl, by decide, rfl, rfl, jT_mem (tb_1 (List.mem_of_getElem? (i := 237) (by decide +kernel))) rfl, rfl⟩
theorem fX6_66F : jFf RX6 66 6 14 := ⟨_, rfl, by decide, rfl, rfl, jT_mem (tb_1 (List.mem_of_getElem? (i := 239) (by decide +kernel))) rfl, rfl⟩
theorem fX6_70F : jFf RX6 70 6 15 := ⟨_, rfl, by decide, rfl, rfl, jT_mem (tb_2 (List.mem_of_getElem? (i := 0) (by decide +kernel))) rfl, rfl⟩
theorem fX6_74F : jFf RX6 74 6 16 := ⟨_, rfl, by decide, rfl, rfl, jT_mem (tb_2 (List.mem_of_getElem? (i := 1) (by decide +kernel))) rfl, rfl⟩
theorem fX7_7F : jFf RX7 7 7 1 := ⟨_, rfl, by decide, rfl, rfl, jT_mem (tb_4 (List.mem_of_getElem? (i := 121) (by decide +kernel))) rfl, rfl⟩
theorem fX7_17F : jFf RX7 17 7 5 := ⟨_, rfl, by decide, rfl, rfl, jT_mem (tb_4 (List.mem_of_getElem? (i := 125) (by decide +kernel))) rfl, rfl⟩
theorem fX7_21F : jFf RX7 21 7 6 := ⟨_, rfl, by decide, rfl, rfl, jT_mem (tb_4 (List.mem_of_getElem? (i := 126) (by decide +kernel))) rfl, rfl⟩
theorem fX7_24F : jFf RX7 24 7 7 := ⟨_, rfl, by decide, rfl, rfl, jT_mem (tb_4 (List.mem_of_getElem? (i := 127) (by decide +kernel))) rfl, rfl⟩
theorem fX7_27F : jFf RX7 27 7 8 := ⟨_, rfl, by decide, rfl, rfl, jT_mem (tb_4 (List.mem_of_getElem? (i := 128) (by decide +kernel))) rfl, rfl⟩
theorem fX7_30F : jFf RX7 30 7 9 := ⟨_, rfl, by decide, rfl, rfl, jT_mem (tb_4 (List.mem_of_getElem? (i := 129) (by decide +kernel))) rfl, rfl⟩
theorem fX7_33F : jFf RX7 33 7 10 := ⟨_, rfl, by decide, rfl, rfl, jT_mem (tb_4 (List.mem_of_getElem? (i := 130) (by decide +kernel))) rfl, rfl⟩
theorem fX7_36F : jFf RX7 36 7 11 := ⟨_, rfl, by decide, rfl, rfl, jT_mem (tb_4 (List.mem_of_getElem? (i := 131) (by decide +kernel))) rfl, rfl⟩
theorem fX7_39F : jFf RX7 39 7 12 := ⟨_, rfl, by decide, rfl, rfl, jT_mem (tb_4 (List.mem_of_getElem? (i := 132) (by decide +kernel))) rfl, rfl⟩
theorem fX7_42F : jFf RX7 42 7 13 := ⟨_, rfl, by decide, rfl, rfl, jT_mem (tb_4 (List.mem_of_getElem? (i := 133) (by decide +kernel))) rfl, rfl⟩
theorem fX7_45F : jFf RX7 45 7 14 := ⟨_, rfl, by decide, rfl, rfl, jT_mem (tb_4 (List.mem_of_getElem? (i := 134) (by decide +kernel))) rfl, rfl⟩
theorem fX7_48F : jFf RX7 48 7 15 := ⟨_, rfl, by decide, rfl, rfl, jT_mem (tb_4 (List.mem_of_getElem? (i := 135) (by decide +kernel))) rfl, rfl⟩
theorem fX7_51F : jFf RX7 51 7 17 := ⟨_, rfl, by decide, rfl, rfl, jT_mem (tb_4 (List.mem_of_getElem? (i := 137) (by decide +kernel))) rfl, rfl⟩
theorem fX7_54F : jFf RX7 54 7 18 := ⟨_, rfl, by decide, rfl, rfl, jT_mem (tb_4 (List.mem_of_getElem? (i := 138) (by decide +kernel))) rfl, rfl⟩
theorem fX7_57F : jFf RX7 57 7 19 := ⟨_, rfl, by decide, rfl, rfl, jT_mem (tb_4 (List.mem_of_getElem? (i := 139) (by decide +kernel))) rfl, rfl⟩
theorem fX7_63F : jFf RX7 63 7 28 := ⟨_, rfl, by decide, rfl, rfl, jT_mem (tb_4 (List.mem_of_getElem? (i := 148) (by decide +kernel))) rfl, rfl⟩
theorem fX7_66F : jFf RX7 66 7 29 := ⟨_, rfl, by decide, rfl, rfl, jT_mem (tb_4 (List.mem_of_getElem? (i := 149) (by decide +kernel))) rfl, rfl⟩
theorem fX7_69F : jFf RX7 69 7 30 := ⟨_, rfl, by decide, rfl, rfl, jT_mem (tb_4 (List.mem_of_getElem? (i := 150) (by decide +kernel))) rfl, rfl⟩
theorem fX7_72F : jFf RX7 72 7 32 := ⟨_, rfl, by decide, rfl, rfl, jT_mem (tb_4 (List.mem_of_getElem? (i := 152) (by decide +kernel))) rfl, rfl⟩
theorem fX7_75F : jFf RX7 75 7 33 := ⟨_, rfl, by decide, rfl, rfl, jT_mem (tb_4 (List.mem_of_getElem? (i := 153) (by decide +kernel))) rfl, rfl⟩
end JCL
