theorem nX1_22 : Cond.methodLink RX1 22 yJ9_max_7cf53 ∈ jT := jT_mem (tb_2 (List.mem_of_getElem? (i := 139) (by decide +kernel))) rfl -- nX
theorem nX5_37 : Cond.methodLink RX5 37 yJ9_min_7cf53 ∈ jT := jT_mem (tb_3 (List.mem_of_getElem? (i := 0) (by decide +kernel))) rfl -- nX
theorem nX5_43 : Cond.methodLink RX5 43 yJ9_max_7cf53 ∈ jT := jT_mem (tb_3 (List.mem_of_getElem? (i := 3) (by decide +kernel))) rfl -- nX
theorem nX2_23 : Cond.methodLink RX2 23 yJ9_max_7cf53 ∈ jT := jT_mem (tb_4 (List.mem_of_getElem? (i := 67) (by decide +kernel))) rfl -- nX
theorem nJ1_92 : Cond.methodLink RJ1 92 yJ9_max_7cf53 ∈ jT := jT_mem (tb_5 (List.mem_of_getElem? (i := 47) (by decide +kernel))) rfl -- nX
theorem nJ1_38 : Cond.methodLink RJ1 38 yJ9_min_7cf53 ∈ jT := jT_mem (tb_5 (List.mem_of_getElem? (i := 48) (by decide +kernel))) rfl -- nX
theorem nJ2_224 : Cond.methodLink RJ2 224 yJ9_max_7cf53 ∈ jT := jT_mem (tb_5 (List.mem_of_getElem? (i := 55) (by decide +kernel))) rfl -- nX
theorem nJ2_183 : Cond.methodLink RJ2 183 yJ9_min_7cf53 ∈ jT := jT_mem (tb_5 (List.mem_of_getElem? (i := 56) (by decide +kernel))) rfl -- nX
