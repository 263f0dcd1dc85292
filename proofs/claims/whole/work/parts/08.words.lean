section JW
theorem jW0 : ∀ w ∈ u_ws RX0 TX0 8, w ∈ lw_tbl.filter goodWord := by
  have h : u_ws RX0 TX0 8 = [287, 289, 291, 293, 295, 297, 299, 301].filterMap (fun i => lw_tbl[i]?) := by decide +kernel
  have h2 : (u_ws RX0 TX0 8).all goodWord = true := by decide +kernel
  intro w hw
  refine List.mem_filter.mpr ⟨?_, List.all_eq_true.mp h2 w hw⟩
  rw [h] at hw
  obtain ⟨i, -, hi⟩ := List.mem_filterMap.mp hw
  exact List.mem_of_getElem? hi
theorem jW1 : ∀ w ∈ u_ws RX1 TX1 3, w ∈ lw_tbl.filter goodWord := by
  have h : u_ws RX1 TX1 3 = [247, 249, 251].filterMap (fun i => lw_tbl[i]?) := by decide +kernel
  have h2 : (u_ws RX1 TX1 3).all goodWord = true := by decide +kernel
  intro w hw
  refine List.mem_filter.mpr ⟨?_, List.all_eq_true.mp h2 w hw⟩
  rw [h] at hw
  obtain ⟨i, -, hi⟩ := List.mem_filterMap.mp hw
  exact List.mem_of_getElem? hi
theorem jW2 : ∀ w ∈ u_ws RX2 TX2 3, w ∈ lw_tbl.filter goodWord := by
  have h : u_ws RX2 TX2 3 = [228, 230, 232].filterMap (fun i => lw_tbl[i]?) := by decide +kernel
  have h2 : (u_ws RX2 TX2 3).all goodWord = true := by decide +kernel
  intro w hw
  refine List.mem_filter.mpr ⟨?_, List.all_eq_true.mp h2 w hw⟩
  rw [h] at hw
  obtain ⟨i, -, hi⟩ := List.mem_filterMap.mp hw
  exact List.mem_of_getElem? hi
theorem jW3 : ∀ w ∈ u_ws RX3 TX3 11, w ∈ lw_tbl.filter goodWord := by
  have h : u_ws RX3 TX3 11 = [189, 191, 193, 195, 197, 199, 201, 203, 205, 207, 209].filterMap (fun i => lw_tbl[i]?) := by decide +kernel
  have h2 : (u_ws RX3 TX3 11).all goodWord = true := by decide +kernel
  intro w hw
  refine List.mem_filter.mpr ⟨?_, List.all_eq_true.mp h2 w hw⟩
  rw [h] at hw
  obtain ⟨i, -, hi⟩ := List.mem_filterMap.mp hw
  exact List.mem_of_getElem? hi
theorem jW4 : ∀ w ∈ u_ws RX4 TX4 4, w ∈ lw_tbl.filter goodWord := by
  have h : u_ws RX4 TX4 4 = [263, 265, 267, 269].filterMap (fun i => lw_tbl[i]?) := by decide +kernel
  have h2 : (u_ws RX4 TX4 4).all goodWord = true := by decide +kernel
  intro w hw
  refine List.mem_filter.mpr ⟨?_, List.all_eq_true.mp h2 w hw⟩
  rw [h] at hw
  obtain ⟨i, -, hi⟩ := List.mem_filterMap.mp hw
  exact List.mem_of_getElem? hi
theorem jW5 : ∀ w ∈ u_ws RX5 TX5 13, w ∈ lw_tbl.filter goodWord := by
  have h : u_ws RX5 TX5 13 = [142, 144, 146, 148, 150, 152, 154, 156, 158, 160, 162, 164, 166].filterMap (fun i => lw_tbl[i]?) := by decide +kernel
  have h2 : (u_ws RX5 TX5 13).all goodWord = true := by decide +kernel
  intro w hw
  refine List.mem_filter.mpr ⟨?_, List.all_eq_true.mp h2 w hw⟩
  rw [h] at hw
  obtain ⟨i, -, hi⟩ := List.mem_filterMap.mp hw
  exact List.mem_of_getElem? hi
theorem jW6 : ∀ w ∈ u_ws RX6 TX6 17, w ∈ lw_tbl.filter goodWord := by
  have h : u_ws RX6 TX6 17 = [321, 323, 325, 327, 329, 331, 333, 335, 337, 339, 341, 343, 345, 347, 349, 351, 353].filterMap (fun i => lw_tbl[i]?) := by decide +kernel
  have h2 : (u_ws RX6 TX6 17).all goodWord = true := by decide +kernel
  intro w hw
  refine List.mem_filter.mpr ⟨?_, List.all_eq_true.mp h2 w hw⟩
  rw [h] at hw
  obtain ⟨i, -, hi⟩ := List.mem_filterMap.mp hw
  exact List.mem_of_getElem? hi
theorem jW7 : ∀ w ∈ u_ws RX7 TX7 36, w ∈ lw_tbl.filter goodWord := by
  have h : u_ws RX7 TX7 36 = [959, 961, 963, 965, 967, 969, 971, 973, 975, 977, 979, 981, 983, 985, 987, 989, 991, 993, 995, 997, 999, 1001, 1003, 1005, 1007, 1009, 1011, 1013, 1015, 1017, 1019, 1021, 1023, 1025, 1027, 1029].filterMap (fun i => lw_tbl[i]?) := by decide +kernel
  have h2 : (u_ws RX7 TX7 36).all goodWord = true := by decide +kernel
  intro w hw
  refine List.mem_filter.mpr ⟨?_, List.all_eq_true.mp h2 w hw⟩
  rw [h] at hw
  obtain ⟨i, -, hi⟩ := List.mem_filterMap.mp hw
  exact List.mem_of_getElem? hi
end JW
