section JW
theorem jW0 : ∀ w ∈ u_ws RX0 TX0 8, w ∈ lw_tbl.filter goodWord := by
  have h : u_ws RX0 TX0 8 = [286, 288, 290, 292, 294, 296, 298, 300].filterMap (fun i => lw_tbl[i]?) := by decide +kernel
  have h2 : (u_ws RX0 TX0 8).all goodWord = true := by decide +kernel
  intro w hw
  refine List.mem_filter.mpr ⟨?_, List.all_eq_true.mp h2 w hw⟩
  rw [h] at hw
  obtain ⟨i, -, hi⟩ := List.mem_filterMap.mp hw
  exact List.mem_of_getElem? hi
theorem jW1 : ∀ w ∈ u_ws RX1 TX1 3, w ∈ lw_tbl.filter goodWord := by
  have h : u_ws RX1 TX1 3 = [246, 248, 250].filterMap (fun i => lw_tbl[i]?) := by decide +kernel
  have h2 : (u_ws RX1 TX1 3).all goodWord = true := by decide +kernel
  intro w hw
  refine List.mem_filter.mpr ⟨?_, List.all_eq_true.mp h2 w hw⟩
  rw [h] at hw
  obtain ⟨i, -, hi⟩ := List.mem_filterMap.mp hw
  exact List.mem_of_getElem? hi
theorem jW2 : ∀ w ∈ u_ws RX2 TX2 3, w ∈ lw_tbl.filter goodWord := by
  have h : u_ws RX2 TX2 3 = [227, 229, 231].filterMap (fun i => lw_tbl[i]?) := by decide +kernel
  have h2 : (u_ws RX2 TX2 3).all goodWord = true := by decide +kernel
  intro w hw
  refine List.mem_filter.mpr ⟨?_, List.all_eq_true.mp h2 w hw⟩
  rw [h] at hw
  obtain ⟨i, -, hi⟩ := List.mem_filterMap.mp hw
  exact List.mem_of_getElem? hi
theorem jW3 : ∀ w ∈ u_ws RX3 TX3 11, w ∈ lw_tbl.filter goodWord := by
  have h : u_ws RX3 TX3 11 = [188, 190, 192, 194, 196, 198, 200, 202, 204, 206, 208].filterMap (fun i => lw_tbl[i]?) := by decide +kernel
  have h2 : (u_ws RX3 TX3 11).all goodWord = true := by decide +kernel
  intro w hw
  refine List.mem_filter.mpr ⟨?_, List.all_eq_true.mp h2 w hw⟩
  rw [h] at hw
  obtain ⟨i, -, hi⟩ := List.mem_filterMap.mp hw
  exact List.mem_of_getElem? hi
theorem jW4 : ∀ w ∈ u_ws RX4 TX4 4, w ∈ lw_tbl.filter goodWord := by
  have h : u_ws RX4 TX4 4 = [262, 264, 266, 268].filterMap (fun i => lw_tbl[i]?) := by decide +kernel
  have h2 : (u_ws RX4 TX4 4).all goodWord = true := by decide +kernel
  intro w hw
  refine List.mem_filter.mpr ⟨?_, List.all_eq_true.mp h2 w hw⟩
  rw [h] at hw
  obtain ⟨i, -, hi⟩ := List.mem_filterMap.mp hw
  exact List.mem_of_getElem? hi
theorem jW5 : ∀ w ∈ u_ws RX5 TX5 13, w ∈ lw_tbl.filter goodWord := by
  have h : u_ws RX5 TX5 13 = [141, 143, 145, 147, 149, 151, 153, 155, 157, 159, 161, 163, 165].filterMap (fun i => lw_tbl[i]?) := by decide +kernel
  have h2 : (u_ws RX5 TX5 13).all goodWord = true := by decide +kernel
  intro w hw
  refine List.mem_filter.mpr ⟨?_, List.all_eq_true.mp h2 w hw⟩
  rw [h] at hw
  obtain ⟨i, -, hi⟩ := List.mem_filterMap.mp hw
  exact List.mem_of_getElem? hi
theorem jW6 : ∀ w ∈ u_ws RX6 TX6 17, w ∈ lw_tbl.filter goodWord := by
  have h : u_ws RX6 TX6 17 = [320, 322, 324, 326, 328, 330, 332, 334, 336, 338, 340, 342, 344, 346, 348, 350, 352].filterMap (fun i => lw_tbl[i]?) := by decide +kernel
  have h2 : (u_ws RX6 TX6 17).all goodWord = true := by decide +kernel
  intro w hw
  refine List.mem_filter.mpr ⟨?_, List.all_eq_true.mp h2 w hw⟩
  rw [h] at hw
  obtain ⟨i, -, hi⟩ := List.mem_filterMap.mp hw
  exact List.mem_of_getElem? hi
theorem jW7 : ∀ w ∈ u_ws RX7 TX7 36, w ∈ lw_tbl.filter goodWord := by
  have h : u_ws RX7 TX7 36 = [954, 956, 958, 960, 962, 964, 966, 968, 970, 972, 974, 976, 978, 980, 982, 984, 986, 988, 990, 992, 994, 996, 998, 1000, 1002, 1004, 1006, 1008, 1010, 1012, 1014, 1016, 1018, 1020, 1022, 1024].filterMap (fun i => lw_tbl[i]?) := by decide +kernel
  have h2 : (u_ws RX7 TX7 36).all goodWord = true := by decide +kernel
  intro w hw
  refine List.mem_filter.mpr ⟨?_, List.all_eq_true.mp h2 w hw⟩
  rw [h] at hw
  obtain ⟨i, -, hi⟩ := List.mem_filterMap.mp hw
  exact List.mem_of_getElem? hi
end JW
