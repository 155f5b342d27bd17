theorem ly0 : lay[0]? = some (0, 10 :: [0, 0, 3, 4, 5, 6, 7]) := rfl
theorem ly1 : lay[1]? = some (1, [3]) := rfl
theorem ly2 : lay[2]? = some (1, [18]) := rfl
theorem ly3 : lay[3]? = some (1, [3]) := rfl
theorem ly4 : lay[4]? = some (1, [3]) := rfl
theorem ly5 : lay[5]? = some (1, [3]) := rfl
theorem ly6 : lay[6]? = some (0, 10 :: [0, 0, 9, 10, 11, 12, 13]) := rfl
theorem ly7 : lay[7]? = some (1, [3]) := rfl
theorem ly8 : lay[8]? = some (1, [18]) := rfl
theorem ly9 : lay[9]? = some (1, [3]) := rfl
theorem ly10 : lay[10]? = some (1, [3]) := rfl
theorem ly11 : lay[11]? = some (1, [3]) := rfl
theorem ly12 : lay[12]? = some (0, 10 :: [0, 0, 15, 16, 17, 18, 19]) := rfl
theorem ly13 : lay[13]? = some (1, [3]) := rfl
theorem ly14 : lay[14]? = some (1, [18]) := rfl
theorem ly15 : lay[15]? = some (1, [3]) := rfl
theorem ly16 : lay[16]? = some (1, [3]) := rfl
theorem ly17 : lay[17]? = some (1, [3]) := rfl
theorem ly18 : lay[18]? = some (0, 10 :: [0, 0, 21, 22, 23, 24, 25]) := rfl
theorem ly19 : lay[19]? = some (1, [3]) := rfl
theorem ly20 : lay[20]? = some (1, [18]) := rfl
theorem ly21 : lay[21]? = some (1, [3]) := rfl
theorem ly22 : lay[22]? = some (1, [3]) := rfl
theorem ly23 : lay[23]? = some (1, [3]) := rfl
theorem ly24 : lay[24]? = some (0, 11 :: [27, 2, 29, 30, 32, 0, 33, 36, 37, 39, 42, 44, 48]) := rfl
theorem ly25 : lay[25]? = some (0, 8 :: [28, 0]) := rfl
theorem ly26 : lay[26]? = some (1, [120]) := rfl
theorem ly27 : lay[27]? = some (0, 7 :: [2, 0, 0]) := rfl
theorem ly28 : lay[28]? = some (0, 1 :: [31, 0]) := rfl
theorem ly29 : lay[29]? = some (1, [50]) := rfl
theorem ly30 : lay[30]? = some (4, [6, 12]) := rfl
theorem ly31 : lay[31]? = some (0, 6 :: [34, 35, 0]) := rfl
theorem ly32 : lay[32]? = some (1, [6]) := rfl
theorem ly33 : lay[33]? = some (1, [6]) := rfl
theorem ly34 : lay[34]? = some (0, 9 :: [20, 0, 0, 0, 0]) := rfl
theorem ly35 : lay[35]? = some (0, 4 :: [38, 0, 1]) := rfl
theorem ly36 : lay[36]? = some (2, [8]) := rfl
theorem ly37 : lay[37]? = some (0, 3 :: [40, 41, 0]) := rfl
theorem ly38 : lay[38]? = some (1, [127]) := rfl
theorem ly39 : lay[39]? = some (1, [127]) := rfl
theorem ly40 : lay[40]? = some (0, 2 :: [43, 0, 0]) := rfl
theorem ly41 : lay[41]? = some (1, [127]) := rfl
theorem ly42 : lay[42]? = some (0, 0 :: [45, 46, 47, 0]) := rfl
theorem ly43 : lay[43]? = some (1, [21]) := rfl
theorem ly44 : lay[44]? = some (2, [21]) := rfl
theorem ly45 : lay[45]? = some (2, [21]) := rfl
theorem ly46 : lay[46]? = some (0, 5 :: [49]) := rfl
theorem ly47 : lay[47]? = some (1, [3]) := rfl
theorem ly48 : lay[48]? = some (0, 12 :: [51, 52, 53, 54, 55, 0, 0, 0, 56, 57, 0, 58, 0, 59, 60, 61, 0, 0, 0, 62, 0, 1, 63, 64, 0, 65, 66, 0, 67, 0, 0, 68, 0, 69]) := rfl
theorem ly49 : lay[49]? = some (1, [32]) := rfl
theorem ly50 : lay[50]? = some (1, [32]) := rfl
theorem ly51 : lay[51]? = some (1, [64]) := rfl
theorem ly52 : lay[52]? = some (3, [2]) := rfl
theorem ly53 : lay[53]? = some (1, [40]) := rfl
theorem ly54 : lay[54]? = some (1, [6]) := rfl
theorem ly55 : lay[55]? = some (1, [6]) := rfl
theorem ly56 : lay[56]? = some (1, [120]) := rfl
theorem ly57 : lay[57]? = some (1, [120]) := rfl
theorem ly58 : lay[58]? = some (1, [120]) := rfl
theorem ly59 : lay[59]? = some (1, [120]) := rfl
theorem ly60 : lay[60]? = some (2, [8]) := rfl
theorem ly61 : lay[61]? = some (2, [6]) := rfl
theorem ly62 : lay[62]? = some (1, [400]) := rfl
theorem ly63 : lay[63]? = some (1, [200]) := rfl
theorem ly64 : lay[64]? = some (1, [200]) := rfl
theorem ly65 : lay[65]? = some (1, [130]) := rfl
theorem ly66 : lay[66]? = some (1, [30]) := rfl
theorem ly67 : lay[67]? = some (1, [3]) := rfl
theorem uw0 : ∀ w ∈ u_ws RX0 TX0 4, w ∈ tblG := by
  intro w hw
  have h1 : u_ws RX0 TX0 4 = [249, 251, 253, 255].filterMap (fun i => lw_tbl[i]?) := by decide +kernel
  have h2 : (u_ws RX0 TX0 4).all goodWord = true := by decide +kernel
  refine List.mem_filter.mpr ⟨?_, List.all_eq_true.mp h2 w hw⟩
  rw [h1] at hw
  obtain ⟨i, -, hi⟩ := List.mem_filterMap.mp hw
  exact List.mem_of_getElem? hi
theorem uw1 : ∀ w ∈ u_ws RX1 TX1 2, w ∈ tblG := by
  intro w hw
  have h1 : u_ws RX1 TX1 2 = [144, 146].filterMap (fun i => lw_tbl[i]?) := by decide +kernel
  have h2 : (u_ws RX1 TX1 2).all goodWord = true := by decide +kernel
  refine List.mem_filter.mpr ⟨?_, List.all_eq_true.mp h2 w hw⟩
  rw [h1] at hw
  obtain ⟨i, -, hi⟩ := List.mem_filterMap.mp hw
  exact List.mem_of_getElem? hi
theorem uw2 : ∀ w ∈ u_ws RX2 TX2 3, w ∈ tblG := by
  intro w hw
  have h1 : u_ws RX2 TX2 3 = [232, 234, 236].filterMap (fun i => lw_tbl[i]?) := by decide +kernel
  have h2 : (u_ws RX2 TX2 3).all goodWord = true := by decide +kernel
  refine List.mem_filter.mpr ⟨?_, List.all_eq_true.mp h2 w hw⟩
  rw [h1] at hw
  obtain ⟨i, -, hi⟩ := List.mem_filterMap.mp hw
  exact List.mem_of_getElem? hi
theorem uw3 : ∀ w ∈ u_ws RX3 TX3 3, w ∈ tblG := by
  intro w hw
  have h1 : u_ws RX3 TX3 3 = [216, 218, 220].filterMap (fun i => lw_tbl[i]?) := by decide +kernel
  have h2 : (u_ws RX3 TX3 3).all goodWord = true := by decide +kernel
  refine List.mem_filter.mpr ⟨?_, List.all_eq_true.mp h2 w hw⟩
  rw [h1] at hw
  obtain ⟨i, -, hi⟩ := List.mem_filterMap.mp hw
  exact List.mem_of_getElem? hi
theorem uw4 : ∀ w ∈ u_ws RX4 TX4 3, w ∈ tblG := by
  intro w hw
  have h1 : u_ws RX4 TX4 3 = [199, 201, 203].filterMap (fun i => lw_tbl[i]?) := by decide +kernel
  have h2 : (u_ws RX4 TX4 3).all goodWord = true := by decide +kernel
  refine List.mem_filter.mpr ⟨?_, List.all_eq_true.mp h2 w hw⟩
  rw [h1] at hw
  obtain ⟨i, -, hi⟩ := List.mem_filterMap.mp hw
  exact List.mem_of_getElem? hi
theorem uw5 : ∀ w ∈ u_ws RX5 TX5 1, w ∈ tblG := by
  intro w hw
  have h1 : u_ws RX5 TX5 1 = [265].filterMap (fun i => lw_tbl[i]?) := by decide +kernel
  have h2 : (u_ws RX5 TX5 1).all goodWord = true := by decide +kernel
  refine List.mem_filter.mpr ⟨?_, List.all_eq_true.mp h2 w hw⟩
  rw [h1] at hw
  obtain ⟨i, -, hi⟩ := List.mem_filterMap.mp hw
  exact List.mem_of_getElem? hi
theorem uw6 : ∀ w ∈ u_ws RX6 TX6 3, w ∈ tblG := by
  intro w hw
  have h1 : u_ws RX6 TX6 3 = [159, 161, 163].filterMap (fun i => lw_tbl[i]?) := by decide +kernel
  have h2 : (u_ws RX6 TX6 3).all goodWord = true := by decide +kernel
  refine List.mem_filter.mpr ⟨?_, List.all_eq_true.mp h2 w hw⟩
  rw [h1] at hw
  obtain ⟨i, -, hi⟩ := List.mem_filterMap.mp hw
  exact List.mem_of_getElem? hi
theorem uw7 : ∀ w ∈ u_ws RX7 TX7 3, w ∈ tblG := by
  intro w hw
  have h1 : u_ws RX7 TX7 3 = [129, 131, 133].filterMap (fun i => lw_tbl[i]?) := by decide +kernel
  have h2 : (u_ws RX7 TX7 3).all goodWord = true := by decide +kernel
  refine List.mem_filter.mpr ⟨?_, List.all_eq_true.mp h2 w hw⟩
  rw [h1] at hw
  obtain ⟨i, -, hi⟩ := List.mem_filterMap.mp hw
  exact List.mem_of_getElem? hi
theorem uw8 : ∀ w ∈ u_ws RX8 TX8 2, w ∈ tblG := by
  intro w hw
  have h1 : u_ws RX8 TX8 2 = [86, 88].filterMap (fun i => lw_tbl[i]?) := by decide +kernel
  have h2 : (u_ws RX8 TX8 2).all goodWord = true := by decide +kernel
  refine List.mem_filter.mpr ⟨?_, List.all_eq_true.mp h2 w hw⟩
  rw [h1] at hw
  obtain ⟨i, -, hi⟩ := List.mem_filterMap.mp hw
  exact List.mem_of_getElem? hi
theorem uw9 : ∀ w ∈ u_ws RX9 TX9 5, w ∈ tblG := by
  intro w hw
  have h1 : u_ws RX9 TX9 5 = [179, 181, 183, 185, 187].filterMap (fun i => lw_tbl[i]?) := by decide +kernel
  have h2 : (u_ws RX9 TX9 5).all goodWord = true := by decide +kernel
  refine List.mem_filter.mpr ⟨?_, List.all_eq_true.mp h2 w hw⟩
  rw [h1] at hw
  obtain ⟨i, -, hi⟩ := List.mem_filterMap.mp hw
  exact List.mem_of_getElem? hi
theorem uw10 : ∀ w ∈ u_ws RX10 TX10 7, w ∈ tblG := by
  intro w hw
  have h1 : u_ws RX10 TX10 7 = [105, 107, 109, 111, 113, 115, 117].filterMap (fun i => lw_tbl[i]?) := by decide +kernel
  have h2 : (u_ws RX10 TX10 7).all goodWord = true := by decide +kernel
  refine List.mem_filter.mpr ⟨?_, List.all_eq_true.mp h2 w hw⟩
  rw [h1] at hw
  obtain ⟨i, -, hi⟩ := List.mem_filterMap.mp hw
  exact List.mem_of_getElem? hi
theorem uw11 : ∀ w ∈ u_ws RX11 TX11 13, w ∈ tblG := by
  intro w hw
  have h1 : u_ws RX11 TX11 13 = [281, 283, 285, 287, 289, 291, 293, 295, 297, 299, 301, 303, 305].filterMap (fun i => lw_tbl[i]?) := by decide +kernel
  have h2 : (u_ws RX11 TX11 13).all goodWord = true := by decide +kernel
  refine List.mem_filter.mpr ⟨?_, List.all_eq_true.mp h2 w hw⟩
  rw [h1] at hw
  obtain ⟨i, -, hi⟩ := List.mem_filterMap.mp hw
  exact List.mem_of_getElem? hi
theorem uw12 : ∀ w ∈ u_ws RX12 TX12 34, w ∈ tblG := by
  intro w hw
  have h1 : u_ws RX12 TX12 34 = [981, 983, 985, 987, 989, 991, 993, 995, 997, 999, 1001, 1003, 1005, 1007, 1009, 1011, 1013, 1015, 1017, 1019, 1021, 1023, 1025, 1027, 1029, 1031, 1033, 1035, 1037, 1039, 1041, 1043, 1045, 1047].filterMap (fun i => lw_tbl[i]?) := by decide +kernel
  have h2 : (u_ws RX12 TX12 34).all goodWord = true := by decide +kernel
  refine List.mem_filter.mpr ⟨?_, List.all_eq_true.mp h2 w hw⟩
  rw [h1] at hw
  obtain ⟨i, -, hi⟩ := List.mem_filterMap.mp hw
  exact List.mem_of_getElem? hi
theorem flX11_12 : Gf RX11 12 11 0 0 := ⟨_, _, _, rfl, uw11, by decide, tblG_at 268 (by decide +kernel) (by decide +kernel), rfl⟩
theorem flX11_19 : Gf RX11 19 11 1 1 := ⟨_, _, _, rfl, uw11, by decide, tblG_at 269 (by decide +kernel) (by decide +kernel), rfl⟩
theorem flX11_28 : Gf RX11 28 11 2 2 := ⟨_, _, _, rfl, uw11, by decide, tblG_at 270 (by decide +kernel) (by decide +kernel), rfl⟩
theorem flX11_35 : Gf RX11 35 11 3 3 := ⟨_, _, _, rfl, uw11, by decide, tblG_at 271 (by decide +kernel) (by decide +kernel), rfl⟩
theorem flX11_39 : Gf RX11 39 11 4 4 := ⟨_, _, _, rfl, uw11, by decide, tblG_at 272 (by decide +kernel) (by decide +kernel), rfl⟩
theorem flX11_46 : Gf RX11 46 11 6 6 := ⟨_, _, _, rfl, uw11, by decide, tblG_at 274 (by decide +kernel) (by decide +kernel), rfl⟩
theorem flX11_53 : Gf RX11 53 11 7 7 := ⟨_, _, _, rfl, uw11, by decide, tblG_at 275 (by decide +kernel) (by decide +kernel), rfl⟩
theorem flX11_60 : Gf RX11 60 11 8 8 := ⟨_, _, _, rfl, uw11, by decide, tblG_at 276 (by decide +kernel) (by decide +kernel), rfl⟩
theorem flX11_67 : Gf RX11 67 11 9 9 := ⟨_, _, _, rfl, uw11, by decide, tblG_at 277 (by decide +kernel) (by decide +kernel), rfl⟩
theorem flX11_74 : Gf RX11 74 11 10 10 := ⟨_, _, _, rfl, uw11, by decide, tblG_at 278 (by decide +kernel) (by decide +kernel), rfl⟩
theorem flX11_81 : Gf RX11 81 11 11 11 := ⟨_, _, _, rfl, uw11, by decide, tblG_at 279 (by decide +kernel) (by decide +kernel), rfl⟩
theorem flX11_88 : Gf RX11 88 11 12 12 := ⟨_, _, _, rfl, uw11, by decide, tblG_at 280 (by decide +kernel) (by decide +kernel), rfl⟩
theorem flX11_127 : Gf RX11 127 11 5 5 := ⟨_, _, _, rfl, uw11, by decide, tblG_at 273 (by decide +kernel) (by decide +kernel), rfl⟩
theorem fpX11_127 : Pf RX11 127 11 5 5 .int := ⟨_, _, _, tyX11, rfl, uw11, by decide, tblG_at 273 (by decide +kernel) (by decide +kernel), rfl, tyX11_ok, nmX11, rfl, rfl⟩
theorem cnX11_153 : Cond.constantLong RX11 153 (kL (-4611686018427387904)) ∈ tblG := tblG_at 476 (by decide +kernel) (by decide +kernel)
theorem cnX11_234 : Cond.constantLong RX11 234 (kL (64)) ∈ tblG := tblG_at 671 (by decide +kernel) (by decide +kernel)
theorem flX0_11 : Gf RX0 11 0 0 0 := ⟨_, _, _, rfl, uw0, by decide, tblG_at 245 (by decide +kernel) (by decide +kernel), rfl⟩
theorem flX0_15 : Gf RX0 15 0 1 1 := ⟨_, _, _, rfl, uw0, by decide, tblG_at 246 (by decide +kernel) (by decide +kernel), rfl⟩
theorem flX0_19 : Gf RX0 19 0 2 2 := ⟨_, _, _, rfl, uw0, by decide, tblG_at 247 (by decide +kernel) (by decide +kernel), rfl⟩
theorem flX0_22 : Gf RX0 22 0 3 3 := ⟨_, _, _, rfl, uw0, by decide, tblG_at 248 (by decide +kernel) (by decide +kernel), rfl⟩
theorem fpX0_22 : Pf RX0 22 0 3 3 .int := ⟨_, _, _, tyX0, rfl, uw0, by decide, tblG_at 248 (by decide +kernel) (by decide +kernel), rfl, tyX0_ok, nmX0, rfl, rfl⟩
theorem flX1_11 : Gf RX1 11 1 0 0 := ⟨_, _, _, rfl, uw1, by decide, tblG_at 142 (by decide +kernel) (by decide +kernel), rfl⟩
theorem flX1_15 : Gf RX1 15 1 1 1 := ⟨_, _, _, rfl, uw1, by decide, tblG_at 143 (by decide +kernel) (by decide +kernel), rfl⟩
theorem fpX1_15 : Pf RX1 15 1 1 1 .int := ⟨_, _, _, tyX1, rfl, uw1, by decide, tblG_at 143 (by decide +kernel) (by decide +kernel), rfl, tyX1_ok, nmX1, rfl, rfl⟩
theorem flX2_9 : Gf RX2 9 2 0 0 := ⟨_, _, _, rfl, uw2, by decide, tblG_at 229 (by decide +kernel) (by decide +kernel), rfl⟩
theorem flX2_15 : Gf RX2 15 2 1 1 := ⟨_, _, _, rfl, uw2, by decide, tblG_at 230 (by decide +kernel) (by decide +kernel), rfl⟩
theorem fpX2_15 : Pf RX2 15 2 1 1 .int := ⟨_, _, _, tyX2, rfl, uw2, by decide, tblG_at 230 (by decide +kernel) (by decide +kernel), rfl, tyX2_ok, nmX2, rfl, rfl⟩
theorem flX2_19 : Gf RX2 19 2 2 2 := ⟨_, _, _, rfl, uw2, by decide, tblG_at 231 (by decide +kernel) (by decide +kernel), rfl⟩
theorem fpX2_19 : Pf RX2 19 2 2 2 .int := ⟨_, _, _, tyX2, rfl, uw2, by decide, tblG_at 231 (by decide +kernel) (by decide +kernel), rfl, tyX2_ok, nmX2, rfl, rfl⟩
theorem flX3_9 : Gf RX3 9 3 0 0 := ⟨_, _, _, rfl, uw3, by decide, tblG_at 213 (by decide +kernel) (by decide +kernel), rfl⟩
theorem flX3_15 : Gf RX3 15 3 1 1 := ⟨_, _, _, rfl, uw3, by decide, tblG_at 214 (by decide +kernel) (by decide +kernel), rfl⟩
theorem flX3_18 : Gf RX3 18 3 2 2 := ⟨_, _, _, rfl, uw3, by decide, tblG_at 215 (by decide +kernel) (by decide +kernel), rfl⟩
theorem fpX3_18 : Pf RX3 18 3 2 2 .int := ⟨_, _, _, tyX3, rfl, uw3, by decide, tblG_at 215 (by decide +kernel) (by decide +kernel), rfl, tyX3_ok, nmX3, rfl, rfl⟩
theorem flX4_9 : Gf RX4 9 4 0 0 := ⟨_, _, _, rfl, uw4, by decide, tblG_at 196 (by decide +kernel) (by decide +kernel), rfl⟩
theorem flX4_15 : Gf RX4 15 4 1 1 := ⟨_, _, _, rfl, uw4, by decide, tblG_at 197 (by decide +kernel) (by decide +kernel), rfl⟩
theorem fpX4_15 : Pf RX4 15 4 1 1 .int := ⟨_, _, _, tyX4, rfl, uw4, by decide, tblG_at 197 (by decide +kernel) (by decide +kernel), rfl, tyX4_ok, nmX4, rfl, rfl⟩
theorem flX4_60 : Gf RX4 60 4 2 2 := ⟨_, _, _, rfl, uw4, by decide, tblG_at 198 (by decide +kernel) (by decide +kernel), rfl⟩
theorem fpX4_60 : Pf RX4 60 4 2 2 .long := ⟨_, _, _, tyX4, rfl, uw4, by decide, tblG_at 198 (by decide +kernel) (by decide +kernel), rfl, tyX4_ok, nmX4, rfl, rfl⟩
theorem cnX4_67 : Cond.constantLong RX4 67 (kL (64)) ∈ tblG := tblG_at 617 (by decide +kernel) (by decide +kernel)
theorem cnX4_88 : Cond.constantLong RX4 88 (kL (60)) ∈ tblG := tblG_at 839 (by decide +kernel) (by decide +kernel)
theorem flX5_11 : Gf RX5 11 5 0 0 := ⟨_, _, _, rfl, uw5, by decide, tblG_at 264 (by decide +kernel) (by decide +kernel), rfl⟩
theorem flX6_9 : Gf RX6 9 6 0 0 := ⟨_, _, _, rfl, uw6, by decide, tblG_at 156 (by decide +kernel) (by decide +kernel), rfl⟩
theorem flX6_15 : Gf RX6 15 6 1 1 := ⟨_, _, _, rfl, uw6, by decide, tblG_at 157 (by decide +kernel) (by decide +kernel), rfl⟩
theorem flX6_18 : Gf RX6 18 6 2 2 := ⟨_, _, _, rfl, uw6, by decide, tblG_at 158 (by decide +kernel) (by decide +kernel), rfl⟩
theorem fpX6_18 : Pf RX6 18 6 2 2 .int := ⟨_, _, _, tyX6, rfl, uw6, by decide, tblG_at 158 (by decide +kernel) (by decide +kernel), rfl, tyX6_ok, nmX6, rfl, rfl⟩
theorem flX7_9 : Gf RX7 9 7 0 0 := ⟨_, _, _, rfl, uw7, by decide, tblG_at 126 (by decide +kernel) (by decide +kernel), rfl⟩
theorem flX7_15 : Gf RX7 15 7 1 1 := ⟨_, _, _, rfl, uw7, by decide, tblG_at 127 (by decide +kernel) (by decide +kernel), rfl⟩
theorem fpX7_15 : Pf RX7 15 7 1 1 .int := ⟨_, _, _, tyX7, rfl, uw7, by decide, tblG_at 127 (by decide +kernel) (by decide +kernel), rfl, tyX7_ok, nmX7, rfl, rfl⟩
theorem flX7_19 : Gf RX7 19 7 2 2 := ⟨_, _, _, rfl, uw7, by decide, tblG_at 128 (by decide +kernel) (by decide +kernel), rfl⟩
theorem fpX7_19 : Pf RX7 19 7 2 2 .int := ⟨_, _, _, tyX7, rfl, uw7, by decide, tblG_at 128 (by decide +kernel) (by decide +kernel), rfl, tyX7_ok, nmX7, rfl, rfl⟩
theorem flX8_9 : Gf RX8 9 8 0 0 := ⟨_, _, _, rfl, uw8, by decide, tblG_at 84 (by decide +kernel) (by decide +kernel), rfl⟩
theorem flX8_15 : Gf RX8 15 8 1 1 := ⟨_, _, _, rfl, uw8, by decide, tblG_at 85 (by decide +kernel) (by decide +kernel), rfl⟩
theorem fpX8_15 : Pf RX8 15 8 1 1 .int := ⟨_, _, _, tyX8, rfl, uw8, by decide, tblG_at 85 (by decide +kernel) (by decide +kernel), rfl, tyX8_ok, nmX8, rfl, rfl⟩
theorem flX9_12 : Gf RX9 12 9 0 0 := ⟨_, _, _, rfl, uw9, by decide, tblG_at 174 (by decide +kernel) (by decide +kernel), rfl⟩
theorem flX9_21 : Gf RX9 21 9 1 1 := ⟨_, _, _, rfl, uw9, by decide, tblG_at 175 (by decide +kernel) (by decide +kernel), rfl⟩
theorem fpX9_21 : Pf RX9 21 9 1 1 .int := ⟨_, _, _, tyX9, rfl, uw9, by decide, tblG_at 175 (by decide +kernel) (by decide +kernel), rfl, tyX9_ok, nmX9, rfl, rfl⟩
theorem flX9_75 : Gf RX9 75 9 2 2 := ⟨_, _, _, rfl, uw9, by decide, tblG_at 176 (by decide +kernel) (by decide +kernel), rfl⟩
theorem fpX9_75 : Pf RX9 75 9 2 2 .int := ⟨_, _, _, tyX9, rfl, uw9, by decide, tblG_at 176 (by decide +kernel) (by decide +kernel), rfl, tyX9_ok, nmX9, rfl, rfl⟩
theorem flX9_78 : Gf RX9 78 9 3 3 := ⟨_, _, _, rfl, uw9, by decide, tblG_at 177 (by decide +kernel) (by decide +kernel), rfl⟩
theorem fpX9_78 : Pf RX9 78 9 3 3 .boolean := ⟨_, _, _, tyX9, rfl, uw9, by decide, tblG_at 177 (by decide +kernel) (by decide +kernel), rfl, tyX9_ok, nmX9, rfl, rfl⟩
theorem flX9_100 : Gf RX9 100 9 4 4 := ⟨_, _, _, rfl, uw9, by decide, tblG_at 178 (by decide +kernel) (by decide +kernel), rfl⟩
theorem fpX9_100 : Pf RX9 100 9 4 4 .int := ⟨_, _, _, tyX9, rfl, uw9, by decide, tblG_at 178 (by decide +kernel) (by decide +kernel), rfl, tyX9_ok, nmX9, rfl, rfl⟩
theorem flX10_9 : Gf RX10 9 10 2 2 := ⟨_, _, _, rfl, uw10, by decide, tblG_at 100 (by decide +kernel) (by decide +kernel), rfl⟩
theorem flX10_15 : Gf RX10 15 10 3 3 := ⟨_, _, _, rfl, uw10, by decide, tblG_at 101 (by decide +kernel) (by decide +kernel), rfl⟩
theorem flX10_18 : Gf RX10 18 10 4 4 := ⟨_, _, _, rfl, uw10, by decide, tblG_at 102 (by decide +kernel) (by decide +kernel), rfl⟩
theorem flX10_21 : Gf RX10 21 10 5 5 := ⟨_, _, _, rfl, uw10, by decide, tblG_at 103 (by decide +kernel) (by decide +kernel), rfl⟩
theorem flX10_24 : Gf RX10 24 10 6 6 := ⟨_, _, _, rfl, uw10, by decide, tblG_at 104 (by decide +kernel) (by decide +kernel), rfl⟩
theorem flX10_27 : Gf RX10 27 10 0 0 := ⟨_, _, _, rfl, uw10, by decide, tblG_at 98 (by decide +kernel) (by decide +kernel), rfl⟩
theorem fpX10_27 : Pf RX10 27 10 0 0 .int := ⟨_, _, _, tyX10, rfl, uw10, by decide, tblG_at 98 (by decide +kernel) (by decide +kernel), rfl, tyX10_ok, nmX10, rfl, rfl⟩
theorem flX10_31 : Gf RX10 31 10 1 1 := ⟨_, _, _, rfl, uw10, by decide, tblG_at 99 (by decide +kernel) (by decide +kernel), rfl⟩
theorem fpX10_31 : Pf RX10 31 10 1 1 .int := ⟨_, _, _, tyX10, rfl, uw10, by decide, tblG_at 99 (by decide +kernel) (by decide +kernel), rfl, tyX10_ok, nmX10, rfl, rfl⟩
theorem flX12_7 : Gf RX12 7 12 0 0 := ⟨_, _, _, rfl, uw12, by decide, tblG_at 947 (by decide +kernel) (by decide +kernel), rfl⟩
theorem flX12_13 : Gf RX12 13 12 1 1 := ⟨_, _, _, rfl, uw12, by decide, tblG_at 948 (by decide +kernel) (by decide +kernel), rfl⟩
theorem flX12_16 : Gf RX12 16 12 2 2 := ⟨_, _, _, rfl, uw12, by decide, tblG_at 949 (by decide +kernel) (by decide +kernel), rfl⟩
theorem flX12_19 : Gf RX12 19 12 3 3 := ⟨_, _, _, rfl, uw12, by decide, tblG_at 950 (by decide +kernel) (by decide +kernel), rfl⟩
theorem flX12_23 : Gf RX12 23 12 4 4 := ⟨_, _, _, rfl, uw12, by decide, tblG_at 951 (by decide +kernel) (by decide +kernel), rfl⟩
theorem flX12_26 : Gf RX12 26 12 8 8 := ⟨_, _, _, rfl, uw12, by decide, tblG_at 955 (by decide +kernel) (by decide +kernel), rfl⟩
theorem flX12_29 : Gf RX12 29 12 9 9 := ⟨_, _, _, rfl, uw12, by decide, tblG_at 956 (by decide +kernel) (by decide +kernel), rfl⟩
theorem flX12_32 : Gf RX12 32 12 11 11 := ⟨_, _, _, rfl, uw12, by decide, tblG_at 958 (by decide +kernel) (by decide +kernel), rfl⟩
theorem flX12_35 : Gf RX12 35 12 13 13 := ⟨_, _, _, rfl, uw12, by decide, tblG_at 960 (by decide +kernel) (by decide +kernel), rfl⟩
theorem flX12_38 : Gf RX12 38 12 14 14 := ⟨_, _, _, rfl, uw12, by decide, tblG_at 961 (by decide +kernel) (by decide +kernel), rfl⟩
theorem flX12_41 : Gf RX12 41 12 15 15 := ⟨_, _, _, rfl, uw12, by decide, tblG_at 962 (by decide +kernel) (by decide +kernel), rfl⟩
theorem flX12_44 : Gf RX12 44 12 19 19 := ⟨_, _, _, rfl, uw12, by decide, tblG_at 966 (by decide +kernel) (by decide +kernel), rfl⟩
theorem flX12_48 : Gf RX12 48 12 22 22 := ⟨_, _, _, rfl, uw12, by decide, tblG_at 969 (by decide +kernel) (by decide +kernel), rfl⟩
theorem flX12_51 : Gf RX12 51 12 23 23 := ⟨_, _, _, rfl, uw12, by decide, tblG_at 970 (by decide +kernel) (by decide +kernel), rfl⟩
theorem flX12_54 : Gf RX12 54 12 25 25 := ⟨_, _, _, rfl, uw12, by decide, tblG_at 972 (by decide +kernel) (by decide +kernel), rfl⟩
theorem flX12_57 : Gf RX12 57 12 26 26 := ⟨_, _, _, rfl, uw12, by decide, tblG_at 973 (by decide +kernel) (by decide +kernel), rfl⟩
theorem flX12_60 : Gf RX12 60 12 28 28 := ⟨_, _, _, rfl, uw12, by decide, tblG_at 975 (by decide +kernel) (by decide +kernel), rfl⟩
theorem flX12_63 : Gf RX12 63 12 31 31 := ⟨_, _, _, rfl, uw12, by decide, tblG_at 978 (by decide +kernel) (by decide +kernel), rfl⟩
theorem flX12_66 : Gf RX12 66 12 33 33 := ⟨_, _, _, rfl, uw12, by decide, tblG_at 980 (by decide +kernel) (by decide +kernel), rfl⟩
theorem flX12_72 : Gf RX12 72 12 5 5 := ⟨_, _, _, rfl, uw12, by decide, tblG_at 952 (by decide +kernel) (by decide +kernel), rfl⟩
theorem fpX12_72 : Pf RX12 72 12 5 5 .int := ⟨_, _, _, tyX12, rfl, uw12, by decide, tblG_at 952 (by decide +kernel) (by decide +kernel), rfl, tyX12_ok, nmX12, rfl, rfl⟩
theorem flX12_76 : Gf RX12 76 12 10 10 := ⟨_, _, _, rfl, uw12, by decide, tblG_at 957 (by decide +kernel) (by decide +kernel), rfl⟩
theorem fpX12_76 : Pf RX12 76 12 10 10 .int := ⟨_, _, _, tyX12, rfl, uw12, by decide, tblG_at 957 (by decide +kernel) (by decide +kernel), rfl, tyX12_ok, nmX12, rfl, rfl⟩
theorem flX12_79 : Gf RX12 79 12 6 6 := ⟨_, _, _, rfl, uw12, by decide, tblG_at 953 (by decide +kernel) (by decide +kernel), rfl⟩
theorem fpX12_79 : Pf RX12 79 12 6 6 .int := ⟨_, _, _, tyX12, rfl, uw12, by decide, tblG_at 953 (by decide +kernel) (by decide +kernel), rfl, tyX12_ok, nmX12, rfl, rfl⟩
theorem flX12_82 : Gf RX12 82 12 7 7 := ⟨_, _, _, rfl, uw12, by decide, tblG_at 954 (by decide +kernel) (by decide +kernel), rfl⟩
theorem fpX12_82 : Pf RX12 82 12 7 7 .int := ⟨_, _, _, tyX12, rfl, uw12, by decide, tblG_at 954 (by decide +kernel) (by decide +kernel), rfl, tyX12_ok, nmX12, rfl, rfl⟩
theorem flX12_89 : Gf RX12 89 12 12 12 := ⟨_, _, _, rfl, uw12, by decide, tblG_at 959 (by decide +kernel) (by decide +kernel), rfl⟩
theorem fpX12_89 : Pf RX12 89 12 12 12 .int := ⟨_, _, _, tyX12, rfl, uw12, by decide, tblG_at 959 (by decide +kernel) (by decide +kernel), rfl, tyX12_ok, nmX12, rfl, rfl⟩
theorem flX12_92 : Gf RX12 92 12 16 16 := ⟨_, _, _, rfl, uw12, by decide, tblG_at 963 (by decide +kernel) (by decide +kernel), rfl⟩
theorem fpX12_92 : Pf RX12 92 12 16 16 .int := ⟨_, _, _, tyX12, rfl, uw12, by decide, tblG_at 963 (by decide +kernel) (by decide +kernel), rfl, tyX12_ok, nmX12, rfl, rfl⟩
theorem flX12_99 : Gf RX12 99 12 17 17 := ⟨_, _, _, rfl, uw12, by decide, tblG_at 964 (by decide +kernel) (by decide +kernel), rfl⟩
theorem fpX12_99 : Pf RX12 99 12 17 17 .int := ⟨_, _, _, tyX12, rfl, uw12, by decide, tblG_at 964 (by decide +kernel) (by decide +kernel), rfl, tyX12_ok, nmX12, rfl, rfl⟩
theorem flX12_106 : Gf RX12 106 12 18 18 := ⟨_, _, _, rfl, uw12, by decide, tblG_at 965 (by decide +kernel) (by decide +kernel), rfl⟩
theorem fpX12_106 : Pf RX12 106 12 18 18 .int := ⟨_, _, _, tyX12, rfl, uw12, by decide, tblG_at 965 (by decide +kernel) (by decide +kernel), rfl, tyX12_ok, nmX12, rfl, rfl⟩
theorem cnX12_132 : Cond.constantLong RX12 132 (kL (-4611686018427387904)) ∈ tblG := tblG_at 1110 (by decide +kernel) (by decide +kernel)
theorem cnX12_148 : Cond.constantLong RX12 148 (kL (64)) ∈ tblG := tblG_at 1165 (by decide +kernel) (by decide +kernel)
theorem flX12_161 : Gf RX12 161 12 20 20 := ⟨_, _, _, rfl, uw12, by decide, tblG_at 967 (by decide +kernel) (by decide +kernel), rfl⟩
theorem fpX12_161 : Pf RX12 161 12 20 20 .int := ⟨_, _, _, tyX12, rfl, uw12, by decide, tblG_at 967 (by decide +kernel) (by decide +kernel), rfl, tyX12_ok, nmX12, rfl, rfl⟩
theorem flX12_168 : Gf RX12 168 12 21 21 := ⟨_, _, _, rfl, uw12, by decide, tblG_at 968 (by decide +kernel) (by decide +kernel), rfl⟩
theorem fpX12_168 : Pf RX12 168 12 21 21 .long := ⟨_, _, _, tyX12, rfl, uw12, by decide, tblG_at 968 (by decide +kernel) (by decide +kernel), rfl, tyX12_ok, nmX12, rfl, rfl⟩
theorem flX12_193 : Gf RX12 193 12 24 24 := ⟨_, _, _, rfl, uw12, by decide, tblG_at 971 (by decide +kernel) (by decide +kernel), rfl⟩
theorem fpX12_193 : Pf RX12 193 12 24 24 .int := ⟨_, _, _, tyX12, rfl, uw12, by decide, tblG_at 971 (by decide +kernel) (by decide +kernel), rfl, tyX12_ok, nmX12, rfl, rfl⟩
theorem flX12_196 : Gf RX12 196 12 27 27 := ⟨_, _, _, rfl, uw12, by decide, tblG_at 974 (by decide +kernel) (by decide +kernel), rfl⟩
theorem fpX12_196 : Pf RX12 196 12 27 27 .int := ⟨_, _, _, tyX12, rfl, uw12, by decide, tblG_at 974 (by decide +kernel) (by decide +kernel), rfl, tyX12_ok, nmX12, rfl, rfl⟩
theorem flX12_209 : Gf RX12 209 12 29 29 := ⟨_, _, _, rfl, uw12, by decide, tblG_at 976 (by decide +kernel) (by decide +kernel), rfl⟩
theorem fpX12_209 : Pf RX12 209 12 29 29 .int := ⟨_, _, _, tyX12, rfl, uw12, by decide, tblG_at 976 (by decide +kernel) (by decide +kernel), rfl, tyX12_ok, nmX12, rfl, rfl⟩
theorem flX12_216 : Gf RX12 216 12 30 30 := ⟨_, _, _, rfl, uw12, by decide, tblG_at 977 (by decide +kernel) (by decide +kernel), rfl⟩
theorem fpX12_216 : Pf RX12 216 12 30 30 .int := ⟨_, _, _, tyX12, rfl, uw12, by decide, tblG_at 977 (by decide +kernel) (by decide +kernel), rfl, tyX12_ok, nmX12, rfl, rfl⟩
theorem flX12_222 : Gf RX12 222 12 32 32 := ⟨_, _, _, rfl, uw12, by decide, tblG_at 979 (by decide +kernel) (by decide +kernel), rfl⟩
theorem fpX12_222 : Pf RX12 222 12 32 32 .int := ⟨_, _, _, tyX12, rfl, uw12, by decide, tblG_at 979 (by decide +kernel) (by decide +kernel), rfl, tyX12_ok, nmX12, rfl, rfl⟩
def mJ7_fill_53178 : Mt := (yJ7_fill_53178, cJ7_fill_53178, 4, none, { frames := 0, cells := 0, slots := 0, locals := 0 })
theorem zJ7_fill_53178 : Zs mJ7_fill_53178 2 := ⟨tblG_at 851 (by decide +kernel) (by decide +kernel), tblG_at 69 (by decide +kernel) (by decide +kernel), ⟨by decide +kernel, by decide +kernel, by decide +kernel⟩, rfl, rfl, tblG_at 850 (by decide +kernel) (by decide +kernel)⟩
def mJ7_fill_d0a16 : Mt := (yJ7_fill_d0a16, cJ7_fill_d0a16, 5, none, { frames := 0, cells := 0, slots := 0, locals := 0 })
theorem zJ7_fill_d0a16 : Zs mJ7_fill_d0a16 2 := ⟨tblG_at 615 (by decide +kernel) (by decide +kernel), tblG_at 69 (by decide +kernel) (by decide +kernel), ⟨by decide +kernel, by decide +kernel, by decide +kernel⟩, rfl, rfl, tblG_at 614 (by decide +kernel) (by decide +kernel)⟩
def mL_law : Mt := (yL_law, cL_law, 4, some .boolean, room_1)
def mX0_leastEnd : Mt := (yX0_leastEnd, cX0_leastEnd, 1, (some .long), { frames := 2, cells := 0, slots := 0, locals := 47 })
theorem zX0_leastEnd : Zv mX0_leastEnd 0 := ⟨tblG_at 834 (by decide +kernel) (by decide +kernel), tblG_at 64 (by decide +kernel) (by decide +kernel), ⟨by decide +kernel, by decide +kernel, by decide +kernel⟩, rfl, rfl, tblG_at 832 (by decide +kernel) (by decide +kernel), tblG_at 833 (by decide +kernel) (by decide +kernel)⟩
def mX0_leastNumber : Mt := (yX0_leastNumber, cX0_leastNumber, 1, (some .long), { frames := 2, cells := 0, slots := 0, locals := 47 })
theorem zX0_leastNumber : Zv mX0_leastNumber 0 := ⟨tblG_at 825 (by decide +kernel) (by decide +kernel), tblG_at 64 (by decide +kernel) (by decide +kernel), ⟨by decide +kernel, by decide +kernel, by decide +kernel⟩, rfl, rfl, tblG_at 823 (by decide +kernel) (by decide +kernel), tblG_at 824 (by decide +kernel) (by decide +kernel)⟩
def mX0_leastOf : Mt := (yX0_leastOf, cX0_leastOf, 5, (some .long), { frames := 1, cells := 0, slots := 0, locals := 23 })
theorem zX0_leastOf : Zv mX0_leastOf 1 := ⟨tblG_at 829 (by decide +kernel) (by decide +kernel), tblG_at 64 (by decide +kernel) (by decide +kernel), ⟨by decide +kernel, by decide +kernel, by decide +kernel⟩, rfl, rfl, tblG_at 828 (by decide +kernel) (by decide +kernel), tblG_at 22 (by decide +kernel) (by decide +kernel)⟩
def mX0_lowest : Mt := (yX0_lowest, cX0_lowest, 3, (some .int), { frames := 0, cells := 0, slots := 0, locals := 0 })
theorem zX0_lowest : Zv mX0_lowest 0 := ⟨tblG_at 816 (by decide +kernel) (by decide +kernel), tblG_at 64 (by decide +kernel) (by decide +kernel), ⟨by decide +kernel, by decide +kernel, by decide +kernel⟩, rfl, rfl, tblG_at 815 (by decide +kernel) (by decide +kernel), tblG_at 20 (by decide +kernel) (by decide +kernel)⟩
def mX0_makeRoom : Mt := (yX0_makeRoom, cX0_makeRoom, 3, none, { frames := 1, cells := 0, slots := 0, locals := 48 })
theorem zX0_makeRoom : Zv mX0_makeRoom 1 := ⟨tblG_at 820 (by decide +kernel) (by decide +kernel), tblG_at 64 (by decide +kernel) (by decide +kernel), ⟨by decide +kernel, by decide +kernel, by decide +kernel⟩, rfl, rfl, tblG_at 819 (by decide +kernel) (by decide +kernel), tblG_at 21 (by decide +kernel) (by decide +kernel)⟩
def mX0_narrow : Mt := (yX0_narrow, cX0_narrow, 7, none, { frames := 5, cells := 0, slots := 0, locals := 121 })
theorem zX0_narrow : Zv mX0_narrow 3 := ⟨tblG_at 792 (by decide +kernel) (by decide +kernel), tblG_at 64 (by decide +kernel) (by decide +kernel), ⟨by decide +kernel, by decide +kernel, by decide +kernel⟩, rfl, rfl, tblG_at 790 (by decide +kernel) (by decide +kernel), tblG_at 791 (by decide +kernel) (by decide +kernel)⟩
def mX0_put : Mt := (yX0_put, cX0_put, 5, none, { frames := 4, cells := 0, slots := 0, locals := 97 })
theorem zX0_put : Zv mX0_put 4 := ⟨tblG_at 796 (by decide +kernel) (by decide +kernel), tblG_at 64 (by decide +kernel) (by decide +kernel), ⟨by decide +kernel, by decide +kernel, by decide +kernel⟩, rfl, rfl, tblG_at 795 (by decide +kernel) (by decide +kernel), tblG_at 18 (by decide +kernel) (by decide +kernel)⟩
def mX10_addBox : Mt := (yX10_addBox, cX10_addBox, 3, none, { frames := 0, cells := 0, slots := 0, locals := 0 })
theorem zX10_addBox : Zv mX10_addBox 2 := ⟨tblG_at 392 (by decide +kernel) (by decide +kernel), tblG_at 56 (by decide +kernel) (by decide +kernel), ⟨by decide +kernel, by decide +kernel, by decide +kernel⟩, rfl, rfl, tblG_at 390 (by decide +kernel) (by decide +kernel), tblG_at 391 (by decide +kernel) (by decide +kernel)⟩
def mX10_addCoefficient : Mt := (yX10_addCoefficient, cX10_addCoefficient, 3, none, { frames := 1, cells := 0, slots := 0, locals := 21 })
theorem zX10_addCoefficient : Zv mX10_addCoefficient 1 := ⟨tblG_at 377 (by decide +kernel) (by decide +kernel), tblG_at 56 (by decide +kernel) (by decide +kernel), ⟨by decide +kernel, by decide +kernel, by decide +kernel⟩, rfl, rfl, tblG_at 375 (by decide +kernel) (by decide +kernel), tblG_at 376 (by decide +kernel) (by decide +kernel)⟩
def mX10_addPolynomial : Mt := (yX10_addPolynomial, cX10_addPolynomial, 1, none, { frames := 0, cells := 0, slots := 0, locals := 0 })
theorem zX10_addPolynomial : Zv mX10_addPolynomial 0 := ⟨tblG_at 408 (by decide +kernel) (by decide +kernel), tblG_at 56 (by decide +kernel) (by decide +kernel), ⟨by decide +kernel, by decide +kernel, by decide +kernel⟩, rfl, rfl, tblG_at 406 (by decide +kernel) (by decide +kernel), tblG_at 407 (by decide +kernel) (by decide +kernel)⟩
def mX10_at : Mt := (yX10_at, cX10_at, 5, (some .int), { frames := 2, cells := 0, slots := 0, locals := 44 })
theorem zX10_at : Zv mX10_at 2 := ⟨tblG_at 913 (by decide +kernel) (by decide +kernel), tblG_at 56 (by decide +kernel) (by decide +kernel), ⟨by decide +kernel, by decide +kernel, by decide +kernel⟩, rfl, rfl, tblG_at 911 (by decide +kernel) (by decide +kernel), tblG_at 912 (by decide +kernel) (by decide +kernel)⟩
def mX10_become : Mt := (yX10_become, cX10_become, 2, none, { frames := 1, cells := 0, slots := 0, locals := 48 })
theorem zX10_become : Zv mX10_become 1 := ⟨tblG_at 436 (by decide +kernel) (by decide +kernel), tblG_at 56 (by decide +kernel) (by decide +kernel), ⟨by decide +kernel, by decide +kernel, by decide +kernel⟩, rfl, rfl, tblG_at 434 (by decide +kernel) (by decide +kernel), tblG_at 435 (by decide +kernel) (by decide +kernel)⟩
def mX10_boxes : Mt := (yX10_boxes, cX10_boxes, 1, (some .int), { frames := 0, cells := 0, slots := 0, locals := 0 })
theorem zX10_boxes : Zv mX10_boxes 0 := ⟨tblG_at 420 (by decide +kernel) (by decide +kernel), tblG_at 56 (by decide +kernel) (by decide +kernel), ⟨by decide +kernel, by decide +kernel, by decide +kernel⟩, rfl, rfl, tblG_at 418 (by decide +kernel) (by decide +kernel), tblG_at 419 (by decide +kernel) (by decide +kernel)⟩
def mX10_coefficient : Mt := (yX10_coefficient, cX10_coefficient, 3, (some .int), { frames := 1, cells := 0, slots := 0, locals := 22 })
theorem zX10_coefficient : Zv mX10_coefficient 2 := ⟨tblG_at 474 (by decide +kernel) (by decide +kernel), tblG_at 56 (by decide +kernel) (by decide +kernel), ⟨by decide +kernel, by decide +kernel, by decide +kernel⟩, rfl, rfl, tblG_at 472 (by decide +kernel) (by decide +kernel), tblG_at 473 (by decide +kernel) (by decide +kernel)⟩
def mX10_degree : Mt := (yX10_degree, cX10_degree, 2, (some .int), { frames := 1, cells := 0, slots := 0, locals := 21 })
theorem zX10_degree : Zv mX10_degree 1 := ⟨tblG_at 580 (by decide +kernel) (by decide +kernel), tblG_at 56 (by decide +kernel) (by decide +kernel), ⟨by decide +kernel, by decide +kernel, by decide +kernel⟩, rfl, rfl, tblG_at 578 (by decide +kernel) (by decide +kernel), tblG_at 579 (by decide +kernel) (by decide +kernel)⟩
def mX10_empty : Mt := (yX10_empty, cX10_empty, 1, none, { frames := 0, cells := 0, slots := 0, locals := 0 })
theorem zX10_empty : Zv mX10_empty 0 := ⟨tblG_at 346 (by decide +kernel) (by decide +kernel), tblG_at 56 (by decide +kernel) (by decide +kernel), ⟨by decide +kernel, by decide +kernel, by decide +kernel⟩, rfl, rfl, tblG_at 344 (by decide +kernel) (by decide +kernel), tblG_at 345 (by decide +kernel) (by decide +kernel)⟩
def mX10_hasBox : Mt := (yX10_hasBox, cX10_hasBox, 2, (some .boolean), { frames := 0, cells := 0, slots := 0, locals := 0 })
theorem zX10_hasBox : Zv mX10_hasBox 1 := ⟨tblG_at 462 (by decide +kernel) (by decide +kernel), tblG_at 56 (by decide +kernel) (by decide +kernel), ⟨by decide +kernel, by decide +kernel, by decide +kernel⟩, rfl, rfl, tblG_at 460 (by decide +kernel) (by decide +kernel), tblG_at 461 (by decide +kernel) (by decide +kernel)⟩
def mX10_hasCoefficient : Mt := (yX10_hasCoefficient, cX10_hasCoefficient, 3, (some .boolean), { frames := 0, cells := 0, slots := 0, locals := 0 })
theorem zX10_hasCoefficient : Zv mX10_hasCoefficient 2 := ⟨tblG_at 470 (by decide +kernel) (by decide +kernel), tblG_at 56 (by decide +kernel) (by decide +kernel), ⟨by decide +kernel, by decide +kernel, by decide +kernel⟩, rfl, rfl, tblG_at 468 (by decide +kernel) (by decide +kernel), tblG_at 469 (by decide +kernel) (by decide +kernel)⟩
def mX10_hasPolynomial : Mt := (yX10_hasPolynomial, cX10_hasPolynomial, 2, (some .boolean), { frames := 0, cells := 0, slots := 0, locals := 0 })
theorem zX10_hasPolynomial : Zv mX10_hasPolynomial 1 := ⟨tblG_at 381 (by decide +kernel) (by decide +kernel), tblG_at 56 (by decide +kernel) (by decide +kernel), ⟨by decide +kernel, by decide +kernel, by decide +kernel⟩, rfl, rfl, tblG_at 379 (by decide +kernel) (by decide +kernel), tblG_at 380 (by decide +kernel) (by decide +kernel)⟩
def mX10_lower : Mt := (yX10_lower, cX10_lower, 2, (some .int), { frames := 1, cells := 0, slots := 0, locals := 21 })
theorem zX10_lower : Zv mX10_lower 1 := ⟨tblG_at 484 (by decide +kernel) (by decide +kernel), tblG_at 56 (by decide +kernel) (by decide +kernel), ⟨by decide +kernel, by decide +kernel, by decide +kernel⟩, rfl, rfl, tblG_at 482 (by decide +kernel) (by decide +kernel), tblG_at 483 (by decide +kernel) (by decide +kernel)⟩
def mX10_placeBehind : Mt := (yX10_placeBehind, cX10_placeBehind, 3, (some .int), { frames := 0, cells := 0, slots := 0, locals := 0 })
theorem zX10_placeBehind : Zv mX10_placeBehind 2 := ⟨tblG_at 604 (by decide +kernel) (by decide +kernel), tblG_at 56 (by decide +kernel) (by decide +kernel), ⟨by decide +kernel, by decide +kernel, by decide +kernel⟩, rfl, rfl, tblG_at 602 (by decide +kernel) (by decide +kernel), tblG_at 603 (by decide +kernel) (by decide +kernel)⟩
def mX10_polynomials : Mt := (yX10_polynomials, cX10_polynomials, 1, (some .int), { frames := 0, cells := 0, slots := 0, locals := 0 })
theorem zX10_polynomials : Zv mX10_polynomials 0 := ⟨tblG_at 404 (by decide +kernel) (by decide +kernel), tblG_at 56 (by decide +kernel) (by decide +kernel), ⟨by decide +kernel, by decide +kernel, by decide +kernel⟩, rfl, rfl, tblG_at 402 (by decide +kernel) (by decide +kernel), tblG_at 403 (by decide +kernel) (by decide +kernel)⟩
def mX10_putBox : Mt := (yX10_putBox, cX10_putBox, 4, none, { frames := 1, cells := 0, slots := 0, locals := 21 })
theorem zX10_putBox : Zv mX10_putBox 3 := ⟨tblG_at 523 (by decide +kernel) (by decide +kernel), tblG_at 56 (by decide +kernel) (by decide +kernel), ⟨by decide +kernel, by decide +kernel, by decide +kernel⟩, rfl, rfl, tblG_at 521 (by decide +kernel) (by decide +kernel), tblG_at 522 (by decide +kernel) (by decide +kernel)⟩
def mX10_putCoefficient : Mt := (yX10_putCoefficient, cX10_putCoefficient, 4, none, { frames := 1, cells := 0, slots := 0, locals := 22 })
theorem zX10_putCoefficient : Zv mX10_putCoefficient 3 := ⟨tblG_at 508 (by decide +kernel) (by decide +kernel), tblG_at 56 (by decide +kernel) (by decide +kernel), ⟨by decide +kernel, by decide +kernel, by decide +kernel⟩, rfl, rfl, tblG_at 506 (by decide +kernel) (by decide +kernel), tblG_at 507 (by decide +kernel) (by decide +kernel)⟩
def mX10_upper : Mt := (yX10_upper, cX10_upper, 2, (some .int), { frames := 1, cells := 0, slots := 0, locals := 21 })
theorem zX10_upper : Zv mX10_upper 1 := ⟨tblG_at 489 (by decide +kernel) (by decide +kernel), tblG_at 56 (by decide +kernel) (by decide +kernel), ⟨by decide +kernel, by decide +kernel, by decide +kernel⟩, rfl, rfl, tblG_at 487 (by decide +kernel) (by decide +kernel), tblG_at 488 (by decide +kernel) (by decide +kernel)⟩
def mX10_want : Mt := (yX10_want, cX10_want, 3, none, { frames := 1, cells := 0, slots := 0, locals := 21 })
theorem zX10_want : Zv mX10_want 2 := ⟨tblG_at 540 (by decide +kernel) (by decide +kernel), tblG_at 56 (by decide +kernel) (by decide +kernel), ⟨by decide +kernel, by decide +kernel, by decide +kernel⟩, rfl, rfl, tblG_at 538 (by decide +kernel) (by decide +kernel), tblG_at 539 (by decide +kernel) (by decide +kernel)⟩
def mX10_wanted : Mt := (yX10_wanted, cX10_wanted, 2, (some .int), { frames := 1, cells := 0, slots := 0, locals := 21 })
theorem zX10_wanted : Zv mX10_wanted 1 := ⟨tblG_at 531 (by decide +kernel) (by decide +kernel), tblG_at 56 (by decide +kernel) (by decide +kernel), ⟨by decide +kernel, by decide +kernel, by decide +kernel⟩, rfl, rfl, tblG_at 529 (by decide +kernel) (by decide +kernel), tblG_at 530 (by decide +kernel) (by decide +kernel)⟩
def mX11_back : Mt := (yX11_back, cX11_back, 2, (some .int), { frames := 2, cells := 0, slots := 0, locals := 69 })
theorem zX11_back : Zv mX11_back 1 := ⟨tblG_at 928 (by decide +kernel) (by decide +kernel), tblG_at 54 (by decide +kernel) (by decide +kernel), ⟨by decide +kernel, by decide +kernel, by decide +kernel⟩, rfl, rfl, tblG_at 926 (by decide +kernel) (by decide +kernel), tblG_at 927 (by decide +kernel) (by decide +kernel)⟩
def mX11_behind : Mt := (yX11_behind, cX11_behind, 2, (some .int), { frames := 0, cells := 0, slots := 0, locals := 0 })
theorem zX11_behind : Zs mX11_behind 1 := ⟨tblG_at 704 (by decide +kernel) (by decide +kernel), tblG_at 54 (by decide +kernel) (by decide +kernel), ⟨by decide +kernel, by decide +kernel, by decide +kernel⟩, rfl, rfl, tblG_at 703 (by decide +kernel) (by decide +kernel)⟩
def mX11_box : Mt := (yX11_box, cX11_box, 3, (some .long), { frames := 2, cells := 0, slots := 0, locals := 42 })
theorem zX11_box : Zv mX11_box 2 := ⟨tblG_at 480 (by decide +kernel) (by decide +kernel), tblG_at 54 (by decide +kernel) (by decide +kernel), ⟨by decide +kernel, by decide +kernel, by decide +kernel⟩, rfl, rfl, tblG_at 478 (by decide +kernel) (by decide +kernel), tblG_at 479 (by decide +kernel) (by decide +kernel)⟩
def mX11_bracket : Mt := (yX11_bracket, cX11_bracket, 3, (some .int), { frames := 5, cells := 0, slots := 0, locals := 122 })
theorem zX11_bracket : Zv mX11_bracket 2 := ⟨tblG_at 716 (by decide +kernel) (by decide +kernel), tblG_at 54 (by decide +kernel) (by decide +kernel), ⟨by decide +kernel, by decide +kernel, by decide +kernel⟩, rfl, rfl, tblG_at 714 (by decide +kernel) (by decide +kernel), tblG_at 715 (by decide +kernel) (by decide +kernel)⟩
def mX11_brackets : Mt := (yX11_brackets, cX11_brackets, 1, (some .int), { frames := 5, cells := 0, slots := 0, locals := 122 })
theorem zX11_brackets : Zv mX11_brackets 0 := ⟨tblG_at 687 (by decide +kernel) (by decide +kernel), tblG_at 54 (by decide +kernel) (by decide +kernel), ⟨by decide +kernel, by decide +kernel, by decide +kernel⟩, rfl, rfl, tblG_at 685 (by decide +kernel) (by decide +kernel), tblG_at 686 (by decide +kernel) (by decide +kernel)⟩
def mX11_clear : Mt := (yX11_clear, cX11_clear, 2, (some .int), { frames := 1, cells := 0, slots := 0, locals := 20 })
theorem zX11_clear : Zv mX11_clear 0 := ⟨tblG_at 330 (by decide +kernel) (by decide +kernel), tblG_at 54 (by decide +kernel) (by decide +kernel), ⟨by decide +kernel, by decide +kernel, by decide +kernel⟩, rfl, rfl, tblG_at 328 (by decide +kernel) (by decide +kernel), tblG_at 329 (by decide +kernel) (by decide +kernel)⟩
def mX11_coef : Mt := (yX11_coef, cX11_coef, 3, (some .long), { frames := 2, cells := 0, slots := 0, locals := 44 })
theorem zX11_coef : Zv mX11_coef 2 := ⟨tblG_at 466 (by decide +kernel) (by decide +kernel), tblG_at 54 (by decide +kernel) (by decide +kernel), ⟨by decide +kernel, by decide +kernel, by decide +kernel⟩, rfl, rfl, tblG_at 464 (by decide +kernel) (by decide +kernel), tblG_at 465 (by decide +kernel) (by decide +kernel)⟩
def mX11_coefs : Mt := (yX11_coefs, cX11_coefs, 4, (some .int), { frames := 3, cells := 0, slots := 0, locals := 97 })
theorem zX11_coefs : Zv mX11_coefs 3 := ⟨tblG_at 493 (by decide +kernel) (by decide +kernel), tblG_at 54 (by decide +kernel) (by decide +kernel), ⟨by decide +kernel, by decide +kernel, by decide +kernel⟩, rfl, rfl, tblG_at 491 (by decide +kernel) (by decide +kernel), tblG_at 492 (by decide +kernel) (by decide +kernel)⟩
def mX11_commonDivisor : Mt := (yX11_commonDivisor, cX11_commonDivisor, 11, (some .long), { frames := 0, cells := 0, slots := 0, locals := 0 })
theorem zX11_commonDivisor : Zs mX11_commonDivisor 2 := ⟨tblG_at 652 (by decide +kernel) (by decide +kernel), tblG_at 54 (by decide +kernel) (by decide +kernel), ⟨by decide +kernel, by decide +kernel, by decide +kernel⟩, rfl, rfl, tblG_at 651 (by decide +kernel) (by decide +kernel)⟩
def mX11_control : Mt := (yX11_control, cX11_control, 5, (some .long), { frames := 4, cells := 0, slots := 0, locals := 99 })
theorem zX11_control : Zv mX11_control 4 := ⟨tblG_at 559 (by decide +kernel) (by decide +kernel), tblG_at 54 (by decide +kernel) (by decide +kernel), ⟨by decide +kernel, by decide +kernel, by decide +kernel⟩, rfl, rfl, tblG_at 557 (by decide +kernel) (by decide +kernel), tblG_at 558 (by decide +kernel) (by decide +kernel)⟩
def mX11_count : Mt := (yX11_count, cX11_count, 2, (some .int), { frames := 2, cells := 0, slots := 0, locals := 42 })
theorem zX11_count : Zv mX11_count 1 := ⟨tblG_at 932 (by decide +kernel) (by decide +kernel), tblG_at 54 (by decide +kernel) (by decide +kernel), ⟨by decide +kernel, by decide +kernel, by decide +kernel⟩, rfl, rfl, tblG_at 930 (by decide +kernel) (by decide +kernel), tblG_at 931 (by decide +kernel) (by decide +kernel)⟩
def mX11_end : Mt := (yX11_end, cX11_end, 5, (some .long), { frames := 3, cells := 0, slots := 0, locals := 61 })
theorem zX11_end : Zv mX11_end 3 := ⟨tblG_at 668 (by decide +kernel) (by decide +kernel), tblG_at 54 (by decide +kernel) (by decide +kernel), ⟨by decide +kernel, by decide +kernel, by decide +kernel⟩, rfl, rfl, tblG_at 666 (by decide +kernel) (by decide +kernel), tblG_at 667 (by decide +kernel) (by decide +kernel)⟩
def mX11_ends : Mt := (yX11_ends, cX11_ends, 4, (some .int), { frames := 3, cells := 0, slots := 0, locals := 96 })
theorem zX11_ends : Zv mX11_ends 3 := ⟨tblG_at 512 (by decide +kernel) (by decide +kernel), tblG_at 54 (by decide +kernel) (by decide +kernel), ⟨by decide +kernel, by decide +kernel, by decide +kernel⟩, rfl, rfl, tblG_at 510 (by decide +kernel) (by decide +kernel), tblG_at 511 (by decide +kernel) (by decide +kernel)⟩
def mX11_first : Mt := (yX11_first, cX11_first, 1, (some .int), { frames := 5, cells := 0, slots := 0, locals := 124 })
theorem zX11_first : Zv mX11_first 0 := ⟨tblG_at 873 (by decide +kernel) (by decide +kernel), tblG_at 54 (by decide +kernel) (by decide +kernel), ⟨by decide +kernel, by decide +kernel, by decide +kernel⟩, rfl, rfl, tblG_at 871 (by decide +kernel) (by decide +kernel), tblG_at 872 (by decide +kernel) (by decide +kernel)⟩
def mX11_forget : Mt := (yX11_forget, cX11_forget, 2, (some .int), { frames := 1, cells := 0, slots := 0, locals := 20 })
theorem zX11_forget : Zv mX11_forget 0 := ⟨tblG_at 901 (by decide +kernel) (by decide +kernel), tblG_at 54 (by decide +kernel) (by decide +kernel), ⟨by decide +kernel, by decide +kernel, by decide +kernel⟩, rfl, rfl, tblG_at 899 (by decide +kernel) (by decide +kernel), tblG_at 900 (by decide +kernel) (by decide +kernel)⟩
def mX11_house : Mt := (yX11_house, cX11_house, 2, (some .int), { frames := 6, cells := 0, slots := 0, locals := 134 })
theorem zX11_house : Zv mX11_house 0 := ⟨tblG_at 338 (by decide +kernel) (by decide +kernel), tblG_at 54 (by decide +kernel) (by decide +kernel), ⟨by decide +kernel, by decide +kernel, by decide +kernel⟩, rfl, rfl, tblG_at 336 (by decide +kernel) (by decide +kernel), tblG_at 337 (by decide +kernel) (by decide +kernel)⟩
def mX11_isCoefficient : Mt := (yX11_isCoefficient, cX11_isCoefficient, 1, (some .boolean), { frames := 1, cells := 0, slots := 0, locals := 22 })
theorem zX11_isCoefficient : Zs mX11_isCoefficient 1 := ⟨tblG_at 373 (by decide +kernel) (by decide +kernel), tblG_at 54 (by decide +kernel) (by decide +kernel), ⟨by decide +kernel, by decide +kernel, by decide +kernel⟩, rfl, rfl, tblG_at 372 (by decide +kernel) (by decide +kernel)⟩
def mX11_isImage : Mt := (yX11_isImage, cX11_isImage, 2, (some .boolean), { frames := 0, cells := 0, slots := 0, locals := 0 })
theorem zX11_isImage : Zv mX11_isImage 1 := ⟨tblG_at 924 (by decide +kernel) (by decide +kernel), tblG_at 54 (by decide +kernel) (by decide +kernel), ⟨by decide +kernel, by decide +kernel, by decide +kernel⟩, rfl, rfl, tblG_at 923 (by decide +kernel) (by decide +kernel), tblG_at 24 (by decide +kernel) (by decide +kernel)⟩
def mX11_isNode : Mt := (yX11_isNode, cX11_isNode, 1, (some .boolean), { frames := 1, cells := 0, slots := 0, locals := 22 })
theorem zX11_isNode : Zs mX11_isNode 1 := ⟨tblG_at 562 (by decide +kernel) (by decide +kernel), tblG_at 54 (by decide +kernel) (by decide +kernel), ⟨by decide +kernel, by decide +kernel, by decide +kernel⟩, rfl, rfl, tblG_at 561 (by decide +kernel) (by decide +kernel)⟩
def mX11_isPlace : Mt := (yX11_isPlace, cX11_isPlace, 1, (some .boolean), { frames := 1, cells := 0, slots := 0, locals := 22 })
theorem zX11_isPlace : Zs mX11_isPlace 1 := ⟨tblG_at 388 (by decide +kernel) (by decide +kernel), tblG_at 54 (by decide +kernel) (by decide +kernel), ⟨by decide +kernel, by decide +kernel, by decide +kernel⟩, rfl, rfl, tblG_at 387 (by decide +kernel) (by decide +kernel)⟩
def mX11_isWithin : Mt := (yX11_isWithin, cX11_isWithin, 3, (some .boolean), { frames := 0, cells := 0, slots := 0, locals := 0 })
theorem zX11_isWithin : Zs mX11_isWithin 3 := ⟨tblG_at 314 (by decide +kernel) (by decide +kernel), tblG_at 54 (by decide +kernel) (by decide +kernel), ⟨by decide +kernel, by decide +kernel, by decide +kernel⟩, rfl, rfl, tblG_at 313 (by decide +kernel) (by decide +kernel)⟩
def mX11_keep : Mt := (yX11_keep, cX11_keep, 2, (some .int), { frames := 2, cells := 0, slots := 0, locals := 69 })
theorem zX11_keep : Zv mX11_keep 1 := ⟨tblG_at 920 (by decide +kernel) (by decide +kernel), tblG_at 54 (by decide +kernel) (by decide +kernel), ⟨by decide +kernel, by decide +kernel, by decide +kernel⟩, rfl, rfl, tblG_at 918 (by decide +kernel) (by decide +kernel), tblG_at 919 (by decide +kernel) (by decide +kernel)⟩
def mX11_makes : Mt := (yX11_makes, cX11_makes, 1, (some .int), { frames := 6, cells := 0, slots := 0, locals := 145 })
theorem zX11_makes : Zv mX11_makes 0 := ⟨tblG_at 728 (by decide +kernel) (by decide +kernel), tblG_at 54 (by decide +kernel) (by decide +kernel), ⟨by decide +kernel, by decide +kernel, by decide +kernel⟩, rfl, rfl, tblG_at 726 (by decide +kernel) (by decide +kernel), tblG_at 727 (by decide +kernel) (by decide +kernel)⟩
def mX11_narrowed : Mt := (yX11_narrowed, cX11_narrowed, 6, (some .long), { frames := 6, cells := 0, slots := 0, locals := 147 })
theorem zX11_narrowed : Zv mX11_narrowed 3 := ⟨tblG_at 788 (by decide +kernel) (by decide +kernel), tblG_at 54 (by decide +kernel) (by decide +kernel), ⟨by decide +kernel, by decide +kernel, by decide +kernel⟩, rfl, rfl, tblG_at 786 (by decide +kernel) (by decide +kernel), tblG_at 787 (by decide +kernel) (by decide +kernel)⟩
def mX11_paper : Mt := (yX11_paper, cX11_paper, 3, (some .int), { frames := 6, cells := 0, slots := 0, locals := 145 })
theorem zX11_paper : Zv mX11_paper 1 := ⟨tblG_at 757 (by decide +kernel) (by decide +kernel), tblG_at 54 (by decide +kernel) (by decide +kernel), ⟨by decide +kernel, by decide +kernel, by decide +kernel⟩, rfl, rfl, tblG_at 755 (by decide +kernel) (by decide +kernel), tblG_at 756 (by decide +kernel) (by decide +kernel)⟩
def mX11_part : Mt := (yX11_part, cX11_part, 7, (some .long), { frames := 1, cells := 0, slots := 0, locals := 30 })
theorem zX11_part : Zs mX11_part 3 := ⟨tblG_at 646 (by decide +kernel) (by decide +kernel), tblG_at 54 (by decide +kernel) (by decide +kernel), ⟨by decide +kernel, by decide +kernel, by decide +kernel⟩, rfl, rfl, tblG_at 645 (by decide +kernel) (by decide +kernel)⟩
def mX11_partsOf : Mt := (yX11_partsOf, cX11_partsOf, 3, (some .int), { frames := 0, cells := 0, slots := 0, locals := 0 })
theorem zX11_partsOf : Zs mX11_partsOf 1 := ⟨tblG_at 600 (by decide +kernel) (by decide +kernel), tblG_at 54 (by decide +kernel) (by decide +kernel), ⟨by decide +kernel, by decide +kernel, by decide +kernel⟩, rfl, rfl, tblG_at 599 (by decide +kernel) (by decide +kernel)⟩
def mX11_proves : Mt := (yX11_proves, cX11_proves, 1, (some .int), { frames := 6, cells := 0, slots := 0, locals := 150 })
theorem zX11_proves : Zv mX11_proves 0 := ⟨tblG_at 773 (by decide +kernel) (by decide +kernel), tblG_at 54 (by decide +kernel) (by decide +kernel), ⟨by decide +kernel, by decide +kernel, by decide +kernel⟩, rfl, rfl, tblG_at 771 (by decide +kernel) (by decide +kernel), tblG_at 772 (by decide +kernel) (by decide +kernel)⟩
def mX11_sees : Mt := (yX11_sees, cX11_sees, 3, (some .int), { frames := 2, cells := 0, slots := 0, locals := 42 })
theorem zX11_sees : Zv mX11_sees 2 := ⟨tblG_at 885 (by decide +kernel) (by decide +kernel), tblG_at 54 (by decide +kernel) (by decide +kernel), ⟨by decide +kernel, by decide +kernel, by decide +kernel⟩, rfl, rfl, tblG_at 883 (by decide +kernel) (by decide +kernel), tblG_at 884 (by decide +kernel) (by decide +kernel)⟩
def mX11_signOf : Mt := (yX11_signOf, cX11_signOf, 2, (some .int), { frames := 0, cells := 0, slots := 0, locals := 0 })
theorem zX11_signOf : Zs mX11_signOf 1 := ⟨tblG_at 664 (by decide +kernel) (by decide +kernel), tblG_at 54 (by decide +kernel) (by decide +kernel), ⟨by decide +kernel, by decide +kernel, by decide +kernel⟩, rfl, rfl, tblG_at 663 (by decide +kernel) (by decide +kernel)⟩
def mX11_sure : Mt := (yX11_sure, cX11_sure, 2, (some .int), { frames := 5, cells := 0, slots := 0, locals := 126 })
theorem zX11_sure : Zv mX11_sure 1 := ⟨tblG_at 843 (by decide +kernel) (by decide +kernel), tblG_at 54 (by decide +kernel) (by decide +kernel), ⟨by decide +kernel, by decide +kernel, by decide +kernel⟩, rfl, rfl, tblG_at 841 (by decide +kernel) (by decide +kernel), tblG_at 842 (by decide +kernel) (by decide +kernel)⟩
def mX11_takes : Mt := (yX11_takes, cX11_takes, 3, (some .int), { frames := 1, cells := 0, slots := 0, locals := 22 })
theorem zX11_takes : Zv mX11_takes 2 := ⟨tblG_at 457 (by decide +kernel) (by decide +kernel), tblG_at 54 (by decide +kernel) (by decide +kernel), ⟨by decide +kernel, by decide +kernel, by decide +kernel⟩, rfl, rfl, tblG_at 455 (by decide +kernel) (by decide +kernel), tblG_at 456 (by decide +kernel) (by decide +kernel)⟩
def mX11_type : Mt := (yX11_type, cX11_type, 2, (some .int), { frames := 1, cells := 0, slots := 0, locals := 22 })
theorem zX11_type : Zv mX11_type 1 := ⟨tblG_at 311 (by decide +kernel) (by decide +kernel), tblG_at 54 (by decide +kernel) (by decide +kernel), ⟨by decide +kernel, by decide +kernel, by decide +kernel⟩, rfl, rfl, tblG_at 309 (by decide +kernel) (by decide +kernel), tblG_at 310 (by decide +kernel) (by decide +kernel)⟩
def mX11_undo : Mt := (yX11_undo, cX11_undo, 1, (some .int), { frames := 3, cells := 0, slots := 0, locals := 68 })
theorem zX11_undo : Zv mX11_undo 0 := ⟨tblG_at 544 (by decide +kernel) (by decide +kernel), tblG_at 54 (by decide +kernel) (by decide +kernel), ⟨by decide +kernel, by decide +kernel, by decide +kernel⟩, rfl, rfl, tblG_at 542 (by decide +kernel) (by decide +kernel), tblG_at 543 (by decide +kernel) (by decide +kernel)⟩
def mX11_unseen : Mt := (yX11_unseen, cX11_unseen, 3, (some .int), { frames := 4, cells := 0, slots := 0, locals := 91 })
theorem zX11_unseen : Zv mX11_unseen 0 := ⟨tblG_at 905 (by decide +kernel) (by decide +kernel), tblG_at 54 (by decide +kernel) (by decide +kernel), ⟨by decide +kernel, by decide +kernel, by decide +kernel⟩, rfl, rfl, tblG_at 903 (by decide +kernel) (by decide +kernel), tblG_at 904 (by decide +kernel) (by decide +kernel)⟩
def mX11_value : Mt := (yX11_value, cX11_value, 5, (some .long), { frames := 4, cells := 0, slots := 0, locals := 97 })
theorem zX11_value : Zv mX11_value 3 := ⟨tblG_at 675 (by decide +kernel) (by decide +kernel), tblG_at 54 (by decide +kernel) (by decide +kernel), ⟨by decide +kernel, by decide +kernel, by decide +kernel⟩, rfl, rfl, tblG_at 673 (by decide +kernel) (by decide +kernel), tblG_at 674 (by decide +kernel) (by decide +kernel)⟩
def mX11_variation : Mt := (yX11_variation, cX11_variation, 3, (some .int), { frames := 4, cells := 0, slots := 0, locals := 99 })
theorem zX11_variation : Zv mX11_variation 2 := ⟨tblG_at 656 (by decide +kernel) (by decide +kernel), tblG_at 54 (by decide +kernel) (by decide +kernel), ⟨by decide +kernel, by decide +kernel, by decide +kernel⟩, rfl, rfl, tblG_at 654 (by decide +kernel) (by decide +kernel), tblG_at 655 (by decide +kernel) (by decide +kernel)⟩
def mX11_wish : Mt := (yX11_wish, cX11_wish, 2, (some .long), { frames := 2, cells := 0, slots := 0, locals := 42 })
theorem zX11_wish : Zv mX11_wish 1 := ⟨tblG_at 881 (by decide +kernel) (by decide +kernel), tblG_at 54 (by decide +kernel) (by decide +kernel), ⟨by decide +kernel, by decide +kernel, by decide +kernel⟩, rfl, rfl, tblG_at 879 (by decide +kernel) (by decide +kernel), tblG_at 880 (by decide +kernel) (by decide +kernel)⟩
def mX11_wishes : Mt := (yX11_wishes, cX11_wishes, 3, (some .int), { frames := 3, cells := 0, slots := 0, locals := 96 })
theorem zX11_wishes : Zv mX11_wishes 2 := ⟨tblG_at 527 (by decide +kernel) (by decide +kernel), tblG_at 54 (by decide +kernel) (by decide +kernel), ⟨by decide +kernel, by decide +kernel, by decide +kernel⟩, rfl, rfl, tblG_at 525 (by decide +kernel) (by decide +kernel), tblG_at 526 (by decide +kernel) (by decide +kernel)⟩
def mX11_witness : Mt := (yX11_witness, cX11_witness, 2, (some .long), { frames := 6, cells := 0, slots := 0, locals := 145 })
theorem zX11_witness : Zv mX11_witness 1 := ⟨tblG_at 765 (by decide +kernel) (by decide +kernel), tblG_at 54 (by decide +kernel) (by decide +kernel), ⟨by decide +kernel, by decide +kernel, by decide +kernel⟩, rfl, rfl, tblG_at 763 (by decide +kernel) (by decide +kernel), tblG_at 764 (by decide +kernel) (by decide +kernel)⟩
def mX12_back : Mt := (yX12_back, cX12_back, 3, (some .int), { frames := 1, cells := 0, slots := 0, locals := 22 })
theorem zX12_back : Zv mX12_back 1 := ⟨tblG_at 1297 (by decide +kernel) (by decide +kernel), tblG_at 66 (by decide +kernel) (by decide +kernel), ⟨by decide +kernel, by decide +kernel, by decide +kernel⟩, rfl, rfl, tblG_at 1295 (by decide +kernel) (by decide +kernel), tblG_at 1296 (by decide +kernel) (by decide +kernel)⟩
def mX12_becomes : Mt := (yX12_becomes, cX12_becomes, 2, none, { frames := 0, cells := 0, slots := 0, locals := 0 })
theorem zX12_becomes : Zv mX12_becomes 0 := ⟨tblG_at 946 (by decide +kernel) (by decide +kernel), tblG_at 66 (by decide +kernel) (by decide +kernel), ⟨by decide +kernel, by decide +kernel, by decide +kernel⟩, rfl, rfl, tblG_at 945 (by decide +kernel) (by decide +kernel), tblG_at 25 (by decide +kernel) (by decide +kernel)⟩
def mX12_box : Mt := (yX12_box, cX12_box, 3, (some .long), { frames := 2, cells := 0, slots := 0, locals := 43 })
theorem zX12_box : Zv mX12_box 2 := ⟨tblG_at 1114 (by decide +kernel) (by decide +kernel), tblG_at 66 (by decide +kernel) (by decide +kernel), ⟨by decide +kernel, by decide +kernel, by decide +kernel⟩, rfl, rfl, tblG_at 1112 (by decide +kernel) (by decide +kernel), tblG_at 1113 (by decide +kernel) (by decide +kernel)⟩
def mX12_boxTold : Mt := (yX12_boxTold, cX12_boxTold, 2, (some .boolean), { frames := 2, cells := 0, slots := 0, locals := 46 })
theorem zX12_boxTold : Zv mX12_boxTold 0 := ⟨tblG_at 1089 (by decide +kernel) (by decide +kernel), tblG_at 66 (by decide +kernel) (by decide +kernel), ⟨by decide +kernel, by decide +kernel, by decide +kernel⟩, rfl, rfl, tblG_at 1088 (by decide +kernel) (by decide +kernel), tblG_at 31 (by decide +kernel) (by decide +kernel)⟩
def mX12_bracket : Mt := (yX12_bracket, cX12_bracket, 3, (some .int), { frames := 6, cells := 0, slots := 0, locals := 153 })
theorem zX12_bracket : Zv mX12_bracket 2 := ⟨tblG_at 1217 (by decide +kernel) (by decide +kernel), tblG_at 66 (by decide +kernel) (by decide +kernel), ⟨by decide +kernel, by decide +kernel, by decide +kernel⟩, rfl, rfl, tblG_at 1215 (by decide +kernel) (by decide +kernel), tblG_at 1216 (by decide +kernel) (by decide +kernel)⟩
def mX12_brackets : Mt := (yX12_brackets, cX12_brackets, 1, (some .int), { frames := 6, cells := 0, slots := 0, locals := 153 })
theorem zX12_brackets : Zv mX12_brackets 0 := ⟨tblG_at 1201 (by decide +kernel) (by decide +kernel), tblG_at 66 (by decide +kernel) (by decide +kernel), ⟨by decide +kernel, by decide +kernel, by decide +kernel⟩, rfl, rfl, tblG_at 1199 (by decide +kernel) (by decide +kernel), tblG_at 1200 (by decide +kernel) (by decide +kernel)⟩
def mX12_brings : Mt := (yX12_brings, cX12_brings, 3, none, { frames := 5, cells := 0, slots := 0, locals := 131 })
theorem zX12_brings : Zv mX12_brings 0 := ⟨tblG_at 1205 (by decide +kernel) (by decide +kernel), tblG_at 66 (by decide +kernel) (by decide +kernel), ⟨by decide +kernel, by decide +kernel, by decide +kernel⟩, rfl, rfl, tblG_at 1204 (by decide +kernel) (by decide +kernel), tblG_at 43 (by decide +kernel) (by decide +kernel)⟩
def mX12_choose : Mt := (yX12_choose, cX12_choose, 5, (some .long), { frames := 0, cells := 0, slots := 0, locals := 0 })
theorem zX12_choose : Zs mX12_choose 2 := ⟨tblG_at 1171 (by decide +kernel) (by decide +kernel), tblG_at 66 (by decide +kernel) (by decide +kernel), ⟨by decide +kernel, by decide +kernel, by decide +kernel⟩, rfl, rfl, tblG_at 1170 (by decide +kernel) (by decide +kernel)⟩
def mX12_clear : Mt := (yX12_clear, cX12_clear, 2, (some .int), { frames := 0, cells := 0, slots := 0, locals := 0 })
theorem zX12_clear : Zv mX12_clear 0 := ⟨tblG_at 1061 (by decide +kernel) (by decide +kernel), tblG_at 66 (by decide +kernel) (by decide +kernel), ⟨by decide +kernel, by decide +kernel, by decide +kernel⟩, rfl, rfl, tblG_at 1059 (by decide +kernel) (by decide +kernel), tblG_at 1060 (by decide +kernel) (by decide +kernel)⟩
def mX12_coef : Mt := (yX12_coef, cX12_coef, 3, (some .long), { frames := 3, cells := 0, slots := 0, locals := 65 })
theorem zX12_coef : Zv mX12_coef 2 := ⟨tblG_at 1105 (by decide +kernel) (by decide +kernel), tblG_at 66 (by decide +kernel) (by decide +kernel), ⟨by decide +kernel, by decide +kernel, by decide +kernel⟩, rfl, rfl, tblG_at 1103 (by decide +kernel) (by decide +kernel), tblG_at 1104 (by decide +kernel) (by decide +kernel)⟩
def mX12_coefs : Mt := (yX12_coefs, cX12_coefs, 5, (some .int), { frames := 3, cells := 0, slots := 0, locals := 65 })
theorem zX12_coefs : Zv mX12_coefs 3 := ⟨tblG_at 1118 (by decide +kernel) (by decide +kernel), tblG_at 66 (by decide +kernel) (by decide +kernel), ⟨by decide +kernel, by decide +kernel, by decide +kernel⟩, rfl, rfl, tblG_at 1116 (by decide +kernel) (by decide +kernel), tblG_at 1117 (by decide +kernel) (by decide +kernel)⟩
def mX12_common : Mt := (yX12_common, cX12_common, 10, (some .long), { frames := 0, cells := 0, slots := 0, locals := 0 })
theorem zX12_common : Zs mX12_common 2 := ⟨tblG_at 1174 (by decide +kernel) (by decide +kernel), tblG_at 66 (by decide +kernel) (by decide +kernel), ⟨by decide +kernel, by decide +kernel, by decide +kernel⟩, rfl, rfl, tblG_at 1173 (by decide +kernel) (by decide +kernel)⟩
def mX12_control : Mt := (yX12_control, cX12_control, 5, (some .long), { frames := 4, cells := 0, slots := 0, locals := 105 })
theorem zX12_control : Zv mX12_control 4 := ⟨tblG_at 1138 (by decide +kernel) (by decide +kernel), tblG_at 66 (by decide +kernel) (by decide +kernel), ⟨by decide +kernel, by decide +kernel, by decide +kernel⟩, rfl, rfl, tblG_at 1136 (by decide +kernel) (by decide +kernel), tblG_at 1137 (by decide +kernel) (by decide +kernel)⟩
def mX12_count : Mt := (yX12_count, cX12_count, 2, (some .int), { frames := 2, cells := 0, slots := 0, locals := 43 })
theorem zX12_count : Zv mX12_count 1 := ⟨tblG_at 1301 (by decide +kernel) (by decide +kernel), tblG_at 66 (by decide +kernel) (by decide +kernel), ⟨by decide +kernel, by decide +kernel, by decide +kernel⟩, rfl, rfl, tblG_at 1299 (by decide +kernel) (by decide +kernel), tblG_at 1300 (by decide +kernel) (by decide +kernel)⟩
def mX12_end : Mt := (yX12_end, cX12_end, 4, (some .long), { frames := 3, cells := 0, slots := 0, locals := 65 })
theorem zX12_end : Zv mX12_end 3 := ⟨tblG_at 1189 (by decide +kernel) (by decide +kernel), tblG_at 66 (by decide +kernel) (by decide +kernel), ⟨by decide +kernel, by decide +kernel, by decide +kernel⟩, rfl, rfl, tblG_at 1187 (by decide +kernel) (by decide +kernel), tblG_at 1188 (by decide +kernel) (by decide +kernel)⟩
def mX12_ends : Mt := (yX12_ends, cX12_ends, 4, (some .int), { frames := 2, cells := 0, slots := 0, locals := 43 })
theorem zX12_ends : Zv mX12_ends 3 := ⟨tblG_at 1126 (by decide +kernel) (by decide +kernel), tblG_at 66 (by decide +kernel) (by decide +kernel), ⟨by decide +kernel, by decide +kernel, by decide +kernel⟩, rfl, rfl, tblG_at 1124 (by decide +kernel) (by decide +kernel), tblG_at 1125 (by decide +kernel) (by decide +kernel)⟩
def mX12_finds : Mt := (yX12_finds, cX12_finds, 3, none, { frames := 0, cells := 0, slots := 0, locals := 0 })
theorem zX12_finds : Zv mX12_finds 2 := ⟨tblG_at 1213 (by decide +kernel) (by decide +kernel), tblG_at 66 (by decide +kernel) (by decide +kernel), ⟨by decide +kernel, by decide +kernel, by decide +kernel⟩, rfl, rfl, tblG_at 1212 (by decide +kernel) (by decide +kernel), tblG_at 45 (by decide +kernel) (by decide +kernel)⟩
def mX12_first : Mt := (yX12_first, cX12_first, 2, (some .int), { frames := 6, cells := 0, slots := 0, locals := 154 })
theorem zX12_first : Zv mX12_first 0 := ⟨tblG_at 1269 (by decide +kernel) (by decide +kernel), tblG_at 66 (by decide +kernel) (by decide +kernel), ⟨by decide +kernel, by decide +kernel, by decide +kernel⟩, rfl, rfl, tblG_at 1267 (by decide +kernel) (by decide +kernel), tblG_at 1268 (by decide +kernel) (by decide +kernel)⟩
def mX12_forget : Mt := (yX12_forget, cX12_forget, 2, (some .int), { frames := 0, cells := 0, slots := 0, locals := 0 })
theorem zX12_forget : Zv mX12_forget 0 := ⟨tblG_at 1281 (by decide +kernel) (by decide +kernel), tblG_at 66 (by decide +kernel) (by decide +kernel), ⟨by decide +kernel, by decide +kernel, by decide +kernel⟩, rfl, rfl, tblG_at 1279 (by decide +kernel) (by decide +kernel), tblG_at 1280 (by decide +kernel) (by decide +kernel)⟩
def mX12_fraction : Mt := (yX12_fraction, cX12_fraction, 7, (some .long), { frames := 1, cells := 0, slots := 0, locals := 29 })
theorem zX12_fraction : Zs mX12_fraction 3 := ⟨tblG_at 1177 (by decide +kernel) (by decide +kernel), tblG_at 66 (by decide +kernel) (by decide +kernel), ⟨by decide +kernel, by decide +kernel, by decide +kernel⟩, rfl, rfl, tblG_at 1176 (by decide +kernel) (by decide +kernel)⟩
def mX12_highOf : Mt := (yX12_highOf, cX12_highOf, 2, (some .int), { frames := 2, cells := 0, slots := 0, locals := 44 })
theorem zX12_highOf : Zv mX12_highOf 1 := ⟨tblG_at 1193 (by decide +kernel) (by decide +kernel), tblG_at 66 (by decide +kernel) (by decide +kernel), ⟨by decide +kernel, by decide +kernel, by decide +kernel⟩, rfl, rfl, tblG_at 1192 (by decide +kernel) (by decide +kernel), tblG_at 42 (by decide +kernel) (by decide +kernel)⟩
def mX12_house : Mt := (yX12_house, cX12_house, 3, (some .int), { frames := 3, cells := 0, slots := 0, locals := 68 })
theorem zX12_house : Zv mX12_house 0 := ⟨tblG_at 1065 (by decide +kernel) (by decide +kernel), tblG_at 66 (by decide +kernel) (by decide +kernel), ⟨by decide +kernel, by decide +kernel, by decide +kernel⟩, rfl, rfl, tblG_at 1063 (by decide +kernel) (by decide +kernel), tblG_at 1064 (by decide +kernel) (by decide +kernel)⟩
def mX12_in : Mt := (yX12_in, cX12_in, 3, (some .boolean), { frames := 0, cells := 0, slots := 0, locals := 0 })
theorem zX12_in : Zs mX12_in 3 := ⟨tblG_at 1057 (by decide +kernel) (by decide +kernel), tblG_at 66 (by decide +kernel) (by decide +kernel), ⟨by decide +kernel, by decide +kernel, by decide +kernel⟩, rfl, rfl, tblG_at 1056 (by decide +kernel) (by decide +kernel)⟩
def mX12_isAbove : Mt := (yX12_isAbove, cX12_isAbove, 7, (some .boolean), { frames := 4, cells := 0, slots := 0, locals := 105 })
theorem zX12_isAbove : Zv mX12_isAbove 4 := ⟨tblG_at 1229 (by decide +kernel) (by decide +kernel), tblG_at 66 (by decide +kernel) (by decide +kernel), ⟨by decide +kernel, by decide +kernel, by decide +kernel⟩, rfl, rfl, tblG_at 1228 (by decide +kernel) (by decide +kernel), tblG_at 47 (by decide +kernel) (by decide +kernel)⟩
def mX12_isBox : Mt := (yX12_isBox, cX12_isBox, 2, (some .boolean), { frames := 1, cells := 0, slots := 0, locals := 22 })
theorem zX12_isBox : Zv mX12_isBox 1 := ⟨tblG_at 1101 (by decide +kernel) (by decide +kernel), tblG_at 66 (by decide +kernel) (by decide +kernel), ⟨by decide +kernel, by decide +kernel, by decide +kernel⟩, rfl, rfl, tblG_at 1100 (by decide +kernel) (by decide +kernel), tblG_at 33 (by decide +kernel) (by decide +kernel)⟩
def mX12_isBroken : Mt := (yX12_isBroken, cX12_isBroken, 4, (some .boolean), { frames := 5, cells := 0, slots := 0, locals := 131 })
theorem zX12_isBroken : Zv mX12_isBroken 1 := ⟨tblG_at 1265 (by decide +kernel) (by decide +kernel), tblG_at 66 (by decide +kernel) (by decide +kernel), ⟨by decide +kernel, by decide +kernel, by decide +kernel⟩, rfl, rfl, tblG_at 1264 (by decide +kernel) (by decide +kernel), tblG_at 51 (by decide +kernel) (by decide +kernel)⟩
def mX12_isCoefficient : Mt := (yX12_isCoefficient, cX12_isCoefficient, 3, (some .boolean), { frames := 2, cells := 0, slots := 0, locals := 43 })
theorem zX12_isCoefficient : Zv mX12_isCoefficient 2 := ⟨tblG_at 1109 (by decide +kernel) (by decide +kernel), tblG_at 66 (by decide +kernel) (by decide +kernel), ⟨by decide +kernel, by decide +kernel, by decide +kernel⟩, rfl, rfl, tblG_at 1108 (by decide +kernel) (by decide +kernel), tblG_at 34 (by decide +kernel) (by decide +kernel)⟩
def mX12_isHeld : Mt := (yX12_isHeld, cX12_isHeld, 4, (some .boolean), { frames := 5, cells := 0, slots := 0, locals := 131 })
theorem zX12_isHeld : Zv mX12_isHeld 1 := ⟨tblG_at 1261 (by decide +kernel) (by decide +kernel), tblG_at 66 (by decide +kernel) (by decide +kernel), ⟨by decide +kernel, by decide +kernel, by decide +kernel⟩, rfl, rfl, tblG_at 1260 (by decide +kernel) (by decide +kernel), tblG_at 50 (by decide +kernel) (by decide +kernel)⟩
def mX12_isKind : Mt := (yX12_isKind, cX12_isKind, 2, (some .boolean), { frames := 0, cells := 0, slots := 0, locals := 0 })
theorem zX12_isKind : Zv mX12_isKind 1 := ⟨tblG_at 1077 (by decide +kernel) (by decide +kernel), tblG_at 66 (by decide +kernel) (by decide +kernel), ⟨by decide +kernel, by decide +kernel, by decide +kernel⟩, rfl, rfl, tblG_at 1076 (by decide +kernel) (by decide +kernel), tblG_at 28 (by decide +kernel) (by decide +kernel)⟩
def mX12_isNode : Mt := (yX12_isNode, cX12_isNode, 1, (some .boolean), { frames := 1, cells := 0, slots := 0, locals := 22 })
theorem zX12_isNode : Zs mX12_isNode 1 := ⟨tblG_at 1141 (by decide +kernel) (by decide +kernel), tblG_at 66 (by decide +kernel) (by decide +kernel), ⟨by decide +kernel, by decide +kernel, by decide +kernel⟩, rfl, rfl, tblG_at 1140 (by decide +kernel) (by decide +kernel)⟩
def mX12_isPolynomial : Mt := (yX12_isPolynomial, cX12_isPolynomial, 2, (some .boolean), { frames := 1, cells := 0, slots := 0, locals := 22 })
theorem zX12_isPolynomial : Zv mX12_isPolynomial 1 := ⟨tblG_at 1097 (by decide +kernel) (by decide +kernel), tblG_at 66 (by decide +kernel) (by decide +kernel), ⟨by decide +kernel, by decide +kernel, by decide +kernel⟩, rfl, rfl, tblG_at 1096 (by decide +kernel) (by decide +kernel), tblG_at 32 (by decide +kernel) (by decide +kernel)⟩
def mX12_isTaken : Mt := (yX12_isTaken, cX12_isTaken, 1, (some .boolean), { frames := 2, cells := 0, slots := 0, locals := 43 })
theorem zX12_isTaken : Zv mX12_isTaken 0 := ⟨tblG_at 1145 (by decide +kernel) (by decide +kernel), tblG_at 66 (by decide +kernel) (by decide +kernel), ⟨by decide +kernel, by decide +kernel, by decide +kernel⟩, rfl, rfl, tblG_at 1144 (by decide +kernel) (by decide +kernel), tblG_at 36 (by decide +kernel) (by decide +kernel)⟩
def mX12_keep : Mt := (yX12_keep, cX12_keep, 3, (some .int), { frames := 1, cells := 0, slots := 0, locals := 22 })
theorem zX12_keep : Zv mX12_keep 1 := ⟨tblG_at 1293 (by decide +kernel) (by decide +kernel), tblG_at 66 (by decide +kernel) (by decide +kernel), ⟨by decide +kernel, by decide +kernel, by decide +kernel⟩, rfl, rfl, tblG_at 1291 (by decide +kernel) (by decide +kernel), tblG_at 1292 (by decide +kernel) (by decide +kernel)⟩
def mX12_knows : Mt := (yX12_knows, cX12_knows, 4, none, { frames := 0, cells := 0, slots := 0, locals := 0 })
theorem zX12_knows : Zv mX12_knows 2 := ⟨tblG_at 1122 (by decide +kernel) (by decide +kernel), tblG_at 66 (by decide +kernel) (by decide +kernel), ⟨by decide +kernel, by decide +kernel, by decide +kernel⟩, rfl, rfl, tblG_at 1121 (by decide +kernel) (by decide +kernel), tblG_at 35 (by decide +kernel) (by decide +kernel)⟩
def mX12_lays : Mt := (yX12_lays, cX12_lays, 11, none, { frames := 3, cells := 0, slots := 0, locals := 75 })
theorem zX12_lays : Zv mX12_lays 3 := ⟨tblG_at 1149 (by decide +kernel) (by decide +kernel), tblG_at 66 (by decide +kernel) (by decide +kernel), ⟨by decide +kernel, by decide +kernel, by decide +kernel⟩, rfl, rfl, tblG_at 1148 (by decide +kernel) (by decide +kernel), tblG_at 37 (by decide +kernel) (by decide +kernel)⟩
def mX12_laysOwn : Mt := (yX12_laysOwn, cX12_laysOwn, 12, none, { frames := 2, cells := 0, slots := 0, locals := 44 })
theorem zX12_laysOwn : Zv mX12_laysOwn 2 := ⟨tblG_at 1153 (by decide +kernel) (by decide +kernel), tblG_at 66 (by decide +kernel) (by decide +kernel), ⟨by decide +kernel, by decide +kernel, by decide +kernel⟩, rfl, rfl, tblG_at 1152 (by decide +kernel) (by decide +kernel), tblG_at 38 (by decide +kernel) (by decide +kernel)⟩
def mX12_leastOf : Mt := (yX12_leastOf, cX12_leastOf, 5, (some .long), { frames := 4, cells := 0, slots := 0, locals := 105 })
theorem zX12_leastOf : Zv mX12_leastOf 1 := ⟨tblG_at 1253 (by decide +kernel) (by decide +kernel), tblG_at 66 (by decide +kernel) (by decide +kernel), ⟨by decide +kernel, by decide +kernel, by decide +kernel⟩, rfl, rfl, tblG_at 1252 (by decide +kernel) (by decide +kernel), tblG_at 49 (by decide +kernel) (by decide +kernel)⟩
def mX12_lengthOf : Mt := (yX12_lengthOf, cX12_lengthOf, 1, (some .int), { frames := 0, cells := 0, slots := 0, locals := 0 })
theorem zX12_lengthOf : Zv mX12_lengthOf 0 := ⟨tblG_at 1164 (by decide +kernel) (by decide +kernel), tblG_at 66 (by decide +kernel) (by decide +kernel), ⟨by decide +kernel, by decide +kernel, by decide +kernel⟩, rfl, rfl, tblG_at 1163 (by decide +kernel) (by decide +kernel), tblG_at 40 (by decide +kernel) (by decide +kernel)⟩
def mX12_lowOf : Mt := (yX12_lowOf, cX12_lowOf, 3, (some .int), { frames := 1, cells := 0, slots := 0, locals := 22 })
theorem zX12_lowOf : Zv mX12_lowOf 1 := ⟨tblG_at 1157 (by decide +kernel) (by decide +kernel), tblG_at 66 (by decide +kernel) (by decide +kernel), ⟨by decide +kernel, by decide +kernel, by decide +kernel⟩, rfl, rfl, tblG_at 1156 (by decide +kernel) (by decide +kernel), tblG_at 39 (by decide +kernel) (by decide +kernel)⟩
def mX12_makes : Mt := (yX12_makes, cX12_makes, 1, (some .int), { frames := 6, cells := 0, slots := 0, locals := 153 })
theorem zX12_makes : Zv mX12_makes 0 := ⟨tblG_at 1221 (by decide +kernel) (by decide +kernel), tblG_at 66 (by decide +kernel) (by decide +kernel), ⟨by decide +kernel, by decide +kernel, by decide +kernel⟩, rfl, rfl, tblG_at 1219 (by decide +kernel) (by decide +kernel), tblG_at 1220 (by decide +kernel) (by decide +kernel)⟩
def mX12_narrowed : Mt := (yX12_narrowed, cX12_narrowed, 11, (some .long), { frames := 6, cells := 0, slots := 0, locals := 158 })
theorem zX12_narrowed : Zv mX12_narrowed 3 := ⟨tblG_at 1245 (by decide +kernel) (by decide +kernel), tblG_at 66 (by decide +kernel) (by decide +kernel), ⟨by decide +kernel, by decide +kernel, by decide +kernel⟩, rfl, rfl, tblG_at 1243 (by decide +kernel) (by decide +kernel), tblG_at 1244 (by decide +kernel) (by decide +kernel)⟩
def mX12_narrows : Mt := (yX12_narrows, cX12_narrows, 10, none, { frames := 5, cells := 0, slots := 0, locals := 129 })
theorem zX12_narrows : Zv mX12_narrows 1 := ⟨tblG_at 1249 (by decide +kernel) (by decide +kernel), tblG_at 66 (by decide +kernel) (by decide +kernel), ⟨by decide +kernel, by decide +kernel, by decide +kernel⟩, rfl, rfl, tblG_at 1248 (by decide +kernel) (by decide +kernel), tblG_at 48 (by decide +kernel) (by decide +kernel)⟩
def mX12_numbered : Mt := (yX12_numbered, cX12_numbered, 4, (some .int), { frames := 1, cells := 0, slots := 0, locals := 22 })
theorem zX12_numbered : Zv mX12_numbered 1 := ⟨tblG_at 1073 (by decide +kernel) (by decide +kernel), tblG_at 66 (by decide +kernel) (by decide +kernel), ⟨by decide +kernel, by decide +kernel, by decide +kernel⟩, rfl, rfl, tblG_at 1072 (by decide +kernel) (by decide +kernel), tblG_at 27 (by decide +kernel) (by decide +kernel)⟩
def mX12_paper : Mt := (yX12_paper, cX12_paper, 2, (some .int), { frames := 6, cells := 0, slots := 0, locals := 153 })
theorem zX12_paper : Zv mX12_paper 1 := ⟨tblG_at 1233 (by decide +kernel) (by decide +kernel), tblG_at 66 (by decide +kernel) (by decide +kernel), ⟨by decide +kernel, by decide +kernel, by decide +kernel⟩, rfl, rfl, tblG_at 1231 (by decide +kernel) (by decide +kernel), tblG_at 1232 (by decide +kernel) (by decide +kernel)⟩
def mX12_polynomial : Mt := (yX12_polynomial, cX12_polynomial, 3, (some .boolean), { frames := 2, cells := 0, slots := 0, locals := 46 })
theorem zX12_polynomial : Zv mX12_polynomial 0 := ⟨tblG_at 1081 (by decide +kernel) (by decide +kernel), tblG_at 66 (by decide +kernel) (by decide +kernel), ⟨by decide +kernel, by decide +kernel, by decide +kernel⟩, rfl, rfl, tblG_at 1080 (by decide +kernel) (by decide +kernel), tblG_at 29 (by decide +kernel) (by decide +kernel)⟩
def mX12_power : Mt := (yX12_power, cX12_power, 6, (some .long), { frames := 0, cells := 0, slots := 0, locals := 0 })
theorem zX12_power : Zs mX12_power 2 := ⟨tblG_at 1168 (by decide +kernel) (by decide +kernel), tblG_at 66 (by decide +kernel) (by decide +kernel), ⟨by decide +kernel, by decide +kernel, by decide +kernel⟩, rfl, rfl, tblG_at 1167 (by decide +kernel) (by decide +kernel)⟩
def mX12_proves : Mt := (yX12_proves, cX12_proves, 5, (some .int), { frames := 5, cells := 0, slots := 0, locals := 131 })
theorem zX12_proves : Zv mX12_proves 0 := ⟨tblG_at 1241 (by decide +kernel) (by decide +kernel), tblG_at 66 (by decide +kernel) (by decide +kernel), ⟨by decide +kernel, by decide +kernel, by decide +kernel⟩, rfl, rfl, tblG_at 1239 (by decide +kernel) (by decide +kernel), tblG_at 1240 (by decide +kernel) (by decide +kernel)⟩
def mX12_puts : Mt := (yX12_puts, cX12_puts, 2, none, { frames := 0, cells := 0, slots := 0, locals := 0 })
theorem zX12_puts : Zv mX12_puts 1 := ⟨tblG_at 1209 (by decide +kernel) (by decide +kernel), tblG_at 66 (by decide +kernel) (by decide +kernel), ⟨by decide +kernel, by decide +kernel, by decide +kernel⟩, rfl, rfl, tblG_at 1208 (by decide +kernel) (by decide +kernel), tblG_at 44 (by decide +kernel) (by decide +kernel)⟩
def mX12_sees : Mt := (yX12_sees, cX12_sees, 3, (some .int), { frames := 1, cells := 0, slots := 0, locals := 22 })
theorem zX12_sees : Zv mX12_sees 2 := ⟨tblG_at 1277 (by decide +kernel) (by decide +kernel), tblG_at 66 (by decide +kernel) (by decide +kernel), ⟨by decide +kernel, by decide +kernel, by decide +kernel⟩, rfl, rfl, tblG_at 1275 (by decide +kernel) (by decide +kernel), tblG_at 1276 (by decide +kernel) (by decide +kernel)⟩
def mX12_signAt : Mt := (yX12_signAt, cX12_signAt, 6, (some .int), { frames := 1, cells := 0, slots := 0, locals := 25 })
theorem zX12_signAt : Zv mX12_signAt 2 := ⟨tblG_at 1289 (by decide +kernel) (by decide +kernel), tblG_at 66 (by decide +kernel) (by decide +kernel), ⟨by decide +kernel, by decide +kernel, by decide +kernel⟩, rfl, rfl, tblG_at 1288 (by decide +kernel) (by decide +kernel), tblG_at 52 (by decide +kernel) (by decide +kernel)⟩
def mX12_sizeOf : Mt := (yX12_sizeOf, cX12_sizeOf, 3, (some .int), { frames := 0, cells := 0, slots := 0, locals := 0 })
theorem zX12_sizeOf : Zs mX12_sizeOf 1 := ⟨tblG_at 1160 (by decide +kernel) (by decide +kernel), tblG_at 66 (by decide +kernel) (by decide +kernel), ⟨by decide +kernel, by decide +kernel, by decide +kernel⟩, rfl, rfl, tblG_at 1159 (by decide +kernel) (by decide +kernel)⟩
def mX12_split : Mt := (yX12_split, cX12_split, 3, none, { frames := 2, cells := 0, slots := 0, locals := 45 })
theorem zX12_split : Zv mX12_split 0 := ⟨tblG_at 1069 (by decide +kernel) (by decide +kernel), tblG_at 66 (by decide +kernel) (by decide +kernel), ⟨by decide +kernel, by decide +kernel, by decide +kernel⟩, rfl, rfl, tblG_at 1068 (by decide +kernel) (by decide +kernel), tblG_at 26 (by decide +kernel) (by decide +kernel)⟩
def mX12_sure : Mt := (yX12_sure, cX12_sure, 4, (some .int), { frames := 6, cells := 0, slots := 0, locals := 154 })
theorem zX12_sure : Zv mX12_sure 1 := ⟨tblG_at 1257 (by decide +kernel) (by decide +kernel), tblG_at 66 (by decide +kernel) (by decide +kernel), ⟨by decide +kernel, by decide +kernel, by decide +kernel⟩, rfl, rfl, tblG_at 1255 (by decide +kernel) (by decide +kernel), tblG_at 1256 (by decide +kernel) (by decide +kernel)⟩
def mX12_takes : Mt := (yX12_takes, cX12_takes, 3, (some .int), { frames := 2, cells := 0, slots := 0, locals := 43 })
theorem zX12_takes : Zv mX12_takes 2 := ⟨tblG_at 1093 (by decide +kernel) (by decide +kernel), tblG_at 66 (by decide +kernel) (by decide +kernel), ⟨by decide +kernel, by decide +kernel, by decide +kernel⟩, rfl, rfl, tblG_at 1091 (by decide +kernel) (by decide +kernel), tblG_at 1092 (by decide +kernel) (by decide +kernel)⟩
def mX12_takesNumber : Mt := (yX12_takesNumber, cX12_takesNumber, 5, (some .boolean), { frames := 1, cells := 0, slots := 0, locals := 22 })
theorem zX12_takesNumber : Zv mX12_takesNumber 2 := ⟨tblG_at 1085 (by decide +kernel) (by decide +kernel), tblG_at 66 (by decide +kernel) (by decide +kernel), ⟨by decide +kernel, by decide +kernel, by decide +kernel⟩, rfl, rfl, tblG_at 1084 (by decide +kernel) (by decide +kernel), tblG_at 30 (by decide +kernel) (by decide +kernel)⟩
def mX12_type : Mt := (yX12_type, cX12_type, 2, (some .int), { frames := 1, cells := 0, slots := 0, locals := 22 })
theorem zX12_type : Zv mX12_type 1 := ⟨tblG_at 1054 (by decide +kernel) (by decide +kernel), tblG_at 66 (by decide +kernel) (by decide +kernel), ⟨by decide +kernel, by decide +kernel, by decide +kernel⟩, rfl, rfl, tblG_at 1052 (by decide +kernel) (by decide +kernel), tblG_at 1053 (by decide +kernel) (by decide +kernel)⟩
def mX12_undo : Mt := (yX12_undo, cX12_undo, 1, (some .int), { frames := 0, cells := 0, slots := 0, locals := 0 })
theorem zX12_undo : Zv mX12_undo 0 := ⟨tblG_at 1134 (by decide +kernel) (by decide +kernel), tblG_at 66 (by decide +kernel) (by decide +kernel), ⟨by decide +kernel, by decide +kernel, by decide +kernel⟩, rfl, rfl, tblG_at 1132 (by decide +kernel) (by decide +kernel), tblG_at 1133 (by decide +kernel) (by decide +kernel)⟩
def mX12_unseen : Mt := (yX12_unseen, cX12_unseen, 5, (some .int), { frames := 2, cells := 0, slots := 0, locals := 50 })
theorem zX12_unseen : Zv mX12_unseen 0 := ⟨tblG_at 1285 (by decide +kernel) (by decide +kernel), tblG_at 66 (by decide +kernel) (by decide +kernel), ⟨by decide +kernel, by decide +kernel, by decide +kernel⟩, rfl, rfl, tblG_at 1283 (by decide +kernel) (by decide +kernel), tblG_at 1284 (by decide +kernel) (by decide +kernel)⟩
def mX12_value : Mt := (yX12_value, cX12_value, 4, (some .long), { frames := 4, cells := 0, slots := 0, locals := 105 })
theorem zX12_value : Zv mX12_value 3 := ⟨tblG_at 1197 (by decide +kernel) (by decide +kernel), tblG_at 66 (by decide +kernel) (by decide +kernel), ⟨by decide +kernel, by decide +kernel, by decide +kernel⟩, rfl, rfl, tblG_at 1195 (by decide +kernel) (by decide +kernel), tblG_at 1196 (by decide +kernel) (by decide +kernel)⟩
def mX12_variation : Mt := (yX12_variation, cX12_variation, 3, (some .int), { frames := 5, cells := 0, slots := 0, locals := 131 })
theorem zX12_variation : Zv mX12_variation 2 := ⟨tblG_at 1181 (by decide +kernel) (by decide +kernel), tblG_at 66 (by decide +kernel) (by decide +kernel), ⟨by decide +kernel, by decide +kernel, by decide +kernel⟩, rfl, rfl, tblG_at 1179 (by decide +kernel) (by decide +kernel), tblG_at 1180 (by decide +kernel) (by decide +kernel)⟩
def mX12_varies : Mt := (yX12_varies, cX12_varies, 7, (some .int), { frames := 4, cells := 0, slots := 0, locals := 105 })
theorem zX12_varies : Zv mX12_varies 2 := ⟨tblG_at 1185 (by decide +kernel) (by decide +kernel), tblG_at 66 (by decide +kernel) (by decide +kernel), ⟨by decide +kernel, by decide +kernel, by decide +kernel⟩, rfl, rfl, tblG_at 1184 (by decide +kernel) (by decide +kernel), tblG_at 41 (by decide +kernel) (by decide +kernel)⟩
def mX12_wish : Mt := (yX12_wish, cX12_wish, 2, (some .long), { frames := 2, cells := 0, slots := 0, locals := 43 })
theorem zX12_wish : Zv mX12_wish 1 := ⟨tblG_at 1273 (by decide +kernel) (by decide +kernel), tblG_at 66 (by decide +kernel) (by decide +kernel), ⟨by decide +kernel, by decide +kernel, by decide +kernel⟩, rfl, rfl, tblG_at 1271 (by decide +kernel) (by decide +kernel), tblG_at 1272 (by decide +kernel) (by decide +kernel)⟩
def mX12_wishes : Mt := (yX12_wishes, cX12_wishes, 3, (some .int), { frames := 2, cells := 0, slots := 0, locals := 43 })
theorem zX12_wishes : Zv mX12_wishes 2 := ⟨tblG_at 1130 (by decide +kernel) (by decide +kernel), tblG_at 66 (by decide +kernel) (by decide +kernel), ⟨by decide +kernel, by decide +kernel, by decide +kernel⟩, rfl, rfl, tblG_at 1128 (by decide +kernel) (by decide +kernel), tblG_at 1129 (by decide +kernel) (by decide +kernel)⟩
def mX12_witness : Mt := (yX12_witness, cX12_witness, 2, (some .long), { frames := 6, cells := 0, slots := 0, locals := 153 })
theorem zX12_witness : Zv mX12_witness 1 := ⟨tblG_at 1237 (by decide +kernel) (by decide +kernel), tblG_at 66 (by decide +kernel) (by decide +kernel), ⟨by decide +kernel, by decide +kernel, by decide +kernel⟩, rfl, rfl, tblG_at 1235 (by decide +kernel) (by decide +kernel), tblG_at 1236 (by decide +kernel) (by decide +kernel)⟩
def mX12_writes : Mt := (yX12_writes, cX12_writes, 3, (some .int), { frames := 5, cells := 0, slots := 0, locals := 131 })
theorem zX12_writes : Zv mX12_writes 0 := ⟨tblG_at 1225 (by decide +kernel) (by decide +kernel), tblG_at 66 (by decide +kernel) (by decide +kernel), ⟨by decide +kernel, by decide +kernel, by decide +kernel⟩, rfl, rfl, tblG_at 1224 (by decide +kernel) (by decide +kernel), tblG_at 46 (by decide +kernel) (by decide +kernel)⟩
def mX1_empty : Mt := (yX1_empty, cX1_empty, 1, none, { frames := 0, cells := 0, slots := 0, locals := 0 })
theorem zX1_empty : Zv mX1_empty 0 := ⟨tblG_at 447 (by decide +kernel) (by decide +kernel), tblG_at 58 (by decide +kernel) (by decide +kernel), ⟨by decide +kernel, by decide +kernel, by decide +kernel⟩, rfl, rfl, tblG_at 445 (by decide +kernel) (by decide +kernel), tblG_at 446 (by decide +kernel) (by decide +kernel)⟩
def mX1_remember : Mt := (yX1_remember, cX1_remember, 7, none, { frames := 1, cells := 0, slots := 0, locals := 48 })
theorem zX1_remember : Zv mX1_remember 5 := ⟨tblG_at 503 (by decide +kernel) (by decide +kernel), tblG_at 58 (by decide +kernel) (by decide +kernel), ⟨by decide +kernel, by decide +kernel, by decide +kernel⟩, rfl, rfl, tblG_at 502 (by decide +kernel) (by decide +kernel), tblG_at 11 (by decide +kernel) (by decide +kernel)⟩
def mX1_rememberBox : Mt := (yX1_rememberBox, cX1_rememberBox, 3, none, { frames := 2, cells := 0, slots := 0, locals := 74 })
theorem zX1_rememberBox : Zv mX1_rememberBox 2 := ⟨tblG_at 517 (by decide +kernel) (by decide +kernel), tblG_at 58 (by decide +kernel) (by decide +kernel), ⟨by decide +kernel, by decide +kernel, by decide +kernel⟩, rfl, rfl, tblG_at 515 (by decide +kernel) (by decide +kernel), tblG_at 516 (by decide +kernel) (by decide +kernel)⟩
def mX1_rememberCoefficient : Mt := (yX1_rememberCoefficient, cX1_rememberCoefficient, 4, none, { frames := 2, cells := 0, slots := 0, locals := 74 })
theorem zX1_rememberCoefficient : Zv mX1_rememberCoefficient 3 := ⟨tblG_at 498 (by decide +kernel) (by decide +kernel), tblG_at 58 (by decide +kernel) (by decide +kernel), ⟨by decide +kernel, by decide +kernel, by decide +kernel⟩, rfl, rfl, tblG_at 496 (by decide +kernel) (by decide +kernel), tblG_at 497 (by decide +kernel) (by decide +kernel)⟩
def mX1_rememberWish : Mt := (yX1_rememberWish, cX1_rememberWish, 3, none, { frames := 2, cells := 0, slots := 0, locals := 74 })
theorem zX1_rememberWish : Zv mX1_rememberWish 2 := ⟨tblG_at 535 (by decide +kernel) (by decide +kernel), tblG_at 58 (by decide +kernel) (by decide +kernel), ⟨by decide +kernel, by decide +kernel, by decide +kernel⟩, rfl, rfl, tblG_at 533 (by decide +kernel) (by decide +kernel), tblG_at 534 (by decide +kernel) (by decide +kernel)⟩
def mX1_size : Mt := (yX1_size, cX1_size, 1, (some .int), { frames := 0, cells := 0, slots := 0, locals := 0 })
theorem zX1_size : Zv mX1_size 0 := ⟨tblG_at 548 (by decide +kernel) (by decide +kernel), tblG_at 58 (by decide +kernel) (by decide +kernel), ⟨by decide +kernel, by decide +kernel, by decide +kernel⟩, rfl, rfl, tblG_at 546 (by decide +kernel) (by decide +kernel), tblG_at 547 (by decide +kernel) (by decide +kernel)⟩
def mX1_takeBack : Mt := (yX1_takeBack, cX1_takeBack, 4, none, { frames := 2, cells := 0, slots := 0, locals := 45 })
theorem zX1_takeBack : Zv mX1_takeBack 1 := ⟨tblG_at 552 (by decide +kernel) (by decide +kernel), tblG_at 58 (by decide +kernel) (by decide +kernel), ⟨by decide +kernel, by decide +kernel, by decide +kernel⟩, rfl, rfl, tblG_at 550 (by decide +kernel) (by decide +kernel), tblG_at 551 (by decide +kernel) (by decide +kernel)⟩
def mX2_add : Mt := (yX2_add, cX2_add, 2, none, { frames := 0, cells := 0, slots := 0, locals := 0 })
theorem zX2_add : Zv mX2_add 1 := ⟨tblG_at 745 (by decide +kernel) (by decide +kernel), tblG_at 63 (by decide +kernel) (by decide +kernel), ⟨by decide +kernel, by decide +kernel, by decide +kernel⟩, rfl, rfl, tblG_at 744 (by decide +kernel) (by decide +kernel), tblG_at 17 (by decide +kernel) (by decide +kernel)⟩
def mX2_isRight : Mt := (yX2_isRight, cX2_isRight, 4, (some .boolean), { frames := 4, cells := 0, slots := 0, locals := 99 })
theorem zX2_isRight : Zs mX2_isRight 4 := ⟨tblG_at 783 (by decide +kernel) (by decide +kernel), tblG_at 63 (by decide +kernel) (by decide +kernel), ⟨by decide +kernel, by decide +kernel, by decide +kernel⟩, rfl, rfl, tblG_at 782 (by decide +kernel) (by decide +kernel)⟩
def mX2_leastFigure : Mt := (yX2_leastFigure, cX2_leastFigure, 4, (some .int), { frames := 4, cells := 0, slots := 0, locals := 97 })
theorem zX2_leastFigure : Zs mX2_leastFigure 3 := ⟨tblG_at 735 (by decide +kernel) (by decide +kernel), tblG_at 63 (by decide +kernel) (by decide +kernel), ⟨by decide +kernel, by decide +kernel, by decide +kernel⟩, rfl, rfl, tblG_at 734 (by decide +kernel) (by decide +kernel)⟩
def mX2_letter : Mt := (yX2_letter, cX2_letter, 2, (some .int), { frames := 0, cells := 0, slots := 0, locals := 0 })
theorem zX2_letter : Zv mX2_letter 1 := ⟨tblG_at 761 (by decide +kernel) (by decide +kernel), tblG_at 63 (by decide +kernel) (by decide +kernel), ⟨by decide +kernel, by decide +kernel, by decide +kernel⟩, rfl, rfl, tblG_at 759 (by decide +kernel) (by decide +kernel), tblG_at 760 (by decide +kernel) (by decide +kernel)⟩
def mX2_place : Mt := (yX2_place, cX2_place, 1, (some .int), { frames := 0, cells := 0, slots := 0, locals := 0 })
theorem zX2_place : Zv mX2_place 0 := ⟨tblG_at 769 (by decide +kernel) (by decide +kernel), tblG_at 63 (by decide +kernel) (by decide +kernel), ⟨by decide +kernel, by decide +kernel, by decide +kernel⟩, rfl, rfl, tblG_at 767 (by decide +kernel) (by decide +kernel), tblG_at 768 (by decide +kernel) (by decide +kernel)⟩
def mX2_read : Mt := (yX2_read, cX2_read, 9, (some .int), { frames := 5, cells := 0, slots := 0, locals := 122 })
theorem zX2_read : Zv mX2_read 3 := ⟨tblG_at 777 (by decide +kernel) (by decide +kernel), tblG_at 63 (by decide +kernel) (by decide +kernel), ⟨by decide +kernel, by decide +kernel, by decide +kernel⟩, rfl, rfl, tblG_at 775 (by decide +kernel) (by decide +kernel), tblG_at 776 (by decide +kernel) (by decide +kernel)⟩
def mX2_write : Mt := (yX2_write, cX2_write, 6, (some .int), { frames := 5, cells := 0, slots := 0, locals := 120 })
theorem zX2_write : Zv mX2_write 2 := ⟨tblG_at 732 (by decide +kernel) (by decide +kernel), tblG_at 63 (by decide +kernel) (by decide +kernel), ⟨by decide +kernel, by decide +kernel, by decide +kernel⟩, rfl, rfl, tblG_at 730 (by decide +kernel) (by decide +kernel), tblG_at 731 (by decide +kernel) (by decide +kernel)⟩
def mX3_add : Mt := (yX3_add, cX3_add, 3, none, { frames := 0, cells := 0, slots := 0, locals := 0 })
theorem zX3_add : Zv mX3_add 2 := ⟨tblG_at 697 (by decide +kernel) (by decide +kernel), tblG_at 62 (by decide +kernel) (by decide +kernel), ⟨by decide +kernel, by decide +kernel, by decide +kernel⟩, rfl, rfl, tblG_at 696 (by decide +kernel) (by decide +kernel), tblG_at 15 (by decide +kernel) (by decide +kernel)⟩
def mX3_find : Mt := (yX3_find, cX3_find, 6, none, { frames := 4, cells := 0, slots := 0, locals := 97 })
theorem zX3_find : Zv mX3_find 2 := ⟨tblG_at 691 (by decide +kernel) (by decide +kernel), tblG_at 62 (by decide +kernel) (by decide +kernel), ⟨by decide +kernel, by decide +kernel, by decide +kernel⟩, rfl, rfl, tblG_at 689 (by decide +kernel) (by decide +kernel), tblG_at 690 (by decide +kernel) (by decide +kernel)⟩
def mX3_kind : Mt := (yX3_kind, cX3_kind, 2, (some .int), { frames := 0, cells := 0, slots := 0, locals := 0 })
theorem zX3_kind : Zv mX3_kind 1 := ⟨tblG_at 724 (by decide +kernel) (by decide +kernel), tblG_at 62 (by decide +kernel) (by decide +kernel), ⟨by decide +kernel, by decide +kernel, by decide +kernel⟩, rfl, rfl, tblG_at 722 (by decide +kernel) (by decide +kernel), tblG_at 723 (by decide +kernel) (by decide +kernel)⟩
def mX3_node : Mt := (yX3_node, cX3_node, 2, (some .int), { frames := 0, cells := 0, slots := 0, locals := 0 })
theorem zX3_node : Zv mX3_node 1 := ⟨tblG_at 720 (by decide +kernel) (by decide +kernel), tblG_at 62 (by decide +kernel) (by decide +kernel), ⟨by decide +kernel, by decide +kernel, by decide +kernel⟩, rfl, rfl, tblG_at 718 (by decide +kernel) (by decide +kernel), tblG_at 719 (by decide +kernel) (by decide +kernel)⟩
def mX3_pass : Mt := (yX3_pass, cX3_pass, 4, (some .int), { frames := 2, cells := 0, slots := 0, locals := 41 })
theorem zX3_pass : Zv mX3_pass 2 := ⟨tblG_at 701 (by decide +kernel) (by decide +kernel), tblG_at 62 (by decide +kernel) (by decide +kernel), ⟨by decide +kernel, by decide +kernel, by decide +kernel⟩, rfl, rfl, tblG_at 700 (by decide +kernel) (by decide +kernel), tblG_at 16 (by decide +kernel) (by decide +kernel)⟩
def mX3_size : Mt := (yX3_size, cX3_size, 1, (some .int), { frames := 0, cells := 0, slots := 0, locals := 0 })
theorem zX3_size : Zv mX3_size 0 := ⟨tblG_at 712 (by decide +kernel) (by decide +kernel), tblG_at 62 (by decide +kernel) (by decide +kernel), ⟨by decide +kernel, by decide +kernel, by decide +kernel⟩, rfl, rfl, tblG_at 710 (by decide +kernel) (by decide +kernel), tblG_at 711 (by decide +kernel) (by decide +kernel)⟩
def mX4_addWhole : Mt := (yX4_addWhole, cX4_addWhole, 4, none, { frames := 1, cells := 0, slots := 0, locals := 22 })
theorem zX4_addWhole : Zv mX4_addWhole 1 := ⟨tblG_at 625 (by decide +kernel) (by decide +kernel), tblG_at 61 (by decide +kernel) (by decide +kernel), ⟨by decide +kernel, by decide +kernel, by decide +kernel⟩, rfl, rfl, tblG_at 624 (by decide +kernel) (by decide +kernel), tblG_at 13 (by decide +kernel) (by decide +kernel)⟩
def mX4_allHave : Mt := (yX4_allHave, cX4_allHave, 3, (some .boolean), { frames := 1, cells := 0, slots := 0, locals := 21 })
theorem zX4_allHave : Zv mX4_allHave 1 := ⟨tblG_at 740 (by decide +kernel) (by decide +kernel), tblG_at 61 (by decide +kernel) (by decide +kernel), ⟨by decide +kernel, by decide +kernel, by decide +kernel⟩, rfl, rfl, tblG_at 738 (by decide +kernel) (by decide +kernel), tblG_at 739 (by decide +kernel) (by decide +kernel)⟩
def mX4_below : Mt := (yX4_below, cX4_below, 2, (some .long), { frames := 1, cells := 0, slots := 0, locals := 22 })
theorem zX4_below : Zv mX4_below 1 := ⟨tblG_at 643 (by decide +kernel) (by decide +kernel), tblG_at 61 (by decide +kernel) (by decide +kernel), ⟨by decide +kernel, by decide +kernel, by decide +kernel⟩, rfl, rfl, tblG_at 641 (by decide +kernel) (by decide +kernel), tblG_at 642 (by decide +kernel) (by decide +kernel)⟩
def mX4_commonBelow : Mt := (yX4_commonBelow, cX4_commonBelow, 1, (some .long), { frames := 0, cells := 0, slots := 0, locals := 0 })
theorem zX4_commonBelow : Zv mX4_commonBelow 0 := ⟨tblG_at 838 (by decide +kernel) (by decide +kernel), tblG_at 61 (by decide +kernel) (by decide +kernel), ⟨by decide +kernel, by decide +kernel, by decide +kernel⟩, rfl, rfl, tblG_at 836 (by decide +kernel) (by decide +kernel), tblG_at 837 (by decide +kernel) (by decide +kernel)⟩
def mX4_commonNumber : Mt := (yX4_commonNumber, cX4_commonNumber, 3, (some .long), { frames := 1, cells := 0, slots := 0, locals := 22 })
theorem zX4_commonNumber : Zv mX4_commonNumber 1 := ⟨tblG_at 805 (by decide +kernel) (by decide +kernel), tblG_at 61 (by decide +kernel) (by decide +kernel), ⟨by decide +kernel, by decide +kernel, by decide +kernel⟩, rfl, rfl, tblG_at 804 (by decide +kernel) (by decide +kernel), tblG_at 19 (by decide +kernel) (by decide +kernel)⟩
def mX4_lay : Mt := (yX4_lay, cX4_lay, 3, none, { frames := 3, cells := 0, slots := 0, locals := 75 })
theorem zX4_lay : Zv mX4_lay 2 := ⟨tblG_at 679 (by decide +kernel) (by decide +kernel), tblG_at 61 (by decide +kernel) (by decide +kernel), ⟨by decide +kernel, by decide +kernel, by decide +kernel⟩, rfl, rfl, tblG_at 677 (by decide +kernel) (by decide +kernel), tblG_at 678 (by decide +kernel) (by decide +kernel)⟩
def mX4_layOne : Mt := (yX4_layOne, cX4_layOne, 11, none, { frames := 2, cells := 0, slots := 0, locals := 45 })
theorem zX4_layOne : Zv mX4_layOne 3 := ⟨tblG_at 589 (by decide +kernel) (by decide +kernel), tblG_at 61 (by decide +kernel) (by decide +kernel), ⟨by decide +kernel, by decide +kernel, by decide +kernel⟩, rfl, rfl, tblG_at 587 (by decide +kernel) (by decide +kernel), tblG_at 588 (by decide +kernel) (by decide +kernel)⟩
def mX4_layRaised : Mt := (yX4_layRaised, cX4_layRaised, 5, none, { frames := 3, cells := 0, slots := 0, locals := 75 })
theorem zX4_layRaised : Zv mX4_layRaised 3 := ⟨tblG_at 584 (by decide +kernel) (by decide +kernel), tblG_at 61 (by decide +kernel) (by decide +kernel), ⟨by decide +kernel, by decide +kernel, by decide +kernel⟩, rfl, rfl, tblG_at 582 (by decide +kernel) (by decide +kernel), tblG_at 583 (by decide +kernel) (by decide +kernel)⟩
def mX4_least : Mt := (yX4_least, cX4_least, 4, (some .long), { frames := 2, cells := 0, slots := 0, locals := 44 })
theorem zX4_least : Zv mX4_least 0 := ⟨tblG_at 801 (by decide +kernel) (by decide +kernel), tblG_at 61 (by decide +kernel) (by decide +kernel), ⟨by decide +kernel, by decide +kernel, by decide +kernel⟩, rfl, rfl, tblG_at 799 (by decide +kernel) (by decide +kernel), tblG_at 800 (by decide +kernel) (by decide +kernel)⟩
def mX4_leastEnd : Mt := (yX4_leastEnd, cX4_leastEnd, 1, (some .long), { frames := 2, cells := 0, slots := 0, locals := 44 })
theorem zX4_leastEnd : Zv mX4_leastEnd 0 := ⟨tblG_at 812 (by decide +kernel) (by decide +kernel), tblG_at 61 (by decide +kernel) (by decide +kernel), ⟨by decide +kernel, by decide +kernel, by decide +kernel⟩, rfl, rfl, tblG_at 810 (by decide +kernel) (by decide +kernel), tblG_at 811 (by decide +kernel) (by decide +kernel)⟩
def mX4_multiply : Mt := (yX4_multiply, cX4_multiply, 6, none, { frames := 0, cells := 0, slots := 0, locals := 0 })
theorem zX4_multiply : Zv mX4_multiply 2 := ⟨tblG_at 621 (by decide +kernel) (by decide +kernel), tblG_at 61 (by decide +kernel) (by decide +kernel), ⟨by decide +kernel, by decide +kernel, by decide +kernel⟩, rfl, rfl, tblG_at 620 (by decide +kernel) (by decide +kernel), tblG_at 12 (by decide +kernel) (by decide +kernel)⟩
def mX4_number : Mt := (yX4_number, cX4_number, 2, (some .long), { frames := 0, cells := 0, slots := 0, locals := 0 })
theorem zX4_number : Zv mX4_number 1 := ⟨tblG_at 639 (by decide +kernel) (by decide +kernel), tblG_at 61 (by decide +kernel) (by decide +kernel), ⟨by decide +kernel, by decide +kernel, by decide +kernel⟩, rfl, rfl, tblG_at 637 (by decide +kernel) (by decide +kernel), tblG_at 638 (by decide +kernel) (by decide +kernel)⟩
def mX4_raise : Mt := (yX4_raise, cX4_raise, 1, none, { frames := 1, cells := 0, slots := 0, locals := 25 })
theorem zX4_raise : Zv mX4_raise 0 := ⟨tblG_at 635 (by decide +kernel) (by decide +kernel), tblG_at 61 (by decide +kernel) (by decide +kernel), ⟨by decide +kernel, by decide +kernel, by decide +kernel⟩, rfl, rfl, tblG_at 633 (by decide +kernel) (by decide +kernel), tblG_at 634 (by decide +kernel) (by decide +kernel)⟩
def mX4_signAtHigh : Mt := (yX4_signAtHigh, cX4_signAtHigh, 1, (some .int), { frames := 1, cells := 0, slots := 0, locals := 21 })
theorem zX4_signAtHigh : Zv mX4_signAtHigh 0 := ⟨tblG_at 708 (by decide +kernel) (by decide +kernel), tblG_at 61 (by decide +kernel) (by decide +kernel), ⟨by decide +kernel, by decide +kernel, by decide +kernel⟩, rfl, rfl, tblG_at 706 (by decide +kernel) (by decide +kernel), tblG_at 707 (by decide +kernel) (by decide +kernel)⟩
def mX4_signAtLow : Mt := (yX4_signAtLow, cX4_signAtLow, 1, (some .int), { frames := 1, cells := 0, slots := 0, locals := 21 })
theorem zX4_signAtLow : Zv mX4_signAtLow 0 := ⟨tblG_at 750 (by decide +kernel) (by decide +kernel), tblG_at 61 (by decide +kernel) (by decide +kernel), ⟨by decide +kernel, by decide +kernel, by decide +kernel⟩, rfl, rfl, tblG_at 748 (by decide +kernel) (by decide +kernel), tblG_at 749 (by decide +kernel) (by decide +kernel)⟩
def mX4_signChanges : Mt := (yX4_signChanges, cX4_signChanges, 5, (some .int), { frames := 1, cells := 0, slots := 0, locals := 21 })
theorem zX4_signChanges : Zv mX4_signChanges 0 := ⟨tblG_at 660 (by decide +kernel) (by decide +kernel), tblG_at 61 (by decide +kernel) (by decide +kernel), ⟨by decide +kernel, by decide +kernel, by decide +kernel⟩, rfl, rfl, tblG_at 658 (by decide +kernel) (by decide +kernel), tblG_at 659 (by decide +kernel) (by decide +kernel)⟩
def mX4_top : Mt := (yX4_top, cX4_top, 1, (some .int), { frames := 0, cells := 0, slots := 0, locals := 0 })
theorem zX4_top : Zv mX4_top 0 := ⟨tblG_at 683 (by decide +kernel) (by decide +kernel), tblG_at 61 (by decide +kernel) (by decide +kernel), ⟨by decide +kernel, by decide +kernel, by decide +kernel⟩, rfl, rfl, tblG_at 681 (by decide +kernel) (by decide +kernel), tblG_at 682 (by decide +kernel) (by decide +kernel)⟩
def mX4_ways : Mt := (yX4_ways, cX4_ways, 3, (some .int), { frames := 0, cells := 0, slots := 0, locals := 0 })
theorem zX4_ways : Zv mX4_ways 1 := ⟨tblG_at 629 (by decide +kernel) (by decide +kernel), tblG_at 61 (by decide +kernel) (by decide +kernel), ⟨by decide +kernel, by decide +kernel, by decide +kernel⟩, rfl, rfl, tblG_at 628 (by decide +kernel) (by decide +kernel), tblG_at 14 (by decide +kernel) (by decide +kernel)⟩
def mX5_add : Mt := (yX5_add, cX5_add, 3, none, { frames := 0, cells := 0, slots := 0, locals := 0 })
theorem zX5_add : Zv mX5_add 2 := ⟨tblG_at 864 (by decide +kernel) (by decide +kernel), tblG_at 65 (by decide +kernel) (by decide +kernel), ⟨by decide +kernel, by decide +kernel, by decide +kernel⟩, rfl, rfl, tblG_at 863 (by decide +kernel) (by decide +kernel), tblG_at 23 (by decide +kernel) (by decide +kernel)⟩
def mX5_firstHeld : Mt := (yX5_firstHeld, cX5_firstHeld, 4, (some .int), { frames := 4, cells := 0, slots := 0, locals := 101 })
theorem zX5_firstHeld : Zv mX5_firstHeld 2 := ⟨tblG_at 877 (by decide +kernel) (by decide +kernel), tblG_at 65 (by decide +kernel) (by decide +kernel), ⟨by decide +kernel, by decide +kernel, by decide +kernel⟩, rfl, rfl, tblG_at 875 (by decide +kernel) (by decide +kernel), tblG_at 876 (by decide +kernel) (by decide +kernel)⟩
def mX5_judge : Mt := (yX5_judge, cX5_judge, 7, (some .int), { frames := 3, cells := 0, slots := 0, locals := 75 })
theorem zX5_judge : Zs mX5_judge 3 := ⟨tblG_at 854 (by decide +kernel) (by decide +kernel), tblG_at 65 (by decide +kernel) (by decide +kernel), ⟨by decide +kernel, by decide +kernel, by decide +kernel⟩, rfl, rfl, tblG_at 853 (by decide +kernel) (by decide +kernel)⟩
def mX5_measure : Mt := (yX5_measure, cX5_measure, 6, none, { frames := 4, cells := 0, slots := 0, locals := 101 })
theorem zX5_measure : Zv mX5_measure 2 := ⟨tblG_at 848 (by decide +kernel) (by decide +kernel), tblG_at 65 (by decide +kernel) (by decide +kernel), ⟨by decide +kernel, by decide +kernel, by decide +kernel⟩, rfl, rfl, tblG_at 846 (by decide +kernel) (by decide +kernel), tblG_at 847 (by decide +kernel) (by decide +kernel)⟩
def mX5_share : Mt := (yX5_share, cX5_share, 2, (some .int), { frames := 0, cells := 0, slots := 0, locals := 0 })
theorem zX5_share : Zv mX5_share 1 := ⟨tblG_at 869 (by decide +kernel) (by decide +kernel), tblG_at 65 (by decide +kernel) (by decide +kernel), ⟨by decide +kernel, by decide +kernel, by decide +kernel⟩, rfl, rfl, tblG_at 867 (by decide +kernel) (by decide +kernel), tblG_at 868 (by decide +kernel) (by decide +kernel)⟩
def mX6_add : Mt := (yX6_add, cX6_add, 3, none, { frames := 0, cells := 0, slots := 0, locals := 0 })
theorem zX6_add : Zv mX6_add 2 := ⟨tblG_at 893 (by decide +kernel) (by decide +kernel), tblG_at 59 (by decide +kernel) (by decide +kernel), ⟨by decide +kernel, by decide +kernel, by decide +kernel⟩, rfl, rfl, tblG_at 891 (by decide +kernel) (by decide +kernel), tblG_at 892 (by decide +kernel) (by decide +kernel)⟩
def mX6_empty : Mt := (yX6_empty, cX6_empty, 1, none, { frames := 0, cells := 0, slots := 0, locals := 0 })
theorem zX6_empty : Zv mX6_empty 0 := ⟨tblG_at 451 (by decide +kernel) (by decide +kernel), tblG_at 59 (by decide +kernel) (by decide +kernel), ⟨by decide +kernel, by decide +kernel, by decide +kernel⟩, rfl, rfl, tblG_at 449 (by decide +kernel) (by decide +kernel), tblG_at 450 (by decide +kernel) (by decide +kernel)⟩
def mX6_fit : Mt := (yX6_fit, cX6_fit, 4, (some .boolean), { frames := 3, cells := 0, slots := 0, locals := 68 })
theorem zX6_fit : Zv mX6_fit 2 := ⟨tblG_at 909 (by decide +kernel) (by decide +kernel), tblG_at 59 (by decide +kernel) (by decide +kernel), ⟨by decide +kernel, by decide +kernel, by decide +kernel⟩, rfl, rfl, tblG_at 907 (by decide +kernel) (by decide +kernel), tblG_at 908 (by decide +kernel) (by decide +kernel)⟩
def mX6_isFull : Mt := (yX6_isFull, cX6_isFull, 1, (some .boolean), { frames := 0, cells := 0, slots := 0, locals := 0 })
theorem zX6_isFull : Zv mX6_isFull 0 := ⟨tblG_at 889 (by decide +kernel) (by decide +kernel), tblG_at 59 (by decide +kernel) (by decide +kernel), ⟨by decide +kernel, by decide +kernel, by decide +kernel⟩, rfl, rfl, tblG_at 887 (by decide +kernel) (by decide +kernel), tblG_at 888 (by decide +kernel) (by decide +kernel)⟩
def mX6_size : Mt := (yX6_size, cX6_size, 1, (some .int), { frames := 0, cells := 0, slots := 0, locals := 0 })
theorem zX6_size : Zv mX6_size 0 := ⟨tblG_at 897 (by decide +kernel) (by decide +kernel), tblG_at 59 (by decide +kernel) (by decide +kernel), ⟨by decide +kernel, by decide +kernel, by decide +kernel⟩, rfl, rfl, tblG_at 895 (by decide +kernel) (by decide +kernel), tblG_at 896 (by decide +kernel) (by decide +kernel)⟩
def mX7_hasBox : Mt := (yX7_hasBox, cX7_hasBox, 1, (some .boolean), { frames := 1, cells := 0, slots := 0, locals := 21 })
theorem zX7_hasBox : Zv mX7_hasBox 0 := ⟨tblG_at 571 (by decide +kernel) (by decide +kernel), tblG_at 57 (by decide +kernel) (by decide +kernel), ⟨by decide +kernel, by decide +kernel, by decide +kernel⟩, rfl, rfl, tblG_at 569 (by decide +kernel) (by decide +kernel), tblG_at 570 (by decide +kernel) (by decide +kernel)⟩
def mX7_high : Mt := (yX7_high, cX7_high, 2, (some .int), { frames := 1, cells := 0, slots := 0, locals := 22 })
theorem zX7_high : Zv mX7_high 1 := ⟨tblG_at 608 (by decide +kernel) (by decide +kernel), tblG_at 57 (by decide +kernel) (by decide +kernel), ⟨by decide +kernel, by decide +kernel, by decide +kernel⟩, rfl, rfl, tblG_at 606 (by decide +kernel) (by decide +kernel), tblG_at 607 (by decide +kernel) (by decide +kernel)⟩
def mX7_isThere : Mt := (yX7_isThere, cX7_isThere, 1, (some .boolean), { frames := 2, cells := 0, slots := 0, locals := 41 })
theorem zX7_isThere : Zv mX7_isThere 0 := ⟨tblG_at 566 (by decide +kernel) (by decide +kernel), tblG_at 57 (by decide +kernel) (by decide +kernel), ⟨by decide +kernel, by decide +kernel, by decide +kernel⟩, rfl, rfl, tblG_at 564 (by decide +kernel) (by decide +kernel), tblG_at 565 (by decide +kernel) (by decide +kernel)⟩
def mX7_low : Mt := (yX7_low, cX7_low, 2, (some .int), { frames := 1, cells := 0, slots := 0, locals := 22 })
theorem zX7_low : Zv mX7_low 1 := ⟨tblG_at 597 (by decide +kernel) (by decide +kernel), tblG_at 57 (by decide +kernel) (by decide +kernel), ⟨by decide +kernel, by decide +kernel, by decide +kernel⟩, rfl, rfl, tblG_at 595 (by decide +kernel) (by decide +kernel), tblG_at 596 (by decide +kernel) (by decide +kernel)⟩
def mX7_take : Mt := (yX7_take, cX7_take, 3, none, { frames := 0, cells := 0, slots := 0, locals := 0 })
theorem zX7_take : Zv mX7_take 2 := ⟨tblG_at 443 (by decide +kernel) (by decide +kernel), tblG_at 57 (by decide +kernel) (by decide +kernel), ⟨by decide +kernel, by decide +kernel, by decide +kernel⟩, rfl, rfl, tblG_at 441 (by decide +kernel) (by decide +kernel), tblG_at 442 (by decide +kernel) (by decide +kernel)⟩
def mX7_takenBox : Mt := (yX7_takenBox, cX7_takenBox, 1, (some .int), { frames := 0, cells := 0, slots := 0, locals := 0 })
theorem zX7_takenBox : Zv mX7_takenBox 0 := ⟨tblG_at 936 (by decide +kernel) (by decide +kernel), tblG_at 57 (by decide +kernel) (by decide +kernel), ⟨by decide +kernel, by decide +kernel, by decide +kernel⟩, rfl, rfl, tblG_at 934 (by decide +kernel) (by decide +kernel), tblG_at 935 (by decide +kernel) (by decide +kernel)⟩
def mX7_takenPolynomial : Mt := (yX7_takenPolynomial, cX7_takenPolynomial, 1, (some .int), { frames := 0, cells := 0, slots := 0, locals := 0 })
theorem zX7_takenPolynomial : Zv mX7_takenPolynomial 0 := ⟨tblG_at 576 (by decide +kernel) (by decide +kernel), tblG_at 57 (by decide +kernel) (by decide +kernel), ⟨by decide +kernel, by decide +kernel, by decide +kernel⟩, rfl, rfl, tblG_at 574 (by decide +kernel) (by decide +kernel), tblG_at 575 (by decide +kernel) (by decide +kernel)⟩
def mX7_told : Mt := (yX7_told, cX7_told, 1, (some (.object "ControlSigns$Told")), { frames := 0, cells := 0, slots := 0, locals := 0 })
theorem zX7_told : Zv mX7_told 0 := ⟨tblG_at 593 (by decide +kernel) (by decide +kernel), tblG_at 57 (by decide +kernel) (by decide +kernel), ⟨by decide +kernel, by decide +kernel, by decide +kernel⟩, rfl, rfl, tblG_at 591 (by decide +kernel) (by decide +kernel), tblG_at 592 (by decide +kernel) (by decide +kernel)⟩
def mX8_add : Mt := (yX8_add, cX8_add, 2, none, { frames := 0, cells := 0, slots := 0, locals := 0 })
theorem zX8_add : Zv mX8_add 1 := ⟨tblG_at 322 (by decide +kernel) (by decide +kernel), tblG_at 55 (by decide +kernel) (by decide +kernel), ⟨by decide +kernel, by decide +kernel, by decide +kernel⟩, rfl, rfl, tblG_at 320 (by decide +kernel) (by decide +kernel), tblG_at 321 (by decide +kernel) (by decide +kernel)⟩
def mX8_at : Mt := (yX8_at, cX8_at, 2, (some .int), { frames := 0, cells := 0, slots := 0, locals := 0 })
theorem zX8_at : Zv mX8_at 1 := ⟨tblG_at 355 (by decide +kernel) (by decide +kernel), tblG_at 55 (by decide +kernel) (by decide +kernel), ⟨by decide +kernel, by decide +kernel, by decide +kernel⟩, rfl, rfl, tblG_at 353 (by decide +kernel) (by decide +kernel), tblG_at 354 (by decide +kernel) (by decide +kernel)⟩
def mX8_empty : Mt := (yX8_empty, cX8_empty, 1, none, { frames := 0, cells := 0, slots := 0, locals := 0 })
theorem zX8_empty : Zv mX8_empty 0 := ⟨tblG_at 334 (by decide +kernel) (by decide +kernel), tblG_at 55 (by decide +kernel) (by decide +kernel), ⟨by decide +kernel, by decide +kernel, by decide +kernel⟩, rfl, rfl, tblG_at 332 (by decide +kernel) (by decide +kernel), tblG_at 333 (by decide +kernel) (by decide +kernel)⟩
def mX8_isFull : Mt := (yX8_isFull, cX8_isFull, 1, (some .boolean), { frames := 0, cells := 0, slots := 0, locals := 0 })
theorem zX8_isFull : Zv mX8_isFull 0 := ⟨tblG_at 318 (by decide +kernel) (by decide +kernel), tblG_at 55 (by decide +kernel) (by decide +kernel), ⟨by decide +kernel, by decide +kernel, by decide +kernel⟩, rfl, rfl, tblG_at 316 (by decide +kernel) (by decide +kernel), tblG_at 317 (by decide +kernel) (by decide +kernel)⟩
def mX8_length : Mt := (yX8_length, cX8_length, 1, (some .int), { frames := 0, cells := 0, slots := 0, locals := 0 })
theorem zX8_length : Zv mX8_length 0 := ⟨tblG_at 326 (by decide +kernel) (by decide +kernel), tblG_at 55 (by decide +kernel) (by decide +kernel), ⟨by decide +kernel, by decide +kernel, by decide +kernel⟩, rfl, rfl, tblG_at 324 (by decide +kernel) (by decide +kernel), tblG_at 325 (by decide +kernel) (by decide +kernel)⟩
def mX9_closes : Mt := (yX9_closes, cX9_closes, 1, (some .boolean), { frames := 0, cells := 0, slots := 0, locals := 0 })
theorem zX9_closes : Zv mX9_closes 0 := ⟨tblG_at 428 (by decide +kernel) (by decide +kernel), tblG_at 60 (by decide +kernel) (by decide +kernel), ⟨by decide +kernel, by decide +kernel, by decide +kernel⟩, rfl, rfl, tblG_at 427 (by decide +kernel) (by decide +kernel), tblG_at 10 (by decide +kernel) (by decide +kernel)⟩
def mX9_draft : Mt := (yX9_draft, cX9_draft, 1, (some (.object "ControlSigns$Told")), { frames := 0, cells := 0, slots := 0, locals := 0 })
theorem zX9_draft : Zv mX9_draft 0 := ⟨tblG_at 432 (by decide +kernel) (by decide +kernel), tblG_at 60 (by decide +kernel) (by decide +kernel), ⟨by decide +kernel, by decide +kernel, by decide +kernel⟩, rfl, rfl, tblG_at 430 (by decide +kernel) (by decide +kernel), tblG_at 431 (by decide +kernel) (by decide +kernel)⟩
def mX9_hasRoom : Mt := (yX9_hasRoom, cX9_hasRoom, 1, (some .boolean), { frames := 0, cells := 0, slots := 0, locals := 0 })
theorem zX9_hasRoom : Zv mX9_hasRoom 0 := ⟨tblG_at 366 (by decide +kernel) (by decide +kernel), tblG_at 60 (by decide +kernel) (by decide +kernel), ⟨by decide +kernel, by decide +kernel, by decide +kernel⟩, rfl, rfl, tblG_at 365 (by decide +kernel) (by decide +kernel), tblG_at 2 (by decide +kernel) (by decide +kernel)⟩
def mX9_isDigit : Mt := (yX9_isDigit, cX9_isDigit, 1, (some .boolean), { frames := 0, cells := 0, slots := 0, locals := 0 })
theorem zX9_isDigit : Zs mX9_isDigit 1 := ⟨tblG_at 358 (by decide +kernel) (by decide +kernel), tblG_at 60 (by decide +kernel) (by decide +kernel), ⟨by decide +kernel, by decide +kernel, by decide +kernel⟩, rfl, rfl, tblG_at 357 (by decide +kernel) (by decide +kernel)⟩
def mX9_open : Mt := (yX9_open, cX9_open, 2, none, { frames := 0, cells := 0, slots := 0, locals := 0 })
theorem zX9_open : Zv mX9_open 1 := ⟨tblG_at 412 (by decide +kernel) (by decide +kernel), tblG_at 60 (by decide +kernel) (by decide +kernel), ⟨by decide +kernel, by decide +kernel, by decide +kernel⟩, rfl, rfl, tblG_at 411 (by decide +kernel) (by decide +kernel), tblG_at 7 (by decide +kernel) (by decide +kernel)⟩
def mX9_opensBox : Mt := (yX9_opensBox, cX9_opensBox, 1, (some .boolean), { frames := 1, cells := 0, slots := 0, locals := 21 })
theorem zX9_opensBox : Zv mX9_opensBox 0 := ⟨tblG_at 416 (by decide +kernel) (by decide +kernel), tblG_at 60 (by decide +kernel) (by decide +kernel), ⟨by decide +kernel, by decide +kernel, by decide +kernel⟩, rfl, rfl, tblG_at 415 (by decide +kernel) (by decide +kernel), tblG_at 8 (by decide +kernel) (by decide +kernel)⟩
def mX9_opensPolynomial : Mt := (yX9_opensPolynomial, cX9_opensPolynomial, 1, (some .boolean), { frames := 1, cells := 0, slots := 0, locals := 21 })
theorem zX9_opensPolynomial : Zv mX9_opensPolynomial 0 := ⟨tblG_at 400 (by decide +kernel) (by decide +kernel), tblG_at 60 (by decide +kernel) (by decide +kernel), ⟨by decide +kernel, by decide +kernel, by decide +kernel⟩, rfl, rfl, tblG_at 399 (by decide +kernel) (by decide +kernel), tblG_at 6 (by decide +kernel) (by decide +kernel)⟩
def mX9_read : Mt := (yX9_read, cX9_read, 3, (some .int), { frames := 5, cells := 0, slots := 0, locals := 112 })
theorem zX9_read : Zv mX9_read 1 := ⟨tblG_at 342 (by decide +kernel) (by decide +kernel), tblG_at 60 (by decide +kernel) (by decide +kernel), ⟨by decide +kernel, by decide +kernel, by decide +kernel⟩, rfl, rfl, tblG_at 340 (by decide +kernel) (by decide +kernel), tblG_at 341 (by decide +kernel) (by decide +kernel)⟩
def mX9_stands : Mt := (yX9_stands, cX9_stands, 4, (some .boolean), { frames := 4, cells := 0, slots := 0, locals := 89 })
theorem zX9_stands : Zv mX9_stands 2 := ⟨tblG_at 351 (by decide +kernel) (by decide +kernel), tblG_at 60 (by decide +kernel) (by decide +kernel), ⟨by decide +kernel, by decide +kernel, by decide +kernel⟩, rfl, rfl, tblG_at 350 (by decide +kernel) (by decide +kernel), tblG_at 0 (by decide +kernel) (by decide +kernel)⟩
def mX9_takesCoefficient : Mt := (yX9_takesCoefficient, cX9_takesCoefficient, 2, (some .boolean), { frames := 2, cells := 0, slots := 0, locals := 43 })
theorem zX9_takesCoefficient : Zv mX9_takesCoefficient 1 := ⟨tblG_at 370 (by decide +kernel) (by decide +kernel), tblG_at 60 (by decide +kernel) (by decide +kernel), ⟨by decide +kernel, by decide +kernel, by decide +kernel⟩, rfl, rfl, tblG_at 369 (by decide +kernel) (by decide +kernel), tblG_at 3 (by decide +kernel) (by decide +kernel)⟩
def mX9_takesEnd : Mt := (yX9_takesEnd, cX9_takesEnd, 2, (some .boolean), { frames := 2, cells := 0, slots := 0, locals := 42 })
theorem zX9_takesEnd : Zv mX9_takesEnd 1 := ⟨tblG_at 385 (by decide +kernel) (by decide +kernel), tblG_at 60 (by decide +kernel) (by decide +kernel), ⟨by decide +kernel, by decide +kernel, by decide +kernel⟩, rfl, rfl, tblG_at 384 (by decide +kernel) (by decide +kernel), tblG_at 4 (by decide +kernel) (by decide +kernel)⟩
def mX9_takesMinus : Mt := (yX9_takesMinus, cX9_takesMinus, 1, (some .boolean), { frames := 1, cells := 0, slots := 0, locals := 20 })
theorem zX9_takesMinus : Zv mX9_takesMinus 0 := ⟨tblG_at 424 (by decide +kernel) (by decide +kernel), tblG_at 60 (by decide +kernel) (by decide +kernel), ⟨by decide +kernel, by decide +kernel, by decide +kernel⟩, rfl, rfl, tblG_at 423 (by decide +kernel) (by decide +kernel), tblG_at 9 (by decide +kernel) (by decide +kernel)⟩
def mX9_takesNumber : Mt := (yX9_takesNumber, cX9_takesNumber, 6, (some .boolean), { frames := 3, cells := 0, slots := 0, locals := 64 })
theorem zX9_takesNumber : Zv mX9_takesNumber 2 := ⟨tblG_at 362 (by decide +kernel) (by decide +kernel), tblG_at 60 (by decide +kernel) (by decide +kernel), ⟨by decide +kernel, by decide +kernel, by decide +kernel⟩, rfl, rfl, tblG_at 361 (by decide +kernel) (by decide +kernel), tblG_at 1 (by decide +kernel) (by decide +kernel)⟩
def mX9_takesSign : Mt := (yX9_takesSign, cX9_takesSign, 2, (some .boolean), { frames := 2, cells := 0, slots := 0, locals := 41 })
theorem zX9_takesSign : Zv mX9_takesSign 1 := ⟨tblG_at 396 (by decide +kernel) (by decide +kernel), tblG_at 60 (by decide +kernel) (by decide +kernel), ⟨by decide +kernel, by decide +kernel, by decide +kernel⟩, rfl, rfl, tblG_at 395 (by decide +kernel) (by decide +kernel), tblG_at 5 (by decide +kernel) (by decide +kernel)⟩
theorem lkX9_91 : (RX9, 91, yX11_isCoefficient, "ControlSigns") ∈ nstL := List.mem_of_getElem? (i := 11) (by decide +kernel)
theorem lkX9_97 : (RX9, 97, yX11_isPlace, "ControlSigns") ∈ nstL := List.mem_of_getElem? (i := 12) (by decide +kernel)
theorem lkX7_34 : (RX7, 34, yX11_partsOf, "ControlSigns") ∈ nstL := List.mem_of_getElem? (i := 13) (by decide +kernel)
theorem lkX4_96 : (RX4, 96, yX11_signOf, "ControlSigns") ∈ nstL := List.mem_of_getElem? (i := 14) (by decide +kernel)
theorem lkX3_40 : (RX3, 40, yX11_behind, "ControlSigns") ∈ nstL := List.mem_of_getElem? (i := 15) (by decide +kernel)
theorem lkX2_30 : (RX2, 30, yX11_behind, "ControlSigns") ∈ nstL := List.mem_of_getElem? (i := 16) (by decide +kernel)
theorem lkX2_70 : (RX2, 70, yX11_isWithin, "ControlSigns") ∈ nstL := List.mem_of_getElem? (i := 17) (by decide +kernel)
theorem lkX5_25 : (RX5, 25, yX11_partsOf, "ControlSigns") ∈ nstL := List.mem_of_getElem? (i := 18) (by decide +kernel)
theorem lkX5_33 : (RX5, 33, yX11_behind, "ControlSigns") ∈ nstL := List.mem_of_getElem? (i := 19) (by decide +kernel)
theorem lkX6_28 : (RX6, 28, yX11_signOf, "ControlSigns") ∈ nstL := List.mem_of_getElem? (i := 20) (by decide +kernel)
theorem lkX11_92 : Cond.methodLink RX11 92 yX11_isWithin ∈ tblG := tblG_at 312 (by decide +kernel) (by decide +kernel)
theorem lkX11_96 : Cond.methodLink RX11 96 yX8_isFull ∈ tblG := tblG_at 315 (by decide +kernel) (by decide +kernel)
theorem lkX11_100 : Cond.methodLink RX11 100 yX8_add ∈ tblG := tblG_at 319 (by decide +kernel) (by decide +kernel)
theorem lkX11_104 : Cond.methodLink RX11 104 yX8_length ∈ tblG := tblG_at 323 (by decide +kernel) (by decide +kernel)
theorem lkX11_108 : Cond.methodLink RX11 108 yX8_empty ∈ tblG := tblG_at 331 (by decide +kernel) (by decide +kernel)
theorem lkX11_111 : Cond.methodLink RX11 111 yX9_read ∈ tblG := tblG_at 339 (by decide +kernel) (by decide +kernel)
theorem lkX11_115 : Cond.methodLink RX11 115 yX9_draft ∈ tblG := tblG_at 429 (by decide +kernel) (by decide +kernel)
theorem lkX11_119 : Cond.methodLink RX11 119 yX10_become ∈ tblG := tblG_at 433 (by decide +kernel) (by decide +kernel)
theorem lkX11_122 : Cond.methodLink RX11 122 yX7_take ∈ tblG := tblG_at 440 (by decide +kernel) (by decide +kernel)
theorem lkX11_126 : Cond.methodLink RX11 126 yX1_empty ∈ tblG := tblG_at 444 (by decide +kernel) (by decide +kernel)
theorem lkX11_131 : Cond.methodLink RX11 131 yX6_empty ∈ tblG := tblG_at 448 (by decide +kernel) (by decide +kernel)
theorem lkX11_132 : Cond.methodLink RX11 132 yX10_polynomials ∈ tblG := tblG_at 452 (by decide +kernel) (by decide +kernel)
theorem lkX11_135 : Cond.methodLink RX11 135 yX10_boxes ∈ tblG := tblG_at 453 (by decide +kernel) (by decide +kernel)
theorem lkX11_138 : Cond.methodLink RX11 138 yX10_hasPolynomial ∈ tblG := tblG_at 458 (by decide +kernel) (by decide +kernel)
theorem lkX11_142 : Cond.methodLink RX11 142 yX10_hasBox ∈ tblG := tblG_at 459 (by decide +kernel) (by decide +kernel)
theorem lkX11_145 : Cond.methodLink RX11 145 yX10_hasCoefficient ∈ tblG := tblG_at 467 (by decide +kernel) (by decide +kernel)
theorem lkX11_149 : Cond.methodLink RX11 149 yX10_coefficient ∈ tblG := tblG_at 471 (by decide +kernel) (by decide +kernel)
theorem lkX11_155 : Cond.methodLink RX11 155 yX10_lower ∈ tblG := tblG_at 481 (by decide +kernel) (by decide +kernel)
theorem lkX11_159 : Cond.methodLink RX11 159 yX10_upper ∈ tblG := tblG_at 486 (by decide +kernel) (by decide +kernel)
theorem lkX11_162 : Cond.methodLink RX11 162 yX11_isCoefficient ∈ tblG := tblG_at 494 (by decide +kernel) (by decide +kernel)
theorem lkX11_165 : Cond.methodLink RX11 165 yX1_rememberCoefficient ∈ tblG := tblG_at 495 (by decide +kernel) (by decide +kernel)
theorem lkX11_169 : Cond.methodLink RX11 169 yX10_putCoefficient ∈ tblG := tblG_at 505 (by decide +kernel) (by decide +kernel)
theorem lkX11_173 : Cond.methodLink RX11 173 yX11_isPlace ∈ tblG := tblG_at 513 (by decide +kernel) (by decide +kernel)
theorem lkX11_176 : Cond.methodLink RX11 176 yX1_rememberBox ∈ tblG := tblG_at 514 (by decide +kernel) (by decide +kernel)
theorem lkX11_180 : Cond.methodLink RX11 180 yX10_putBox ∈ tblG := tblG_at 520 (by decide +kernel) (by decide +kernel)
theorem lkX11_183 : Cond.methodLink RX11 183 yX10_wanted ∈ tblG := tblG_at 528 (by decide +kernel) (by decide +kernel)
theorem lkX11_186 : Cond.methodLink RX11 186 yX1_rememberWish ∈ tblG := tblG_at 532 (by decide +kernel) (by decide +kernel)
theorem lkX11_189 : Cond.methodLink RX11 189 yX10_want ∈ tblG := tblG_at 537 (by decide +kernel) (by decide +kernel)
theorem lkX11_192 : Cond.methodLink RX11 192 yX1_size ∈ tblG := tblG_at 545 (by decide +kernel) (by decide +kernel)
theorem lkX11_195 : Cond.methodLink RX11 195 yX1_takeBack ∈ tblG := tblG_at 549 (by decide +kernel) (by decide +kernel)
theorem lkX11_198 : Cond.methodLink RX11 198 yX11_isNode ∈ tblG := tblG_at 560 (by decide +kernel) (by decide +kernel)
theorem lkX11_201 : Cond.methodLink RX11 201 yX7_isThere ∈ tblG := tblG_at 563 (by decide +kernel) (by decide +kernel)
theorem lkX11_204 : Cond.methodLink RX11 204 yX7_takenPolynomial ∈ tblG := tblG_at 573 (by decide +kernel) (by decide +kernel)
theorem lkX11_207 : Cond.methodLink RX11 207 yX10_degree ∈ tblG := tblG_at 577 (by decide +kernel) (by decide +kernel)
theorem lkX11_210 : Cond.methodLink RX11 210 yX4_layRaised ∈ tblG := tblG_at 581 (by decide +kernel) (by decide +kernel)
theorem lkX11_214 : Cond.methodLink RX11 214 yX4_number ∈ tblG := tblG_at 636 (by decide +kernel) (by decide +kernel)
theorem lkX11_218 : Cond.methodLink RX11 218 yX4_below ∈ tblG := tblG_at 640 (by decide +kernel) (by decide +kernel)
theorem lkX11_221 : Cond.methodLink RX11 221 yX11_part ∈ tblG := tblG_at 644 (by decide +kernel) (by decide +kernel)
theorem lkX11_225 : Cond.methodLink RX11 225 yX4_signChanges ∈ tblG := tblG_at 657 (by decide +kernel) (by decide +kernel)
theorem lkX11_228 : Cond.methodLink RX11 228 yX7_low ∈ tblG := tblG_at 669 (by decide +kernel) (by decide +kernel)
theorem lkX11_231 : Cond.methodLink RX11 231 yX7_high ∈ tblG := tblG_at 670 (by decide +kernel) (by decide +kernel)
theorem lkX11_236 : Cond.methodLink RX11 236 yX4_lay ∈ tblG := tblG_at 676 (by decide +kernel) (by decide +kernel)
theorem lkX11_240 : Cond.methodLink RX11 240 yX4_top ∈ tblG := tblG_at 680 (by decide +kernel) (by decide +kernel)
theorem lkX11_243 : Cond.methodLink RX11 243 yX3_find ∈ tblG := tblG_at 688 (by decide +kernel) (by decide +kernel)
theorem lkX11_247 : Cond.methodLink RX11 247 yX3_size ∈ tblG := tblG_at 709 (by decide +kernel) (by decide +kernel)
theorem lkX11_248 : Cond.methodLink RX11 248 yX3_node ∈ tblG := tblG_at 717 (by decide +kernel) (by decide +kernel)
theorem lkX11_251 : Cond.methodLink RX11 251 yX3_kind ∈ tblG := tblG_at 721 (by decide +kernel) (by decide +kernel)
theorem lkX11_254 : Cond.methodLink RX11 254 yX2_write ∈ tblG := tblG_at 729 (by decide +kernel) (by decide +kernel)
theorem lkX11_258 : Cond.methodLink RX11 258 yX2_letter ∈ tblG := tblG_at 758 (by decide +kernel) (by decide +kernel)
theorem lkX11_261 : Cond.methodLink RX11 261 yX2_place ∈ tblG := tblG_at 766 (by decide +kernel) (by decide +kernel)
theorem lkX11_264 : Cond.methodLink RX11 264 yX2_read ∈ tblG := tblG_at 774 (by decide +kernel) (by decide +kernel)
theorem lkX11_267 : Cond.methodLink RX11 267 yX0_narrow ∈ tblG := tblG_at 789 (by decide +kernel) (by decide +kernel)
theorem lkX11_271 : Cond.methodLink RX11 271 yX0_leastNumber ∈ tblG := tblG_at 822 (by decide +kernel) (by decide +kernel)
theorem lkX11_275 : Cond.methodLink RX11 275 yX0_leastEnd ∈ tblG := tblG_at 831 (by decide +kernel) (by decide +kernel)
theorem lkX11_278 : Cond.methodLink RX11 278 yX4_commonBelow ∈ tblG := tblG_at 835 (by decide +kernel) (by decide +kernel)
theorem lkX11_281 : Cond.methodLink RX11 281 yX7_hasBox ∈ tblG := tblG_at 844 (by decide +kernel) (by decide +kernel)
theorem lkX11_283 : Cond.methodLink RX11 283 yX5_measure ∈ tblG := tblG_at 845 (by decide +kernel) (by decide +kernel)
theorem lkX11_286 : Cond.methodLink RX11 286 yX5_share ∈ tblG := tblG_at 866 (by decide +kernel) (by decide +kernel)
theorem lkX11_289 : Cond.methodLink RX11 289 yX5_firstHeld ∈ tblG := tblG_at 874 (by decide +kernel) (by decide +kernel)
theorem lkX11_292 : Cond.methodLink RX11 292 yX6_isFull ∈ tblG := tblG_at 886 (by decide +kernel) (by decide +kernel)
theorem lkX11_293 : Cond.methodLink RX11 293 yX6_add ∈ tblG := tblG_at 890 (by decide +kernel) (by decide +kernel)
theorem lkX11_295 : Cond.methodLink RX11 295 yX6_size ∈ tblG := tblG_at 894 (by decide +kernel) (by decide +kernel)
theorem lkX11_296 : Cond.methodLink RX11 296 yX6_fit ∈ tblG := tblG_at 906 (by decide +kernel) (by decide +kernel)
theorem lkX11_300 : Cond.methodLink RX11 300 yX11_isImage ∈ tblG := tblG_at 921 (by decide +kernel) (by decide +kernel)
theorem lkX11_303 : Cond.methodLink RX11 303 yX7_takenBox ∈ tblG := tblG_at 933 (by decide +kernel) (by decide +kernel)
theorem lkX11_306 : Cond.methodLink RX11 306 Lib.MathLoose.abs_long.x ∈ tblG ∧ Cond.static Lib.MathLoose.abs_long.x ∈ tblG ∧ Cond.initialized "java/lang/Math" ∈ tblG ∧ Cond.code Lib.MathLoose.abs_long.x Lib.MathLoose.abs_long.code 2 (some .long) ∈ tblG := ⟨tblG_at 647 (by decide +kernel) (by decide +kernel), tblG_at 648 (by decide +kernel) (by decide +kernel), tblG_at 68 (by decide +kernel) (by decide +kernel), tblG_at 649 (by decide +kernel) (by decide +kernel)⟩
theorem lkX11_312 : Cond.methodLink RX11 312 yX11_commonDivisor ∈ tblG := tblG_at 650 (by decide +kernel) (by decide +kernel)
theorem lkX0_26 : Cond.methodLink RX0 26 yX0_put ∈ tblG := tblG_at 793 (by decide +kernel) (by decide +kernel)
theorem lkX0_30 : Cond.methodLink RX0 30 yX0_lowest ∈ tblG := tblG_at 813 (by decide +kernel) (by decide +kernel)
theorem lkX0_34 : Cond.methodLink RX0 34 yX0_makeRoom ∈ tblG := tblG_at 817 (by decide +kernel) (by decide +kernel)
theorem lkX0_38 : Cond.methodLink RX0 38 arraycopyName ∈ tblG ∧ Cond.native arraycopyName ∈ tblG ∧ Cond.static arraycopyName ∈ tblG ∧ Cond.initialized "java/lang/System" ∈ tblG := ⟨tblG_at 821 (by decide +kernel) (by decide +kernel), tblG_at 439 (by decide +kernel) (by decide +kernel), tblG_at 438 (by decide +kernel) (by decide +kernel), tblG_at 67 (by decide +kernel) (by decide +kernel)⟩
theorem lkX0_44 : Cond.methodLink RX0 44 yX4_lay ∈ tblG := tblG_at 797 (by decide +kernel) (by decide +kernel)
theorem lkX0_50 : Cond.methodLink RX0 50 yX4_least ∈ tblG := tblG_at 798 (by decide +kernel) (by decide +kernel)
theorem lkX0_54 : Cond.methodLink RX0 54 yX4_leastEnd ∈ tblG := tblG_at 809 (by decide +kernel) (by decide +kernel)
theorem lkX0_57 : Cond.methodLink RX0 57 yX0_leastOf ∈ tblG := tblG_at 826 (by decide +kernel) (by decide +kernel)
theorem lkX0_61 : Cond.methodLink RX0 61 Lib.MathLoose.min_long.x ∈ tblG ∧ Cond.static Lib.MathLoose.min_long.x ∈ tblG ∧ Cond.initialized "java/lang/Math" ∈ tblG ∧ Cond.code Lib.MathLoose.min_long.x Lib.MathLoose.min_long.code 4 (some .long) ∈ tblG := ⟨tblG_at 830 (by decide +kernel) (by decide +kernel), tblG_at 807 (by decide +kernel) (by decide +kernel), tblG_at 68 (by decide +kernel) (by decide +kernel), tblG_at 808 (by decide +kernel) (by decide +kernel)⟩
theorem lkX1_19 : Cond.methodLink RX1 19 yX10_coefficient ∈ tblG := tblG_at 499 (by decide +kernel) (by decide +kernel)
theorem lkX1_25 : Cond.methodLink RX1 25 yX1_remember ∈ tblG := tblG_at 500 (by decide +kernel) (by decide +kernel)
theorem lkX1_29 : Cond.methodLink RX1 29 yX10_lower ∈ tblG := tblG_at 518 (by decide +kernel) (by decide +kernel)
theorem lkX1_33 : Cond.methodLink RX1 33 yX10_upper ∈ tblG := tblG_at 519 (by decide +kernel) (by decide +kernel)
theorem lkX1_36 : Cond.methodLink RX1 36 yX10_wanted ∈ tblG := tblG_at 536 (by decide +kernel) (by decide +kernel)
theorem lkX1_39 : Cond.methodLink RX1 39 arraycopyName ∈ tblG ∧ Cond.native arraycopyName ∈ tblG ∧ Cond.static arraycopyName ∈ tblG ∧ Cond.initialized "java/lang/System" ∈ tblG := ⟨tblG_at 504 (by decide +kernel) (by decide +kernel), tblG_at 439 (by decide +kernel) (by decide +kernel), tblG_at 438 (by decide +kernel) (by decide +kernel), tblG_at 67 (by decide +kernel) (by decide +kernel)⟩
theorem lkX1_45 : Cond.methodLink RX1 45 yX10_putCoefficient ∈ tblG := tblG_at 553 (by decide +kernel) (by decide +kernel)
theorem lkX1_49 : Cond.methodLink RX1 49 yX10_putBox ∈ tblG := tblG_at 554 (by decide +kernel) (by decide +kernel)
theorem lkX1_52 : Cond.methodLink RX1 52 yX10_want ∈ tblG := tblG_at 555 (by decide +kernel) (by decide +kernel)
theorem lkX2_22 : Cond.methodLink RX2 22 yX2_leastFigure ∈ tblG := tblG_at 733 (by decide +kernel) (by decide +kernel)
theorem lkX2_26 : Cond.methodLink RX2 26 yX2_add ∈ tblG := tblG_at 742 (by decide +kernel) (by decide +kernel)
theorem lkX2_34 : Cond.methodLink RX2 34 yX4_signAtLow ∈ tblG := tblG_at 747 (by decide +kernel) (by decide +kernel)
theorem lkX2_40 : Cond.methodLink RX2 40 yX7_low ∈ tblG := tblG_at 751 (by decide +kernel) (by decide +kernel)
theorem lkX2_45 : Cond.methodLink RX2 45 yX4_signAtHigh ∈ tblG := tblG_at 752 (by decide +kernel) (by decide +kernel)
theorem lkX2_48 : Cond.methodLink RX2 48 yX7_high ∈ tblG := tblG_at 753 (by decide +kernel) (by decide +kernel)
theorem lkX2_51 : Cond.methodLink RX2 51 yX4_lay ∈ tblG := tblG_at 736 (by decide +kernel) (by decide +kernel)
theorem lkX2_55 : Cond.methodLink RX2 55 yX4_allHave ∈ tblG := tblG_at 737 (by decide +kernel) (by decide +kernel)
theorem lkX2_59 : Cond.methodLink RX2 59 yX4_raise ∈ tblG := tblG_at 741 (by decide +kernel) (by decide +kernel)
theorem lkX2_62 : Cond.methodLink RX2 62 yX8_length ∈ tblG := tblG_at 778 (by decide +kernel) (by decide +kernel)
theorem lkX2_67 : Cond.methodLink RX2 67 yX8_at ∈ tblG := tblG_at 779 (by decide +kernel) (by decide +kernel)
theorem lkX2_74 : Cond.methodLink RX2 74 yX2_isRight ∈ tblG := tblG_at 781 (by decide +kernel) (by decide +kernel)
theorem lkX2_78 : Cond.methodLink RX2 78 yX4_layRaised ∈ tblG := tblG_at 784 (by decide +kernel) (by decide +kernel)
theorem lkX3_22 : Cond.methodLink RX3 22 yX4_lay ∈ tblG := tblG_at 692 (by decide +kernel) (by decide +kernel)
theorem lkX3_28 : Cond.methodLink RX3 28 yX4_signChanges ∈ tblG := tblG_at 693 (by decide +kernel) (by decide +kernel)
theorem lkX3_32 : Cond.methodLink RX3 32 yX3_add ∈ tblG := tblG_at 694 (by decide +kernel) (by decide +kernel)
theorem lkX3_36 : Cond.methodLink RX3 36 yX3_pass ∈ tblG := tblG_at 698 (by decide +kernel) (by decide +kernel)
theorem lkX3_44 : Cond.methodLink RX3 44 yX4_signAtHigh ∈ tblG := tblG_at 705 (by decide +kernel) (by decide +kernel)
theorem lkX4_19 : Cond.methodLink RX4 19 yX7_takenPolynomial ∈ tblG := tblG_at 585 (by decide +kernel) (by decide +kernel)
theorem lkX4_25 : Cond.methodLink RX4 25 yX4_layOne ∈ tblG := tblG_at 586 (by decide +kernel) (by decide +kernel)
theorem lkX4_29 : Cond.methodLink RX4 29 yX4_raise ∈ tblG := tblG_at 632 (by decide +kernel) (by decide +kernel)
theorem lkX4_32 : Cond.methodLink RX4 32 yX7_told ∈ tblG := tblG_at 590 (by decide +kernel) (by decide +kernel)
theorem lkX4_36 : Cond.methodLink RX4 36 yX7_low ∈ tblG := tblG_at 594 (by decide +kernel) (by decide +kernel)
theorem lkX4_40 : Cond.methodLink RX4 40 yX7_high ∈ tblG := tblG_at 605 (by decide +kernel) (by decide +kernel)
theorem lkX4_43 : Cond.methodLink RX4 43 yX10_degree ∈ tblG := tblG_at 609 (by decide +kernel) (by decide +kernel)
theorem lkX4_48 : Cond.methodLink RX4 48 Lib.Math.min.name ∈ tblG ∧ Cond.static Lib.Math.min.name ∈ tblG ∧ Cond.initialized "java/lang/Math" ∈ tblG ∧ Cond.code Lib.Math.min.name Lib.Math.min.code 2 (some .int) ∈ tblG := ⟨tblG_at 610 (by decide +kernel) (by decide +kernel), tblG_at 611 (by decide +kernel) (by decide +kernel), tblG_at 68 (by decide +kernel) (by decide +kernel), tblG_at 612 (by decide +kernel) (by decide +kernel)⟩
theorem lkX4_54 : Cond.methodLink RX4 54 yJ7_fill_d0a16 ∈ tblG := tblG_at 613 (by decide +kernel) (by decide +kernel)
theorem lkX4_64 : Cond.methodLink RX4 64 yX10_coefficient ∈ tblG := tblG_at 616 (by decide +kernel) (by decide +kernel)
theorem lkX4_69 : Cond.methodLink RX4 69 yX4_multiply ∈ tblG := tblG_at 618 (by decide +kernel) (by decide +kernel)
theorem lkX4_73 : Cond.methodLink RX4 73 yX4_addWhole ∈ tblG := tblG_at 622 (by decide +kernel) (by decide +kernel)
theorem lkX4_77 : Cond.methodLink RX4 77 yX4_ways ∈ tblG := tblG_at 626 (by decide +kernel) (by decide +kernel)
theorem lkX4_84 : Cond.methodLink RX4 84 yX4_number ∈ tblG := tblG_at 661 (by decide +kernel) (by decide +kernel)
theorem lkX4_90 : Cond.methodLink RX4 90 yX4_commonNumber ∈ tblG := tblG_at 802 (by decide +kernel) (by decide +kernel)
theorem lkX4_93 : Cond.methodLink RX4 93 Lib.MathLoose.min_long.x ∈ tblG ∧ Cond.static Lib.MathLoose.min_long.x ∈ tblG ∧ Cond.initialized "java/lang/Math" ∈ tblG ∧ Cond.code Lib.MathLoose.min_long.x Lib.MathLoose.min_long.code 4 (some .long) ∈ tblG := ⟨tblG_at 806 (by decide +kernel) (by decide +kernel), tblG_at 807 (by decide +kernel) (by decide +kernel), tblG_at 68 (by decide +kernel) (by decide +kernel), tblG_at 808 (by decide +kernel) (by decide +kernel)⟩
theorem lkX5_15 : Cond.methodLink RX5 15 yJ7_fill_53178 ∈ tblG := tblG_at 849 (by decide +kernel) (by decide +kernel)
theorem lkX5_21 : Cond.methodLink RX5 21 yX5_judge ∈ tblG := tblG_at 852 (by decide +kernel) (by decide +kernel)
theorem lkX5_29 : Cond.methodLink RX5 29 yX5_add ∈ tblG := tblG_at 861 (by decide +kernel) (by decide +kernel)
theorem lkX5_36 : Cond.methodLink RX5 36 yX7_told ∈ tblG := tblG_at 855 (by decide +kernel) (by decide +kernel)
theorem lkX5_42 : Cond.methodLink RX5 42 yX10_polynomials ∈ tblG := tblG_at 856 (by decide +kernel) (by decide +kernel)
theorem lkX5_48 : Cond.methodLink RX5 48 yX10_wanted ∈ tblG := tblG_at 857 (by decide +kernel) (by decide +kernel)
theorem lkX5_51 : Cond.methodLink RX5 51 yX4_layOne ∈ tblG := tblG_at 858 (by decide +kernel) (by decide +kernel)
theorem lkX5_57 : Cond.methodLink RX5 57 yX4_allHave ∈ tblG := tblG_at 859 (by decide +kernel) (by decide +kernel)
theorem lkX6_22 : Cond.methodLink RX6 22 yX10_at ∈ tblG := tblG_at 910 (by decide +kernel) (by decide +kernel)
theorem lkX7_22 : Cond.methodLink RX7 22 yX10_hasBox ∈ tblG := tblG_at 572 (by decide +kernel) (by decide +kernel)
theorem lkX7_28 : Cond.methodLink RX7 28 yX10_hasPolynomial ∈ tblG := tblG_at 567 (by decide +kernel) (by decide +kernel)
theorem lkX7_31 : Cond.methodLink RX7 31 yX7_hasBox ∈ tblG := tblG_at 568 (by decide +kernel) (by decide +kernel)
theorem lkX7_38 : Cond.methodLink RX7 38 yX10_placeBehind ∈ tblG := tblG_at 601 (by decide +kernel) (by decide +kernel)
theorem lkX9_18 : Cond.methodLink RX9 18 yX10_empty ∈ tblG := tblG_at 343 (by decide +kernel) (by decide +kernel)
theorem lkX9_25 : Cond.methodLink RX9 25 yX8_length ∈ tblG := tblG_at 347 (by decide +kernel) (by decide +kernel)
theorem lkX9_31 : Cond.methodLink RX9 31 yX9_stands ∈ tblG := tblG_at 348 (by decide +kernel) (by decide +kernel)
theorem lkX9_35 : Cond.methodLink RX9 35 yX8_at ∈ tblG := tblG_at 352 (by decide +kernel) (by decide +kernel)
theorem lkX9_39 : Cond.methodLink RX9 39 yX9_isDigit ∈ tblG := tblG_at 356 (by decide +kernel) (by decide +kernel)
theorem lkX9_43 : Cond.methodLink RX9 43 yX9_takesNumber ∈ tblG := tblG_at 359 (by decide +kernel) (by decide +kernel)
theorem lkX9_46 : Cond.methodLink RX9 46 yX9_takesSign ∈ tblG := tblG_at 393 (by decide +kernel) (by decide +kernel)
theorem lkX9_49 : Cond.methodLink RX9 49 yX9_opensPolynomial ∈ tblG := tblG_at 397 (by decide +kernel) (by decide +kernel)
theorem lkX9_53 : Cond.methodLink RX9 53 yX9_opensBox ∈ tblG := tblG_at 413 (by decide +kernel) (by decide +kernel)
theorem lkX9_56 : Cond.methodLink RX9 56 yX9_takesMinus ∈ tblG := tblG_at 421 (by decide +kernel) (by decide +kernel)
theorem lkX9_59 : Cond.methodLink RX9 59 yX9_closes ∈ tblG := tblG_at 425 (by decide +kernel) (by decide +kernel)
theorem lkX9_62 : Cond.methodLink RX9 62 yX10_polynomials ∈ tblG := tblG_at 401 (by decide +kernel) (by decide +kernel)
theorem lkX9_65 : Cond.methodLink RX9 65 yX10_addPolynomial ∈ tblG := tblG_at 405 (by decide +kernel) (by decide +kernel)
theorem lkX9_68 : Cond.methodLink RX9 68 yX9_open ∈ tblG := tblG_at 409 (by decide +kernel) (by decide +kernel)
theorem lkX9_72 : Cond.methodLink RX9 72 yX10_boxes ∈ tblG := tblG_at 417 (by decide +kernel) (by decide +kernel)
theorem lkX9_82 : Cond.methodLink RX9 82 yX9_hasRoom ∈ tblG := tblG_at 363 (by decide +kernel) (by decide +kernel)
theorem lkX9_85 : Cond.methodLink RX9 85 yX9_takesCoefficient ∈ tblG := tblG_at 367 (by decide +kernel) (by decide +kernel)
theorem lkX9_88 : Cond.methodLink RX9 88 yX9_takesEnd ∈ tblG := tblG_at 382 (by decide +kernel) (by decide +kernel)
theorem lkX9_94 : Cond.methodLink RX9 94 yX10_addCoefficient ∈ tblG := tblG_at 374 (by decide +kernel) (by decide +kernel)
theorem lkX9_103 : Cond.methodLink RX9 103 yX10_addBox ∈ tblG := tblG_at 389 (by decide +kernel) (by decide +kernel)
theorem lkX10_34 : Cond.methodLink RX10 34 yX10_hasPolynomial ∈ tblG := tblG_at 378 (by decide +kernel) (by decide +kernel)
theorem lkX10_38 : Cond.methodLink RX10 38 yX10_hasCoefficient ∈ tblG := tblG_at 475 (by decide +kernel) (by decide +kernel)
theorem lkX10_42 : Cond.methodLink RX10 42 yX10_hasBox ∈ tblG := tblG_at 485 (by decide +kernel) (by decide +kernel)
theorem lkX10_45 : Cond.methodLink RX10 45 yX10_degree ∈ tblG := tblG_at 914 (by decide +kernel) (by decide +kernel)
theorem lkX10_49 : Cond.methodLink RX10 49 yX10_coefficient ∈ tblG := tblG_at 915 (by decide +kernel) (by decide +kernel)
theorem lkX10_53 : Cond.methodLink RX10 53 arraycopyName ∈ tblG ∧ Cond.native arraycopyName ∈ tblG ∧ Cond.static arraycopyName ∈ tblG ∧ Cond.initialized "java/lang/System" ∈ tblG := ⟨tblG_at 437 (by decide +kernel) (by decide +kernel), tblG_at 439 (by decide +kernel) (by decide +kernel), tblG_at 438 (by decide +kernel) (by decide +kernel), tblG_at 67 (by decide +kernel) (by decide +kernel)⟩
theorem lkL_13 : Cond.methodLink RL 13 yX11_type ∈ tblG := tblG_at 308 (by decide +kernel) (by decide +kernel)
theorem lkL_17 : Cond.methodLink RL 17 yX12_type ∈ tblG := tblG_at 1051 (by decide +kernel) (by decide +kernel)
theorem lkL_18 : Cond.methodLink RL 18 yX11_clear ∈ tblG := tblG_at 327 (by decide +kernel) (by decide +kernel)
theorem lkL_22 : Cond.methodLink RL 22 yX12_clear ∈ tblG := tblG_at 1058 (by decide +kernel) (by decide +kernel)
theorem lkL_23 : Cond.methodLink RL 23 yX11_house ∈ tblG := tblG_at 335 (by decide +kernel) (by decide +kernel)
theorem lkL_26 : Cond.methodLink RL 26 yX12_house ∈ tblG := tblG_at 1062 (by decide +kernel) (by decide +kernel)
theorem lkL_27 : Cond.methodLink RL 27 yX11_takes ∈ tblG := tblG_at 454 (by decide +kernel) (by decide +kernel)
theorem lkL_31 : Cond.methodLink RL 31 yX12_takes ∈ tblG := tblG_at 1090 (by decide +kernel) (by decide +kernel)
theorem lkL_32 : Cond.methodLink RL 32 yX11_coef ∈ tblG := tblG_at 463 (by decide +kernel) (by decide +kernel)
theorem lkL_36 : Cond.methodLink RL 36 yX12_coef ∈ tblG := tblG_at 1102 (by decide +kernel) (by decide +kernel)
theorem lkL_37 : Cond.methodLink RL 37 yX11_box ∈ tblG := tblG_at 477 (by decide +kernel) (by decide +kernel)
theorem lkL_40 : Cond.methodLink RL 40 yX12_box ∈ tblG := tblG_at 1111 (by decide +kernel) (by decide +kernel)
theorem lkL_41 : Cond.methodLink RL 41 yX11_coefs ∈ tblG := tblG_at 490 (by decide +kernel) (by decide +kernel)
theorem lkL_45 : Cond.methodLink RL 45 yX12_coefs ∈ tblG := tblG_at 1115 (by decide +kernel) (by decide +kernel)
theorem lkL_46 : Cond.methodLink RL 46 yX11_ends ∈ tblG := tblG_at 509 (by decide +kernel) (by decide +kernel)
theorem lkL_49 : Cond.methodLink RL 49 yX12_ends ∈ tblG := tblG_at 1123 (by decide +kernel) (by decide +kernel)
theorem lkL_50 : Cond.methodLink RL 50 yX11_wishes ∈ tblG := tblG_at 524 (by decide +kernel) (by decide +kernel)
theorem lkL_53 : Cond.methodLink RL 53 yX12_wishes ∈ tblG := tblG_at 1127 (by decide +kernel) (by decide +kernel)
theorem lkL_54 : Cond.methodLink RL 54 yX11_undo ∈ tblG := tblG_at 541 (by decide +kernel) (by decide +kernel)
theorem lkL_57 : Cond.methodLink RL 57 yX12_undo ∈ tblG := tblG_at 1131 (by decide +kernel) (by decide +kernel)
theorem lkL_58 : Cond.methodLink RL 58 yX11_control ∈ tblG := tblG_at 556 (by decide +kernel) (by decide +kernel)
theorem lkL_62 : Cond.methodLink RL 62 yX12_control ∈ tblG := tblG_at 1135 (by decide +kernel) (by decide +kernel)
theorem lkL_63 : Cond.methodLink RL 63 yX11_variation ∈ tblG := tblG_at 653 (by decide +kernel) (by decide +kernel)
theorem lkL_66 : Cond.methodLink RL 66 yX12_variation ∈ tblG := tblG_at 1178 (by decide +kernel) (by decide +kernel)
theorem lkL_67 : Cond.methodLink RL 67 yX11_end ∈ tblG := tblG_at 665 (by decide +kernel) (by decide +kernel)
theorem lkL_71 : Cond.methodLink RL 71 yX12_end ∈ tblG := tblG_at 1186 (by decide +kernel) (by decide +kernel)
theorem lkL_72 : Cond.methodLink RL 72 yX11_value ∈ tblG := tblG_at 672 (by decide +kernel) (by decide +kernel)
theorem lkL_75 : Cond.methodLink RL 75 yX12_value ∈ tblG := tblG_at 1194 (by decide +kernel) (by decide +kernel)
theorem lkL_76 : Cond.methodLink RL 76 yX11_brackets ∈ tblG := tblG_at 684 (by decide +kernel) (by decide +kernel)
theorem lkL_79 : Cond.methodLink RL 79 yX12_brackets ∈ tblG := tblG_at 1198 (by decide +kernel) (by decide +kernel)
theorem lkL_80 : Cond.methodLink RL 80 yX11_bracket ∈ tblG := tblG_at 713 (by decide +kernel) (by decide +kernel)
theorem lkL_83 : Cond.methodLink RL 83 yX12_bracket ∈ tblG := tblG_at 1214 (by decide +kernel) (by decide +kernel)
theorem lkL_84 : Cond.methodLink RL 84 yX11_makes ∈ tblG := tblG_at 725 (by decide +kernel) (by decide +kernel)
theorem lkL_87 : Cond.methodLink RL 87 yX12_makes ∈ tblG := tblG_at 1218 (by decide +kernel) (by decide +kernel)
theorem lkL_88 : Cond.methodLink RL 88 yX11_paper ∈ tblG := tblG_at 754 (by decide +kernel) (by decide +kernel)
theorem lkL_91 : Cond.methodLink RL 91 yX12_paper ∈ tblG := tblG_at 1230 (by decide +kernel) (by decide +kernel)
theorem lkL_92 : Cond.methodLink RL 92 yX11_witness ∈ tblG := tblG_at 762 (by decide +kernel) (by decide +kernel)
theorem lkL_96 : Cond.methodLink RL 96 yX12_witness ∈ tblG := tblG_at 1234 (by decide +kernel) (by decide +kernel)
theorem lkL_97 : Cond.methodLink RL 97 yX11_proves ∈ tblG := tblG_at 770 (by decide +kernel) (by decide +kernel)
theorem lkL_100 : Cond.methodLink RL 100 yX12_proves ∈ tblG := tblG_at 1238 (by decide +kernel) (by decide +kernel)
theorem lkL_101 : Cond.methodLink RL 101 yX11_narrowed ∈ tblG := tblG_at 785 (by decide +kernel) (by decide +kernel)
theorem lkL_104 : Cond.methodLink RL 104 yX12_narrowed ∈ tblG := tblG_at 1242 (by decide +kernel) (by decide +kernel)
theorem lkL_105 : Cond.methodLink RL 105 yX11_sure ∈ tblG := tblG_at 840 (by decide +kernel) (by decide +kernel)
theorem lkL_108 : Cond.methodLink RL 108 yX12_sure ∈ tblG := tblG_at 1254 (by decide +kernel) (by decide +kernel)
theorem lkL_109 : Cond.methodLink RL 109 yX11_first ∈ tblG := tblG_at 870 (by decide +kernel) (by decide +kernel)
theorem lkL_112 : Cond.methodLink RL 112 yX12_first ∈ tblG := tblG_at 1266 (by decide +kernel) (by decide +kernel)
theorem lkL_113 : Cond.methodLink RL 113 yX11_wish ∈ tblG := tblG_at 878 (by decide +kernel) (by decide +kernel)
theorem lkL_116 : Cond.methodLink RL 116 yX12_wish ∈ tblG := tblG_at 1270 (by decide +kernel) (by decide +kernel)
theorem lkL_117 : Cond.methodLink RL 117 yX11_sees ∈ tblG := tblG_at 882 (by decide +kernel) (by decide +kernel)
theorem lkL_120 : Cond.methodLink RL 120 yX12_sees ∈ tblG := tblG_at 1274 (by decide +kernel) (by decide +kernel)
theorem lkL_121 : Cond.methodLink RL 121 yX11_forget ∈ tblG := tblG_at 898 (by decide +kernel) (by decide +kernel)
theorem lkL_124 : Cond.methodLink RL 124 yX12_forget ∈ tblG := tblG_at 1278 (by decide +kernel) (by decide +kernel)
theorem lkL_125 : Cond.methodLink RL 125 yX11_unseen ∈ tblG := tblG_at 902 (by decide +kernel) (by decide +kernel)
theorem lkL_128 : Cond.methodLink RL 128 yX12_unseen ∈ tblG := tblG_at 1282 (by decide +kernel) (by decide +kernel)
theorem lkL_129 : Cond.methodLink RL 129 yX11_keep ∈ tblG := tblG_at 917 (by decide +kernel) (by decide +kernel)
theorem lkL_132 : Cond.methodLink RL 132 yX12_keep ∈ tblG := tblG_at 1290 (by decide +kernel) (by decide +kernel)
theorem lkL_133 : Cond.methodLink RL 133 yX11_back ∈ tblG := tblG_at 925 (by decide +kernel) (by decide +kernel)
theorem lkL_136 : Cond.methodLink RL 136 yX12_back ∈ tblG := tblG_at 1294 (by decide +kernel) (by decide +kernel)
theorem lkL_137 : Cond.methodLink RL 137 yX11_count ∈ tblG := tblG_at 929 (by decide +kernel) (by decide +kernel)
theorem lkL_140 : Cond.methodLink RL 140 yX12_count ∈ tblG := tblG_at 1298 (by decide +kernel) (by decide +kernel)
theorem lkX12_69 : Cond.methodLink RX12 69 yX12_becomes ∈ tblG := tblG_at 943 (by decide +kernel) (by decide +kernel)
theorem lkX12_85 : Cond.methodLink RX12 85 yX12_in ∈ tblG := tblG_at 1055 (by decide +kernel) (by decide +kernel)
theorem lkX12_95 : Cond.methodLink RX12 95 yX12_numbered ∈ tblG := tblG_at 1070 (by decide +kernel) (by decide +kernel)
theorem lkX12_102 : Cond.methodLink RX12 102 yX12_isKind ∈ tblG := tblG_at 1074 (by decide +kernel) (by decide +kernel)
theorem lkX12_109 : Cond.methodLink RX12 109 yX12_takesNumber ∈ tblG := tblG_at 1082 (by decide +kernel) (by decide +kernel)
theorem lkX12_113 : Cond.methodLink RX12 113 yX12_split ∈ tblG := tblG_at 1066 (by decide +kernel) (by decide +kernel)
theorem lkX12_116 : Cond.methodLink RX12 116 yX12_polynomial ∈ tblG := tblG_at 1078 (by decide +kernel) (by decide +kernel)
theorem lkX12_120 : Cond.methodLink RX12 120 yX12_boxTold ∈ tblG := tblG_at 1086 (by decide +kernel) (by decide +kernel)
theorem lkX12_123 : Cond.methodLink RX12 123 yX12_isPolynomial ∈ tblG := tblG_at 1094 (by decide +kernel) (by decide +kernel)
theorem lkX12_126 : Cond.methodLink RX12 126 yX12_isBox ∈ tblG := tblG_at 1098 (by decide +kernel) (by decide +kernel)
theorem lkX12_129 : Cond.methodLink RX12 129 yX12_isCoefficient ∈ tblG := tblG_at 1106 (by decide +kernel) (by decide +kernel)
theorem lkX12_134 : Cond.methodLink RX12 134 yX12_knows ∈ tblG := tblG_at 1119 (by decide +kernel) (by decide +kernel)
theorem lkX12_138 : Cond.methodLink RX12 138 yX12_sizeOf ∈ tblG := tblG_at 1158 (by decide +kernel) (by decide +kernel)
theorem lkX12_141 : Cond.methodLink RX12 141 yX12_lengthOf ∈ tblG := tblG_at 1161 (by decide +kernel) (by decide +kernel)
theorem lkX12_145 : Cond.methodLink RX12 145 yX12_lowOf ∈ tblG := tblG_at 1154 (by decide +kernel) (by decide +kernel)
theorem lkX12_150 : Cond.methodLink RX12 150 yX12_power ∈ tblG := tblG_at 1166 (by decide +kernel) (by decide +kernel)
theorem lkX12_154 : Cond.methodLink RX12 154 yX12_choose ∈ tblG := tblG_at 1169 (by decide +kernel) (by decide +kernel)
theorem lkX12_158 : Cond.methodLink RX12 158 yX12_laysOwn ∈ tblG := tblG_at 1150 (by decide +kernel) (by decide +kernel)
theorem lkX12_164 : Cond.methodLink RX12 164 yX12_common ∈ tblG := tblG_at 1172 (by decide +kernel) (by decide +kernel)
theorem lkX12_172 : Cond.methodLink RX12 172 yX12_isNode ∈ tblG := tblG_at 1139 (by decide +kernel) (by decide +kernel)
theorem lkX12_175 : Cond.methodLink RX12 175 yX12_isTaken ∈ tblG := tblG_at 1142 (by decide +kernel) (by decide +kernel)
theorem lkX12_178 : Cond.methodLink RX12 178 yX12_lays ∈ tblG := tblG_at 1146 (by decide +kernel) (by decide +kernel)
theorem lkX12_182 : Cond.methodLink RX12 182 yX12_fraction ∈ tblG := tblG_at 1175 (by decide +kernel) (by decide +kernel)
theorem lkX12_186 : Cond.methodLink RX12 186 yX12_varies ∈ tblG := tblG_at 1182 (by decide +kernel) (by decide +kernel)
theorem lkX12_190 : Cond.methodLink RX12 190 yX12_highOf ∈ tblG := tblG_at 1190 (by decide +kernel) (by decide +kernel)
theorem lkX12_199 : Cond.methodLink RX12 199 yX12_puts ∈ tblG := tblG_at 1206 (by decide +kernel) (by decide +kernel)
theorem lkX12_203 : Cond.methodLink RX12 203 yX12_finds ∈ tblG := tblG_at 1210 (by decide +kernel) (by decide +kernel)
theorem lkX12_206 : Cond.methodLink RX12 206 yX12_brings ∈ tblG := tblG_at 1202 (by decide +kernel) (by decide +kernel)
theorem lkX12_212 : Cond.methodLink RX12 212 yX12_isAbove ∈ tblG := tblG_at 1226 (by decide +kernel) (by decide +kernel)
theorem lkX12_219 : Cond.methodLink RX12 219 yX12_writes ∈ tblG := tblG_at 1222 (by decide +kernel) (by decide +kernel)
theorem lkX12_225 : Cond.methodLink RX12 225 yX12_leastOf ∈ tblG := tblG_at 1250 (by decide +kernel) (by decide +kernel)
theorem lkX12_229 : Cond.methodLink RX12 229 yX12_narrows ∈ tblG := tblG_at 1246 (by decide +kernel) (by decide +kernel)
theorem lkX12_232 : Cond.methodLink RX12 232 yX12_isHeld ∈ tblG := tblG_at 1258 (by decide +kernel) (by decide +kernel)
theorem lkX12_235 : Cond.methodLink RX12 235 yX12_isBroken ∈ tblG := tblG_at 1262 (by decide +kernel) (by decide +kernel)
theorem lkX12_238 : Cond.methodLink RX12 238 yX12_signAt ∈ tblG := tblG_at 1286 (by decide +kernel) (by decide +kernel)
