theorem hw_0_0 (f : Int → Int) (lo wd : Int) : hb f 0 lo (lo + wd) 0 0 = 1 * ow f 0 lo wd 0 := by
  simp [ow, owS, hb, bnZ, waysL]
  try grind
theorem hw_1_0 (f : Int → Int) (lo wd : Int) : hb f 1 lo (lo + wd) 1 0 = 1 * ow f 1 lo wd 0 := by
  simp [ow, owS, hb, bnZ, waysL]
  try grind
theorem hw_1_1 (f : Int → Int) (lo wd : Int) : hb f 1 lo (lo + wd) 1 1 = 1 * ow f 1 lo wd 0 + 1 * ow f 1 lo wd 1 := by
  simp [ow, owS, hb, bnZ, waysL]
  try grind
theorem hw_2_0 (f : Int → Int) (lo wd : Int) : hb f 2 lo (lo + wd) 2 0 = 1 * ow f 2 lo wd 0 := by
  simp [ow, owS, hb, bnZ, waysL]
  try grind
theorem hw_2_1 (f : Int → Int) (lo wd : Int) : hb f 2 lo (lo + wd) 2 1 = 2 * ow f 2 lo wd 0 + 1 * ow f 2 lo wd 1 := by
  simp [ow, owS, hb, bnZ, waysL]
  try grind
theorem hw_2_2 (f : Int → Int) (lo wd : Int) : hb f 2 lo (lo + wd) 2 2 = 1 * ow f 2 lo wd 0 + 1 * ow f 2 lo wd 1 + 1 * ow f 2 lo wd 2 := by
  simp [ow, owS, hb, bnZ, waysL]
  try grind
theorem hw_3_0 (f : Int → Int) (lo wd : Int) : hb f 3 lo (lo + wd) 3 0 = 1 * ow f 3 lo wd 0 := by
  simp [ow, owS, hb, bnZ, waysL]
  try grind
theorem hw_3_1 (f : Int → Int) (lo wd : Int) : hb f 3 lo (lo + wd) 3 1 = 3 * ow f 3 lo wd 0 + 1 * ow f 3 lo wd 1 := by
  simp [ow, owS, hb, bnZ, waysL]
  try grind
theorem hw_3_2 (f : Int → Int) (lo wd : Int) : hb f 3 lo (lo + wd) 3 2 = 3 * ow f 3 lo wd 0 + 2 * ow f 3 lo wd 1 + 1 * ow f 3 lo wd 2 := by
  simp [ow, owS, hb, bnZ, waysL]
  try grind
theorem hw_3_3 (f : Int → Int) (lo wd : Int) : hb f 3 lo (lo + wd) 3 3 = 1 * ow f 3 lo wd 0 + 1 * ow f 3 lo wd 1 + 1 * ow f 3 lo wd 2 + 1 * ow f 3 lo wd 3 := by
  simp [ow, owS, hb, bnZ, waysL]
  try grind
theorem hw_4_0 (f : Int → Int) (lo wd : Int) : hb f 4 lo (lo + wd) 4 0 = 1 * ow f 4 lo wd 0 := by
  simp [ow, owS, hb, bnZ, waysL]
  try grind
theorem hw_4_1 (f : Int → Int) (lo wd : Int) : hb f 4 lo (lo + wd) 4 1 = 4 * ow f 4 lo wd 0 + 1 * ow f 4 lo wd 1 := by
  simp [ow, owS, hb, bnZ, waysL]
  try grind
theorem hw_4_2 (f : Int → Int) (lo wd : Int) : hb f 4 lo (lo + wd) 4 2 = 6 * ow f 4 lo wd 0 + 3 * ow f 4 lo wd 1 + 1 * ow f 4 lo wd 2 := by
  simp [ow, owS, hb, bnZ, waysL]
  try grind
theorem hw_4_3 (f : Int → Int) (lo wd : Int) : hb f 4 lo (lo + wd) 4 3 = 4 * ow f 4 lo wd 0 + 3 * ow f 4 lo wd 1 + 2 * ow f 4 lo wd 2 + 1 * ow f 4 lo wd 3 := by
  simp [ow, owS, hb, bnZ, waysL]
  try grind
theorem hw_4_4 (f : Int → Int) (lo wd : Int) : hb f 4 lo (lo + wd) 4 4 = 1 * ow f 4 lo wd 0 + 1 * ow f 4 lo wd 1 + 1 * ow f 4 lo wd 2 + 1 * ow f 4 lo wd 3 + 1 * ow f 4 lo wd 4 := by
  simp [ow, owS, hb, bnZ, waysL]
  try grind
theorem hw_5_0 (f : Int → Int) (lo wd : Int) : hb f 5 lo (lo + wd) 5 0 = 1 * ow f 5 lo wd 0 := by
  simp [ow, owS, hb, bnZ, waysL]
  try grind
theorem hw_5_1 (f : Int → Int) (lo wd : Int) : hb f 5 lo (lo + wd) 5 1 = 5 * ow f 5 lo wd 0 + 1 * ow f 5 lo wd 1 := by
  simp [ow, owS, hb, bnZ, waysL]
  try grind
theorem hw_5_2 (f : Int → Int) (lo wd : Int) : hb f 5 lo (lo + wd) 5 2 = 10 * ow f 5 lo wd 0 + 4 * ow f 5 lo wd 1 + 1 * ow f 5 lo wd 2 := by
  simp [ow, owS, hb, bnZ, waysL]
  try grind
theorem hw_5_3 (f : Int → Int) (lo wd : Int) : hb f 5 lo (lo + wd) 5 3 = 10 * ow f 5 lo wd 0 + 6 * ow f 5 lo wd 1 + 3 * ow f 5 lo wd 2 + 1 * ow f 5 lo wd 3 := by
  simp [ow, owS, hb, bnZ, waysL]
  try grind
theorem hw_5_4 (f : Int → Int) (lo wd : Int) : hb f 5 lo (lo + wd) 5 4 = 5 * ow f 5 lo wd 0 + 4 * ow f 5 lo wd 1 + 3 * ow f 5 lo wd 2 + 2 * ow f 5 lo wd 3 + 1 * ow f 5 lo wd 4 := by
  simp [ow, owS, hb, bnZ, waysL]
  try grind
theorem hw_5_5 (f : Int → Int) (lo wd : Int) : hb f 5 lo (lo + wd) 5 5 = 1 * ow f 5 lo wd 0 + 1 * ow f 5 lo wd 1 + 1 * ow f 5 lo wd 2 + 1 * ow f 5 lo wd 3 + 1 * ow f 5 lo wd 4 + 1 * ow f 5 lo wd 5 := by
  simp [ow, owS, hb, bnZ, waysL]
  try grind
theorem lc_0_0 : lcf (0 + 0) 0 = 1 := by decide +kernel
theorem id_0_0_0 (f : Int → Int) (lo wd : Int) : rwS (lcf (0 + 0) 0) (0 + 0) 0 (ow f 0 lo wd) ((if (0 : Int) ≤ 0 then (0 : Int) else 0) + 1).toNat 0 0 * bnZ (0 + 0) 0 = lcf (0 + 0) 0 * nb f 0 lo (lo + wd) ((0 : Int).toNat) 0 := by
  have e9 : ∀ q : Int, 0 < q → hb f 0 lo (lo + wd) 0 q = 0 := fun q h => hb_hi h
  rw [lc_0_0]
  simp [rwS, nb, bnZ, waysL, hw_0_0]
  try grind
theorem lc_0_1 : lcf (0 + 1) 0 = 1 := by decide +kernel
theorem id_0_1_0 (f : Int → Int) (lo wd : Int) : rwS (lcf (0 + 1) 0) (0 + 1) 0 (ow f 0 lo wd) ((if (0 : Int) ≤ 0 then (0 : Int) else 0) + 1).toNat 0 0 * bnZ (0 + 1) 0 = lcf (0 + 1) 0 * nb f 0 lo (lo + wd) ((1 : Int).toNat) 0 := by
  have e9 : ∀ q : Int, 0 < q → hb f 0 lo (lo + wd) 0 q = 0 := fun q h => hb_hi h
  rw [lc_0_1]
  simp [rwS, nb, bnZ, waysL, hw_0_0]
  try grind
theorem id_0_1_1 (f : Int → Int) (lo wd : Int) : rwS (lcf (0 + 1) 0) (0 + 1) 1 (ow f 0 lo wd) ((if (1 : Int) ≤ 0 then (1 : Int) else 0) + 1).toNat 0 0 * bnZ (0 + 1) 1 = lcf (0 + 1) 0 * nb f 0 lo (lo + wd) ((1 : Int).toNat) 1 := by
  have e9 : ∀ q : Int, 0 < q → hb f 0 lo (lo + wd) 0 q = 0 := fun q h => hb_hi h
  rw [lc_0_1]
  simp [rwS, nb, bnZ, waysL, hw_0_0]
  try grind
theorem lc_0_2 : lcf (0 + 2) 0 = 1 := by decide +kernel
theorem id_0_2_0 (f : Int → Int) (lo wd : Int) : rwS (lcf (0 + 2) 0) (0 + 2) 0 (ow f 0 lo wd) ((if (0 : Int) ≤ 0 then (0 : Int) else 0) + 1).toNat 0 0 * bnZ (0 + 2) 0 = lcf (0 + 2) 0 * nb f 0 lo (lo + wd) ((2 : Int).toNat) 0 := by
  have e9 : ∀ q : Int, 0 < q → hb f 0 lo (lo + wd) 0 q = 0 := fun q h => hb_hi h
  rw [lc_0_2]
  simp [rwS, nb, bnZ, waysL, hw_0_0]
  try grind
theorem id_0_2_1 (f : Int → Int) (lo wd : Int) : rwS (lcf (0 + 2) 0) (0 + 2) 1 (ow f 0 lo wd) ((if (1 : Int) ≤ 0 then (1 : Int) else 0) + 1).toNat 0 0 * bnZ (0 + 2) 1 = lcf (0 + 2) 0 * nb f 0 lo (lo + wd) ((2 : Int).toNat) 1 := by
  have e9 : ∀ q : Int, 0 < q → hb f 0 lo (lo + wd) 0 q = 0 := fun q h => hb_hi h
  rw [lc_0_2]
  simp [rwS, nb, bnZ, waysL, hw_0_0]
  try grind
theorem id_0_2_2 (f : Int → Int) (lo wd : Int) : rwS (lcf (0 + 2) 0) (0 + 2) 2 (ow f 0 lo wd) ((if (2 : Int) ≤ 0 then (2 : Int) else 0) + 1).toNat 0 0 * bnZ (0 + 2) 2 = lcf (0 + 2) 0 * nb f 0 lo (lo + wd) ((2 : Int).toNat) 2 := by
  have e9 : ∀ q : Int, 0 < q → hb f 0 lo (lo + wd) 0 q = 0 := fun q h => hb_hi h
  rw [lc_0_2]
  simp [rwS, nb, bnZ, waysL, hw_0_0]
  try grind
theorem lc_1_0 : lcf (1 + 0) 1 = 1 := by decide +kernel
theorem id_1_0_0 (f : Int → Int) (lo wd : Int) : rwS (lcf (1 + 0) 1) (1 + 0) 0 (ow f 1 lo wd) ((if (0 : Int) ≤ 1 then (0 : Int) else 1) + 1).toNat 0 0 * bnZ (1 + 0) 0 = lcf (1 + 0) 1 * nb f 1 lo (lo + wd) ((0 : Int).toNat) 0 := by
  have e9 : ∀ q : Int, 1 < q → hb f 1 lo (lo + wd) 1 q = 0 := fun q h => hb_hi h
  rw [lc_1_0]
  simp [rwS, nb, bnZ, waysL, hw_1_0, hw_1_1]
  try grind
theorem id_1_0_1 (f : Int → Int) (lo wd : Int) : rwS (lcf (1 + 0) 1) (1 + 0) 1 (ow f 1 lo wd) ((if (1 : Int) ≤ 1 then (1 : Int) else 1) + 1).toNat 0 0 * bnZ (1 + 0) 1 = lcf (1 + 0) 1 * nb f 1 lo (lo + wd) ((0 : Int).toNat) 1 := by
  have e9 : ∀ q : Int, 1 < q → hb f 1 lo (lo + wd) 1 q = 0 := fun q h => hb_hi h
  rw [lc_1_0]
  simp [rwS, nb, bnZ, waysL, hw_1_0, hw_1_1]
  try grind
theorem lc_1_1 : lcf (1 + 1) 1 = 2 := by decide +kernel
theorem id_1_1_0 (f : Int → Int) (lo wd : Int) : rwS (lcf (1 + 1) 1) (1 + 1) 0 (ow f 1 lo wd) ((if (0 : Int) ≤ 1 then (0 : Int) else 1) + 1).toNat 0 0 * bnZ (1 + 1) 0 = lcf (1 + 1) 1 * nb f 1 lo (lo + wd) ((1 : Int).toNat) 0 := by
  have e9 : ∀ q : Int, 1 < q → hb f 1 lo (lo + wd) 1 q = 0 := fun q h => hb_hi h
  rw [lc_1_1]
  simp [rwS, nb, bnZ, waysL, hw_1_0, hw_1_1]
  try grind
theorem id_1_1_1 (f : Int → Int) (lo wd : Int) : rwS (lcf (1 + 1) 1) (1 + 1) 1 (ow f 1 lo wd) ((if (1 : Int) ≤ 1 then (1 : Int) else 1) + 1).toNat 0 0 * bnZ (1 + 1) 1 = lcf (1 + 1) 1 * nb f 1 lo (lo + wd) ((1 : Int).toNat) 1 := by
  have e9 : ∀ q : Int, 1 < q → hb f 1 lo (lo + wd) 1 q = 0 := fun q h => hb_hi h
  rw [lc_1_1]
  simp [rwS, nb, bnZ, waysL, hw_1_0, hw_1_1]
  try grind
theorem id_1_1_2 (f : Int → Int) (lo wd : Int) : rwS (lcf (1 + 1) 1) (1 + 1) 2 (ow f 1 lo wd) ((if (2 : Int) ≤ 1 then (2 : Int) else 1) + 1).toNat 0 0 * bnZ (1 + 1) 2 = lcf (1 + 1) 1 * nb f 1 lo (lo + wd) ((1 : Int).toNat) 2 := by
  have e9 : ∀ q : Int, 1 < q → hb f 1 lo (lo + wd) 1 q = 0 := fun q h => hb_hi h
  rw [lc_1_1]
  simp [rwS, nb, bnZ, waysL, hw_1_0, hw_1_1]
  try grind
theorem lc_1_2 : lcf (1 + 2) 1 = 3 := by decide +kernel
theorem id_1_2_0 (f : Int → Int) (lo wd : Int) : rwS (lcf (1 + 2) 1) (1 + 2) 0 (ow f 1 lo wd) ((if (0 : Int) ≤ 1 then (0 : Int) else 1) + 1).toNat 0 0 * bnZ (1 + 2) 0 = lcf (1 + 2) 1 * nb f 1 lo (lo + wd) ((2 : Int).toNat) 0 := by
  have e9 : ∀ q : Int, 1 < q → hb f 1 lo (lo + wd) 1 q = 0 := fun q h => hb_hi h
  rw [lc_1_2]
  simp [rwS, nb, bnZ, waysL, hw_1_0, hw_1_1]
  try grind
theorem id_1_2_1 (f : Int → Int) (lo wd : Int) : rwS (lcf (1 + 2) 1) (1 + 2) 1 (ow f 1 lo wd) ((if (1 : Int) ≤ 1 then (1 : Int) else 1) + 1).toNat 0 0 * bnZ (1 + 2) 1 = lcf (1 + 2) 1 * nb f 1 lo (lo + wd) ((2 : Int).toNat) 1 := by
  have e9 : ∀ q : Int, 1 < q → hb f 1 lo (lo + wd) 1 q = 0 := fun q h => hb_hi h
  rw [lc_1_2]
  simp [rwS, nb, bnZ, waysL, hw_1_0, hw_1_1]
  try grind
theorem id_1_2_2 (f : Int → Int) (lo wd : Int) : rwS (lcf (1 + 2) 1) (1 + 2) 2 (ow f 1 lo wd) ((if (2 : Int) ≤ 1 then (2 : Int) else 1) + 1).toNat 0 0 * bnZ (1 + 2) 2 = lcf (1 + 2) 1 * nb f 1 lo (lo + wd) ((2 : Int).toNat) 2 := by
  have e9 : ∀ q : Int, 1 < q → hb f 1 lo (lo + wd) 1 q = 0 := fun q h => hb_hi h
  rw [lc_1_2]
  simp [rwS, nb, bnZ, waysL, hw_1_0, hw_1_1]
  try grind
theorem id_1_2_3 (f : Int → Int) (lo wd : Int) : rwS (lcf (1 + 2) 1) (1 + 2) 3 (ow f 1 lo wd) ((if (3 : Int) ≤ 1 then (3 : Int) else 1) + 1).toNat 0 0 * bnZ (1 + 2) 3 = lcf (1 + 2) 1 * nb f 1 lo (lo + wd) ((2 : Int).toNat) 3 := by
  have e9 : ∀ q : Int, 1 < q → hb f 1 lo (lo + wd) 1 q = 0 := fun q h => hb_hi h
  rw [lc_1_2]
  simp [rwS, nb, bnZ, waysL, hw_1_0, hw_1_1]
  try grind
theorem lc_2_0 : lcf (2 + 0) 2 = 2 := by decide +kernel
theorem id_2_0_0 (f : Int → Int) (lo wd : Int) : rwS (lcf (2 + 0) 2) (2 + 0) 0 (ow f 2 lo wd) ((if (0 : Int) ≤ 2 then (0 : Int) else 2) + 1).toNat 0 0 * bnZ (2 + 0) 0 = lcf (2 + 0) 2 * nb f 2 lo (lo + wd) ((0 : Int).toNat) 0 := by
  have e9 : ∀ q : Int, 2 < q → hb f 2 lo (lo + wd) 2 q = 0 := fun q h => hb_hi h
  rw [lc_2_0]
  simp [rwS, nb, bnZ, waysL, hw_2_0, hw_2_1, hw_2_2]
  try grind
theorem id_2_0_1 (f : Int → Int) (lo wd : Int) : rwS (lcf (2 + 0) 2) (2 + 0) 1 (ow f 2 lo wd) ((if (1 : Int) ≤ 2 then (1 : Int) else 2) + 1).toNat 0 0 * bnZ (2 + 0) 1 = lcf (2 + 0) 2 * nb f 2 lo (lo + wd) ((0 : Int).toNat) 1 := by
  have e9 : ∀ q : Int, 2 < q → hb f 2 lo (lo + wd) 2 q = 0 := fun q h => hb_hi h
  rw [lc_2_0]
  simp [rwS, nb, bnZ, waysL, hw_2_0, hw_2_1, hw_2_2]
  try grind
theorem id_2_0_2 (f : Int → Int) (lo wd : Int) : rwS (lcf (2 + 0) 2) (2 + 0) 2 (ow f 2 lo wd) ((if (2 : Int) ≤ 2 then (2 : Int) else 2) + 1).toNat 0 0 * bnZ (2 + 0) 2 = lcf (2 + 0) 2 * nb f 2 lo (lo + wd) ((0 : Int).toNat) 2 := by
  have e9 : ∀ q : Int, 2 < q → hb f 2 lo (lo + wd) 2 q = 0 := fun q h => hb_hi h
  rw [lc_2_0]
  simp [rwS, nb, bnZ, waysL, hw_2_0, hw_2_1, hw_2_2]
  try grind
theorem lc_2_1 : lcf (2 + 1) 2 = 3 := by decide +kernel
theorem id_2_1_0 (f : Int → Int) (lo wd : Int) : rwS (lcf (2 + 1) 2) (2 + 1) 0 (ow f 2 lo wd) ((if (0 : Int) ≤ 2 then (0 : Int) else 2) + 1).toNat 0 0 * bnZ (2 + 1) 0 = lcf (2 + 1) 2 * nb f 2 lo (lo + wd) ((1 : Int).toNat) 0 := by
  have e9 : ∀ q : Int, 2 < q → hb f 2 lo (lo + wd) 2 q = 0 := fun q h => hb_hi h
  rw [lc_2_1]
  simp [rwS, nb, bnZ, waysL, hw_2_0, hw_2_1, hw_2_2]
  try grind
theorem id_2_1_1 (f : Int → Int) (lo wd : Int) : rwS (lcf (2 + 1) 2) (2 + 1) 1 (ow f 2 lo wd) ((if (1 : Int) ≤ 2 then (1 : Int) else 2) + 1).toNat 0 0 * bnZ (2 + 1) 1 = lcf (2 + 1) 2 * nb f 2 lo (lo + wd) ((1 : Int).toNat) 1 := by
  have e9 : ∀ q : Int, 2 < q → hb f 2 lo (lo + wd) 2 q = 0 := fun q h => hb_hi h
  rw [lc_2_1]
  simp [rwS, nb, bnZ, waysL, hw_2_0, hw_2_1, hw_2_2]
  try grind
theorem id_2_1_2 (f : Int → Int) (lo wd : Int) : rwS (lcf (2 + 1) 2) (2 + 1) 2 (ow f 2 lo wd) ((if (2 : Int) ≤ 2 then (2 : Int) else 2) + 1).toNat 0 0 * bnZ (2 + 1) 2 = lcf (2 + 1) 2 * nb f 2 lo (lo + wd) ((1 : Int).toNat) 2 := by
  have e9 : ∀ q : Int, 2 < q → hb f 2 lo (lo + wd) 2 q = 0 := fun q h => hb_hi h
  rw [lc_2_1]
  simp [rwS, nb, bnZ, waysL, hw_2_0, hw_2_1, hw_2_2]
  try grind
theorem id_2_1_3 (f : Int → Int) (lo wd : Int) : rwS (lcf (2 + 1) 2) (2 + 1) 3 (ow f 2 lo wd) ((if (3 : Int) ≤ 2 then (3 : Int) else 2) + 1).toNat 0 0 * bnZ (2 + 1) 3 = lcf (2 + 1) 2 * nb f 2 lo (lo + wd) ((1 : Int).toNat) 3 := by
  have e9 : ∀ q : Int, 2 < q → hb f 2 lo (lo + wd) 2 q = 0 := fun q h => hb_hi h
  rw [lc_2_1]
  simp [rwS, nb, bnZ, waysL, hw_2_0, hw_2_1, hw_2_2]
  try grind
theorem lc_2_2 : lcf (2 + 2) 2 = 12 := by decide +kernel
theorem id_2_2_0 (f : Int → Int) (lo wd : Int) : rwS (lcf (2 + 2) 2) (2 + 2) 0 (ow f 2 lo wd) ((if (0 : Int) ≤ 2 then (0 : Int) else 2) + 1).toNat 0 0 * bnZ (2 + 2) 0 = lcf (2 + 2) 2 * nb f 2 lo (lo + wd) ((2 : Int).toNat) 0 := by
  have e9 : ∀ q : Int, 2 < q → hb f 2 lo (lo + wd) 2 q = 0 := fun q h => hb_hi h
  rw [lc_2_2]
  simp [rwS, nb, bnZ, waysL, hw_2_0, hw_2_1, hw_2_2]
  try grind
theorem id_2_2_1 (f : Int → Int) (lo wd : Int) : rwS (lcf (2 + 2) 2) (2 + 2) 1 (ow f 2 lo wd) ((if (1 : Int) ≤ 2 then (1 : Int) else 2) + 1).toNat 0 0 * bnZ (2 + 2) 1 = lcf (2 + 2) 2 * nb f 2 lo (lo + wd) ((2 : Int).toNat) 1 := by
  have e9 : ∀ q : Int, 2 < q → hb f 2 lo (lo + wd) 2 q = 0 := fun q h => hb_hi h
  rw [lc_2_2]
  simp [rwS, nb, bnZ, waysL, hw_2_0, hw_2_1, hw_2_2]
  try grind
theorem id_2_2_2 (f : Int → Int) (lo wd : Int) : rwS (lcf (2 + 2) 2) (2 + 2) 2 (ow f 2 lo wd) ((if (2 : Int) ≤ 2 then (2 : Int) else 2) + 1).toNat 0 0 * bnZ (2 + 2) 2 = lcf (2 + 2) 2 * nb f 2 lo (lo + wd) ((2 : Int).toNat) 2 := by
  have e9 : ∀ q : Int, 2 < q → hb f 2 lo (lo + wd) 2 q = 0 := fun q h => hb_hi h
  rw [lc_2_2]
  simp [rwS, nb, bnZ, waysL, hw_2_0, hw_2_1, hw_2_2]
  try grind
theorem id_2_2_3 (f : Int → Int) (lo wd : Int) : rwS (lcf (2 + 2) 2) (2 + 2) 3 (ow f 2 lo wd) ((if (3 : Int) ≤ 2 then (3 : Int) else 2) + 1).toNat 0 0 * bnZ (2 + 2) 3 = lcf (2 + 2) 2 * nb f 2 lo (lo + wd) ((2 : Int).toNat) 3 := by
  have e9 : ∀ q : Int, 2 < q → hb f 2 lo (lo + wd) 2 q = 0 := fun q h => hb_hi h
  rw [lc_2_2]
  simp [rwS, nb, bnZ, waysL, hw_2_0, hw_2_1, hw_2_2]
  try grind
theorem id_2_2_4 (f : Int → Int) (lo wd : Int) : rwS (lcf (2 + 2) 2) (2 + 2) 4 (ow f 2 lo wd) ((if (4 : Int) ≤ 2 then (4 : Int) else 2) + 1).toNat 0 0 * bnZ (2 + 2) 4 = lcf (2 + 2) 2 * nb f 2 lo (lo + wd) ((2 : Int).toNat) 4 := by
  have e9 : ∀ q : Int, 2 < q → hb f 2 lo (lo + wd) 2 q = 0 := fun q h => hb_hi h
  rw [lc_2_2]
  simp [rwS, nb, bnZ, waysL, hw_2_0, hw_2_1, hw_2_2]
  try grind
theorem lc_3_0 : lcf (3 + 0) 3 = 3 := by decide +kernel
theorem id_3_0_0 (f : Int → Int) (lo wd : Int) : rwS (lcf (3 + 0) 3) (3 + 0) 0 (ow f 3 lo wd) ((if (0 : Int) ≤ 3 then (0 : Int) else 3) + 1).toNat 0 0 * bnZ (3 + 0) 0 = lcf (3 + 0) 3 * nb f 3 lo (lo + wd) ((0 : Int).toNat) 0 := by
  have e9 : ∀ q : Int, 3 < q → hb f 3 lo (lo + wd) 3 q = 0 := fun q h => hb_hi h
  rw [lc_3_0]
  simp [rwS, nb, bnZ, waysL, hw_3_0, hw_3_1, hw_3_2, hw_3_3]
  try grind
theorem id_3_0_1 (f : Int → Int) (lo wd : Int) : rwS (lcf (3 + 0) 3) (3 + 0) 1 (ow f 3 lo wd) ((if (1 : Int) ≤ 3 then (1 : Int) else 3) + 1).toNat 0 0 * bnZ (3 + 0) 1 = lcf (3 + 0) 3 * nb f 3 lo (lo + wd) ((0 : Int).toNat) 1 := by
  have e9 : ∀ q : Int, 3 < q → hb f 3 lo (lo + wd) 3 q = 0 := fun q h => hb_hi h
  rw [lc_3_0]
  simp [rwS, nb, bnZ, waysL, hw_3_0, hw_3_1, hw_3_2, hw_3_3]
  try grind
theorem id_3_0_2 (f : Int → Int) (lo wd : Int) : rwS (lcf (3 + 0) 3) (3 + 0) 2 (ow f 3 lo wd) ((if (2 : Int) ≤ 3 then (2 : Int) else 3) + 1).toNat 0 0 * bnZ (3 + 0) 2 = lcf (3 + 0) 3 * nb f 3 lo (lo + wd) ((0 : Int).toNat) 2 := by
  have e9 : ∀ q : Int, 3 < q → hb f 3 lo (lo + wd) 3 q = 0 := fun q h => hb_hi h
  rw [lc_3_0]
  simp [rwS, nb, bnZ, waysL, hw_3_0, hw_3_1, hw_3_2, hw_3_3]
  try grind
theorem id_3_0_3 (f : Int → Int) (lo wd : Int) : rwS (lcf (3 + 0) 3) (3 + 0) 3 (ow f 3 lo wd) ((if (3 : Int) ≤ 3 then (3 : Int) else 3) + 1).toNat 0 0 * bnZ (3 + 0) 3 = lcf (3 + 0) 3 * nb f 3 lo (lo + wd) ((0 : Int).toNat) 3 := by
  have e9 : ∀ q : Int, 3 < q → hb f 3 lo (lo + wd) 3 q = 0 := fun q h => hb_hi h
  rw [lc_3_0]
  simp [rwS, nb, bnZ, waysL, hw_3_0, hw_3_1, hw_3_2, hw_3_3]
  try grind
theorem lc_3_1 : lcf (3 + 1) 3 = 12 := by decide +kernel
theorem id_3_1_0 (f : Int → Int) (lo wd : Int) : rwS (lcf (3 + 1) 3) (3 + 1) 0 (ow f 3 lo wd) ((if (0 : Int) ≤ 3 then (0 : Int) else 3) + 1).toNat 0 0 * bnZ (3 + 1) 0 = lcf (3 + 1) 3 * nb f 3 lo (lo + wd) ((1 : Int).toNat) 0 := by
  have e9 : ∀ q : Int, 3 < q → hb f 3 lo (lo + wd) 3 q = 0 := fun q h => hb_hi h
  rw [lc_3_1]
  simp [rwS, nb, bnZ, waysL, hw_3_0, hw_3_1, hw_3_2, hw_3_3]
  try grind
theorem id_3_1_1 (f : Int → Int) (lo wd : Int) : rwS (lcf (3 + 1) 3) (3 + 1) 1 (ow f 3 lo wd) ((if (1 : Int) ≤ 3 then (1 : Int) else 3) + 1).toNat 0 0 * bnZ (3 + 1) 1 = lcf (3 + 1) 3 * nb f 3 lo (lo + wd) ((1 : Int).toNat) 1 := by
  have e9 : ∀ q : Int, 3 < q → hb f 3 lo (lo + wd) 3 q = 0 := fun q h => hb_hi h
  rw [lc_3_1]
  simp [rwS, nb, bnZ, waysL, hw_3_0, hw_3_1, hw_3_2, hw_3_3]
  try grind
theorem id_3_1_2 (f : Int → Int) (lo wd : Int) : rwS (lcf (3 + 1) 3) (3 + 1) 2 (ow f 3 lo wd) ((if (2 : Int) ≤ 3 then (2 : Int) else 3) + 1).toNat 0 0 * bnZ (3 + 1) 2 = lcf (3 + 1) 3 * nb f 3 lo (lo + wd) ((1 : Int).toNat) 2 := by
  have e9 : ∀ q : Int, 3 < q → hb f 3 lo (lo + wd) 3 q = 0 := fun q h => hb_hi h
  rw [lc_3_1]
  simp [rwS, nb, bnZ, waysL, hw_3_0, hw_3_1, hw_3_2, hw_3_3]
  try grind
theorem id_3_1_3 (f : Int → Int) (lo wd : Int) : rwS (lcf (3 + 1) 3) (3 + 1) 3 (ow f 3 lo wd) ((if (3 : Int) ≤ 3 then (3 : Int) else 3) + 1).toNat 0 0 * bnZ (3 + 1) 3 = lcf (3 + 1) 3 * nb f 3 lo (lo + wd) ((1 : Int).toNat) 3 := by
  have e9 : ∀ q : Int, 3 < q → hb f 3 lo (lo + wd) 3 q = 0 := fun q h => hb_hi h
  rw [lc_3_1]
  simp [rwS, nb, bnZ, waysL, hw_3_0, hw_3_1, hw_3_2, hw_3_3]
  try grind
theorem id_3_1_4 (f : Int → Int) (lo wd : Int) : rwS (lcf (3 + 1) 3) (3 + 1) 4 (ow f 3 lo wd) ((if (4 : Int) ≤ 3 then (4 : Int) else 3) + 1).toNat 0 0 * bnZ (3 + 1) 4 = lcf (3 + 1) 3 * nb f 3 lo (lo + wd) ((1 : Int).toNat) 4 := by
  have e9 : ∀ q : Int, 3 < q → hb f 3 lo (lo + wd) 3 q = 0 := fun q h => hb_hi h
  rw [lc_3_1]
  simp [rwS, nb, bnZ, waysL, hw_3_0, hw_3_1, hw_3_2, hw_3_3]
  try grind
theorem lc_3_2 : lcf (3 + 2) 3 = 10 := by decide +kernel
theorem id_3_2_0 (f : Int → Int) (lo wd : Int) : rwS (lcf (3 + 2) 3) (3 + 2) 0 (ow f 3 lo wd) ((if (0 : Int) ≤ 3 then (0 : Int) else 3) + 1).toNat 0 0 * bnZ (3 + 2) 0 = lcf (3 + 2) 3 * nb f 3 lo (lo + wd) ((2 : Int).toNat) 0 := by
  have e9 : ∀ q : Int, 3 < q → hb f 3 lo (lo + wd) 3 q = 0 := fun q h => hb_hi h
  rw [lc_3_2]
  simp [rwS, nb, bnZ, waysL, hw_3_0, hw_3_1, hw_3_2, hw_3_3]
  try grind
theorem id_3_2_1 (f : Int → Int) (lo wd : Int) : rwS (lcf (3 + 2) 3) (3 + 2) 1 (ow f 3 lo wd) ((if (1 : Int) ≤ 3 then (1 : Int) else 3) + 1).toNat 0 0 * bnZ (3 + 2) 1 = lcf (3 + 2) 3 * nb f 3 lo (lo + wd) ((2 : Int).toNat) 1 := by
  have e9 : ∀ q : Int, 3 < q → hb f 3 lo (lo + wd) 3 q = 0 := fun q h => hb_hi h
  rw [lc_3_2]
  simp [rwS, nb, bnZ, waysL, hw_3_0, hw_3_1, hw_3_2, hw_3_3]
  try grind
theorem id_3_2_2 (f : Int → Int) (lo wd : Int) : rwS (lcf (3 + 2) 3) (3 + 2) 2 (ow f 3 lo wd) ((if (2 : Int) ≤ 3 then (2 : Int) else 3) + 1).toNat 0 0 * bnZ (3 + 2) 2 = lcf (3 + 2) 3 * nb f 3 lo (lo + wd) ((2 : Int).toNat) 2 := by
  have e9 : ∀ q : Int, 3 < q → hb f 3 lo (lo + wd) 3 q = 0 := fun q h => hb_hi h
  rw [lc_3_2]
  simp [rwS, nb, bnZ, waysL, hw_3_0, hw_3_1, hw_3_2, hw_3_3]
  try grind
theorem id_3_2_3 (f : Int → Int) (lo wd : Int) : rwS (lcf (3 + 2) 3) (3 + 2) 3 (ow f 3 lo wd) ((if (3 : Int) ≤ 3 then (3 : Int) else 3) + 1).toNat 0 0 * bnZ (3 + 2) 3 = lcf (3 + 2) 3 * nb f 3 lo (lo + wd) ((2 : Int).toNat) 3 := by
  have e9 : ∀ q : Int, 3 < q → hb f 3 lo (lo + wd) 3 q = 0 := fun q h => hb_hi h
  rw [lc_3_2]
  simp [rwS, nb, bnZ, waysL, hw_3_0, hw_3_1, hw_3_2, hw_3_3]
  try grind
theorem id_3_2_4 (f : Int → Int) (lo wd : Int) : rwS (lcf (3 + 2) 3) (3 + 2) 4 (ow f 3 lo wd) ((if (4 : Int) ≤ 3 then (4 : Int) else 3) + 1).toNat 0 0 * bnZ (3 + 2) 4 = lcf (3 + 2) 3 * nb f 3 lo (lo + wd) ((2 : Int).toNat) 4 := by
  have e9 : ∀ q : Int, 3 < q → hb f 3 lo (lo + wd) 3 q = 0 := fun q h => hb_hi h
  rw [lc_3_2]
  simp [rwS, nb, bnZ, waysL, hw_3_0, hw_3_1, hw_3_2, hw_3_3]
  try grind
theorem id_3_2_5 (f : Int → Int) (lo wd : Int) : rwS (lcf (3 + 2) 3) (3 + 2) 5 (ow f 3 lo wd) ((if (5 : Int) ≤ 3 then (5 : Int) else 3) + 1).toNat 0 0 * bnZ (3 + 2) 5 = lcf (3 + 2) 3 * nb f 3 lo (lo + wd) ((2 : Int).toNat) 5 := by
  have e9 : ∀ q : Int, 3 < q → hb f 3 lo (lo + wd) 3 q = 0 := fun q h => hb_hi h
  rw [lc_3_2]
  simp [rwS, nb, bnZ, waysL, hw_3_0, hw_3_1, hw_3_2, hw_3_3]
  try grind
theorem lc_4_0 : lcf (4 + 0) 4 = 12 := by decide +kernel
theorem id_4_0_0 (f : Int → Int) (lo wd : Int) : rwS (lcf (4 + 0) 4) (4 + 0) 0 (ow f 4 lo wd) ((if (0 : Int) ≤ 4 then (0 : Int) else 4) + 1).toNat 0 0 * bnZ (4 + 0) 0 = lcf (4 + 0) 4 * nb f 4 lo (lo + wd) ((0 : Int).toNat) 0 := by
  have e9 : ∀ q : Int, 4 < q → hb f 4 lo (lo + wd) 4 q = 0 := fun q h => hb_hi h
  rw [lc_4_0]
  simp [rwS, nb, bnZ, waysL, hw_4_0, hw_4_1, hw_4_2, hw_4_3, hw_4_4]
  try grind
theorem id_4_0_1 (f : Int → Int) (lo wd : Int) : rwS (lcf (4 + 0) 4) (4 + 0) 1 (ow f 4 lo wd) ((if (1 : Int) ≤ 4 then (1 : Int) else 4) + 1).toNat 0 0 * bnZ (4 + 0) 1 = lcf (4 + 0) 4 * nb f 4 lo (lo + wd) ((0 : Int).toNat) 1 := by
  have e9 : ∀ q : Int, 4 < q → hb f 4 lo (lo + wd) 4 q = 0 := fun q h => hb_hi h
  rw [lc_4_0]
  simp [rwS, nb, bnZ, waysL, hw_4_0, hw_4_1, hw_4_2, hw_4_3, hw_4_4]
  try grind
theorem id_4_0_2 (f : Int → Int) (lo wd : Int) : rwS (lcf (4 + 0) 4) (4 + 0) 2 (ow f 4 lo wd) ((if (2 : Int) ≤ 4 then (2 : Int) else 4) + 1).toNat 0 0 * bnZ (4 + 0) 2 = lcf (4 + 0) 4 * nb f 4 lo (lo + wd) ((0 : Int).toNat) 2 := by
  have e9 : ∀ q : Int, 4 < q → hb f 4 lo (lo + wd) 4 q = 0 := fun q h => hb_hi h
  rw [lc_4_0]
  simp [rwS, nb, bnZ, waysL, hw_4_0, hw_4_1, hw_4_2, hw_4_3, hw_4_4]
  try grind
theorem id_4_0_3 (f : Int → Int) (lo wd : Int) : rwS (lcf (4 + 0) 4) (4 + 0) 3 (ow f 4 lo wd) ((if (3 : Int) ≤ 4 then (3 : Int) else 4) + 1).toNat 0 0 * bnZ (4 + 0) 3 = lcf (4 + 0) 4 * nb f 4 lo (lo + wd) ((0 : Int).toNat) 3 := by
  have e9 : ∀ q : Int, 4 < q → hb f 4 lo (lo + wd) 4 q = 0 := fun q h => hb_hi h
  rw [lc_4_0]
  simp [rwS, nb, bnZ, waysL, hw_4_0, hw_4_1, hw_4_2, hw_4_3, hw_4_4]
  try grind
theorem id_4_0_4 (f : Int → Int) (lo wd : Int) : rwS (lcf (4 + 0) 4) (4 + 0) 4 (ow f 4 lo wd) ((if (4 : Int) ≤ 4 then (4 : Int) else 4) + 1).toNat 0 0 * bnZ (4 + 0) 4 = lcf (4 + 0) 4 * nb f 4 lo (lo + wd) ((0 : Int).toNat) 4 := by
  have e9 : ∀ q : Int, 4 < q → hb f 4 lo (lo + wd) 4 q = 0 := fun q h => hb_hi h
  rw [lc_4_0]
  simp [rwS, nb, bnZ, waysL, hw_4_0, hw_4_1, hw_4_2, hw_4_3, hw_4_4]
  try grind
theorem lc_4_1 : lcf (4 + 1) 4 = 10 := by decide +kernel
theorem id_4_1_0 (f : Int → Int) (lo wd : Int) : rwS (lcf (4 + 1) 4) (4 + 1) 0 (ow f 4 lo wd) ((if (0 : Int) ≤ 4 then (0 : Int) else 4) + 1).toNat 0 0 * bnZ (4 + 1) 0 = lcf (4 + 1) 4 * nb f 4 lo (lo + wd) ((1 : Int).toNat) 0 := by
  have e9 : ∀ q : Int, 4 < q → hb f 4 lo (lo + wd) 4 q = 0 := fun q h => hb_hi h
  rw [lc_4_1]
  simp [rwS, nb, bnZ, waysL, hw_4_0, hw_4_1, hw_4_2, hw_4_3, hw_4_4]
  try grind
theorem id_4_1_1 (f : Int → Int) (lo wd : Int) : rwS (lcf (4 + 1) 4) (4 + 1) 1 (ow f 4 lo wd) ((if (1 : Int) ≤ 4 then (1 : Int) else 4) + 1).toNat 0 0 * bnZ (4 + 1) 1 = lcf (4 + 1) 4 * nb f 4 lo (lo + wd) ((1 : Int).toNat) 1 := by
  have e9 : ∀ q : Int, 4 < q → hb f 4 lo (lo + wd) 4 q = 0 := fun q h => hb_hi h
  rw [lc_4_1]
  simp [rwS, nb, bnZ, waysL, hw_4_0, hw_4_1, hw_4_2, hw_4_3, hw_4_4]
  try grind
theorem id_4_1_2 (f : Int → Int) (lo wd : Int) : rwS (lcf (4 + 1) 4) (4 + 1) 2 (ow f 4 lo wd) ((if (2 : Int) ≤ 4 then (2 : Int) else 4) + 1).toNat 0 0 * bnZ (4 + 1) 2 = lcf (4 + 1) 4 * nb f 4 lo (lo + wd) ((1 : Int).toNat) 2 := by
  have e9 : ∀ q : Int, 4 < q → hb f 4 lo (lo + wd) 4 q = 0 := fun q h => hb_hi h
  rw [lc_4_1]
  simp [rwS, nb, bnZ, waysL, hw_4_0, hw_4_1, hw_4_2, hw_4_3, hw_4_4]
  try grind
theorem id_4_1_3 (f : Int → Int) (lo wd : Int) : rwS (lcf (4 + 1) 4) (4 + 1) 3 (ow f 4 lo wd) ((if (3 : Int) ≤ 4 then (3 : Int) else 4) + 1).toNat 0 0 * bnZ (4 + 1) 3 = lcf (4 + 1) 4 * nb f 4 lo (lo + wd) ((1 : Int).toNat) 3 := by
  have e9 : ∀ q : Int, 4 < q → hb f 4 lo (lo + wd) 4 q = 0 := fun q h => hb_hi h
  rw [lc_4_1]
  simp [rwS, nb, bnZ, waysL, hw_4_0, hw_4_1, hw_4_2, hw_4_3, hw_4_4]
  try grind
theorem id_4_1_4 (f : Int → Int) (lo wd : Int) : rwS (lcf (4 + 1) 4) (4 + 1) 4 (ow f 4 lo wd) ((if (4 : Int) ≤ 4 then (4 : Int) else 4) + 1).toNat 0 0 * bnZ (4 + 1) 4 = lcf (4 + 1) 4 * nb f 4 lo (lo + wd) ((1 : Int).toNat) 4 := by
  have e9 : ∀ q : Int, 4 < q → hb f 4 lo (lo + wd) 4 q = 0 := fun q h => hb_hi h
  rw [lc_4_1]
  simp [rwS, nb, bnZ, waysL, hw_4_0, hw_4_1, hw_4_2, hw_4_3, hw_4_4]
  try grind
theorem id_4_1_5 (f : Int → Int) (lo wd : Int) : rwS (lcf (4 + 1) 4) (4 + 1) 5 (ow f 4 lo wd) ((if (5 : Int) ≤ 4 then (5 : Int) else 4) + 1).toNat 0 0 * bnZ (4 + 1) 5 = lcf (4 + 1) 4 * nb f 4 lo (lo + wd) ((1 : Int).toNat) 5 := by
  have e9 : ∀ q : Int, 4 < q → hb f 4 lo (lo + wd) 4 q = 0 := fun q h => hb_hi h
  rw [lc_4_1]
  simp [rwS, nb, bnZ, waysL, hw_4_0, hw_4_1, hw_4_2, hw_4_3, hw_4_4]
  try grind
theorem lc_4_2 : lcf (4 + 2) 4 = 60 := by decide +kernel
theorem id_4_2_0 (f : Int → Int) (lo wd : Int) : rwS (lcf (4 + 2) 4) (4 + 2) 0 (ow f 4 lo wd) ((if (0 : Int) ≤ 4 then (0 : Int) else 4) + 1).toNat 0 0 * bnZ (4 + 2) 0 = lcf (4 + 2) 4 * nb f 4 lo (lo + wd) ((2 : Int).toNat) 0 := by
  have e9 : ∀ q : Int, 4 < q → hb f 4 lo (lo + wd) 4 q = 0 := fun q h => hb_hi h
  rw [lc_4_2]
  simp [rwS, nb, bnZ, waysL, hw_4_0, hw_4_1, hw_4_2, hw_4_3, hw_4_4]
  try grind
theorem id_4_2_1 (f : Int → Int) (lo wd : Int) : rwS (lcf (4 + 2) 4) (4 + 2) 1 (ow f 4 lo wd) ((if (1 : Int) ≤ 4 then (1 : Int) else 4) + 1).toNat 0 0 * bnZ (4 + 2) 1 = lcf (4 + 2) 4 * nb f 4 lo (lo + wd) ((2 : Int).toNat) 1 := by
  have e9 : ∀ q : Int, 4 < q → hb f 4 lo (lo + wd) 4 q = 0 := fun q h => hb_hi h
  rw [lc_4_2]
  simp [rwS, nb, bnZ, waysL, hw_4_0, hw_4_1, hw_4_2, hw_4_3, hw_4_4]
  try grind
theorem id_4_2_2 (f : Int → Int) (lo wd : Int) : rwS (lcf (4 + 2) 4) (4 + 2) 2 (ow f 4 lo wd) ((if (2 : Int) ≤ 4 then (2 : Int) else 4) + 1).toNat 0 0 * bnZ (4 + 2) 2 = lcf (4 + 2) 4 * nb f 4 lo (lo + wd) ((2 : Int).toNat) 2 := by
  have e9 : ∀ q : Int, 4 < q → hb f 4 lo (lo + wd) 4 q = 0 := fun q h => hb_hi h
  rw [lc_4_2]
  simp [rwS, nb, bnZ, waysL, hw_4_0, hw_4_1, hw_4_2, hw_4_3, hw_4_4]
  try grind
theorem id_4_2_3 (f : Int → Int) (lo wd : Int) : rwS (lcf (4 + 2) 4) (4 + 2) 3 (ow f 4 lo wd) ((if (3 : Int) ≤ 4 then (3 : Int) else 4) + 1).toNat 0 0 * bnZ (4 + 2) 3 = lcf (4 + 2) 4 * nb f 4 lo (lo + wd) ((2 : Int).toNat) 3 := by
  have e9 : ∀ q : Int, 4 < q → hb f 4 lo (lo + wd) 4 q = 0 := fun q h => hb_hi h
  rw [lc_4_2]
  simp [rwS, nb, bnZ, waysL, hw_4_0, hw_4_1, hw_4_2, hw_4_3, hw_4_4]
  try grind
theorem id_4_2_4 (f : Int → Int) (lo wd : Int) : rwS (lcf (4 + 2) 4) (4 + 2) 4 (ow f 4 lo wd) ((if (4 : Int) ≤ 4 then (4 : Int) else 4) + 1).toNat 0 0 * bnZ (4 + 2) 4 = lcf (4 + 2) 4 * nb f 4 lo (lo + wd) ((2 : Int).toNat) 4 := by
  have e9 : ∀ q : Int, 4 < q → hb f 4 lo (lo + wd) 4 q = 0 := fun q h => hb_hi h
  rw [lc_4_2]
  simp [rwS, nb, bnZ, waysL, hw_4_0, hw_4_1, hw_4_2, hw_4_3, hw_4_4]
  try grind
theorem id_4_2_5 (f : Int → Int) (lo wd : Int) : rwS (lcf (4 + 2) 4) (4 + 2) 5 (ow f 4 lo wd) ((if (5 : Int) ≤ 4 then (5 : Int) else 4) + 1).toNat 0 0 * bnZ (4 + 2) 5 = lcf (4 + 2) 4 * nb f 4 lo (lo + wd) ((2 : Int).toNat) 5 := by
  have e9 : ∀ q : Int, 4 < q → hb f 4 lo (lo + wd) 4 q = 0 := fun q h => hb_hi h
  rw [lc_4_2]
  simp [rwS, nb, bnZ, waysL, hw_4_0, hw_4_1, hw_4_2, hw_4_3, hw_4_4]
  try grind
theorem id_4_2_6 (f : Int → Int) (lo wd : Int) : rwS (lcf (4 + 2) 4) (4 + 2) 6 (ow f 4 lo wd) ((if (6 : Int) ≤ 4 then (6 : Int) else 4) + 1).toNat 0 0 * bnZ (4 + 2) 6 = lcf (4 + 2) 4 * nb f 4 lo (lo + wd) ((2 : Int).toNat) 6 := by
  have e9 : ∀ q : Int, 4 < q → hb f 4 lo (lo + wd) 4 q = 0 := fun q h => hb_hi h
  rw [lc_4_2]
  simp [rwS, nb, bnZ, waysL, hw_4_0, hw_4_1, hw_4_2, hw_4_3, hw_4_4]
  try grind
theorem lc_5_0 : lcf (5 + 0) 5 = 10 := by decide +kernel
theorem id_5_0_0 (f : Int → Int) (lo wd : Int) : rwS (lcf (5 + 0) 5) (5 + 0) 0 (ow f 5 lo wd) ((if (0 : Int) ≤ 5 then (0 : Int) else 5) + 1).toNat 0 0 * bnZ (5 + 0) 0 = lcf (5 + 0) 5 * nb f 5 lo (lo + wd) ((0 : Int).toNat) 0 := by
  have e9 : ∀ q : Int, 5 < q → hb f 5 lo (lo + wd) 5 q = 0 := fun q h => hb_hi h
  rw [lc_5_0]
  simp [rwS, nb, bnZ, waysL, hw_5_0, hw_5_1, hw_5_2, hw_5_3, hw_5_4, hw_5_5]
  try grind
theorem id_5_0_1 (f : Int → Int) (lo wd : Int) : rwS (lcf (5 + 0) 5) (5 + 0) 1 (ow f 5 lo wd) ((if (1 : Int) ≤ 5 then (1 : Int) else 5) + 1).toNat 0 0 * bnZ (5 + 0) 1 = lcf (5 + 0) 5 * nb f 5 lo (lo + wd) ((0 : Int).toNat) 1 := by
  have e9 : ∀ q : Int, 5 < q → hb f 5 lo (lo + wd) 5 q = 0 := fun q h => hb_hi h
  rw [lc_5_0]
  simp [rwS, nb, bnZ, waysL, hw_5_0, hw_5_1, hw_5_2, hw_5_3, hw_5_4, hw_5_5]
  try grind
theorem id_5_0_2 (f : Int → Int) (lo wd : Int) : rwS (lcf (5 + 0) 5) (5 + 0) 2 (ow f 5 lo wd) ((if (2 : Int) ≤ 5 then (2 : Int) else 5) + 1).toNat 0 0 * bnZ (5 + 0) 2 = lcf (5 + 0) 5 * nb f 5 lo (lo + wd) ((0 : Int).toNat) 2 := by
  have e9 : ∀ q : Int, 5 < q → hb f 5 lo (lo + wd) 5 q = 0 := fun q h => hb_hi h
  rw [lc_5_0]
  simp [rwS, nb, bnZ, waysL, hw_5_0, hw_5_1, hw_5_2, hw_5_3, hw_5_4, hw_5_5]
  try grind
theorem id_5_0_3 (f : Int → Int) (lo wd : Int) : rwS (lcf (5 + 0) 5) (5 + 0) 3 (ow f 5 lo wd) ((if (3 : Int) ≤ 5 then (3 : Int) else 5) + 1).toNat 0 0 * bnZ (5 + 0) 3 = lcf (5 + 0) 5 * nb f 5 lo (lo + wd) ((0 : Int).toNat) 3 := by
  have e9 : ∀ q : Int, 5 < q → hb f 5 lo (lo + wd) 5 q = 0 := fun q h => hb_hi h
  rw [lc_5_0]
  simp [rwS, nb, bnZ, waysL, hw_5_0, hw_5_1, hw_5_2, hw_5_3, hw_5_4, hw_5_5]
  try grind
theorem id_5_0_4 (f : Int → Int) (lo wd : Int) : rwS (lcf (5 + 0) 5) (5 + 0) 4 (ow f 5 lo wd) ((if (4 : Int) ≤ 5 then (4 : Int) else 5) + 1).toNat 0 0 * bnZ (5 + 0) 4 = lcf (5 + 0) 5 * nb f 5 lo (lo + wd) ((0 : Int).toNat) 4 := by
  have e9 : ∀ q : Int, 5 < q → hb f 5 lo (lo + wd) 5 q = 0 := fun q h => hb_hi h
  rw [lc_5_0]
  simp [rwS, nb, bnZ, waysL, hw_5_0, hw_5_1, hw_5_2, hw_5_3, hw_5_4, hw_5_5]
  try grind
theorem id_5_0_5 (f : Int → Int) (lo wd : Int) : rwS (lcf (5 + 0) 5) (5 + 0) 5 (ow f 5 lo wd) ((if (5 : Int) ≤ 5 then (5 : Int) else 5) + 1).toNat 0 0 * bnZ (5 + 0) 5 = lcf (5 + 0) 5 * nb f 5 lo (lo + wd) ((0 : Int).toNat) 5 := by
  have e9 : ∀ q : Int, 5 < q → hb f 5 lo (lo + wd) 5 q = 0 := fun q h => hb_hi h
  rw [lc_5_0]
  simp [rwS, nb, bnZ, waysL, hw_5_0, hw_5_1, hw_5_2, hw_5_3, hw_5_4, hw_5_5]
  try grind
theorem lc_5_1 : lcf (5 + 1) 5 = 60 := by decide +kernel
theorem id_5_1_0 (f : Int → Int) (lo wd : Int) : rwS (lcf (5 + 1) 5) (5 + 1) 0 (ow f 5 lo wd) ((if (0 : Int) ≤ 5 then (0 : Int) else 5) + 1).toNat 0 0 * bnZ (5 + 1) 0 = lcf (5 + 1) 5 * nb f 5 lo (lo + wd) ((1 : Int).toNat) 0 := by
  have e9 : ∀ q : Int, 5 < q → hb f 5 lo (lo + wd) 5 q = 0 := fun q h => hb_hi h
  rw [lc_5_1]
  simp [rwS, nb, bnZ, waysL, hw_5_0, hw_5_1, hw_5_2, hw_5_3, hw_5_4, hw_5_5]
  try grind
theorem id_5_1_1 (f : Int → Int) (lo wd : Int) : rwS (lcf (5 + 1) 5) (5 + 1) 1 (ow f 5 lo wd) ((if (1 : Int) ≤ 5 then (1 : Int) else 5) + 1).toNat 0 0 * bnZ (5 + 1) 1 = lcf (5 + 1) 5 * nb f 5 lo (lo + wd) ((1 : Int).toNat) 1 := by
  have e9 : ∀ q : Int, 5 < q → hb f 5 lo (lo + wd) 5 q = 0 := fun q h => hb_hi h
  rw [lc_5_1]
  simp [rwS, nb, bnZ, waysL, hw_5_0, hw_5_1, hw_5_2, hw_5_3, hw_5_4, hw_5_5]
  try grind
theorem id_5_1_2 (f : Int → Int) (lo wd : Int) : rwS (lcf (5 + 1) 5) (5 + 1) 2 (ow f 5 lo wd) ((if (2 : Int) ≤ 5 then (2 : Int) else 5) + 1).toNat 0 0 * bnZ (5 + 1) 2 = lcf (5 + 1) 5 * nb f 5 lo (lo + wd) ((1 : Int).toNat) 2 := by
  have e9 : ∀ q : Int, 5 < q → hb f 5 lo (lo + wd) 5 q = 0 := fun q h => hb_hi h
  rw [lc_5_1]
  simp [rwS, nb, bnZ, waysL, hw_5_0, hw_5_1, hw_5_2, hw_5_3, hw_5_4, hw_5_5]
  try grind
theorem id_5_1_3 (f : Int → Int) (lo wd : Int) : rwS (lcf (5 + 1) 5) (5 + 1) 3 (ow f 5 lo wd) ((if (3 : Int) ≤ 5 then (3 : Int) else 5) + 1).toNat 0 0 * bnZ (5 + 1) 3 = lcf (5 + 1) 5 * nb f 5 lo (lo + wd) ((1 : Int).toNat) 3 := by
  have e9 : ∀ q : Int, 5 < q → hb f 5 lo (lo + wd) 5 q = 0 := fun q h => hb_hi h
  rw [lc_5_1]
  simp [rwS, nb, bnZ, waysL, hw_5_0, hw_5_1, hw_5_2, hw_5_3, hw_5_4, hw_5_5]
  try grind
theorem id_5_1_4 (f : Int → Int) (lo wd : Int) : rwS (lcf (5 + 1) 5) (5 + 1) 4 (ow f 5 lo wd) ((if (4 : Int) ≤ 5 then (4 : Int) else 5) + 1).toNat 0 0 * bnZ (5 + 1) 4 = lcf (5 + 1) 5 * nb f 5 lo (lo + wd) ((1 : Int).toNat) 4 := by
  have e9 : ∀ q : Int, 5 < q → hb f 5 lo (lo + wd) 5 q = 0 := fun q h => hb_hi h
  rw [lc_5_1]
  simp [rwS, nb, bnZ, waysL, hw_5_0, hw_5_1, hw_5_2, hw_5_3, hw_5_4, hw_5_5]
  try grind
theorem id_5_1_5 (f : Int → Int) (lo wd : Int) : rwS (lcf (5 + 1) 5) (5 + 1) 5 (ow f 5 lo wd) ((if (5 : Int) ≤ 5 then (5 : Int) else 5) + 1).toNat 0 0 * bnZ (5 + 1) 5 = lcf (5 + 1) 5 * nb f 5 lo (lo + wd) ((1 : Int).toNat) 5 := by
  have e9 : ∀ q : Int, 5 < q → hb f 5 lo (lo + wd) 5 q = 0 := fun q h => hb_hi h
  rw [lc_5_1]
  simp [rwS, nb, bnZ, waysL, hw_5_0, hw_5_1, hw_5_2, hw_5_3, hw_5_4, hw_5_5]
  try grind
theorem id_5_1_6 (f : Int → Int) (lo wd : Int) : rwS (lcf (5 + 1) 5) (5 + 1) 6 (ow f 5 lo wd) ((if (6 : Int) ≤ 5 then (6 : Int) else 5) + 1).toNat 0 0 * bnZ (5 + 1) 6 = lcf (5 + 1) 5 * nb f 5 lo (lo + wd) ((1 : Int).toNat) 6 := by
  have e9 : ∀ q : Int, 5 < q → hb f 5 lo (lo + wd) 5 q = 0 := fun q h => hb_hi h
  rw [lc_5_1]
  simp [rwS, nb, bnZ, waysL, hw_5_0, hw_5_1, hw_5_2, hw_5_3, hw_5_4, hw_5_5]
  try grind
theorem lc_5_2 : lcf (5 + 2) 5 = 105 := by decide +kernel
theorem id_5_2_0 (f : Int → Int) (lo wd : Int) : rwS (lcf (5 + 2) 5) (5 + 2) 0 (ow f 5 lo wd) ((if (0 : Int) ≤ 5 then (0 : Int) else 5) + 1).toNat 0 0 * bnZ (5 + 2) 0 = lcf (5 + 2) 5 * nb f 5 lo (lo + wd) ((2 : Int).toNat) 0 := by
  have e9 : ∀ q : Int, 5 < q → hb f 5 lo (lo + wd) 5 q = 0 := fun q h => hb_hi h
  rw [lc_5_2]
  simp [rwS, nb, bnZ, waysL, hw_5_0, hw_5_1, hw_5_2, hw_5_3, hw_5_4, hw_5_5]
  try grind
theorem id_5_2_1 (f : Int → Int) (lo wd : Int) : rwS (lcf (5 + 2) 5) (5 + 2) 1 (ow f 5 lo wd) ((if (1 : Int) ≤ 5 then (1 : Int) else 5) + 1).toNat 0 0 * bnZ (5 + 2) 1 = lcf (5 + 2) 5 * nb f 5 lo (lo + wd) ((2 : Int).toNat) 1 := by
  have e9 : ∀ q : Int, 5 < q → hb f 5 lo (lo + wd) 5 q = 0 := fun q h => hb_hi h
  rw [lc_5_2]
  simp [rwS, nb, bnZ, waysL, hw_5_0, hw_5_1, hw_5_2, hw_5_3, hw_5_4, hw_5_5]
  try grind
theorem id_5_2_2 (f : Int → Int) (lo wd : Int) : rwS (lcf (5 + 2) 5) (5 + 2) 2 (ow f 5 lo wd) ((if (2 : Int) ≤ 5 then (2 : Int) else 5) + 1).toNat 0 0 * bnZ (5 + 2) 2 = lcf (5 + 2) 5 * nb f 5 lo (lo + wd) ((2 : Int).toNat) 2 := by
  have e9 : ∀ q : Int, 5 < q → hb f 5 lo (lo + wd) 5 q = 0 := fun q h => hb_hi h
  rw [lc_5_2]
  simp [rwS, nb, bnZ, waysL, hw_5_0, hw_5_1, hw_5_2, hw_5_3, hw_5_4, hw_5_5]
  try grind
theorem id_5_2_3 (f : Int → Int) (lo wd : Int) : rwS (lcf (5 + 2) 5) (5 + 2) 3 (ow f 5 lo wd) ((if (3 : Int) ≤ 5 then (3 : Int) else 5) + 1).toNat 0 0 * bnZ (5 + 2) 3 = lcf (5 + 2) 5 * nb f 5 lo (lo + wd) ((2 : Int).toNat) 3 := by
  have e9 : ∀ q : Int, 5 < q → hb f 5 lo (lo + wd) 5 q = 0 := fun q h => hb_hi h
  rw [lc_5_2]
  simp [rwS, nb, bnZ, waysL, hw_5_0, hw_5_1, hw_5_2, hw_5_3, hw_5_4, hw_5_5]
  try grind
theorem id_5_2_4 (f : Int → Int) (lo wd : Int) : rwS (lcf (5 + 2) 5) (5 + 2) 4 (ow f 5 lo wd) ((if (4 : Int) ≤ 5 then (4 : Int) else 5) + 1).toNat 0 0 * bnZ (5 + 2) 4 = lcf (5 + 2) 5 * nb f 5 lo (lo + wd) ((2 : Int).toNat) 4 := by
  have e9 : ∀ q : Int, 5 < q → hb f 5 lo (lo + wd) 5 q = 0 := fun q h => hb_hi h
  rw [lc_5_2]
  simp [rwS, nb, bnZ, waysL, hw_5_0, hw_5_1, hw_5_2, hw_5_3, hw_5_4, hw_5_5]
  try grind
theorem id_5_2_5 (f : Int → Int) (lo wd : Int) : rwS (lcf (5 + 2) 5) (5 + 2) 5 (ow f 5 lo wd) ((if (5 : Int) ≤ 5 then (5 : Int) else 5) + 1).toNat 0 0 * bnZ (5 + 2) 5 = lcf (5 + 2) 5 * nb f 5 lo (lo + wd) ((2 : Int).toNat) 5 := by
  have e9 : ∀ q : Int, 5 < q → hb f 5 lo (lo + wd) 5 q = 0 := fun q h => hb_hi h
  rw [lc_5_2]
  simp [rwS, nb, bnZ, waysL, hw_5_0, hw_5_1, hw_5_2, hw_5_3, hw_5_4, hw_5_5]
  try grind
theorem id_5_2_6 (f : Int → Int) (lo wd : Int) : rwS (lcf (5 + 2) 5) (5 + 2) 6 (ow f 5 lo wd) ((if (6 : Int) ≤ 5 then (6 : Int) else 5) + 1).toNat 0 0 * bnZ (5 + 2) 6 = lcf (5 + 2) 5 * nb f 5 lo (lo + wd) ((2 : Int).toNat) 6 := by
  have e9 : ∀ q : Int, 5 < q → hb f 5 lo (lo + wd) 5 q = 0 := fun q h => hb_hi h
  rw [lc_5_2]
  simp [rwS, nb, bnZ, waysL, hw_5_0, hw_5_1, hw_5_2, hw_5_3, hw_5_4, hw_5_5]
  try grind
theorem id_5_2_7 (f : Int → Int) (lo wd : Int) : rwS (lcf (5 + 2) 5) (5 + 2) 7 (ow f 5 lo wd) ((if (7 : Int) ≤ 5 then (7 : Int) else 5) + 1).toNat 0 0 * bnZ (5 + 2) 7 = lcf (5 + 2) 5 * nb f 5 lo (lo + wd) ((2 : Int).toNat) 7 := by
  have e9 : ∀ q : Int, 5 < q → hb f 5 lo (lo + wd) 5 q = 0 := fun q h => hb_hi h
  rw [lc_5_2]
  simp [rwS, nb, bnZ, waysL, hw_5_0, hw_5_1, hw_5_2, hw_5_3, hw_5_4, hw_5_5]
  try grind
theorem rowM_id {f : Int → Int} {lo wd n r i : Int} (hn : 0 ≤ n ∧ n ≤ 5) (hr : 0 ≤ r ∧ r ≤ 2) (hi : 0 ≤ i ∧ i ≤ n + r) : rwS (lcf (n + r) n) (n + r) i (ow f n lo wd) ((if i ≤ n then i else n) + 1).toNat 0 0 * bnZ (n + r) i = lcf (n + r) n * nb f n lo (lo + wd) r.toNat i := by
  rcases (show n = 0 ∨ n = 1 ∨ n = 2 ∨ n = 3 ∨ n = 4 ∨ n = 5 by omega) with rfl | rfl | rfl | rfl | rfl | rfl <;> rcases (show r = 0 ∨ r = 1 ∨ r = 2 by omega) with rfl | rfl | rfl
  · rcases (show i = 0 by omega) with rfl
    exact id_0_0_0 f lo wd
  · rcases (show i = 0 ∨ i = 1 by omega) with rfl | rfl
    · exact id_0_1_0 f lo wd
    · exact id_0_1_1 f lo wd
  · rcases (show i = 0 ∨ i = 1 ∨ i = 2 by omega) with rfl | rfl | rfl
    · exact id_0_2_0 f lo wd
    · exact id_0_2_1 f lo wd
    · exact id_0_2_2 f lo wd
  · rcases (show i = 0 ∨ i = 1 by omega) with rfl | rfl
    · exact id_1_0_0 f lo wd
    · exact id_1_0_1 f lo wd
  · rcases (show i = 0 ∨ i = 1 ∨ i = 2 by omega) with rfl | rfl | rfl
    · exact id_1_1_0 f lo wd
    · exact id_1_1_1 f lo wd
    · exact id_1_1_2 f lo wd
  · rcases (show i = 0 ∨ i = 1 ∨ i = 2 ∨ i = 3 by omega) with rfl | rfl | rfl | rfl
    · exact id_1_2_0 f lo wd
    · exact id_1_2_1 f lo wd
    · exact id_1_2_2 f lo wd
    · exact id_1_2_3 f lo wd
  · rcases (show i = 0 ∨ i = 1 ∨ i = 2 by omega) with rfl | rfl | rfl
    · exact id_2_0_0 f lo wd
    · exact id_2_0_1 f lo wd
    · exact id_2_0_2 f lo wd
  · rcases (show i = 0 ∨ i = 1 ∨ i = 2 ∨ i = 3 by omega) with rfl | rfl | rfl | rfl
    · exact id_2_1_0 f lo wd
    · exact id_2_1_1 f lo wd
    · exact id_2_1_2 f lo wd
    · exact id_2_1_3 f lo wd
  · rcases (show i = 0 ∨ i = 1 ∨ i = 2 ∨ i = 3 ∨ i = 4 by omega) with rfl | rfl | rfl | rfl | rfl
    · exact id_2_2_0 f lo wd
    · exact id_2_2_1 f lo wd
    · exact id_2_2_2 f lo wd
    · exact id_2_2_3 f lo wd
    · exact id_2_2_4 f lo wd
  · rcases (show i = 0 ∨ i = 1 ∨ i = 2 ∨ i = 3 by omega) with rfl | rfl | rfl | rfl
    · exact id_3_0_0 f lo wd
    · exact id_3_0_1 f lo wd
    · exact id_3_0_2 f lo wd
    · exact id_3_0_3 f lo wd
  · rcases (show i = 0 ∨ i = 1 ∨ i = 2 ∨ i = 3 ∨ i = 4 by omega) with rfl | rfl | rfl | rfl | rfl
    · exact id_3_1_0 f lo wd
    · exact id_3_1_1 f lo wd
    · exact id_3_1_2 f lo wd
    · exact id_3_1_3 f lo wd
    · exact id_3_1_4 f lo wd
  · rcases (show i = 0 ∨ i = 1 ∨ i = 2 ∨ i = 3 ∨ i = 4 ∨ i = 5 by omega) with rfl | rfl | rfl | rfl | rfl | rfl
    · exact id_3_2_0 f lo wd
    · exact id_3_2_1 f lo wd
    · exact id_3_2_2 f lo wd
    · exact id_3_2_3 f lo wd
    · exact id_3_2_4 f lo wd
    · exact id_3_2_5 f lo wd
  · rcases (show i = 0 ∨ i = 1 ∨ i = 2 ∨ i = 3 ∨ i = 4 by omega) with rfl | rfl | rfl | rfl | rfl
    · exact id_4_0_0 f lo wd
    · exact id_4_0_1 f lo wd
    · exact id_4_0_2 f lo wd
    · exact id_4_0_3 f lo wd
    · exact id_4_0_4 f lo wd
  · rcases (show i = 0 ∨ i = 1 ∨ i = 2 ∨ i = 3 ∨ i = 4 ∨ i = 5 by omega) with rfl | rfl | rfl | rfl | rfl | rfl
    · exact id_4_1_0 f lo wd
    · exact id_4_1_1 f lo wd
    · exact id_4_1_2 f lo wd
    · exact id_4_1_3 f lo wd
    · exact id_4_1_4 f lo wd
    · exact id_4_1_5 f lo wd
  · rcases (show i = 0 ∨ i = 1 ∨ i = 2 ∨ i = 3 ∨ i = 4 ∨ i = 5 ∨ i = 6 by omega) with rfl | rfl | rfl | rfl | rfl | rfl | rfl
    · exact id_4_2_0 f lo wd
    · exact id_4_2_1 f lo wd
    · exact id_4_2_2 f lo wd
    · exact id_4_2_3 f lo wd
    · exact id_4_2_4 f lo wd
    · exact id_4_2_5 f lo wd
    · exact id_4_2_6 f lo wd
  · rcases (show i = 0 ∨ i = 1 ∨ i = 2 ∨ i = 3 ∨ i = 4 ∨ i = 5 by omega) with rfl | rfl | rfl | rfl | rfl | rfl
    · exact id_5_0_0 f lo wd
    · exact id_5_0_1 f lo wd
    · exact id_5_0_2 f lo wd
    · exact id_5_0_3 f lo wd
    · exact id_5_0_4 f lo wd
    · exact id_5_0_5 f lo wd
  · rcases (show i = 0 ∨ i = 1 ∨ i = 2 ∨ i = 3 ∨ i = 4 ∨ i = 5 ∨ i = 6 by omega) with rfl | rfl | rfl | rfl | rfl | rfl | rfl
    · exact id_5_1_0 f lo wd
    · exact id_5_1_1 f lo wd
    · exact id_5_1_2 f lo wd
    · exact id_5_1_3 f lo wd
    · exact id_5_1_4 f lo wd
    · exact id_5_1_5 f lo wd
    · exact id_5_1_6 f lo wd
  · rcases (show i = 0 ∨ i = 1 ∨ i = 2 ∨ i = 3 ∨ i = 4 ∨ i = 5 ∨ i = 6 ∨ i = 7 by omega) with rfl | rfl | rfl | rfl | rfl | rfl | rfl | rfl
    · exact id_5_2_0 f lo wd
    · exact id_5_2_1 f lo wd
    · exact id_5_2_2 f lo wd
    · exact id_5_2_3 f lo wd
    · exact id_5_2_4 f lo wd
    · exact id_5_2_5 f lo wd
    · exact id_5_2_6 f lo wd
    · exact id_5_2_7 f lo wd
