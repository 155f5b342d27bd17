/-! pure words -/
def sgn (x : Int) : Int := if x = 0 then 0 else if 0 < x then 1 else -1
def hv : Nat → Int → Int → Int
  | 0, _, s => s
  | t + 1, m, s => if m ≤ 1 then s else hv t (Int.tdiv m 2) (Int.tdiv s 2)
/-- how many 64ths a node has -/
def pz (a : Int) : Int := hv 7 a 64
def bh : Nat → Int → Int
  | 0, m => if m ≤ 0 then 0 else m + 1
  | t + 1, m => if m ≤ 0 then 0 else if Int.tmod m 2 = 1 then bh t (Int.tdiv m 2) else m + 1
/-- the node behind one -/
def bhd (a : Int) : Int := bh 8 a
def push5 (τ : Sg) (kd wh k o o2 : Int) : Sg := up (up (up (up (up (up τ 29 (τ 28 1 * 5) kd) 29 (τ 28 1 * 5 + 1) wh) 29 (τ 28 1 * 5 + 2) k) 29 (τ 28 1 * 5 + 3) o) 29 (τ 28 1 * 5 + 4) o2) 28 1 (τ 28 1 + 1)
def pushC (σ : Sg) (kd wh k o o2 : Int) : Sg := if σ 28 1 < 10 then push5 σ kd wh k o o2 else push5 (cpy (up σ 28 1 9) 29 5 29 0 45) kd wh k o o2
def popC (σ : Sg) : Sg := if σ 29 ((σ 28 1 - 1) * 5) = 0 then up (up σ 28 1 (σ 28 1 - 1)) 2 (σ 29 ((σ 28 1 - 1) * 5 + 1) * 6 + σ 29 ((σ 28 1 - 1) * 5 + 2)) (σ 29 ((σ 28 1 - 1) * 5 + 3)) else if σ 29 ((σ 28 1 - 1) * 5) = 1 then up (up (up σ 28 1 (σ 28 1 - 1)) 4 (σ 29 ((σ 28 1 - 1) * 5 + 1)) (σ 29 ((σ 28 1 - 1) * 5 + 3))) 5 (σ 29 ((σ 28 1 - 1) * 5 + 1)) (σ 29 ((σ 28 1 - 1) * 5 + 4)) else up (up σ 28 1 (σ 28 1 - 1)) 3 (σ 29 ((σ 28 1 - 1) * 5 + 1)) (σ 29 ((σ 28 1 - 1) * 5 + 3))
def UE (σ : Sg) (a : Int) : Prop := (σ 29 a = 0 ∧ (0 ≤ σ 29 (a + 1) ∧ σ 29 (a + 1) < σ 0 0) ∧ 0 ≤ σ 29 (a + 2) ∧ σ 29 (a + 2) < σ 1 (σ 29 (a + 1))) ∨ (σ 29 a = 1 ∧ 0 ≤ σ 29 (a + 1) ∧ σ 29 (a + 1) < σ 0 1) ∨ (σ 29 a = 2 ∧ 0 ≤ σ 29 (a + 1) ∧ σ 29 (a + 1) < σ 0 0)
def Bec (σ σ' : Sg) (d s : Nat) : Prop := (∀ k, (k < d ∨ d + 5 < k) → σ' k = σ k) ∧ σ' d 0 = σ s 0 ∧ σ' d 1 = σ s 1 ∧ (∀ j, 0 ≤ j → j < 3 → σ' (d + 1) j = σ (s + 1) j) ∧ (∀ j, 0 ≤ j → j < 18 → σ' (d + 2) j = σ (s + 2) j) ∧ (∀ j, 0 ≤ j → j < 3 → σ' (d + 3) j = σ (s + 3) j) ∧ (∀ j, 0 ≤ j → j < 3 → σ' (d + 4) j = σ (s + 4) j) ∧ (∀ j, 0 ≤ j → j < 3 → σ' (d + 5) j = σ (s + 5) j)
theorem cp1_all {f h : Int → Int} {n j : Int} (h0 : 0 ≤ j) (h1 : j < n) : cp1 f h 0 0 n j = f j := by
  unfold cp1
  rw [if_pos (by omega), show 0 + (j - 0) = j from by omega]
/-- the greatest common divisor, as Euclid goes -/
theorem gcd_step {a b : Int} (ha : 0 ≤ a) (hb : 0 < b) : Int.gcd b (Int.tmod a b) = Int.gcd a b := by
  rw [Int.tmod_eq_emod_of_nonneg ha]
  have h := Int.gcd_add_mul_left_right b (a % b) (a / b)
  rw [Int.emod_add_mul_ediv] at h
  rw [← h, Int.gcd_comm]
theorem tmod_le_half {a b : Int} (ha : 0 ≤ a) (hb : 0 < b) : 0 ≤ Int.tmod a b ∧ Int.tmod a b < b := by
  rw [Int.tmod_eq_emod_of_nonneg ha]
  exact ⟨Int.emod_nonneg _ (by omega), Int.emod_lt_of_pos _ hb⟩
theorem eu_step {x z : Int} {t : Nat} (hz : 0 < z) (hx : z ≤ x) (h : x * z < 2 ^ (t + 1)) : z * Int.tmod x z < 2 ^ t := by
  have r := tmod_le_half (a := x) (b := z) (by omega) hz
  rw [Int.tmod_eq_emod_of_nonneg (by omega)] at r ⊢
  have e := Int.mul_ediv_add_emod x z
  have q : 1 ≤ x / z := (Int.le_ediv_iff_mul_le hz).mpr (by omega)
  have q2 : z * 1 ≤ z * (x / z) := Int.mul_le_mul_of_nonneg_left q (by omega)
  have k : 2 * (x % z) < x := by omega
  have k2 := Int.mul_lt_mul_of_pos_left k hz
  rw [show z * (2 * (x % z)) = 2 * (z * (x % z)) from Int.mul_left_comm _ _ _, Int.mul_comm z x] at k2
  have p : (2 : Int) ^ (t + 1) = 2 ^ t * 2 := Int.pow_succ 2 t
  omega
theorem eu_zero {x z : Int} (h0 : 0 ≤ z) (hx : z ≤ x) (h : x * z < 2 ^ 0) : z = 0 := by
  have p : (2 : Int) ^ 0 = 1 := rfl
  by_cases hz : z = 0
  · exact hz
  · have := Int.mul_pos (show 0 < x by omega) (show 0 < z by omega)
    omega
theorem eu_first {a b : Int} (ha : 0 ≤ a) (hb : 0 < b) (h : b < 281474976710656) : b * Int.tmod a b < 2 ^ 99 := by
  have r := tmod_le_half ha hb
  have k : b * Int.tmod a b ≤ b * 281474976710656 := Int.mul_le_mul_of_nonneg_left (by omega) (by omega)
  have p : (2 : Int) ^ 99 = 633825300114114700748351602688 := by decide
  omega
theorem c_X1_size {g : Gl} {σ : Sg} : Ct g mX1_size [vr g 28] σ (PE (σ 28 1) σ) := by
  refine Ct.of (by decide +kernel) (Nat.le_of_ble_eq_true rfl) ?_
  show jv g _ _ σ [(0, vr g 28)] 0 []
  refine j_aload_n eX1_size_0 rfl ?_
  refine j_getI flX1_15 ly28 rfl eX1_size_1 ?_
  refine r_iret rfl eX1_size_4 ?_
  first | exact ⟨rfl, rfl⟩ | (exfalso; omega)
theorem c_X1_empty {g : Gl} {σ : Sg} : Ct g mX1_empty [vr g 28] σ (PV (fun σ' => σ' = up σ 28 1 0)) := by
  refine Ct.of (by decide +kernel) (Nat.le_of_ble_eq_true rfl) ?_
  show jv g _ _ σ [(0, vr g 28)] 0 []
  refine j_aload_n eX1_empty_0 rfl ?_
  refine j_iconst 0 eX1_empty_1 ?_
  refine j_putI fpX1_15 ly28 rfl eX1_empty_2 ?_
  refine r_vret rfl eX1_empty_5 ?_
  first | exact rfl | (exfalso; omega)
theorem c_X1_remember {g : Gl} {σ : Sg} {kd wh ki od oe : Int} (hC : 0 ≤ σ 28 1 ∧ σ 28 1 ≤ 10) : Ct g mX1_remember [vr g 28, vi kd, vi wh, vi ki, vi od, vi oe] σ (PV (fun σ' => σ' = pushC σ kd wh ki od oe)) := by
  refine Ct.of (by decide +kernel) (Nat.le_of_ble_eq_true rfl) ?_
  show jv g _ _ σ [(0, vr g 28), (1, vi kd), (2, vi wh), (3, vi ki), (4, vi od), (5, vi oe)] 0 []
  refine j_aload_n eX1_remember_0 rfl ?_
  refine j_getI flX1_15 ly28 rfl eX1_remember_1 ?_
  refine j_bipush 10 eX1_remember_4 (by decide) ?_
  refine j_icmp_lt eX1_remember_6 (by omega) (fun h6 => ?_) (fun h6 => ?_)
  · try have e8 : (cpy (up σ 28 1 9) 29 5 29 0 (up σ 28 1 9 28 1 * 5)) 28 1 = 9 := rfl
    refine j_aload_n eX1_remember_34 rfl ?_
    refine j_getI flX1_15 ly28 rfl eX1_remember_35 ?_
    refine j_iconst 5 eX1_remember_38 ?_
    refine j_imul eX1_remember_39 ?_
    refine j_istore eX1_remember_40 (Nat.le_of_ble_eq_true rfl) ?_
    refine j_iload eX1_remember_42 rfl ?_
    refine j_if_lt eX1_remember_44 (by omega) (fun h44 => ?_) (fun h44 => ?_)
    · refine r_vret rfl eX1_remember_59 ?_
      exfalso
      omega
    · refine j_iload eX1_remember_47 rfl ?_
      refine j_iconst 5 eX1_remember_49 ?_
      refine j_iadd eX1_remember_50 ?_
      refine j_aload_n eX1_remember_51 rfl ?_
      refine j_getR flX1_11 ly28 rfl eX1_remember_52 ?_
      refine j_alen (by decide) ly29 eX1_remember_55 ?_
      refine j_icmp_le eX1_remember_56 (by omega) (fun h56 => ?_) (fun h56 => ?_)
      · refine j_aload_n eX1_remember_60 rfl ?_
        refine j_getR flX1_11 ly28 rfl eX1_remember_61 ?_
        refine j_iload eX1_remember_64 rfl ?_
        refine j_iload_n eX1_remember_66 rfl ?_
        refine j_iast ly29 (by omega) eX1_remember_67 ?_
        refine j_aload_n eX1_remember_68 rfl ?_
        refine j_getR flX1_11 ly28 rfl eX1_remember_69 ?_
        refine j_iload eX1_remember_72 rfl ?_
        refine j_iconst 1 eX1_remember_74 ?_
        refine j_iadd eX1_remember_75 ?_
        refine j_iload_n eX1_remember_76 rfl ?_
        refine j_iast ly29 (by omega) eX1_remember_77 ?_
        refine j_aload_n eX1_remember_78 rfl ?_
        refine j_getR flX1_11 ly28 rfl eX1_remember_79 ?_
        refine j_iload eX1_remember_82 rfl ?_
        refine j_iconst 2 eX1_remember_84 ?_
        refine j_iadd eX1_remember_85 ?_
        refine j_iload_n eX1_remember_86 rfl ?_
        refine j_iast ly29 (by omega) eX1_remember_87 ?_
        refine j_aload_n eX1_remember_88 rfl ?_
        refine j_getR flX1_11 ly28 rfl eX1_remember_89 ?_
        refine j_iload eX1_remember_92 rfl ?_
        refine j_iconst 3 eX1_remember_94 ?_
        refine j_iadd eX1_remember_95 ?_
        refine j_iload eX1_remember_96 rfl ?_
        refine j_iast ly29 (by omega) eX1_remember_98 ?_
        refine j_aload_n eX1_remember_99 rfl ?_
        refine j_getR flX1_11 ly28 rfl eX1_remember_100 ?_
        refine j_iload eX1_remember_103 rfl ?_
        refine j_iconst 4 eX1_remember_105 ?_
        refine j_iadd eX1_remember_106 ?_
        refine j_iload eX1_remember_107 rfl ?_
        refine j_iast ly29 (by omega) eX1_remember_109 ?_
        refine j_aload_n eX1_remember_110 rfl ?_
        refine j_dup rfl eX1_remember_111 ?_
        refine j_getI flX1_15 ly28 rfl eX1_remember_112 ?_
        refine j_iconst 1 eX1_remember_115 ?_
        refine j_iadd eX1_remember_116 ?_
        refine j_putI fpX1_15 ly28 rfl eX1_remember_117 ?_
        refine r_vret rfl eX1_remember_120 ?_
        show _ = pushC σ kd wh ki od oe
        unfold pushC
        first | (rw [if_pos (by omega)]; rfl) | (rw [if_neg (by omega)]; rfl)
      · refine r_vret rfl eX1_remember_59 ?_
        exfalso
        omega
  · refine j_aload_n eX1_remember_9 rfl ?_
    refine j_bipush 9 eX1_remember_10 (by decide) ?_
    refine j_putI fpX1_15 ly28 rfl eX1_remember_12 ?_
    have e9 : (up σ 28 1 9) 28 1 = 9 := rfl
    refine j_aload_n eX1_remember_15 rfl ?_
    refine j_getR flX1_11 ly28 rfl eX1_remember_16 ?_
    refine j_iconst 5 eX1_remember_19 ?_
    refine j_aload_n eX1_remember_20 rfl ?_
    refine j_getR flX1_11 ly28 rfl eX1_remember_21 ?_
    refine j_iconst 0 eX1_remember_24 ?_
    refine j_aload_n eX1_remember_25 rfl ?_
    refine j_getI flX1_15 ly28 rfl eX1_remember_26 ?_
    refine j_iconst 5 eX1_remember_29 ?_
    refine j_imul eX1_remember_30 ?_
    refine j_copyI ly29 ly29 (by omega) lkX1_39 (Nat.le_of_ble_eq_true rfl) (Nat.le_of_ble_eq_true rfl) eX1_remember_31 ?_
    try have e8 : (cpy (up σ 28 1 9) 29 5 29 0 (up σ 28 1 9 28 1 * 5)) 28 1 = 9 := rfl
    refine j_aload_n eX1_remember_34 rfl ?_
    refine j_getI flX1_15 ly28 rfl eX1_remember_35 ?_
    refine j_iconst 5 eX1_remember_38 ?_
    refine j_imul eX1_remember_39 ?_
    refine j_istore eX1_remember_40 (Nat.le_of_ble_eq_true rfl) ?_
    refine j_iload eX1_remember_42 rfl ?_
    refine j_if_lt eX1_remember_44 (by omega) (fun h44 => ?_) (fun h44 => ?_)
    · refine r_vret rfl eX1_remember_59 ?_
      exfalso
      omega
    · refine j_iload eX1_remember_47 rfl ?_
      refine j_iconst 5 eX1_remember_49 ?_
      refine j_iadd eX1_remember_50 ?_
      refine j_aload_n eX1_remember_51 rfl ?_
      refine j_getR flX1_11 ly28 rfl eX1_remember_52 ?_
      refine j_alen (by decide) ly29 eX1_remember_55 ?_
      refine j_icmp_le eX1_remember_56 (by omega) (fun h56 => ?_) (fun h56 => ?_)
      · refine j_aload_n eX1_remember_60 rfl ?_
        refine j_getR flX1_11 ly28 rfl eX1_remember_61 ?_
        refine j_iload eX1_remember_64 rfl ?_
        refine j_iload_n eX1_remember_66 rfl ?_
        refine j_iast ly29 (by omega) eX1_remember_67 ?_
        refine j_aload_n eX1_remember_68 rfl ?_
        refine j_getR flX1_11 ly28 rfl eX1_remember_69 ?_
        refine j_iload eX1_remember_72 rfl ?_
        refine j_iconst 1 eX1_remember_74 ?_
        refine j_iadd eX1_remember_75 ?_
        refine j_iload_n eX1_remember_76 rfl ?_
        refine j_iast ly29 (by omega) eX1_remember_77 ?_
        refine j_aload_n eX1_remember_78 rfl ?_
        refine j_getR flX1_11 ly28 rfl eX1_remember_79 ?_
        refine j_iload eX1_remember_82 rfl ?_
        refine j_iconst 2 eX1_remember_84 ?_
        refine j_iadd eX1_remember_85 ?_
        refine j_iload_n eX1_remember_86 rfl ?_
        refine j_iast ly29 (by omega) eX1_remember_87 ?_
        refine j_aload_n eX1_remember_88 rfl ?_
        refine j_getR flX1_11 ly28 rfl eX1_remember_89 ?_
        refine j_iload eX1_remember_92 rfl ?_
        refine j_iconst 3 eX1_remember_94 ?_
        refine j_iadd eX1_remember_95 ?_
        refine j_iload eX1_remember_96 rfl ?_
        refine j_iast ly29 (by omega) eX1_remember_98 ?_
        refine j_aload_n eX1_remember_99 rfl ?_
        refine j_getR flX1_11 ly28 rfl eX1_remember_100 ?_
        refine j_iload eX1_remember_103 rfl ?_
        refine j_iconst 4 eX1_remember_105 ?_
        refine j_iadd eX1_remember_106 ?_
        refine j_iload eX1_remember_107 rfl ?_
        refine j_iast ly29 (by omega) eX1_remember_109 ?_
        refine j_aload_n eX1_remember_110 rfl ?_
        refine j_dup rfl eX1_remember_111 ?_
        refine j_getI flX1_15 ly28 rfl eX1_remember_112 ?_
        refine j_iconst 1 eX1_remember_115 ?_
        refine j_iadd eX1_remember_116 ?_
        refine j_putI fpX1_15 ly28 rfl eX1_remember_117 ?_
        refine r_vret rfl eX1_remember_120 ?_
        show _ = pushC σ kd wh ki od oe
        unfold pushC
        first | (rw [if_pos (by omega)]; rfl) | (rw [if_neg (by omega)]; rfl)
      · refine r_vret rfl eX1_remember_59 ?_
        exfalso
        omega
theorem c_X1_rememberCoefficient {g : Gl} {σ : Sg} {p k : Int} (hC : 0 ≤ σ 28 1 ∧ σ 28 1 ≤ 10) (vp : 0 ≤ p ∧ p < σ 0 0) (vk : 0 ≤ k ∧ k < σ 1 p) (hP : 0 ≤ σ 0 0 ∧ σ 0 0 ≤ 3) (hS : ∀ p, 0 ≤ p → p < σ 0 0 → 1 ≤ σ 1 p ∧ σ 1 p ≤ 6) : Ct g mX1_rememberCoefficient [vr g 28, vr g 0, vi p, vi k] σ (PV (fun σ' => σ' = pushC σ 0 p k (σ 2 (p * 6 + k)) 0)) := by
  refine Ct.of (by decide +kernel) (Nat.le_of_ble_eq_true rfl) ?_
  show jv g _ _ σ [(0, vr g 28), (1, vr g 0), (2, vi p), (3, vi k)] 0 []
  refine j_aload_n eX1_rememberCoefficient_0 rfl ?_
  refine j_iconst 0 eX1_rememberCoefficient_1 ?_
  refine j_iload_n eX1_rememberCoefficient_2 rfl ?_
  refine j_iload_n eX1_rememberCoefficient_3 rfl ?_
  refine j_aload_n eX1_rememberCoefficient_4 rfl ?_
  refine j_iload_n eX1_rememberCoefficient_5 rfl ?_
  refine j_iload_n eX1_rememberCoefficient_6 rfl ?_
  refine j_cV2 zX10_coefficient lkX1_19 ⟨Nat.le_of_ble_eq_true rfl, Nat.le_of_ble_eq_true rfl⟩ ly0 rfl rfl (c_X10_coefficient_0 vp vk hP hS) (Nat.le_of_ble_eq_true rfl) eX1_rememberCoefficient_7 (k_E ?_)
  refine j_iconst 0 eX1_rememberCoefficient_10 ?_
  refine j_cV5 zX1_remember lkX1_25 ⟨Nat.le_of_ble_eq_true rfl, Nat.le_of_ble_eq_true rfl⟩ ly28 rfl rfl (c_X1_remember (by omega)) (Nat.le_of_ble_eq_true rfl) eX1_rememberCoefficient_11 (k_VE ?_)
  refine r_vret rfl eX1_rememberCoefficient_14 ?_
  first | exact rfl | (exfalso; omega)
theorem c_X1_rememberBox {g : Gl} {σ : Sg} {b : Int} (hC : 0 ≤ σ 28 1 ∧ σ 28 1 ≤ 10) (vb : 0 ≤ b ∧ b < σ 0 1) (hB : 0 ≤ σ 0 1 ∧ σ 0 1 ≤ 3) : Ct g mX1_rememberBox [vr g 28, vr g 0, vi b] σ (PV (fun σ' => σ' = pushC σ 1 b 0 (σ 4 b) (σ 5 b))) := by
  refine Ct.of (by decide +kernel) (Nat.le_of_ble_eq_true rfl) ?_
  show jv g _ _ σ [(0, vr g 28), (1, vr g 0), (2, vi b)] 0 []
  refine j_aload_n eX1_rememberBox_0 rfl ?_
  refine j_iconst 1 eX1_rememberBox_1 ?_
  refine j_iload_n eX1_rememberBox_2 rfl ?_
  refine j_iconst 0 eX1_rememberBox_3 ?_
  refine j_aload_n eX1_rememberBox_4 rfl ?_
  refine j_iload_n eX1_rememberBox_5 rfl ?_
  refine j_cV1 zX10_lower lkX1_29 ⟨Nat.le_of_ble_eq_true rfl, Nat.le_of_ble_eq_true rfl⟩ ly0 rfl rfl (c_X10_lower_0 (by omega) (by omega)) (Nat.le_of_ble_eq_true rfl) eX1_rememberBox_6 (k_E ?_)
  refine j_aload_n eX1_rememberBox_9 rfl ?_
  refine j_iload_n eX1_rememberBox_10 rfl ?_
  refine j_cV1 zX10_upper lkX1_33 ⟨Nat.le_of_ble_eq_true rfl, Nat.le_of_ble_eq_true rfl⟩ ly0 rfl rfl (c_X10_upper_0 (by omega) (by omega)) (Nat.le_of_ble_eq_true rfl) eX1_rememberBox_11 (k_E ?_)
  refine j_cV5 zX1_remember lkX1_25 ⟨Nat.le_of_ble_eq_true rfl, Nat.le_of_ble_eq_true rfl⟩ ly28 rfl rfl (c_X1_remember (by omega)) (Nat.le_of_ble_eq_true rfl) eX1_rememberBox_14 (k_VE ?_)
  refine r_vret rfl eX1_rememberBox_17 ?_
  first | exact rfl | (exfalso; omega)
theorem c_X1_rememberWish {g : Gl} {σ : Sg} {p : Int} (hC : 0 ≤ σ 28 1 ∧ σ 28 1 ≤ 10) (vp : 0 ≤ p ∧ p < σ 0 0) (hP : 0 ≤ σ 0 0 ∧ σ 0 0 ≤ 3) : Ct g mX1_rememberWish [vr g 28, vr g 0, vi p] σ (PV (fun σ' => σ' = pushC σ 2 p 0 (σ 3 p) 0)) := by
  refine Ct.of (by decide +kernel) (Nat.le_of_ble_eq_true rfl) ?_
  show jv g _ _ σ [(0, vr g 28), (1, vr g 0), (2, vi p)] 0 []
  refine j_aload_n eX1_rememberWish_0 rfl ?_
  refine j_iconst 2 eX1_rememberWish_1 ?_
  refine j_iload_n eX1_rememberWish_2 rfl ?_
  refine j_iconst 0 eX1_rememberWish_3 ?_
  refine j_aload_n eX1_rememberWish_4 rfl ?_
  refine j_iload_n eX1_rememberWish_5 rfl ?_
  refine j_cV1 zX10_wanted lkX1_36 ⟨Nat.le_of_ble_eq_true rfl, Nat.le_of_ble_eq_true rfl⟩ ly0 rfl rfl (c_X10_wanted_0 (by omega) (by omega)) (Nat.le_of_ble_eq_true rfl) eX1_rememberWish_6 (k_E ?_)
  refine j_iconst 0 eX1_rememberWish_9 ?_
  refine j_cV5 zX1_remember lkX1_25 ⟨Nat.le_of_ble_eq_true rfl, Nat.le_of_ble_eq_true rfl⟩ ly28 rfl rfl (c_X1_remember (by omega)) (Nat.le_of_ble_eq_true rfl) eX1_rememberWish_10 (k_VE ?_)
  refine r_vret rfl eX1_rememberWish_13 ?_
  first | exact rfl | (exfalso; omega)
theorem c_X1_takeBack {g : Gl} {σ : Sg} (hC : 1 ≤ σ 28 1 ∧ σ 28 1 ≤ 10) (hE : UE σ ((σ 28 1 - 1) * 5)) (hP : 0 ≤ σ 0 0 ∧ σ 0 0 ≤ 3) (hB : 0 ≤ σ 0 1 ∧ σ 0 1 ≤ 3) (hS : ∀ p, 0 ≤ p → p < σ 0 0 → 1 ≤ σ 1 p ∧ σ 1 p ≤ 6) : Ct g mX1_takeBack [vr g 28, vr g 0] σ (PV (fun σ' => σ' = popC σ)) := by
  refine Ct.of (by decide +kernel) (Nat.le_of_ble_eq_true rfl) ?_
  show jv g _ _ σ [(0, vr g 28), (1, vr g 0)] 0 []
  refine j_aload_n eX1_takeBack_0 rfl ?_
  refine j_getI flX1_15 ly28 rfl eX1_takeBack_1 ?_
  refine j_iconst 1 eX1_takeBack_4 ?_
  refine j_isub eX1_takeBack_5 ?_
  refine j_iconst 5 eX1_takeBack_6 ?_
  refine j_imul eX1_takeBack_7 ?_
  refine j_istore_n eX1_takeBack_8 (Nat.le_of_ble_eq_true rfl) ?_
  refine j_iload_n eX1_takeBack_9 rfl ?_
  refine j_if_lt eX1_takeBack_10 (by omega) (fun h10 => ?_) (fun h10 => ?_)
  · refine r_vret rfl eX1_takeBack_24 ?_
    exfalso
    omega
  · refine j_iload_n eX1_takeBack_13 rfl ?_
    refine j_iconst 5 eX1_takeBack_14 ?_
    refine j_iadd eX1_takeBack_15 ?_
    refine j_aload_n eX1_takeBack_16 rfl ?_
    refine j_getR flX1_11 ly28 rfl eX1_takeBack_17 ?_
    refine j_alen (by decide) ly29 eX1_takeBack_20 ?_
    refine j_icmp_le eX1_takeBack_21 (by omega) (fun h21 => ?_) (fun h21 => ?_)
    · refine j_aload_n eX1_takeBack_25 rfl ?_
      refine j_dup rfl eX1_takeBack_26 ?_
      refine j_getI flX1_15 ly28 rfl eX1_takeBack_27 ?_
      refine j_iconst 1 eX1_takeBack_30 ?_
      refine j_isub eX1_takeBack_31 ?_
      refine j_putI fpX1_15 ly28 rfl eX1_takeBack_32 ?_
      have f0 : ∀ j, (up σ 28 1 (σ 28 1 - 1)) 29 j = σ 29 j := fun _ => rfl
      unfold UE at hE
      refine j_aload_n eX1_takeBack_35 rfl ?_
      refine j_getR flX1_11 ly28 rfl eX1_takeBack_36 ?_
      refine j_iload_n eX1_takeBack_39 rfl ?_
      refine j_iconst 1 eX1_takeBack_40 ?_
      refine j_iadd eX1_takeBack_41 ?_
      refine j_iald ly29 (by omega) eX1_takeBack_42 ?_
      refine j_istore_n eX1_takeBack_43 (Nat.le_of_ble_eq_true rfl) ?_
      refine j_aload_n eX1_takeBack_44 rfl ?_
      refine j_getR flX1_11 ly28 rfl eX1_takeBack_45 ?_
      refine j_iload_n eX1_takeBack_48 rfl ?_
      refine j_iald ly29 (by omega) eX1_takeBack_49 ?_
      have f1 := f0 ((σ 28 1 - 1) * 5)
      refine j_if_ne eX1_takeBack_50 (by omega) (fun h50 => ?_) (fun h50 => ?_)
      · refine j_aload_n eX1_takeBack_77 rfl ?_
        refine j_getR flX1_11 ly28 rfl eX1_takeBack_78 ?_
        refine j_iload_n eX1_takeBack_81 rfl ?_
        refine j_iald ly29 (by omega) eX1_takeBack_82 ?_
        refine j_iconst 1 eX1_takeBack_83 ?_
        have f2 := f0 ((σ 28 1 - 1) * 5)
        refine j_icmp_ne eX1_takeBack_84 (by omega) (fun h84 => ?_) (fun h84 => ?_)
        · refine j_aload_n eX1_takeBack_111 rfl ?_
          refine j_iload_n eX1_takeBack_112 rfl ?_
          refine j_aload_n eX1_takeBack_113 rfl ?_
          refine j_getR flX1_11 ly28 rfl eX1_takeBack_114 ?_
          refine j_iload_n eX1_takeBack_117 rfl ?_
          refine j_iconst 3 eX1_takeBack_118 ?_
          refine j_iadd eX1_takeBack_119 ?_
          refine j_iald ly29 (by omega) eX1_takeBack_120 ?_
          refine j_cV2 zX10_want lkX1_52 ⟨Nat.le_of_ble_eq_true rfl, Nat.le_of_ble_eq_true rfl⟩ ly0 rfl rfl (c_X10_want_0 (by exact (show 0 ≤ σ 29 ((σ 28 1 - 1) * 5 + 1) ∧ σ 29 ((σ 28 1 - 1) * 5 + 1) < σ 0 0 by omega)) (by exact hP)) (Nat.le_of_ble_eq_true rfl) eX1_takeBack_121 (k_VE ?_)
          refine r_vret rfl eX1_takeBack_124 ?_
          show _ = popC σ
          unfold popC
          first | (rw [if_pos (by omega)]; rfl) | (rw [if_neg (by omega), if_pos (by omega)]; rfl) | (rw [if_neg (by omega), if_neg (by omega)]; rfl)
        · refine j_aload_n eX1_takeBack_87 rfl ?_
          refine j_iload_n eX1_takeBack_88 rfl ?_
          refine j_aload_n eX1_takeBack_89 rfl ?_
          refine j_getR flX1_11 ly28 rfl eX1_takeBack_90 ?_
          refine j_iload_n eX1_takeBack_93 rfl ?_
          refine j_iconst 3 eX1_takeBack_94 ?_
          refine j_iadd eX1_takeBack_95 ?_
          refine j_iald ly29 (by omega) eX1_takeBack_96 ?_
          refine j_aload_n eX1_takeBack_97 rfl ?_
          refine j_getR flX1_11 ly28 rfl eX1_takeBack_98 ?_
          refine j_iload_n eX1_takeBack_101 rfl ?_
          refine j_iconst 4 eX1_takeBack_102 ?_
          refine j_iadd eX1_takeBack_103 ?_
          refine j_iald ly29 (by omega) eX1_takeBack_104 ?_
          refine j_cV3 zX10_putBox lkX1_49 ⟨Nat.le_of_ble_eq_true rfl, Nat.le_of_ble_eq_true rfl⟩ ly0 rfl rfl (c_X10_putBox_0 (by exact (show 0 ≤ σ 29 ((σ 28 1 - 1) * 5 + 1) ∧ σ 29 ((σ 28 1 - 1) * 5 + 1) < σ 0 1 by omega)) (by exact hB)) (Nat.le_of_ble_eq_true rfl) eX1_takeBack_105 (k_VE ?_)
          refine j_goto eX1_takeBack_108 ?_
          refine r_vret rfl eX1_takeBack_124 ?_
          show _ = popC σ
          unfold popC
          first | (rw [if_pos (by omega)]; rfl) | (rw [if_neg (by omega), if_pos (by omega)]; rfl) | (rw [if_neg (by omega), if_neg (by omega)]; rfl)
      · refine j_aload_n eX1_takeBack_53 rfl ?_
        refine j_iload_n eX1_takeBack_54 rfl ?_
        refine j_aload_n eX1_takeBack_55 rfl ?_
        refine j_getR flX1_11 ly28 rfl eX1_takeBack_56 ?_
        refine j_iload_n eX1_takeBack_59 rfl ?_
        refine j_iconst 2 eX1_takeBack_60 ?_
        refine j_iadd eX1_takeBack_61 ?_
        refine j_iald ly29 (by omega) eX1_takeBack_62 ?_
        refine j_aload_n eX1_takeBack_63 rfl ?_
        refine j_getR flX1_11 ly28 rfl eX1_takeBack_64 ?_
        refine j_iload_n eX1_takeBack_67 rfl ?_
        refine j_iconst 3 eX1_takeBack_68 ?_
        refine j_iadd eX1_takeBack_69 ?_
        refine j_iald ly29 (by omega) eX1_takeBack_70 ?_
        refine j_cV3 zX10_putCoefficient lkX1_45 ⟨Nat.le_of_ble_eq_true rfl, Nat.le_of_ble_eq_true rfl⟩ ly0 rfl rfl (c_X10_putCoefficient_0 (by first | exact (show 0 ≤ σ 29 ((σ 28 1 - 1) * 5 + 1) ∧ σ 29 ((σ 28 1 - 1) * 5 + 1) < σ 0 0 by omega)) (by exact (show 0 ≤ σ 29 ((σ 28 1 - 1) * 5 + 2) ∧ σ 29 ((σ 28 1 - 1) * 5 + 2) < σ 1 (σ 29 ((σ 28 1 - 1) * 5 + 1)) by omega)) (by exact hP) (by exact hS)) (Nat.le_of_ble_eq_true rfl) eX1_takeBack_71 (k_VE ?_)
        refine j_goto eX1_takeBack_74 ?_
        refine r_vret rfl eX1_takeBack_124 ?_
        show _ = popC σ
        unfold popC
        first | (rw [if_pos (by omega)]; rfl) | (rw [if_neg (by omega), if_pos (by omega)]; rfl) | (rw [if_neg (by omega), if_neg (by omega)]; rfl)
    · refine r_vret rfl eX1_takeBack_24 ?_
      exfalso
      omega
theorem c_X6_size {g : Gl} {σ : Sg} : Ct g mX6_size [vr g 31] σ (PE (σ 31 2) σ) := by
  refine Ct.of (by decide +kernel) (Nat.le_of_ble_eq_true rfl) ?_
  show jv g _ _ σ [(0, vr g 31)] 0 []
  refine j_aload_n eX6_size_0 rfl ?_
  refine j_getI flX6_18 ly31 rfl eX6_size_1 ?_
  refine r_iret rfl eX6_size_4 ?_
  first | exact ⟨rfl, rfl⟩ | (exfalso; omega)
theorem c_X6_empty {g : Gl} {σ : Sg} : Ct g mX6_empty [vr g 31] σ (PV (fun σ' => σ' = up σ 31 2 0)) := by
  refine Ct.of (by decide +kernel) (Nat.le_of_ble_eq_true rfl) ?_
  show jv g _ _ σ [(0, vr g 31)] 0 []
  refine j_aload_n eX6_empty_0 rfl ?_
  refine j_iconst 0 eX6_empty_1 ?_
  refine j_putI fpX6_18 ly31 rfl eX6_empty_2 ?_
  refine r_vret rfl eX6_empty_5 ?_
  first | exact rfl | (exfalso; omega)
theorem c_X6_isFull {g : Gl} {σ : Sg} (h : 0 ≤ σ 31 2 ∧ σ 31 2 ≤ 6) : Ct g mX6_isFull [vr g 31] σ (PB (6 ≤ σ 31 2) σ) := by
  refine Ct.of (by decide +kernel) (Nat.le_of_ble_eq_true rfl) ?_
  show jv g _ _ σ [(0, vr g 31)] 0 []
  refine j_aload_n eX6_isFull_0 rfl ?_
  refine j_getI flX6_18 ly31 rfl eX6_isFull_1 ?_
  refine j_bipush 6 eX6_isFull_4 (by decide) ?_
  refine j_icmp_lt eX6_isFull_6 (by omega) (fun h6 => ?_) (fun h6 => ?_)
  · refine j_iconst 0 eX6_isFull_13 ?_
    exact r_zret (by decide) rfl eX6_isFull_14 (PB_f (by omega))
  · refine j_iconst 1 eX6_isFull_9 ?_
    refine j_goto eX6_isFull_10 ?_
    exact r_zret (by decide) rfl eX6_isFull_14 (PB_t (by omega))
theorem c_X6_add {g : Gl} {σ : Sg} {a b : Int} (h : 0 ≤ σ 31 2 ∧ σ 31 2 < 6) : Ct g mX6_add [vr g 31, vi a, vi b] σ (PV (fun σ' => σ' = up (up (up σ 32 (σ 31 2) a) 33 (σ 31 2) b) 31 2 (σ 31 2 + 1))) := by
  refine Ct.of (by decide +kernel) (Nat.le_of_ble_eq_true rfl) ?_
  show jv g _ _ σ [(0, vr g 31), (1, vi a), (2, vi b)] 0 []
  refine j_aload_n eX6_add_0 rfl ?_
  refine j_getI flX6_18 ly31 rfl eX6_add_1 ?_
  refine j_if_lt eX6_add_4 (by omega) (fun h4 => ?_) (fun h4 => ?_)
  · refine r_vret rfl eX6_add_46 ?_
    first | exact rfl | (exfalso; omega)
  · refine j_aload_n eX6_add_7 rfl ?_
    refine j_getI flX6_18 ly31 rfl eX6_add_8 ?_
    refine j_bipush 6 eX6_add_11 (by decide) ?_
    refine j_icmp_ge eX6_add_13 (by omega) (fun h13 => ?_) (fun h13 => ?_)
    · refine r_vret rfl eX6_add_46 ?_
      first | exact rfl | (exfalso; omega)
    · refine j_aload_n eX6_add_16 rfl ?_
      refine j_getR flX6_9 ly31 rfl eX6_add_17 ?_
      refine j_aload_n eX6_add_20 rfl ?_
      refine j_getI flX6_18 ly31 rfl eX6_add_21 ?_
      refine j_iload_n eX6_add_24 rfl ?_
      refine j_iast ly32 (by omega) eX6_add_25 ?_
      refine j_aload_n eX6_add_26 rfl ?_
      refine j_getR flX6_15 ly31 rfl eX6_add_27 ?_
      refine j_aload_n eX6_add_30 rfl ?_
      refine j_getI flX6_18 ly31 rfl eX6_add_31 ?_
      refine j_iload_n eX6_add_34 rfl ?_
      refine j_iast ly33 (by exact h) eX6_add_35 ?_
      refine j_aload_n eX6_add_36 rfl ?_
      refine j_dup rfl eX6_add_37 ?_
      refine j_getI flX6_18 ly31 rfl eX6_add_38 ?_
      refine j_iconst 1 eX6_add_41 ?_
      refine j_iadd eX6_add_42 ?_
      refine j_putI fpX6_18 ly31 rfl eX6_add_43 ?_
      refine r_vret rfl eX6_add_46 ?_
      first | exact rfl | (exfalso; omega)
theorem c_X10_become_0_18 {g : Gl} {σ : Sg} : Ct g mX10_become [vr g 0, vr g 18] σ (PV (fun σ' => Bec σ σ' 0 18)) := by
  refine Ct.of (by decide +kernel) (Nat.le_of_ble_eq_true rfl) ?_
  show jv g _ _ σ [(0, vr g 0), (1, vr g 18)] 0 []
  refine j_aload_n eX10_become_0 rfl ?_
  refine j_aload_n eX10_become_1 rfl ?_
  refine j_getI flX10_27 ly18 rfl eX10_become_2 ?_
  refine j_putI fpX10_27 ly0 rfl eX10_become_5 ?_
  refine j_aload_n eX10_become_8 rfl ?_
  refine j_aload_n eX10_become_9 rfl ?_
  refine j_getI flX10_31 ly18 rfl eX10_become_10 ?_
  refine j_putI fpX10_31 ly0 rfl eX10_become_13 ?_
  refine j_aload_n eX10_become_16 rfl ?_
  refine j_getR flX10_9 ly18 rfl eX10_become_17 ?_
  refine j_iconst 0 eX10_become_20 ?_
  refine j_aload_n eX10_become_21 rfl ?_
  refine j_getR flX10_9 ly0 rfl eX10_become_22 ?_
  refine j_iconst 0 eX10_become_25 ?_
  refine j_aload_n eX10_become_26 rfl ?_
  refine j_getR flX10_9 ly0 rfl eX10_become_27 ?_
  refine j_alen (by decide) ly1 eX10_become_30 ?_
  refine j_copyI ly19 ly1 (by decide) lkX10_53 (Nat.le_of_ble_eq_true rfl) (Nat.le_of_ble_eq_true rfl) eX10_become_31 ?_
  refine j_aload_n eX10_become_34 rfl ?_
  refine j_getR flX10_15 ly18 rfl eX10_become_35 ?_
  refine j_iconst 0 eX10_become_38 ?_
  refine j_aload_n eX10_become_39 rfl ?_
  refine j_getR flX10_15 ly0 rfl eX10_become_40 ?_
  refine j_iconst 0 eX10_become_43 ?_
  refine j_aload_n eX10_become_44 rfl ?_
  refine j_getR flX10_15 ly0 rfl eX10_become_45 ?_
  refine j_alen (by decide) ly2 eX10_become_48 ?_
  refine j_copyI ly20 ly2 (by decide) lkX10_53 (Nat.le_of_ble_eq_true rfl) (Nat.le_of_ble_eq_true rfl) eX10_become_49 ?_
  refine j_aload_n eX10_become_52 rfl ?_
  refine j_getR flX10_18 ly18 rfl eX10_become_53 ?_
  refine j_iconst 0 eX10_become_56 ?_
  refine j_aload_n eX10_become_57 rfl ?_
  refine j_getR flX10_18 ly0 rfl eX10_become_58 ?_
  refine j_iconst 0 eX10_become_61 ?_
  refine j_aload_n eX10_become_62 rfl ?_
  refine j_getR flX10_18 ly0 rfl eX10_become_63 ?_
  refine j_alen (by decide) ly3 eX10_become_66 ?_
  refine j_copyI ly21 ly3 (by decide) lkX10_53 (Nat.le_of_ble_eq_true rfl) (Nat.le_of_ble_eq_true rfl) eX10_become_67 ?_
  refine j_aload_n eX10_become_70 rfl ?_
  refine j_getR flX10_21 ly18 rfl eX10_become_71 ?_
  refine j_iconst 0 eX10_become_74 ?_
  refine j_aload_n eX10_become_75 rfl ?_
  refine j_getR flX10_21 ly0 rfl eX10_become_76 ?_
  refine j_iconst 0 eX10_become_79 ?_
  refine j_aload_n eX10_become_80 rfl ?_
  refine j_getR flX10_21 ly0 rfl eX10_become_81 ?_
  refine j_alen (by decide) ly4 eX10_become_84 ?_
  refine j_copyI ly22 ly4 (by decide) lkX10_53 (Nat.le_of_ble_eq_true rfl) (Nat.le_of_ble_eq_true rfl) eX10_become_85 ?_
  refine j_aload_n eX10_become_88 rfl ?_
  refine j_getR flX10_24 ly18 rfl eX10_become_89 ?_
  refine j_iconst 0 eX10_become_92 ?_
  refine j_aload_n eX10_become_93 rfl ?_
  refine j_getR flX10_24 ly0 rfl eX10_become_94 ?_
  refine j_iconst 0 eX10_become_97 ?_
  refine j_aload_n eX10_become_98 rfl ?_
  refine j_getR flX10_24 ly0 rfl eX10_become_99 ?_
  refine j_alen (by decide) ly5 eX10_become_102 ?_
  refine j_copyI ly23 ly5 (by decide) lkX10_53 (Nat.le_of_ble_eq_true rfl) (Nat.le_of_ble_eq_true rfl) eX10_become_103 ?_
  refine r_vret rfl eX10_become_106 ?_
  refine ⟨fun k hk => ?_, rfl, rfl, fun j h0 h1 => ?_, fun j h0 h1 => ?_, fun j h0 h1 => ?_, fun j h0 h1 => ?_, fun j h0 h1 => ?_⟩
  · simp only [cpy, up]
    rw [if_neg (by omega), if_neg (by omega), if_neg (by omega), if_neg (by omega), if_neg (by omega), if_neg (by omega), if_neg (by omega)]
  · exact cp1_all h0 h1
  · exact cp1_all h0 h1
  · exact cp1_all h0 h1
  · exact cp1_all h0 h1
  · exact cp1_all h0 h1
theorem c_X10_become_0_6 {g : Gl} {σ : Sg} : Ct g mX10_become [vr g 0, vr g 6] σ (PV (fun σ' => Bec σ σ' 0 6)) := by
  refine Ct.of (by decide +kernel) (Nat.le_of_ble_eq_true rfl) ?_
  show jv g _ _ σ [(0, vr g 0), (1, vr g 6)] 0 []
  refine j_aload_n eX10_become_0 rfl ?_
  refine j_aload_n eX10_become_1 rfl ?_
  refine j_getI flX10_27 ly6 rfl eX10_become_2 ?_
  refine j_putI fpX10_27 ly0 rfl eX10_become_5 ?_
  refine j_aload_n eX10_become_8 rfl ?_
  refine j_aload_n eX10_become_9 rfl ?_
  refine j_getI flX10_31 ly6 rfl eX10_become_10 ?_
  refine j_putI fpX10_31 ly0 rfl eX10_become_13 ?_
  refine j_aload_n eX10_become_16 rfl ?_
  refine j_getR flX10_9 ly6 rfl eX10_become_17 ?_
  refine j_iconst 0 eX10_become_20 ?_
  refine j_aload_n eX10_become_21 rfl ?_
  refine j_getR flX10_9 ly0 rfl eX10_become_22 ?_
  refine j_iconst 0 eX10_become_25 ?_
  refine j_aload_n eX10_become_26 rfl ?_
  refine j_getR flX10_9 ly0 rfl eX10_become_27 ?_
  refine j_alen (by decide) ly1 eX10_become_30 ?_
  refine j_copyI ly7 ly1 (by decide) lkX10_53 (Nat.le_of_ble_eq_true rfl) (Nat.le_of_ble_eq_true rfl) eX10_become_31 ?_
  refine j_aload_n eX10_become_34 rfl ?_
  refine j_getR flX10_15 ly6 rfl eX10_become_35 ?_
  refine j_iconst 0 eX10_become_38 ?_
  refine j_aload_n eX10_become_39 rfl ?_
  refine j_getR flX10_15 ly0 rfl eX10_become_40 ?_
  refine j_iconst 0 eX10_become_43 ?_
  refine j_aload_n eX10_become_44 rfl ?_
  refine j_getR flX10_15 ly0 rfl eX10_become_45 ?_
  refine j_alen (by decide) ly2 eX10_become_48 ?_
  refine j_copyI ly8 ly2 (by decide) lkX10_53 (Nat.le_of_ble_eq_true rfl) (Nat.le_of_ble_eq_true rfl) eX10_become_49 ?_
  refine j_aload_n eX10_become_52 rfl ?_
  refine j_getR flX10_18 ly6 rfl eX10_become_53 ?_
  refine j_iconst 0 eX10_become_56 ?_
  refine j_aload_n eX10_become_57 rfl ?_
  refine j_getR flX10_18 ly0 rfl eX10_become_58 ?_
  refine j_iconst 0 eX10_become_61 ?_
  refine j_aload_n eX10_become_62 rfl ?_
  refine j_getR flX10_18 ly0 rfl eX10_become_63 ?_
  refine j_alen (by decide) ly3 eX10_become_66 ?_
  refine j_copyI ly9 ly3 (by decide) lkX10_53 (Nat.le_of_ble_eq_true rfl) (Nat.le_of_ble_eq_true rfl) eX10_become_67 ?_
  refine j_aload_n eX10_become_70 rfl ?_
  refine j_getR flX10_21 ly6 rfl eX10_become_71 ?_
  refine j_iconst 0 eX10_become_74 ?_
  refine j_aload_n eX10_become_75 rfl ?_
  refine j_getR flX10_21 ly0 rfl eX10_become_76 ?_
  refine j_iconst 0 eX10_become_79 ?_
  refine j_aload_n eX10_become_80 rfl ?_
  refine j_getR flX10_21 ly0 rfl eX10_become_81 ?_
  refine j_alen (by decide) ly4 eX10_become_84 ?_
  refine j_copyI ly10 ly4 (by decide) lkX10_53 (Nat.le_of_ble_eq_true rfl) (Nat.le_of_ble_eq_true rfl) eX10_become_85 ?_
  refine j_aload_n eX10_become_88 rfl ?_
  refine j_getR flX10_24 ly6 rfl eX10_become_89 ?_
  refine j_iconst 0 eX10_become_92 ?_
  refine j_aload_n eX10_become_93 rfl ?_
  refine j_getR flX10_24 ly0 rfl eX10_become_94 ?_
  refine j_iconst 0 eX10_become_97 ?_
  refine j_aload_n eX10_become_98 rfl ?_
  refine j_getR flX10_24 ly0 rfl eX10_become_99 ?_
  refine j_alen (by decide) ly5 eX10_become_102 ?_
  refine j_copyI ly11 ly5 (by decide) lkX10_53 (Nat.le_of_ble_eq_true rfl) (Nat.le_of_ble_eq_true rfl) eX10_become_103 ?_
  refine r_vret rfl eX10_become_106 ?_
  refine ⟨fun k hk => ?_, rfl, rfl, fun j h0 h1 => ?_, fun j h0 h1 => ?_, fun j h0 h1 => ?_, fun j h0 h1 => ?_, fun j h0 h1 => ?_⟩
  · simp only [cpy, up]
    rw [if_neg (by omega), if_neg (by omega), if_neg (by omega), if_neg (by omega), if_neg (by omega), if_neg (by omega), if_neg (by omega)]
  · exact cp1_all h0 h1
  · exact cp1_all h0 h1
  · exact cp1_all h0 h1
  · exact cp1_all h0 h1
  · exact cp1_all h0 h1
theorem c_X10_become_0_12 {g : Gl} {σ : Sg} : Ct g mX10_become [vr g 0, vr g 12] σ (PV (fun σ' => Bec σ σ' 0 12)) := by
  refine Ct.of (by decide +kernel) (Nat.le_of_ble_eq_true rfl) ?_
  show jv g _ _ σ [(0, vr g 0), (1, vr g 12)] 0 []
  refine j_aload_n eX10_become_0 rfl ?_
  refine j_aload_n eX10_become_1 rfl ?_
  refine j_getI flX10_27 ly12 rfl eX10_become_2 ?_
  refine j_putI fpX10_27 ly0 rfl eX10_become_5 ?_
  refine j_aload_n eX10_become_8 rfl ?_
  refine j_aload_n eX10_become_9 rfl ?_
  refine j_getI flX10_31 ly12 rfl eX10_become_10 ?_
  refine j_putI fpX10_31 ly0 rfl eX10_become_13 ?_
  refine j_aload_n eX10_become_16 rfl ?_
  refine j_getR flX10_9 ly12 rfl eX10_become_17 ?_
  refine j_iconst 0 eX10_become_20 ?_
  refine j_aload_n eX10_become_21 rfl ?_
  refine j_getR flX10_9 ly0 rfl eX10_become_22 ?_
  refine j_iconst 0 eX10_become_25 ?_
  refine j_aload_n eX10_become_26 rfl ?_
  refine j_getR flX10_9 ly0 rfl eX10_become_27 ?_
  refine j_alen (by decide) ly1 eX10_become_30 ?_
  refine j_copyI ly13 ly1 (by decide) lkX10_53 (Nat.le_of_ble_eq_true rfl) (Nat.le_of_ble_eq_true rfl) eX10_become_31 ?_
  refine j_aload_n eX10_become_34 rfl ?_
  refine j_getR flX10_15 ly12 rfl eX10_become_35 ?_
  refine j_iconst 0 eX10_become_38 ?_
  refine j_aload_n eX10_become_39 rfl ?_
  refine j_getR flX10_15 ly0 rfl eX10_become_40 ?_
  refine j_iconst 0 eX10_become_43 ?_
  refine j_aload_n eX10_become_44 rfl ?_
  refine j_getR flX10_15 ly0 rfl eX10_become_45 ?_
  refine j_alen (by decide) ly2 eX10_become_48 ?_
  refine j_copyI ly14 ly2 (by decide) lkX10_53 (Nat.le_of_ble_eq_true rfl) (Nat.le_of_ble_eq_true rfl) eX10_become_49 ?_
  refine j_aload_n eX10_become_52 rfl ?_
  refine j_getR flX10_18 ly12 rfl eX10_become_53 ?_
  refine j_iconst 0 eX10_become_56 ?_
  refine j_aload_n eX10_become_57 rfl ?_
  refine j_getR flX10_18 ly0 rfl eX10_become_58 ?_
  refine j_iconst 0 eX10_become_61 ?_
  refine j_aload_n eX10_become_62 rfl ?_
  refine j_getR flX10_18 ly0 rfl eX10_become_63 ?_
  refine j_alen (by decide) ly3 eX10_become_66 ?_
  refine j_copyI ly15 ly3 (by decide) lkX10_53 (Nat.le_of_ble_eq_true rfl) (Nat.le_of_ble_eq_true rfl) eX10_become_67 ?_
  refine j_aload_n eX10_become_70 rfl ?_
  refine j_getR flX10_21 ly12 rfl eX10_become_71 ?_
  refine j_iconst 0 eX10_become_74 ?_
  refine j_aload_n eX10_become_75 rfl ?_
  refine j_getR flX10_21 ly0 rfl eX10_become_76 ?_
  refine j_iconst 0 eX10_become_79 ?_
  refine j_aload_n eX10_become_80 rfl ?_
  refine j_getR flX10_21 ly0 rfl eX10_become_81 ?_
  refine j_alen (by decide) ly4 eX10_become_84 ?_
  refine j_copyI ly16 ly4 (by decide) lkX10_53 (Nat.le_of_ble_eq_true rfl) (Nat.le_of_ble_eq_true rfl) eX10_become_85 ?_
  refine j_aload_n eX10_become_88 rfl ?_
  refine j_getR flX10_24 ly12 rfl eX10_become_89 ?_
  refine j_iconst 0 eX10_become_92 ?_
  refine j_aload_n eX10_become_93 rfl ?_
  refine j_getR flX10_24 ly0 rfl eX10_become_94 ?_
  refine j_iconst 0 eX10_become_97 ?_
  refine j_aload_n eX10_become_98 rfl ?_
  refine j_getR flX10_24 ly0 rfl eX10_become_99 ?_
  refine j_alen (by decide) ly5 eX10_become_102 ?_
  refine j_copyI ly17 ly5 (by decide) lkX10_53 (Nat.le_of_ble_eq_true rfl) (Nat.le_of_ble_eq_true rfl) eX10_become_103 ?_
  refine r_vret rfl eX10_become_106 ?_
  refine ⟨fun k hk => ?_, rfl, rfl, fun j h0 h1 => ?_, fun j h0 h1 => ?_, fun j h0 h1 => ?_, fun j h0 h1 => ?_, fun j h0 h1 => ?_⟩
  · simp only [cpy, up]
    rw [if_neg (by omega), if_neg (by omega), if_neg (by omega), if_neg (by omega), if_neg (by omega), if_neg (by omega), if_neg (by omega)]
  · exact cp1_all h0 h1
  · exact cp1_all h0 h1
  · exact cp1_all h0 h1
  · exact cp1_all h0 h1
  · exact cp1_all h0 h1
theorem c_X10_become_6_0 {g : Gl} {σ : Sg} : Ct g mX10_become [vr g 6, vr g 0] σ (PV (fun σ' => Bec σ σ' 6 0)) := by
  refine Ct.of (by decide +kernel) (Nat.le_of_ble_eq_true rfl) ?_
  show jv g _ _ σ [(0, vr g 6), (1, vr g 0)] 0 []
  refine j_aload_n eX10_become_0 rfl ?_
  refine j_aload_n eX10_become_1 rfl ?_
  refine j_getI flX10_27 ly0 rfl eX10_become_2 ?_
  refine j_putI fpX10_27 ly6 rfl eX10_become_5 ?_
  refine j_aload_n eX10_become_8 rfl ?_
  refine j_aload_n eX10_become_9 rfl ?_
  refine j_getI flX10_31 ly0 rfl eX10_become_10 ?_
  refine j_putI fpX10_31 ly6 rfl eX10_become_13 ?_
  refine j_aload_n eX10_become_16 rfl ?_
  refine j_getR flX10_9 ly0 rfl eX10_become_17 ?_
  refine j_iconst 0 eX10_become_20 ?_
  refine j_aload_n eX10_become_21 rfl ?_
  refine j_getR flX10_9 ly6 rfl eX10_become_22 ?_
  refine j_iconst 0 eX10_become_25 ?_
  refine j_aload_n eX10_become_26 rfl ?_
  refine j_getR flX10_9 ly6 rfl eX10_become_27 ?_
  refine j_alen (by decide) ly7 eX10_become_30 ?_
  refine j_copyI ly1 ly7 (by decide) lkX10_53 (Nat.le_of_ble_eq_true rfl) (Nat.le_of_ble_eq_true rfl) eX10_become_31 ?_
  refine j_aload_n eX10_become_34 rfl ?_
  refine j_getR flX10_15 ly0 rfl eX10_become_35 ?_
  refine j_iconst 0 eX10_become_38 ?_
  refine j_aload_n eX10_become_39 rfl ?_
  refine j_getR flX10_15 ly6 rfl eX10_become_40 ?_
  refine j_iconst 0 eX10_become_43 ?_
  refine j_aload_n eX10_become_44 rfl ?_
  refine j_getR flX10_15 ly6 rfl eX10_become_45 ?_
  refine j_alen (by decide) ly8 eX10_become_48 ?_
  refine j_copyI ly2 ly8 (by decide) lkX10_53 (Nat.le_of_ble_eq_true rfl) (Nat.le_of_ble_eq_true rfl) eX10_become_49 ?_
  refine j_aload_n eX10_become_52 rfl ?_
  refine j_getR flX10_18 ly0 rfl eX10_become_53 ?_
  refine j_iconst 0 eX10_become_56 ?_
  refine j_aload_n eX10_become_57 rfl ?_
  refine j_getR flX10_18 ly6 rfl eX10_become_58 ?_
  refine j_iconst 0 eX10_become_61 ?_
  refine j_aload_n eX10_become_62 rfl ?_
  refine j_getR flX10_18 ly6 rfl eX10_become_63 ?_
  refine j_alen (by decide) ly9 eX10_become_66 ?_
  refine j_copyI ly3 ly9 (by decide) lkX10_53 (Nat.le_of_ble_eq_true rfl) (Nat.le_of_ble_eq_true rfl) eX10_become_67 ?_
  refine j_aload_n eX10_become_70 rfl ?_
  refine j_getR flX10_21 ly0 rfl eX10_become_71 ?_
  refine j_iconst 0 eX10_become_74 ?_
  refine j_aload_n eX10_become_75 rfl ?_
  refine j_getR flX10_21 ly6 rfl eX10_become_76 ?_
  refine j_iconst 0 eX10_become_79 ?_
  refine j_aload_n eX10_become_80 rfl ?_
  refine j_getR flX10_21 ly6 rfl eX10_become_81 ?_
  refine j_alen (by decide) ly10 eX10_become_84 ?_
  refine j_copyI ly4 ly10 (by decide) lkX10_53 (Nat.le_of_ble_eq_true rfl) (Nat.le_of_ble_eq_true rfl) eX10_become_85 ?_
  refine j_aload_n eX10_become_88 rfl ?_
  refine j_getR flX10_24 ly0 rfl eX10_become_89 ?_
  refine j_iconst 0 eX10_become_92 ?_
  refine j_aload_n eX10_become_93 rfl ?_
  refine j_getR flX10_24 ly6 rfl eX10_become_94 ?_
  refine j_iconst 0 eX10_become_97 ?_
  refine j_aload_n eX10_become_98 rfl ?_
  refine j_getR flX10_24 ly6 rfl eX10_become_99 ?_
  refine j_alen (by decide) ly11 eX10_become_102 ?_
  refine j_copyI ly5 ly11 (by decide) lkX10_53 (Nat.le_of_ble_eq_true rfl) (Nat.le_of_ble_eq_true rfl) eX10_become_103 ?_
  refine r_vret rfl eX10_become_106 ?_
  refine ⟨fun k hk => ?_, rfl, rfl, fun j h0 h1 => ?_, fun j h0 h1 => ?_, fun j h0 h1 => ?_, fun j h0 h1 => ?_, fun j h0 h1 => ?_⟩
  · simp only [cpy, up]
    rw [if_neg (by omega), if_neg (by omega), if_neg (by omega), if_neg (by omega), if_neg (by omega), if_neg (by omega), if_neg (by omega)]
  · exact cp1_all h0 h1
  · exact cp1_all h0 h1
  · exact cp1_all h0 h1
  · exact cp1_all h0 h1
  · exact cp1_all h0 h1
theorem c_X10_become_12_0 {g : Gl} {σ : Sg} : Ct g mX10_become [vr g 12, vr g 0] σ (PV (fun σ' => Bec σ σ' 12 0)) := by
  refine Ct.of (by decide +kernel) (Nat.le_of_ble_eq_true rfl) ?_
  show jv g _ _ σ [(0, vr g 12), (1, vr g 0)] 0 []
  refine j_aload_n eX10_become_0 rfl ?_
  refine j_aload_n eX10_become_1 rfl ?_
  refine j_getI flX10_27 ly0 rfl eX10_become_2 ?_
  refine j_putI fpX10_27 ly12 rfl eX10_become_5 ?_
  refine j_aload_n eX10_become_8 rfl ?_
  refine j_aload_n eX10_become_9 rfl ?_
  refine j_getI flX10_31 ly0 rfl eX10_become_10 ?_
  refine j_putI fpX10_31 ly12 rfl eX10_become_13 ?_
  refine j_aload_n eX10_become_16 rfl ?_
  refine j_getR flX10_9 ly0 rfl eX10_become_17 ?_
  refine j_iconst 0 eX10_become_20 ?_
  refine j_aload_n eX10_become_21 rfl ?_
  refine j_getR flX10_9 ly12 rfl eX10_become_22 ?_
  refine j_iconst 0 eX10_become_25 ?_
  refine j_aload_n eX10_become_26 rfl ?_
  refine j_getR flX10_9 ly12 rfl eX10_become_27 ?_
  refine j_alen (by decide) ly13 eX10_become_30 ?_
  refine j_copyI ly1 ly13 (by decide) lkX10_53 (Nat.le_of_ble_eq_true rfl) (Nat.le_of_ble_eq_true rfl) eX10_become_31 ?_
  refine j_aload_n eX10_become_34 rfl ?_
  refine j_getR flX10_15 ly0 rfl eX10_become_35 ?_
  refine j_iconst 0 eX10_become_38 ?_
  refine j_aload_n eX10_become_39 rfl ?_
  refine j_getR flX10_15 ly12 rfl eX10_become_40 ?_
  refine j_iconst 0 eX10_become_43 ?_
  refine j_aload_n eX10_become_44 rfl ?_
  refine j_getR flX10_15 ly12 rfl eX10_become_45 ?_
  refine j_alen (by decide) ly14 eX10_become_48 ?_
  refine j_copyI ly2 ly14 (by decide) lkX10_53 (Nat.le_of_ble_eq_true rfl) (Nat.le_of_ble_eq_true rfl) eX10_become_49 ?_
  refine j_aload_n eX10_become_52 rfl ?_
  refine j_getR flX10_18 ly0 rfl eX10_become_53 ?_
  refine j_iconst 0 eX10_become_56 ?_
  refine j_aload_n eX10_become_57 rfl ?_
  refine j_getR flX10_18 ly12 rfl eX10_become_58 ?_
  refine j_iconst 0 eX10_become_61 ?_
  refine j_aload_n eX10_become_62 rfl ?_
  refine j_getR flX10_18 ly12 rfl eX10_become_63 ?_
  refine j_alen (by decide) ly15 eX10_become_66 ?_
  refine j_copyI ly3 ly15 (by decide) lkX10_53 (Nat.le_of_ble_eq_true rfl) (Nat.le_of_ble_eq_true rfl) eX10_become_67 ?_
  refine j_aload_n eX10_become_70 rfl ?_
  refine j_getR flX10_21 ly0 rfl eX10_become_71 ?_
  refine j_iconst 0 eX10_become_74 ?_
  refine j_aload_n eX10_become_75 rfl ?_
  refine j_getR flX10_21 ly12 rfl eX10_become_76 ?_
  refine j_iconst 0 eX10_become_79 ?_
  refine j_aload_n eX10_become_80 rfl ?_
  refine j_getR flX10_21 ly12 rfl eX10_become_81 ?_
  refine j_alen (by decide) ly16 eX10_become_84 ?_
  refine j_copyI ly4 ly16 (by decide) lkX10_53 (Nat.le_of_ble_eq_true rfl) (Nat.le_of_ble_eq_true rfl) eX10_become_85 ?_
  refine j_aload_n eX10_become_88 rfl ?_
  refine j_getR flX10_24 ly0 rfl eX10_become_89 ?_
  refine j_iconst 0 eX10_become_92 ?_
  refine j_aload_n eX10_become_93 rfl ?_
  refine j_getR flX10_24 ly12 rfl eX10_become_94 ?_
  refine j_iconst 0 eX10_become_97 ?_
  refine j_aload_n eX10_become_98 rfl ?_
  refine j_getR flX10_24 ly12 rfl eX10_become_99 ?_
  refine j_alen (by decide) ly17 eX10_become_102 ?_
  refine j_copyI ly5 ly17 (by decide) lkX10_53 (Nat.le_of_ble_eq_true rfl) (Nat.le_of_ble_eq_true rfl) eX10_become_103 ?_
  refine r_vret rfl eX10_become_106 ?_
  refine ⟨fun k hk => ?_, rfl, rfl, fun j h0 h1 => ?_, fun j h0 h1 => ?_, fun j h0 h1 => ?_, fun j h0 h1 => ?_, fun j h0 h1 => ?_⟩
  · simp only [cpy, up]
    rw [if_neg (by omega), if_neg (by omega), if_neg (by omega), if_neg (by omega), if_neg (by omega), if_neg (by omega), if_neg (by omega)]
  · exact cp1_all h0 h1
  · exact cp1_all h0 h1
  · exact cp1_all h0 h1
  · exact cp1_all h0 h1
  · exact cp1_all h0 h1
theorem c_X10_empty_18 {g : Gl} {σ : Sg} : Ct g mX10_empty [vr g 18] σ (PV (fun σ' => σ' = up (up σ 18 0 0) 18 1 0)) := by
  refine Ct.of (by decide +kernel) (Nat.le_of_ble_eq_true rfl) ?_
  show jv g _ _ σ [(0, vr g 18)] 0 []
  refine j_aload_n eX10_empty_0 rfl ?_
  refine j_iconst 0 eX10_empty_1 ?_
  refine j_putI fpX10_27 ly18 rfl eX10_empty_2 ?_
  refine j_aload_n eX10_empty_5 rfl ?_
  refine j_iconst 0 eX10_empty_6 ?_
  refine j_putI fpX10_31 ly18 rfl eX10_empty_7 ?_
  refine r_vret rfl eX10_empty_10 ?_
  first | exact rfl | (exfalso; omega)
theorem c_X10_addPolynomial_18 {g : Gl} {σ : Sg} (h : 0 ≤ σ 18 0 ∧ σ 18 0 < 3) : Ct g mX10_addPolynomial [vr g 18] σ (PV (fun σ' => σ' = up (up (up σ 19 (σ 18 0) 0) 21 (σ 18 0) 0) 18 0 (σ 18 0 + 1))) := by
  refine Ct.of (by decide +kernel) (Nat.le_of_ble_eq_true rfl) ?_
  show jv g _ _ σ [(0, vr g 18)] 0 []
  refine j_aload_n eX10_addPolynomial_0 rfl ?_
  refine j_getI flX10_27 ly18 rfl eX10_addPolynomial_1 ?_
  refine j_if_lt eX10_addPolynomial_4 (by omega) (fun h4 => ?_) (fun h4 => ?_)
  · refine r_vret rfl eX10_addPolynomial_45 ?_
    first | exact rfl | (exfalso; omega)
  · refine j_aload_n eX10_addPolynomial_7 rfl ?_
    refine j_getI flX10_27 ly18 rfl eX10_addPolynomial_8 ?_
    refine j_iconst 3 eX10_addPolynomial_11 ?_
    refine j_icmp_ge eX10_addPolynomial_12 (by omega) (fun h12 => ?_) (fun h12 => ?_)
    · refine r_vret rfl eX10_addPolynomial_45 ?_
      first | exact rfl | (exfalso; omega)
    · refine j_aload_n eX10_addPolynomial_15 rfl ?_
      refine j_getR flX10_9 ly18 rfl eX10_addPolynomial_16 ?_
      refine j_aload_n eX10_addPolynomial_19 rfl ?_
      refine j_getI flX10_27 ly18 rfl eX10_addPolynomial_20 ?_
      refine j_iconst 0 eX10_addPolynomial_23 ?_
      refine j_iast ly19 (by omega) eX10_addPolynomial_24 ?_
      refine j_aload_n eX10_addPolynomial_25 rfl ?_
      refine j_getR flX10_18 ly18 rfl eX10_addPolynomial_26 ?_
      refine j_aload_n eX10_addPolynomial_29 rfl ?_
      refine j_getI flX10_27 ly18 rfl eX10_addPolynomial_30 ?_
      refine j_iconst 0 eX10_addPolynomial_33 ?_
      refine j_iast ly21 (by exact h) eX10_addPolynomial_34 ?_
      refine j_aload_n eX10_addPolynomial_35 rfl ?_
      refine j_dup rfl eX10_addPolynomial_36 ?_
      refine j_getI flX10_27 ly18 rfl eX10_addPolynomial_37 ?_
      refine j_iconst 1 eX10_addPolynomial_40 ?_
      refine j_iadd eX10_addPolynomial_41 ?_
      refine j_putI fpX10_27 ly18 rfl eX10_addPolynomial_42 ?_
      refine r_vret rfl eX10_addPolynomial_45 ?_
      first | exact rfl | (exfalso; omega)
theorem c_X10_addBox_18 {g : Gl} {σ : Sg} {l u : Int} (h : 0 ≤ σ 18 1 ∧ σ 18 1 < 3) : Ct g mX10_addBox [vr g 18, vi l, vi u] σ (PV (fun σ' => σ' = up (up (up σ 22 (σ 18 1) l) 23 (σ 18 1) u) 18 1 (σ 18 1 + 1))) := by
  refine Ct.of (by decide +kernel) (Nat.le_of_ble_eq_true rfl) ?_
  show jv g _ _ σ [(0, vr g 18), (1, vi l), (2, vi u)] 0 []
  refine j_aload_n eX10_addBox_0 rfl ?_
  refine j_getI flX10_31 ly18 rfl eX10_addBox_1 ?_
  refine j_if_lt eX10_addBox_4 (by omega) (fun h4 => ?_) (fun h4 => ?_)
  · refine r_vret rfl eX10_addBox_45 ?_
    first | exact rfl | (exfalso; omega)
  · refine j_aload_n eX10_addBox_7 rfl ?_
    refine j_getI flX10_31 ly18 rfl eX10_addBox_8 ?_
    refine j_iconst 3 eX10_addBox_11 ?_
    refine j_icmp_ge eX10_addBox_12 (by omega) (fun h12 => ?_) (fun h12 => ?_)
    · refine r_vret rfl eX10_addBox_45 ?_
      first | exact rfl | (exfalso; omega)
    · refine j_aload_n eX10_addBox_15 rfl ?_
      refine j_getR flX10_21 ly18 rfl eX10_addBox_16 ?_
      refine j_aload_n eX10_addBox_19 rfl ?_
      refine j_getI flX10_31 ly18 rfl eX10_addBox_20 ?_
      refine j_iload_n eX10_addBox_23 rfl ?_
      refine j_iast ly22 (by omega) eX10_addBox_24 ?_
      refine j_aload_n eX10_addBox_25 rfl ?_
      refine j_getR flX10_24 ly18 rfl eX10_addBox_26 ?_
      refine j_aload_n eX10_addBox_29 rfl ?_
      refine j_getI flX10_31 ly18 rfl eX10_addBox_30 ?_
      refine j_iload_n eX10_addBox_33 rfl ?_
      refine j_iast ly23 (by exact h) eX10_addBox_34 ?_
      refine j_aload_n eX10_addBox_35 rfl ?_
      refine j_dup rfl eX10_addBox_36 ?_
      refine j_getI flX10_31 ly18 rfl eX10_addBox_37 ?_
      refine j_iconst 1 eX10_addBox_40 ?_
      refine j_iadd eX10_addBox_41 ?_
      refine j_putI fpX10_31 ly18 rfl eX10_addBox_42 ?_
      refine r_vret rfl eX10_addBox_45 ?_
      first | exact rfl | (exfalso; omega)
theorem c_X10_addCoefficient_18 {g : Gl} {σ : Sg} {v : Int} (h : 1 ≤ σ 18 0 ∧ σ 18 0 ≤ 3) (h2 : 0 ≤ σ 19 (σ 18 0 - 1) ∧ σ 19 (σ 18 0 - 1) < 6) : Ct g mX10_addCoefficient [vr g 18, vi v] σ (PV (fun σ' => σ' = up (up σ 20 ((σ 18 0 - 1) * 6 + σ 19 (σ 18 0 - 1)) v) 19 (σ 18 0 - 1) (σ 19 (σ 18 0 - 1) + 1))) := by
  refine Ct.of (by decide +kernel) (Nat.le_of_ble_eq_true rfl) ?_
  show jv g _ _ σ [(0, vr g 18), (1, vi v)] 0 []
  refine j_aload_n eX10_addCoefficient_0 rfl ?_
  refine j_getI flX10_27 ly18 rfl eX10_addCoefficient_1 ?_
  refine j_iconst 1 eX10_addCoefficient_4 ?_
  refine j_isub eX10_addCoefficient_5 ?_
  refine j_istore_n eX10_addCoefficient_6 (Nat.le_of_ble_eq_true rfl) ?_
  refine j_aload_n eX10_addCoefficient_7 rfl ?_
  refine j_iload_n eX10_addCoefficient_8 rfl ?_
  refine j_cV1 zX10_hasPolynomial lkX10_34 ⟨Nat.le_of_ble_eq_true rfl, Nat.le_of_ble_eq_true rfl⟩ ly18 rfl rfl (c_X10_hasPolynomial_18 (by omega) (by omega)) (Nat.le_of_ble_eq_true rfl) eX10_addCoefficient_9 (k_B (fun h9 => ?_) (fun h9 => ?_))
  · refine j_ifeq_1 eX10_addCoefficient_12 ?_
    refine j_aload_n eX10_addCoefficient_15 rfl ?_
    refine j_getR flX10_9 ly18 rfl eX10_addCoefficient_16 ?_
    refine j_iload_n eX10_addCoefficient_19 rfl ?_
    refine j_iald ly19 (by omega) eX10_addCoefficient_20 ?_
    refine j_if_lt eX10_addCoefficient_21 (by omega) (fun h21 => ?_) (fun h21 => ?_)
    · refine r_vret rfl eX10_addCoefficient_62 ?_
      first | exact rfl | (exfalso; omega)
    · refine j_aload_n eX10_addCoefficient_24 rfl ?_
      refine j_getR flX10_9 ly18 rfl eX10_addCoefficient_25 ?_
      refine j_iload_n eX10_addCoefficient_28 rfl ?_
      refine j_iald ly19 (by omega) eX10_addCoefficient_29 ?_
      refine j_bipush 6 eX10_addCoefficient_30 (by decide) ?_
      refine j_icmp_ge eX10_addCoefficient_32 (by omega) (fun h32 => ?_) (fun h32 => ?_)
      · refine r_vret rfl eX10_addCoefficient_62 ?_
        first | exact rfl | (exfalso; omega)
      · refine j_aload_n eX10_addCoefficient_35 rfl ?_
        refine j_getR flX10_15 ly18 rfl eX10_addCoefficient_36 ?_
        refine j_iload_n eX10_addCoefficient_39 rfl ?_
        refine j_bipush 6 eX10_addCoefficient_40 (by decide) ?_
        refine j_imul eX10_addCoefficient_42 ?_
        refine j_aload_n eX10_addCoefficient_43 rfl ?_
        refine j_getR flX10_9 ly18 rfl eX10_addCoefficient_44 ?_
        refine j_iload_n eX10_addCoefficient_47 rfl ?_
        refine j_iald ly19 (by omega) eX10_addCoefficient_48 ?_
        refine j_iadd eX10_addCoefficient_49 ?_
        refine j_iload_n eX10_addCoefficient_50 rfl ?_
        refine j_iast ly20 (by omega) eX10_addCoefficient_51 ?_
        refine j_aload_n eX10_addCoefficient_52 rfl ?_
        refine j_getR flX10_9 ly18 rfl eX10_addCoefficient_53 ?_
        refine j_iload_n eX10_addCoefficient_56 rfl ?_
        refine j_dup2 rfl rfl eX10_addCoefficient_57 ?_
        refine j_iald ly19 (by omega) eX10_addCoefficient_58 ?_
        refine j_iconst 1 eX10_addCoefficient_59 ?_
        refine j_iadd eX10_addCoefficient_60 ?_
        refine j_iast ly19 (by omega) eX10_addCoefficient_61 ?_
        refine r_vret rfl eX10_addCoefficient_62 ?_
        first | exact rfl | (exfalso; omega)
  · refine j_ifeq_0 eX10_addCoefficient_12 ?_
    refine r_vret rfl eX10_addCoefficient_62 ?_
    first | exact rfl | (exfalso; omega)
theorem c_X11_signOf {g : Gl} {σ : Sg} {a : Int} (h : -9223372036854775808 ≤ a ∧ a ≤ 9223372036854775807) : Ct g mX11_signOf [vl a] σ (PE (sgn a) σ) := by
  refine Ct.of (by decide +kernel) (Nat.le_of_ble_eq_true rfl) ?_
  show jv g _ _ σ [(0, vl a)] 0 []
  refine j_lload_n eX11_signOf_0 rfl ?_
  refine j_lconst0 eX11_signOf_1 ?_
  refine j_lc_ne eX11_signOf_2 eX11_signOf_3 (by omega) (fun h2 => ?_) (fun h2 => ?_)
  · refine j_lload_n eX11_signOf_8 rfl ?_
    refine j_lconst0 eX11_signOf_9 ?_
    refine j_lc_le eX11_signOf_10 eX11_signOf_11 (by omega) (fun h10 => ?_) (fun h10 => ?_)
    · refine j_iconst (-1) eX11_signOf_18 ?_
      refine r_iret rfl eX11_signOf_19 ?_
      unfold sgn
      first | exact ⟨(if_pos (by omega)).symm, rfl⟩ | exact ⟨by rw [if_neg (by omega), if_pos (by omega)], rfl⟩ | exact ⟨by rw [if_neg (by omega), if_neg (by omega)], rfl⟩
    · refine j_iconst 1 eX11_signOf_14 ?_
      refine j_goto eX11_signOf_15 ?_
      refine r_iret rfl eX11_signOf_19 ?_
      unfold sgn
      first | exact ⟨(if_pos (by omega)).symm, rfl⟩ | exact ⟨by rw [if_neg (by omega), if_pos (by omega)], rfl⟩ | exact ⟨by rw [if_neg (by omega), if_neg (by omega)], rfl⟩
  · refine j_iconst 0 eX11_signOf_6 ?_
    refine r_iret rfl eX11_signOf_7 ?_
    unfold sgn
    first | exact ⟨(if_pos (by omega)).symm, rfl⟩ | exact ⟨by rw [if_neg (by omega), if_pos (by omega)], rfl⟩ | exact ⟨by rw [if_neg (by omega), if_neg (by omega)], rfl⟩
theorem l_X11_partsOf {g : Gl} {σ : Sg} {a : Int} (h : 1 ≤ a ∧ a ≤ 127) : ∀ (t : Nat) (m s : Int), 1 ≤ m → m ≤ 127 → m < 2 ^ t → 0 ≤ s → s ≤ 64 → jv g mX11_partsOf (Fm g (PE (hv t m s) σ)) σ [(0, vi a), (1, vi s), (2, vi m)] 5 [] := by
  intro t
  induction t with
  | zero =>
    intro m s h1 h2 h3
    exfalso
    have h4 : (2 : Int) ^ 0 = 1 := rfl
    omega
  | succ t ih =>
    intro m s h1 h2 h3 h4 h5
    have e1 : (2 : Int) ^ (t + 1) = 2 ^ t * 2 := Int.pow_succ 2 t
    refine j_iload_n eX11_partsOf_5 rfl ?_
    refine j_iconst 1 eX11_partsOf_6 ?_
    refine j_icmp_le eX11_partsOf_7 (by omega) (fun h7 => ?_) (fun h7 => ?_)
    · refine j_iload_n eX11_partsOf_21 rfl ?_
      refine r_iret rfl eX11_partsOf_22 ?_
      have e2 : hv (t + 1) m s = s := if_pos (by omega)
      exact ⟨e2.symm, rfl⟩
    · refine j_iload_n eX11_partsOf_10 rfl ?_
      refine j_iconst 2 eX11_partsOf_11 ?_
      refine j_idiv (by omega) eX11_partsOf_12 ?_
      refine j_istore_n eX11_partsOf_13 (Nat.le_of_ble_eq_true rfl) ?_
      refine j_iload_n eX11_partsOf_14 rfl ?_
      refine j_iconst 2 eX11_partsOf_15 ?_
      refine j_idiv (by omega) eX11_partsOf_16 ?_
      refine j_istore_n eX11_partsOf_17 (Nat.le_of_ble_eq_true rfl) ?_
      refine j_goto eX11_partsOf_18 ?_
      have d1 : Int.tdiv m 2 = m / 2 := Int.tdiv_eq_ediv_of_nonneg (by omega)
      have d2 : Int.tdiv s 2 = s / 2 := Int.tdiv_eq_ediv_of_nonneg (by omega)
      have e2 : hv (t + 1) m s = hv t (Int.tdiv m 2) (Int.tdiv s 2) := if_neg (by omega)
      rw [e2]
      refine jv_lv ?_ (ih (Int.tdiv m 2) (Int.tdiv s 2) (by omega) (by omega) (by omega) (by omega) (by omega))
      exact lvC rfl (lvC rfl (lvC rfl lv0))
theorem c_X11_partsOf {g : Gl} {σ : Sg} {a : Int} (h : 1 ≤ a ∧ a ≤ 127) : Ct g mX11_partsOf [vi a] σ (PE (pz a) σ) := by
  refine Ct.of (by decide +kernel) (Nat.le_of_ble_eq_true rfl) ?_
  show jv g _ _ σ [(0, vi a)] 0 []
  refine j_bipush 64 eX11_partsOf_0 (by decide) ?_
  refine j_istore_n eX11_partsOf_2 (Nat.le_of_ble_eq_true rfl) ?_
  refine j_iload_n eX11_partsOf_3 rfl ?_
  refine j_istore_n eX11_partsOf_4 (Nat.le_of_ble_eq_true rfl) ?_
  refine jv_lv ?_ (l_X11_partsOf h 7 a 64 (by omega) (by omega) (by omega) (by omega) (by omega))
  exact lvC rfl (lvC rfl (lvC rfl lv0))
theorem l_X11_behind {g : Gl} {σ : Sg} {a : Int} (h : 1 ≤ a ∧ a ≤ 127) : ∀ (t : Nat) (m : Int), 0 ≤ m → m ≤ 127 → m < 2 ^ t → jv g mX11_behind (Fm g (PE (bh t m) σ)) σ [(0, vi a), (1, vi m)] 2 [] := by
  intro t
  induction t with
  | zero =>
    intro m h1 h2 h3
    have h4 : (2 : Int) ^ 0 = 1 := rfl
    have h5 : m = 0 := by omega
    subst h5
    refine j_iload_n eX11_behind_2 rfl ?_
    refine j_if_le eX11_behind_3 (by omega) (fun h => ?_) (fun h => absurd (by omega) h)
    refine j_iload_n eX11_behind_20 rfl ?_
    refine j_if_le eX11_behind_21 (by omega) (fun h => ?_) (fun h => absurd (by omega) h)
    refine j_iconst 0 eX11_behind_30 ?_
    exact r_iret rfl eX11_behind_31 ⟨rfl, rfl⟩
  | succ t ih =>
    intro m h1 h2 h3
    have e1 : (2 : Int) ^ (t + 1) = 2 ^ t * 2 := Int.pow_succ 2 t
    refine j_iload_n eX11_behind_2 rfl ?_
    refine j_if_le eX11_behind_3 (by omega) (fun h3 => ?_) (fun h3 => ?_)
    · refine j_iload_n eX11_behind_20 rfl ?_
      refine j_if_le eX11_behind_21 (by omega) (fun h21 => ?_) (fun h21 => ?_)
      · refine j_iconst 0 eX11_behind_30 ?_
        refine r_iret rfl eX11_behind_31 ?_
        first | (exfalso; omega) | exact ⟨(show bh (t + 1) m = 0 from if_pos (by omega)).symm, rfl⟩ | exact ⟨(show bh (t + 1) m = m + 1 from (if_neg (by omega)).trans (if_neg (by omega))).symm, rfl⟩
      · refine j_iload_n eX11_behind_24 rfl ?_
        refine j_iconst 1 eX11_behind_25 ?_
        refine j_iadd eX11_behind_26 ?_
        refine j_goto eX11_behind_27 ?_
        refine r_iret rfl eX11_behind_31 ?_
        first | (exfalso; omega) | exact ⟨(show bh (t + 1) m = 0 from if_pos (by omega)).symm, rfl⟩ | exact ⟨(show bh (t + 1) m = m + 1 from (if_neg (by omega)).trans (if_neg (by omega))).symm, rfl⟩
    · refine j_iload_n eX11_behind_6 rfl ?_
      refine j_iconst 2 eX11_behind_7 ?_
      refine j_irem (by omega) eX11_behind_8 ?_
      refine j_iconst 1 eX11_behind_9 ?_
      have d0 : Int.tmod m 2 = m % 2 := Int.tmod_eq_emod_of_nonneg (by omega)
      refine j_icmp_ne eX11_behind_10 (by omega) (fun h10 => ?_) (fun h10 => ?_)
      · refine j_iload_n eX11_behind_20 rfl ?_
        refine j_if_le eX11_behind_21 (by omega) (fun h21 => ?_) (fun h21 => ?_)
        · refine j_iconst 0 eX11_behind_30 ?_
          refine r_iret rfl eX11_behind_31 ?_
          first | (exfalso; omega) | exact ⟨(show bh (t + 1) m = 0 from if_pos (by omega)).symm, rfl⟩ | exact ⟨(show bh (t + 1) m = m + 1 from (if_neg (by omega)).trans (if_neg (by omega))).symm, rfl⟩
        · refine j_iload_n eX11_behind_24 rfl ?_
          refine j_iconst 1 eX11_behind_25 ?_
          refine j_iadd eX11_behind_26 ?_
          refine j_goto eX11_behind_27 ?_
          refine r_iret rfl eX11_behind_31 ?_
          first | (exfalso; omega) | exact ⟨(show bh (t + 1) m = 0 from if_pos (by omega)).symm, rfl⟩ | exact ⟨(show bh (t + 1) m = m + 1 from (if_neg (by omega)).trans (if_neg (by omega))).symm, rfl⟩
      · refine j_iload_n eX11_behind_13 rfl ?_
        refine j_iconst 2 eX11_behind_14 ?_
        refine j_idiv (by omega) eX11_behind_15 ?_
        refine j_istore_n eX11_behind_16 (Nat.le_of_ble_eq_true rfl) ?_
        refine j_goto eX11_behind_17 ?_
        have d1 : Int.tdiv m 2 = m / 2 := Int.tdiv_eq_ediv_of_nonneg (by omega)
        have e2 : bh (t + 1) m = bh t (Int.tdiv m 2) := (if_neg (by omega)).trans (if_pos (by omega))
        rw [e2]
        refine jv_lv ?_ (ih (Int.tdiv m 2) (by omega) (by omega) (by omega))
        exact lvC rfl (lvC rfl lv0)
theorem c_X11_behind {g : Gl} {σ : Sg} {a : Int} (h : 1 ≤ a ∧ a ≤ 127) : Ct g mX11_behind [vi a] σ (PE (bhd a) σ) := by
  refine Ct.of (by decide +kernel) (Nat.le_of_ble_eq_true rfl) ?_
  show jv g _ _ σ [(0, vi a)] 0 []
  refine j_iload_n eX11_behind_0 rfl ?_
  refine j_istore_n eX11_behind_1 (Nat.le_of_ble_eq_true rfl) ?_
  refine jv_lv ?_ (l_X11_behind h 8 a (by omega) (by omega) (by omega))
  exact lvC rfl (lvC rfl lv0)
theorem l_X11_commonDivisor {g : Gl} {σ : Sg} {a b : Int} (h : 0 ≤ a ∧ a ≤ 9223372036854775807 ∧ 0 ≤ b ∧ b < 281474976710656) : ∀ (t : Nat) (x z : Int), t ≤ 99 → x ≤ 9223372036854775807 → 0 ≤ z → z ≤ x → x * z < 2 ^ t → Int.gcd x z = Int.gcd a b → jv g mX11_commonDivisor (Fm g (PEL (Int.gcd a b : Int) σ)) σ [(0, vl a), (2, vl b), (4, vl x), (6, vl z), (8, vi (100 - (t : Int)))] 9 [] := by
  intro t
  induction t with
  | zero =>
    intro x z h1 h2 h3 h4 h5 h6
    have hz : z = 0 := eu_zero h3 h4 h5
    subst hz
    refine j_iload eX11_commonDivisor_9 rfl ?_
    refine j_bipush 100 eX11_commonDivisor_11 (by decide) ?_
    refine j_icmp_ge eX11_commonDivisor_13 (by omega) (fun h => ?_) (fun h => absurd (by omega) h)
    refine j_lload eX11_commonDivisor_44 rfl ?_
    refine r_lret rfl eX11_commonDivisor_46 ?_
    exact ⟨by rw [← h6, Int.gcd_zero_right]; omega, rfl⟩
  | succ t ih =>
    intro x z h1 h2 h3 h4 h5 h6
    refine j_iload eX11_commonDivisor_9 rfl ?_
    refine j_bipush 100 eX11_commonDivisor_11 (by decide) ?_
    refine j_icmp_ge eX11_commonDivisor_13 (by omega) (fun h13 => absurd h13 (by omega)) (fun h13 => ?_)
    refine j_lload eX11_commonDivisor_16 rfl ?_
    refine j_lconst0 eX11_commonDivisor_18 ?_
    refine j_lc_eq eX11_commonDivisor_19 eX11_commonDivisor_20 (by omega) (fun h19 => ?_) (fun h19 => ?_)
    · refine j_lload eX11_commonDivisor_44 rfl ?_
      refine r_lret rfl eX11_commonDivisor_46 ?_
      first | (subst h19; exact ⟨by rw [← h6, Int.gcd_zero_right]; omega, rfl⟩) | (subst h19; exact ⟨by rw [Int.gcd_zero_right]; omega, rfl⟩)
    · refine j_lload eX11_commonDivisor_23 rfl ?_
      refine j_lload eX11_commonDivisor_25 rfl ?_
      refine j_lrem (by omega) eX11_commonDivisor_27 ?_
      refine j_lstore eX11_commonDivisor_28 (Nat.le_of_ble_eq_true rfl) ?_
      refine j_lload eX11_commonDivisor_30 rfl ?_
      refine j_lstore eX11_commonDivisor_32 (Nat.le_of_ble_eq_true rfl) ?_
      refine j_lload eX11_commonDivisor_34 rfl ?_
      refine j_lstore eX11_commonDivisor_36 (Nat.le_of_ble_eq_true rfl) ?_
      refine j_iinc eX11_commonDivisor_38 rfl (Nat.le_of_ble_eq_true rfl) ?_
      refine j_goto eX11_commonDivisor_41 ?_
      have r := tmod_le_half (a := x) (b := z) (by omega) (by omega)
      have e1 : 100 - ((t + 1 : Nat) : Int) + 1 = 100 - (t : Int) := by omega
      rw [e1]
      refine jv_lv ?_ (ih z (Int.tmod x z) (by omega) (by omega) (by omega) (by omega) (eu_step (by omega) (by omega) h5) ((gcd_step (by omega) (by omega)).trans h6))
      exact lvC rfl (lvC rfl (lvC rfl (lvC rfl (lvC rfl lv0))))
theorem c_X11_commonDivisor {g : Gl} {σ : Sg} {a b : Int} (h : 0 ≤ a ∧ a ≤ 9223372036854775807 ∧ 0 ≤ b ∧ b < 281474976710656) : Ct g mX11_commonDivisor [vl a, vl b] σ (PEL (Int.gcd a b : Int) σ) := by
  refine Ct.of (by decide +kernel) (Nat.le_of_ble_eq_true rfl) ?_
  show jv g _ _ σ [(0, vl a), (2, vl b)] 0 []
  refine j_lload_n eX11_commonDivisor_0 rfl ?_
  refine j_lstore eX11_commonDivisor_1 (Nat.le_of_ble_eq_true rfl) ?_
  refine j_lload_n eX11_commonDivisor_3 rfl ?_
  refine j_lstore eX11_commonDivisor_4 (Nat.le_of_ble_eq_true rfl) ?_
  refine j_iconst 0 eX11_commonDivisor_6 ?_
  refine j_istore eX11_commonDivisor_7 (Nat.le_of_ble_eq_true rfl) ?_
  refine j_iload eX11_commonDivisor_9 rfl ?_
  refine j_bipush 100 eX11_commonDivisor_11 (by decide) ?_
  refine j_icmp_ge eX11_commonDivisor_13 (by omega) (fun h13 => absurd h13 (by omega)) (fun h13 => ?_)
  refine j_lload eX11_commonDivisor_16 rfl ?_
  refine j_lconst0 eX11_commonDivisor_18 ?_
  refine j_lc_eq eX11_commonDivisor_19 eX11_commonDivisor_20 (by omega) (fun h19 => ?_) (fun h19 => ?_)
  · refine j_lload eX11_commonDivisor_44 rfl ?_
    refine r_lret rfl eX11_commonDivisor_46 ?_
    first | (subst h19; exact ⟨by rw [← h6, Int.gcd_zero_right]; omega, rfl⟩) | (subst h19; exact ⟨by rw [Int.gcd_zero_right]; omega, rfl⟩)
  · refine j_lload eX11_commonDivisor_23 rfl ?_
    refine j_lload eX11_commonDivisor_25 rfl ?_
    refine j_lrem (by omega) eX11_commonDivisor_27 ?_
    refine j_lstore eX11_commonDivisor_28 (Nat.le_of_ble_eq_true rfl) ?_
    refine j_lload eX11_commonDivisor_30 rfl ?_
    refine j_lstore eX11_commonDivisor_32 (Nat.le_of_ble_eq_true rfl) ?_
    refine j_lload eX11_commonDivisor_34 rfl ?_
    refine j_lstore eX11_commonDivisor_36 (Nat.le_of_ble_eq_true rfl) ?_
    refine j_iinc eX11_commonDivisor_38 rfl (Nat.le_of_ble_eq_true rfl) ?_
    refine j_goto eX11_commonDivisor_41 ?_
    have r := tmod_le_half (a := a) (b := b) (by omega) (by omega)
    refine jv_lv ?_ (l_X11_commonDivisor h 99 b (Int.tmod a b) (by omega) (by omega) (by omega) (by omega) (eu_first (by omega) (by omega) (by omega)) (gcd_step (by omega) (by omega)))
    exact lvC rfl (lvC rfl (lvC rfl (lvC rfl (lvC rfl lv0))))
theorem c_X11_part {g : Gl} {σ : Sg} {u l w : Int} (h : -9223372036854775807 ≤ u ∧ u ≤ 9223372036854775807 ∧ 0 < l ∧ l < 281474976710656) (hw : -2147483648 ≤ w ∧ w ≤ 2147483647) : Ct g mX11_part [vl u, vl l, vi w] σ (PEL (Int.tdiv (if w = 0 then u else l) (Int.gcd u l)) σ) := by
  refine Ct.of (by decide +kernel) (Nat.le_of_ble_eq_true rfl) ?_
  show jv g _ _ σ [(0, vl u), (2, vl l), (4, vi w)] 0 []
  refine j_lload_n eX11_part_0 rfl ?_
  refine j_absL (by omega) lkX11_306 (Nat.le_of_ble_eq_true rfl) (Nat.le_of_ble_eq_true rfl) eX11_part_1 ?_
  have ea : (if 0 < u then u else -u) = (u.natAbs : Int) := by split <;> omega
  rw [ea]
  refine j_lload_n eX11_part_4 rfl ?_
  refine j_cS2 zX11_commonDivisor lkX11_312 ⟨Nat.le_of_ble_eq_true rfl, Nat.le_of_ble_eq_true rfl⟩ (c_X11_commonDivisor (by omega)) (Nat.le_of_ble_eq_true rfl) eX11_part_5 (k_EL ?_)
  have eg : Int.gcd (u.natAbs : Int) l = Int.gcd u l := by simp [Int.gcd]
  rw [eg]
  have gp : 0 < Int.gcd u l := Int.gcd_pos_of_ne_zero_right u (by omega)
  have gl : (Int.gcd u l : Int) ≤ l := Int.le_of_dvd (by omega) (Int.gcd_dvd_right u l)
  refine j_lstore eX11_part_8 (Nat.le_of_ble_eq_true rfl) ?_
  refine j_lload eX11_part_10 rfl ?_
  refine j_lconst1 eX11_part_12 ?_
  refine j_lc_ge eX11_part_13 eX11_part_14 (by omega) (fun h13 => ?_) (fun h13 => ?_)
  · refine j_iload eX11_part_21 rfl ?_
    refine j_if_ne eX11_part_23 (by omega) (fun h23 => ?_) (fun h23 => ?_)
    · refine j_lload_n eX11_part_30 rfl ?_
      refine j_lload eX11_part_31 rfl ?_
      refine j_ldiv (by omega) eX11_part_33 ?_
      refine r_lret rfl eX11_part_34 ?_
      first | exact ⟨by rw [if_pos (by omega)], rfl⟩ | exact ⟨by rw [if_neg (by omega)], rfl⟩
    · refine j_lload_n eX11_part_26 rfl ?_
      refine j_goto eX11_part_27 ?_
      refine j_lload eX11_part_31 rfl ?_
      refine j_ldiv (by omega) eX11_part_33 ?_
      refine r_lret rfl eX11_part_34 ?_
      first | exact ⟨by rw [if_pos (by omega)], rfl⟩ | exact ⟨by rw [if_neg (by omega)], rfl⟩
  · refine j_ldc2 (-4611686018427387904) cnX11_153 eX11_part_17 ?_
    refine r_lret rfl eX11_part_20 ?_
    exfalso
    omega
theorem c_X7_low {g : Gl} {σ : Sg} {a : Int} (nd : 1 ≤ a ∧ a ≤ 127) (tb : 0 ≤ σ 27 2 ∧ σ 27 2 < σ 0 1) (hB : 0 ≤ σ 0 1 ∧ σ 0 1 ≤ 3) : Ct g mX7_low [vr g 27, vi a] σ (PE (σ 4 (σ 27 2) * 64 + (σ 5 (σ 27 2) - σ 4 (σ 27 2)) * (a * pz a - 64)) σ) := by
  refine Ct.of (by decide +kernel) (Nat.le_of_ble_eq_true rfl) ?_
  show jv g _ _ σ [(0, vr g 27), (1, vi a)] 0 []
  refine j_aload_n eX7_low_0 rfl ?_
  refine j_getR flX7_9 ly27 rfl eX7_low_1 ?_
  refine j_aload_n eX7_low_4 rfl ?_
  refine j_getI flX7_19 ly27 rfl eX7_low_5 ?_
  refine j_iload_n eX7_low_8 rfl ?_
  refine j_iload_n eX7_low_9 rfl ?_
  refine j_cSN1 zX11_partsOf lkX7_34 ⟨Nat.le_of_ble_eq_true rfl, Nat.le_of_ble_eq_true rfl⟩ (c_X11_partsOf (by omega)) (Nat.le_of_ble_eq_true rfl) eX7_low_10 (k_E ?_)
  refine j_imul eX7_low_13 ?_
  refine j_bipush 64 eX7_low_14 (by decide) ?_
  refine j_isub eX7_low_16 ?_
  refine j_cV2 zX10_placeBehind lkX7_38 ⟨Nat.le_of_ble_eq_true rfl, Nat.le_of_ble_eq_true rfl⟩ ly0 rfl rfl (c_X10_placeBehind_0 (by omega) (by omega)) (Nat.le_of_ble_eq_true rfl) eX7_low_17 (k_E ?_)
  refine r_iret rfl eX7_low_20 ?_
  first | exact ⟨rfl, rfl⟩ | (exfalso; omega)
theorem c_X7_high {g : Gl} {σ : Sg} {a : Int} (nd : 1 ≤ a ∧ a ≤ 127) (tb : 0 ≤ σ 27 2 ∧ σ 27 2 < σ 0 1) (hB : 0 ≤ σ 0 1 ∧ σ 0 1 ≤ 3) : Ct g mX7_high [vr g 27, vi a] σ (PE (σ 4 (σ 27 2) * 64 + (σ 5 (σ 27 2) - σ 4 (σ 27 2)) * ((a + 1) * pz a - 64)) σ) := by
  refine Ct.of (by decide +kernel) (Nat.le_of_ble_eq_true rfl) ?_
  show jv g _ _ σ [(0, vr g 27), (1, vi a)] 0 []
  refine j_aload_n eX7_high_0 rfl ?_
  refine j_getR flX7_9 ly27 rfl eX7_high_1 ?_
  refine j_aload_n eX7_high_4 rfl ?_
  refine j_getI flX7_19 ly27 rfl eX7_high_5 ?_
  refine j_iload_n eX7_high_8 rfl ?_
  refine j_iconst 1 eX7_high_9 ?_
  refine j_iadd eX7_high_10 ?_
  refine j_iload_n eX7_high_11 rfl ?_
  refine j_cSN1 zX11_partsOf lkX7_34 ⟨Nat.le_of_ble_eq_true rfl, Nat.le_of_ble_eq_true rfl⟩ (c_X11_partsOf (by omega)) (Nat.le_of_ble_eq_true rfl) eX7_high_12 (k_E ?_)
  refine j_imul eX7_high_15 ?_
  refine j_bipush 64 eX7_high_16 (by decide) ?_
  refine j_isub eX7_high_18 ?_
  refine j_cV2 zX10_placeBehind lkX7_38 ⟨Nat.le_of_ble_eq_true rfl, Nat.le_of_ble_eq_true rfl⟩ ly0 rfl rfl (c_X10_placeBehind_0 (by omega) (by omega)) (Nat.le_of_ble_eq_true rfl) eX7_high_19 (k_E ?_)
  refine r_iret rfl eX7_high_22 ?_
  first | exact ⟨rfl, rfl⟩ | (exfalso; omega)
