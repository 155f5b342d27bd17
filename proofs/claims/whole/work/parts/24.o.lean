/-! the reference: what it holds -/
def TM (σ : Sg) : Prop := (0 ≤ σ 49 0 ∧ σ 49 0 ≤ 3) ∧ (0 ≤ σ 49 1 ∧ σ 49 1 ≤ 3) ∧ (∀ p, 0 ≤ p → p < σ 49 0 → 0 ≤ σ 49 (2 + p) ∧ σ 49 (2 + p) ≤ 5) ∧ (∀ p k, 0 ≤ p → p < σ 49 0 → 0 ≤ k → k ≤ σ 49 (2 + p) → -50 ≤ σ 49 (5 + 6 * p + k) ∧ σ 49 (5 + 6 * p + k) ≤ 50) ∧ (∀ p, 0 ≤ p → p < σ 49 0 → -1 ≤ σ 49 (29 + p) ∧ σ 49 (29 + p) ≤ 1) ∧ (∀ b, 0 ≤ b → b < σ 49 1 → -5 ≤ σ 49 (23 + b) ∧ σ 49 (23 + b) < σ 49 (26 + b) ∧ σ 49 (26 + b) ≤ 5)
def shf (f : Int → Int) (m : Int) : Int → Int := fun j => if 0 ≤ j ∧ j < m then f (j + 4) else f j
def push4 (τ : Sg) (a b : Int) : Sg := up (up (up (up (up τ 53 (4 * τ 48 5) a) 53 (4 * τ 48 5 + 1) (τ 49 a)) 53 (4 * τ 48 5 + 2) b) 53 (4 * τ 48 5 + 3) (τ 49 b)) 48 5 (τ 48 5 + 1)
def knw (σ : Sg) (a b : Int) : Sg := if σ 48 5 = 10 then push4 (up (setc σ 53 (shf (σ 53) 36)) 48 5 9) a b else push4 σ a b
def popM (σ : Sg) : Sg := up (up (up σ 48 5 (σ 48 5 - 1)) 49 (σ 53 (4 * (σ 48 5 - 1))) (σ 53 (4 * (σ 48 5 - 1) + 1))) 49 (σ 53 (4 * (σ 48 5 - 1) + 2)) (σ 53 (4 * (σ 48 5 - 1) + 3))
theorem shf_0 (f : Int → Int) : shf f 0 = f := by
  funext j
  unfold shf
  rw [if_neg (by omega)]
theorem shf_step {τ : Sg} {f : Int → Int} {m : Int} (h : 0 ≤ m) : up (setc τ 53 (shf f m)) 53 m (shf f m (m + 4)) = setc τ 53 (shf f (m + 1)) := by
  rw [up_setc]
  congr 1
  funext j
  unfold up1 shf
  by_cases h1 : j = m
  · rw [if_pos h1, if_neg (by omega), if_pos (by omega), h1]
  · rw [if_neg h1]
    by_cases h2 : 0 ≤ j ∧ j < m
    · rw [if_pos h2, if_pos (by omega)]
    · rw [if_neg h2, if_neg (by omega)]
theorem knw_fr (σ : Sg) (a b : Int) : ∀ c, c ≠ 48 → c ≠ 53 → knw σ a b c = σ c := by
  intro c h1 h2
  unfold knw push4
  split
  · rw [up_ne h1, up_ne h2, up_ne h2, up_ne h2, up_ne h2, up_ne h1, setc_ne h2]
  · rw [up_ne h1, up_ne h2, up_ne h2, up_ne h2, up_ne h2]
theorem c_X12_in {g : Gl} {σ : Sg} {a b c : Int} (h : -2147483648 ≤ a ∧ a ≤ 2147483647 ∧ -2147483648 ≤ b ∧ b ≤ 2147483647 ∧ -2147483648 ≤ c ∧ c ≤ 2147483647) : Ct g mX12_in [vi a, vi b, vi c] σ (PB (b ≤ a ∧ a ≤ c) σ) := by
  refine Ct.of (by decide +kernel) (Nat.le_of_ble_eq_true rfl) ?_
  show jv g _ _ σ [(0, vi a), (1, vi b), (2, vi c)] 0 []
  refine j_iload_n eX12_in_0 rfl ?_
  refine j_iload_n eX12_in_1 rfl ?_
  refine j_icmp_lt eX12_in_2 (by omega) (fun h2 => ?_) (fun h2 => ?_)
  · refine j_iconst 0 eX12_in_14 ?_
    exact r_zret (by decide) rfl eX12_in_15 (PB_f (by omega))
  · refine j_iload_n eX12_in_5 rfl ?_
    refine j_iload_n eX12_in_6 rfl ?_
    refine j_icmp_gt eX12_in_7 (by omega) (fun h7 => ?_) (fun h7 => ?_)
    · refine j_iconst 0 eX12_in_14 ?_
      exact r_zret (by decide) rfl eX12_in_15 (PB_f (by omega))
    · refine j_iconst 1 eX12_in_10 ?_
      refine j_goto eX12_in_11 ?_
      exact r_zret (by decide) rfl eX12_in_15 (PB_t (by omega))
theorem c_X12_isNode {g : Gl} {σ : Sg} {a : Int} (h : -2147483648 ≤ a ∧ a ≤ 2147483647) : Ct g mX12_isNode [vi a] σ (PB (1 ≤ a ∧ a ≤ 127) σ) := by
  refine Ct.of (by decide +kernel) (Nat.le_of_ble_eq_true rfl) ?_
  show jv g _ _ σ [(0, vi a)] 0 []
  refine j_iload_n eX12_isNode_0 rfl ?_
  refine j_iconst 1 eX12_isNode_1 ?_
  refine j_bipush 127 eX12_isNode_2 (by decide) ?_
  refine j_cS3 zX12_in lkX12_85 ⟨Nat.le_of_ble_eq_true rfl, Nat.le_of_ble_eq_true rfl⟩ (c_X12_in (by omega)) (Nat.le_of_ble_eq_true rfl) eX12_isNode_4 (k_B (fun h4 => ?_) (fun h4 => ?_))
  · exact r_zret (by decide) rfl eX12_isNode_7 (PB_t (by omega))
  · exact r_zret (by decide) rfl eX12_isNode_7 (PB_f (by omega))
theorem c_X12_isPolynomial {g : Gl} {σ : Sg} {p : Int} (h : -2147483648 ≤ p ∧ p ≤ 2147483647) (mP : 0 ≤ σ 49 0 ∧ σ 49 0 ≤ 3) : Ct g mX12_isPolynomial [vr g 48, vi p] σ (PB (0 ≤ p ∧ p < σ 49 0) σ) := by
  refine Ct.of (by decide +kernel) (Nat.le_of_ble_eq_true rfl) ?_
  show jv g _ _ σ [(0, vr g 48), (1, vi p)] 0 []
  refine j_iload_n eX12_isPolynomial_0 rfl ?_
  refine j_iconst 0 eX12_isPolynomial_1 ?_
  refine j_aload_n eX12_isPolynomial_2 rfl ?_
  refine j_getR flX12_7 ly48 rfl eX12_isPolynomial_3 ?_
  refine j_iconst 0 eX12_isPolynomial_6 ?_
  refine j_iald ly49 (by omega) eX12_isPolynomial_7 ?_
  refine j_iconst 1 eX12_isPolynomial_8 ?_
  refine j_isub eX12_isPolynomial_9 ?_
  refine j_cS3 zX12_in lkX12_85 ⟨Nat.le_of_ble_eq_true rfl, Nat.le_of_ble_eq_true rfl⟩ (c_X12_in (by omega)) (Nat.le_of_ble_eq_true rfl) eX12_isPolynomial_10 (k_B (fun h10 => ?_) (fun h10 => ?_))
  · exact r_zret (by decide) rfl eX12_isPolynomial_13 (PB_t (by omega))
  · exact r_zret (by decide) rfl eX12_isPolynomial_13 (PB_f (by omega))
theorem c_X12_isBox {g : Gl} {σ : Sg} {b : Int} (h : -2147483648 ≤ b ∧ b ≤ 2147483647) (mB : 0 ≤ σ 49 1 ∧ σ 49 1 ≤ 3) : Ct g mX12_isBox [vr g 48, vi b] σ (PB (0 ≤ b ∧ b < σ 49 1) σ) := by
  refine Ct.of (by decide +kernel) (Nat.le_of_ble_eq_true rfl) ?_
  show jv g _ _ σ [(0, vr g 48), (1, vi b)] 0 []
  refine j_iload_n eX12_isBox_0 rfl ?_
  refine j_iconst 0 eX12_isBox_1 ?_
  refine j_aload_n eX12_isBox_2 rfl ?_
  refine j_getR flX12_7 ly48 rfl eX12_isBox_3 ?_
  refine j_iconst 1 eX12_isBox_6 ?_
  refine j_iald ly49 (by omega) eX12_isBox_7 ?_
  refine j_iconst 1 eX12_isBox_8 ?_
  refine j_isub eX12_isBox_9 ?_
  refine j_cS3 zX12_in lkX12_85 ⟨Nat.le_of_ble_eq_true rfl, Nat.le_of_ble_eq_true rfl⟩ (c_X12_in (by omega)) (Nat.le_of_ble_eq_true rfl) eX12_isBox_10 (k_B (fun h10 => ?_) (fun h10 => ?_))
  · exact r_zret (by decide) rfl eX12_isBox_13 (PB_t (by omega))
  · exact r_zret (by decide) rfl eX12_isBox_13 (PB_f (by omega))
theorem c_X12_isTaken {g : Gl} {σ : Sg} (hM : TM σ) (hk : (0 ≤ σ 48 6 ∧ σ 48 6 ≤ 2) ∧ 0 ≤ σ 48 7 ∧ σ 48 7 ≤ 2) : Ct g mX12_isTaken [vr g 48] σ (PB ((0 ≤ σ 48 6 ∧ σ 48 6 < σ 49 0) ∧ 0 ≤ σ 48 7 ∧ σ 48 7 < σ 49 1) σ) := by
  refine Ct.of (by decide +kernel) (Nat.le_of_ble_eq_true rfl) ?_
  show jv g _ _ σ [(0, vr g 48)] 0 []
  have mP := hM.1
  have mB := hM.2.1
  have mS := hM.2.2.1
  refine j_aload_n eX12_isTaken_0 rfl ?_
  refine j_aload_n eX12_isTaken_1 rfl ?_
  refine j_getI flX12_79 ly48 rfl eX12_isTaken_2 ?_
  refine j_cV1 zX12_isPolynomial lkX12_123 ⟨Nat.le_of_ble_eq_true rfl, Nat.le_of_ble_eq_true rfl⟩ ly48 rfl rfl (c_X12_isPolynomial (by omega) (by omega)) (Nat.le_of_ble_eq_true rfl) eX12_isTaken_5 (k_B (fun h5 => ?_) (fun h5 => ?_))
  · refine j_ifeq_1 eX12_isTaken_8 ?_
    refine j_aload_n eX12_isTaken_11 rfl ?_
    refine j_aload_n eX12_isTaken_12 rfl ?_
    refine j_getI flX12_82 ly48 rfl eX12_isTaken_13 ?_
    refine j_cV1 zX12_isBox lkX12_126 ⟨Nat.le_of_ble_eq_true rfl, Nat.le_of_ble_eq_true rfl⟩ ly48 rfl rfl (c_X12_isBox (by omega) (by omega)) (Nat.le_of_ble_eq_true rfl) eX12_isTaken_16 (k_B (fun h16 => ?_) (fun h16 => ?_))
    · refine j_ifeq_1 eX12_isTaken_19 ?_
      refine j_iconst 1 eX12_isTaken_22 ?_
      refine j_goto eX12_isTaken_23 ?_
      exact r_zret (by decide) rfl eX12_isTaken_27 (PB_t (by omega))
    · refine j_ifeq_0 eX12_isTaken_19 ?_
      refine j_iconst 0 eX12_isTaken_26 ?_
      exact r_zret (by decide) rfl eX12_isTaken_27 (PB_f (by omega))
  · refine j_ifeq_0 eX12_isTaken_8 ?_
    refine j_iconst 0 eX12_isTaken_26 ?_
    exact r_zret (by decide) rfl eX12_isTaken_27 (PB_f (by omega))
theorem c_X12_isCoefficient {g : Gl} {σ : Sg} {p k : Int} (h : -2147483648 ≤ p ∧ p ≤ 2147483647 ∧ -2147483648 ≤ k ∧ k ≤ 2147483647) (hM : TM σ) : Ct g mX12_isCoefficient [vr g 48, vi p, vi k] σ (PB (0 ≤ p ∧ p < σ 49 0 ∧ 0 ≤ k ∧ k ≤ σ 49 (2 + p)) σ) := by
  refine Ct.of (by decide +kernel) (Nat.le_of_ble_eq_true rfl) ?_
  show jv g _ _ σ [(0, vr g 48), (1, vi p), (2, vi k)] 0 []
  have mP := hM.1
  have mB := hM.2.1
  have mS := hM.2.2.1
  refine j_aload_n eX12_isCoefficient_0 rfl ?_
  refine j_iload_n eX12_isCoefficient_1 rfl ?_
  refine j_cV1 zX12_isPolynomial lkX12_123 ⟨Nat.le_of_ble_eq_true rfl, Nat.le_of_ble_eq_true rfl⟩ ly48 rfl rfl (c_X12_isPolynomial (by omega) (by omega)) (Nat.le_of_ble_eq_true rfl) eX12_isCoefficient_2 (k_B (fun h2 => ?_) (fun h2 => ?_))
  · refine j_ifeq_1 eX12_isCoefficient_5 ?_
    refine j_iload_n eX12_isCoefficient_8 rfl ?_
    refine j_iconst 0 eX12_isCoefficient_9 ?_
    refine j_aload_n eX12_isCoefficient_10 rfl ?_
    refine j_getR flX12_7 ly48 rfl eX12_isCoefficient_11 ?_
    refine j_iconst 2 eX12_isCoefficient_14 ?_
    refine j_iload_n eX12_isCoefficient_15 rfl ?_
    refine j_iadd eX12_isCoefficient_16 ?_
    refine j_iald ly49 (by omega) eX12_isCoefficient_17 ?_
    have q := mS p (by omega) (by omega)
    refine j_cS3 zX12_in lkX12_85 ⟨Nat.le_of_ble_eq_true rfl, Nat.le_of_ble_eq_true rfl⟩ (c_X12_in (by omega)) (Nat.le_of_ble_eq_true rfl) eX12_isCoefficient_18 (k_B (fun h18 => ?_) (fun h18 => ?_))
    · refine j_ifeq_1 eX12_isCoefficient_21 ?_
      refine j_iconst 1 eX12_isCoefficient_24 ?_
      refine j_goto eX12_isCoefficient_25 ?_
      exact r_zret (by decide) rfl eX12_isCoefficient_29 (PB_t (by omega))
    · refine j_ifeq_0 eX12_isCoefficient_21 ?_
      refine j_iconst 0 eX12_isCoefficient_28 ?_
      exact r_zret (by decide) rfl eX12_isCoefficient_29 (PB_f (by omega))
  · refine j_ifeq_0 eX12_isCoefficient_5 ?_
    refine j_iconst 0 eX12_isCoefficient_28 ?_
    exact r_zret (by decide) rfl eX12_isCoefficient_29 (PB_f (by omega))
theorem c_X12_type {g : Gl} {σ : Sg} {a : Int} (ha : -2147483648 ≤ a ∧ a ≤ 2147483647) (hT : 0 ≤ σ 48 12 ∧ σ 48 12 ≤ 120) : Ct g mX12_type [vr g 48, vi a] σ (PI (fun v σ' => (¬ (0 ≤ a ∧ a ≤ 255) ∧ v = -1 ∧ σ' = σ) ∨ (((0 ≤ a ∧ a ≤ 255) ∧ 120 ≤ σ 48 12) ∧ v = -3 ∧ σ' = σ) ∨ (((0 ≤ a ∧ a ≤ 255) ∧ σ 48 12 < 120) ∧ v = σ 48 12 + 1 ∧ σ' = up (up σ 56 (σ 48 12) a) 48 12 (σ 48 12 + 1)))) := by
  refine Ct.of (by decide +kernel) (Nat.le_of_ble_eq_true rfl) ?_
  show jv g _ _ σ [(0, vr g 48), (1, vi a)] 0 []
  refine j_iload_n eX12_type_0 rfl ?_
  refine j_iconst 0 eX12_type_1 ?_
  refine j_sipush 255 eX12_type_2 (by decide) ?_
  refine j_cS3 zX12_in lkX12_85 ⟨Nat.le_of_ble_eq_true rfl, Nat.le_of_ble_eq_true rfl⟩ (c_X12_in (by omega)) (Nat.le_of_ble_eq_true rfl) eX12_type_5 (k_B (fun h5 => ?_) (fun h5 => ?_))
  · refine j_ifne_1 eX12_type_8 ?_
    refine j_aload_n eX12_type_13 rfl ?_
    refine j_getI flX12_89 ly48 rfl eX12_type_14 ?_
    refine j_bipush 120 eX12_type_17 (by decide) ?_
    refine j_icmp_ne eX12_type_19 (by omega) (fun h19 => ?_) (fun h19 => ?_)
    · refine j_aload_n eX12_type_25 rfl ?_
      refine j_getR flX12_32 ly48 rfl eX12_type_26 ?_
      refine j_aload_n eX12_type_29 rfl ?_
      refine j_getI flX12_89 ly48 rfl eX12_type_30 ?_
      refine j_iload_n eX12_type_33 rfl ?_
      refine j_iast ly56 (by omega) eX12_type_34 ?_
      refine j_aload_n eX12_type_35 rfl ?_
      refine j_dup rfl eX12_type_36 ?_
      refine j_getI flX12_89 ly48 rfl eX12_type_37 ?_
      refine j_iconst 1 eX12_type_40 ?_
      refine j_iadd eX12_type_41 ?_
      refine j_putI fpX12_89 ly48 rfl eX12_type_42 ?_
      refine j_aload_n eX12_type_45 rfl ?_
      refine j_getI flX12_89 ly48 rfl eX12_type_46 ?_
      refine r_iret rfl eX12_type_49 ?_
      first | exact Or.inl ⟨by omega, rfl, rfl⟩ | exact Or.inr (Or.inl ⟨by omega, rfl, rfl⟩) | exact Or.inr (Or.inr (⟨by omega, rfl, rfl⟩))
    · refine j_bipush (-3) eX12_type_22 (by decide) ?_
      refine r_iret rfl eX12_type_24 ?_
      first | exact Or.inl ⟨by omega, rfl, rfl⟩ | exact Or.inr (Or.inl ⟨by omega, rfl, rfl⟩) | exact Or.inr (Or.inr (⟨by omega, rfl, rfl⟩))
  · refine j_ifne_0 eX12_type_8 ?_
    refine j_iconst (-1) eX12_type_11 ?_
    refine r_iret rfl eX12_type_12 ?_
    first | exact Or.inl ⟨by omega, rfl, rfl⟩ | exact Or.inr (Or.inl ⟨by omega, rfl, rfl⟩) | exact Or.inr (Or.inr (⟨by omega, rfl, rfl⟩))
theorem c_X12_clear {g : Gl} {σ : Sg} : Ct g mX12_clear [vr g 48] σ (PI (fun v σ' => v = σ 48 12 ∧ σ' = up σ 48 12 0)) := by
  refine Ct.of (by decide +kernel) (Nat.le_of_ble_eq_true rfl) ?_
  show jv g _ _ σ [(0, vr g 48)] 0 []
  refine j_aload_n eX12_clear_0 rfl ?_
  refine j_getI flX12_89 ly48 rfl eX12_clear_1 ?_
  refine j_istore_n eX12_clear_4 (Nat.le_of_ble_eq_true rfl) ?_
  refine j_aload_n eX12_clear_5 rfl ?_
  refine j_iconst 0 eX12_clear_6 ?_
  refine j_putI fpX12_89 ly48 rfl eX12_clear_7 ?_
  refine j_iload_n eX12_clear_10 rfl ?_
  refine r_iret rfl eX12_clear_11 ?_
  first | exact ⟨rfl, rfl⟩ | (exfalso; omega)
theorem c_X12_takes {g : Gl} {σ : Sg} {p b : Int} (h : -2147483648 ≤ p ∧ p ≤ 2147483647 ∧ -2147483648 ≤ b ∧ b ≤ 2147483647) (hM : TM σ) : Ct g mX12_takes [vr g 48, vi p, vi b] σ (PI (fun v σ' => (((0 ≤ p ∧ p < σ 49 0) ∧ (0 ≤ b ∧ b < σ 49 1)) ∧ v = 1 ∧ σ' = up (up σ 48 6 p) 48 7 b) ∨ (¬ ((0 ≤ p ∧ p < σ 49 0) ∧ (0 ≤ b ∧ b < σ 49 1)) ∧ v = -1 ∧ σ' = σ))) := by
  refine Ct.of (by decide +kernel) (Nat.le_of_ble_eq_true rfl) ?_
  show jv g _ _ σ [(0, vr g 48), (1, vi p), (2, vi b)] 0 []
  have mP := hM.1
  have mB := hM.2.1
  have mS := hM.2.2.1
  refine j_aload_n eX12_takes_0 rfl ?_
  refine j_iload_n eX12_takes_1 rfl ?_
  refine j_cV1 zX12_isPolynomial lkX12_123 ⟨Nat.le_of_ble_eq_true rfl, Nat.le_of_ble_eq_true rfl⟩ ly48 rfl rfl (c_X12_isPolynomial (by omega) (by omega)) (Nat.le_of_ble_eq_true rfl) eX12_takes_2 (k_B (fun h2 => ?_) (fun h2 => ?_))
  · refine j_ifeq_1 eX12_takes_5 ?_
    refine j_aload_n eX12_takes_8 rfl ?_
    refine j_iload_n eX12_takes_9 rfl ?_
    refine j_cV1 zX12_isBox lkX12_126 ⟨Nat.le_of_ble_eq_true rfl, Nat.le_of_ble_eq_true rfl⟩ ly48 rfl rfl (c_X12_isBox (by omega) (by omega)) (Nat.le_of_ble_eq_true rfl) eX12_takes_10 (k_B (fun h10 => ?_) (fun h10 => ?_))
    · refine j_ifne_1 eX12_takes_13 ?_
      refine j_aload_n eX12_takes_18 rfl ?_
      refine j_iload_n eX12_takes_19 rfl ?_
      refine j_putI fpX12_79 ly48 rfl eX12_takes_20 ?_
      refine j_aload_n eX12_takes_23 rfl ?_
      refine j_iload_n eX12_takes_24 rfl ?_
      refine j_putI fpX12_82 ly48 rfl eX12_takes_25 ?_
      refine j_iconst 1 eX12_takes_28 ?_
      refine r_iret rfl eX12_takes_29 ?_
      first | exact Or.inl ⟨by omega, rfl, rfl⟩ | exact Or.inr (⟨by omega, rfl, rfl⟩)
    · refine j_ifne_0 eX12_takes_13 ?_
      refine j_iconst (-1) eX12_takes_16 ?_
      refine r_iret rfl eX12_takes_17 ?_
      first | exact Or.inl ⟨by omega, rfl, rfl⟩ | exact Or.inr (⟨by omega, rfl, rfl⟩)
  · refine j_ifeq_0 eX12_takes_5 ?_
    refine j_iconst (-1) eX12_takes_16 ?_
    refine r_iret rfl eX12_takes_17 ?_
    first | exact Or.inl ⟨by omega, rfl, rfl⟩ | exact Or.inr (⟨by omega, rfl, rfl⟩)
theorem c_X12_coef {g : Gl} {σ : Sg} {p k : Int} (h : -2147483648 ≤ p ∧ p ≤ 2147483647 ∧ -2147483648 ≤ k ∧ k ≤ 2147483647) (hM : TM σ) : Ct g mX12_coef [vr g 48, vi p, vi k] σ (PL (fun v σ' => ((0 ≤ p ∧ p < σ 49 0 ∧ 0 ≤ k ∧ k ≤ σ 49 (2 + p)) ∧ v = σ 49 (5 + 6 * p + k) ∧ σ' = σ) ∨ (¬ (0 ≤ p ∧ p < σ 49 0 ∧ 0 ≤ k ∧ k ≤ σ 49 (2 + p)) ∧ v = -4611686018427387904 ∧ σ' = σ))) := by
  refine Ct.of (by decide +kernel) (Nat.le_of_ble_eq_true rfl) ?_
  show jv g _ _ σ [(0, vr g 48), (1, vi p), (2, vi k)] 0 []
  have mP := hM.1
  have mB := hM.2.1
  have mS := hM.2.2.1
  refine j_aload_n eX12_coef_0 rfl ?_
  refine j_iload_n eX12_coef_1 rfl ?_
  refine j_iload_n eX12_coef_2 rfl ?_
  refine j_cV2 zX12_isCoefficient lkX12_129 ⟨Nat.le_of_ble_eq_true rfl, Nat.le_of_ble_eq_true rfl⟩ ly48 rfl rfl (c_X12_isCoefficient (by omega) (by exact hM)) (Nat.le_of_ble_eq_true rfl) eX12_coef_3 (k_B (fun h3 => ?_) (fun h3 => ?_))
  · refine j_ifeq_1 eX12_coef_6 ?_
    have q := mS p (by omega) (by omega)
    have ck := hM.2.2.2.1 p k (by omega) (by omega) (by omega) (by omega)
    refine j_aload_n eX12_coef_9 rfl ?_
    refine j_getR flX12_7 ly48 rfl eX12_coef_10 ?_
    refine j_iconst 5 eX12_coef_13 ?_
    refine j_bipush 6 eX12_coef_14 (by decide) ?_
    refine j_iload_n eX12_coef_16 rfl ?_
    refine j_imul eX12_coef_17 ?_
    refine j_iadd eX12_coef_18 ?_
    refine j_iload_n eX12_coef_19 rfl ?_
    refine j_iadd eX12_coef_20 ?_
    refine j_iald ly49 (by omega) eX12_coef_21 ?_
    refine j_i2l (by omega) eX12_coef_22 ?_
    refine j_goto eX12_coef_23 ?_
    refine r_lret rfl eX12_coef_29 ?_
    first | exact Or.inl ⟨by omega, rfl, rfl⟩ | exact Or.inr (⟨by omega, rfl, rfl⟩)
  · refine j_ifeq_0 eX12_coef_6 ?_
    refine j_ldc2 (-4611686018427387904) cnX12_132 eX12_coef_26 ?_
    refine r_lret rfl eX12_coef_29 ?_
    first | exact Or.inl ⟨by omega, rfl, rfl⟩ | exact Or.inr (⟨by omega, rfl, rfl⟩)
theorem c_X12_box {g : Gl} {σ : Sg} {b w : Int} (h : -2147483648 ≤ b ∧ b ≤ 2147483647 ∧ -2147483648 ≤ w ∧ w ≤ 2147483647) (hM : TM σ) : Ct g mX12_box [vr g 48, vi b, vi w] σ (PL (fun v σ' => (((0 ≤ b ∧ b < σ 49 1) ∧ w = 0) ∧ v = σ 49 (23 + b) ∧ σ' = σ) ∨ (((0 ≤ b ∧ b < σ 49 1) ∧ w = 1) ∧ v = σ 49 (26 + b) ∧ σ' = σ) ∨ (¬ ((0 ≤ b ∧ b < σ 49 1) ∧ (0 ≤ w ∧ w ≤ 1)) ∧ v = -4611686018427387904 ∧ σ' = σ))) := by
  refine Ct.of (by decide +kernel) (Nat.le_of_ble_eq_true rfl) ?_
  show jv g _ _ σ [(0, vr g 48), (1, vi b), (2, vi w)] 0 []
  have mP := hM.1
  have mB := hM.2.1
  have mS := hM.2.2.1
  refine j_aload_n eX12_box_0 rfl ?_
  refine j_iload_n eX12_box_1 rfl ?_
  refine j_cV1 zX12_isBox lkX12_126 ⟨Nat.le_of_ble_eq_true rfl, Nat.le_of_ble_eq_true rfl⟩ ly48 rfl rfl (c_X12_isBox (by omega) (by omega)) (Nat.le_of_ble_eq_true rfl) eX12_box_2 (k_B (fun h2 => ?_) (fun h2 => ?_))
  · refine j_ifeq_1 eX12_box_5 ?_
    refine j_iload_n eX12_box_8 rfl ?_
    refine j_iconst 0 eX12_box_9 ?_
    refine j_iconst 1 eX12_box_10 ?_
    refine j_cS3 zX12_in lkX12_85 ⟨Nat.le_of_ble_eq_true rfl, Nat.le_of_ble_eq_true rfl⟩ (c_X12_in (by omega)) (Nat.le_of_ble_eq_true rfl) eX12_box_11 (k_B (fun h11 => ?_) (fun h11 => ?_))
    · refine j_ifeq_1 eX12_box_14 ?_
      have cb := hM.2.2.2.2.2 b (by omega) (by omega)
      refine j_aload_n eX12_box_17 rfl ?_
      refine j_getR flX12_7 ly48 rfl eX12_box_18 ?_
      refine j_iload_n eX12_box_21 rfl ?_
      refine j_if_ne eX12_box_22 (by omega) (fun h22 => ?_) (fun h22 => ?_)
      · refine j_bipush 26 eX12_box_30 (by decide) ?_
        refine j_iload_n eX12_box_32 rfl ?_
        refine j_iadd eX12_box_33 ?_
        refine j_iald ly49 (by omega) eX12_box_34 ?_
        refine j_i2l (by omega) eX12_box_35 ?_
        refine j_goto eX12_box_36 ?_
        refine r_lret rfl eX12_box_42 ?_
        first | exact Or.inl ⟨by omega, rfl, rfl⟩ | exact Or.inr (Or.inl ⟨by omega, rfl, rfl⟩) | exact Or.inr (Or.inr (⟨by omega, rfl, rfl⟩))
      · refine j_bipush 23 eX12_box_25 (by decide) ?_
        refine j_goto eX12_box_27 ?_
        refine j_iload_n eX12_box_32 rfl ?_
        refine j_iadd eX12_box_33 ?_
        refine j_iald ly49 (by omega) eX12_box_34 ?_
        refine j_i2l (by omega) eX12_box_35 ?_
        refine j_goto eX12_box_36 ?_
        refine r_lret rfl eX12_box_42 ?_
        first | exact Or.inl ⟨by omega, rfl, rfl⟩ | exact Or.inr (Or.inl ⟨by omega, rfl, rfl⟩) | exact Or.inr (Or.inr (⟨by omega, rfl, rfl⟩))
    · refine j_ifeq_0 eX12_box_14 ?_
      refine j_ldc2 (-4611686018427387904) cnX12_132 eX12_box_39 ?_
      refine r_lret rfl eX12_box_42 ?_
      first | exact Or.inl ⟨by omega, rfl, rfl⟩ | exact Or.inr (Or.inl ⟨by omega, rfl, rfl⟩) | exact Or.inr (Or.inr (⟨by omega, rfl, rfl⟩))
  · refine j_ifeq_0 eX12_box_5 ?_
    refine j_ldc2 (-4611686018427387904) cnX12_132 eX12_box_39 ?_
    refine r_lret rfl eX12_box_42 ?_
    first | exact Or.inl ⟨by omega, rfl, rfl⟩ | exact Or.inr (Or.inl ⟨by omega, rfl, rfl⟩) | exact Or.inr (Or.inr (⟨by omega, rfl, rfl⟩))
theorem l_X12_knows {g : Gl} {σ : Sg} {a b : Int} (hC : 0 ≤ σ 48 5 ∧ σ 48 5 ≤ 10) (ha : 0 ≤ a ∧ a < 32) (hb : 0 ≤ b ∧ b < 32) (h10 : σ 48 5 = 10) : ∀ (t : Nat), t ≤ 36 → jv g mX12_knows (Fm g (PV (fun σ' => σ' = knw σ a b))) (setc σ 53 (shf (σ 53) (36 - (t : Int)))) [(0, vr g 48), (1, vi a), (2, vi b), (3, vi (36 - (t : Int)))] 11 [] := by
  intro t
  induction t with
  | zero =>
    intro h1
    refine j_iload_n eX12_knows_11 rfl ?_
    refine j_bipush 36 eX12_knows_12 (by decide) ?_
    refine j_icmp_ge eX12_knows_14 (by omega) (fun h => ?_) (fun h => absurd (by omega) h)
    refine j_aload_n eX12_knows_37 rfl ?_
    refine j_dup rfl eX12_knows_38 ?_
    refine j_getI flX12_72 ly48 rfl eX12_knows_39 ?_
    refine j_iconst 1 eX12_knows_42 ?_
    refine j_isub eX12_knows_43 ?_
    refine j_putI fpX12_72 ly48 rfl eX12_knows_44 ?_
    have eS : up (setc σ 53 (shf (σ 53) (36 - ((0 : Nat) : Int)))) 48 5 ((setc σ 53 (shf (σ 53) (36 - ((0 : Nat) : Int)))) 48 5 - 1) = up (setc σ 53 (shf (σ 53) 36)) 48 5 9 := by
      have e1 : (setc σ 53 (shf (σ 53) (36 - ((0 : Nat) : Int)))) 48 5 = 10 := h10
      rw [e1]
      rfl
    refine jv_st eS ?_
    try have f5 : (up (setc σ 53 (shf (σ 53) 36)) 48 5 9) 48 5 = 9 := rfl
    have j0 : ∀ (τ : Sg) (u v : Int), (up τ 53 u v) 48 5 = τ 48 5 := fun _ _ _ => rfl
    refine j_aload_n eX12_knows_47 rfl ?_
    refine j_getR flX12_23 ly48 rfl eX12_knows_48 ?_
    refine j_iconst 4 eX12_knows_51 ?_
    refine j_aload_n eX12_knows_52 rfl ?_
    refine j_getI flX12_72 ly48 rfl eX12_knows_53 ?_
    refine j_imul eX12_knows_56 ?_
    refine j_iload_n eX12_knows_57 rfl ?_
    refine j_iast ly53 (by omega) eX12_knows_58 ?_
    refine j_aload_n eX12_knows_59 rfl ?_
    refine j_getR flX12_23 ly48 rfl eX12_knows_60 ?_
    refine j_iconst 4 eX12_knows_63 ?_
    refine j_aload_n eX12_knows_64 rfl ?_
    refine j_getI flX12_72 ly48 rfl eX12_knows_65 ?_
    refine j_imul eX12_knows_68 ?_
    refine j_iconst 1 eX12_knows_69 ?_
    refine j_iadd eX12_knows_70 ?_
    refine j_aload_n eX12_knows_71 rfl ?_
    refine j_getR flX12_7 ly48 rfl eX12_knows_72 ?_
    refine j_iload_n eX12_knows_75 rfl ?_
    refine j_iald ly49 (by omega) eX12_knows_76 ?_
    refine j_iast ly53 (by simp only [j0]; omega) eX12_knows_77 ?_
    refine j_aload_n eX12_knows_78 rfl ?_
    refine j_getR flX12_23 ly48 rfl eX12_knows_79 ?_
    refine j_iconst 4 eX12_knows_82 ?_
    refine j_aload_n eX12_knows_83 rfl ?_
    refine j_getI flX12_72 ly48 rfl eX12_knows_84 ?_
    refine j_imul eX12_knows_87 ?_
    refine j_iconst 2 eX12_knows_88 ?_
    refine j_iadd eX12_knows_89 ?_
    refine j_iload_n eX12_knows_90 rfl ?_
    refine j_iast ly53 (by simp only [j0]; omega) eX12_knows_91 ?_
    refine j_aload_n eX12_knows_92 rfl ?_
    refine j_getR flX12_23 ly48 rfl eX12_knows_93 ?_
    refine j_iconst 4 eX12_knows_96 ?_
    refine j_aload_n eX12_knows_97 rfl ?_
    refine j_getI flX12_72 ly48 rfl eX12_knows_98 ?_
    refine j_imul eX12_knows_101 ?_
    refine j_iconst 3 eX12_knows_102 ?_
    refine j_iadd eX12_knows_103 ?_
    refine j_aload_n eX12_knows_104 rfl ?_
    refine j_getR flX12_7 ly48 rfl eX12_knows_105 ?_
    refine j_iload_n eX12_knows_108 rfl ?_
    refine j_iald ly49 (by omega) eX12_knows_109 ?_
    refine j_iast ly53 (by simp only [j0]; omega) eX12_knows_110 ?_
    refine j_aload_n eX12_knows_111 rfl ?_
    refine j_dup rfl eX12_knows_112 ?_
    refine j_getI flX12_72 ly48 rfl eX12_knows_113 ?_
    refine j_iconst 1 eX12_knows_116 ?_
    refine j_iadd eX12_knows_117 ?_
    refine j_putI fpX12_72 ly48 rfl eX12_knows_118 ?_
    refine r_vret rfl eX12_knows_121 ?_
    show _ = knw σ a b
    unfold knw
    first | (rw [if_pos (by omega)]; rfl) | (rw [if_neg (by omega)]; rfl)
  | succ t ih =>
    intro h1
    refine j_iload_n eX12_knows_11 rfl ?_
    refine j_bipush 36 eX12_knows_12 (by decide) ?_
    refine j_icmp_ge eX12_knows_14 (by omega) (fun h14 => absurd h14 (by omega)) (fun h14 => ?_)
    refine j_aload_n eX12_knows_17 rfl ?_
    refine j_getR flX12_23 ly48 rfl eX12_knows_18 ?_
    refine j_iload_n eX12_knows_21 rfl ?_
    refine j_aload_n eX12_knows_22 rfl ?_
    refine j_getR flX12_23 ly48 rfl eX12_knows_23 ?_
    refine j_iload_n eX12_knows_26 rfl ?_
    refine j_iconst 4 eX12_knows_27 ?_
    refine j_iadd eX12_knows_28 ?_
    refine j_iald ly53 (by omega) eX12_knows_29 ?_
    refine j_iast ly53 (by omega) eX12_knows_30 ?_
    refine j_iinc eX12_knows_31 rfl (Nat.le_of_ble_eq_true rfl) ?_
    refine j_goto eX12_knows_34 ?_
    have e1 : 36 - ((t + 1 : Nat) : Int) + 1 = 36 - (t : Int) := by omega
    refine jv_st (shf_step (by omega)) ?_
    rw [e1]
    refine jv_lv ?_ (ih (by omega))
    exact lvC rfl (lvC rfl (lvC rfl (lvC rfl (lv0))))
theorem c_X12_knows {g : Gl} {σ : Sg} {a b : Int} (hC : 0 ≤ σ 48 5 ∧ σ 48 5 ≤ 10) (ha : 0 ≤ a ∧ a < 32) (hb : 0 ≤ b ∧ b < 32) : Ct g mX12_knows [vr g 48, vi a, vi b] σ (PV (fun σ' => σ' = knw σ a b)) := by
  refine Ct.of (by decide +kernel) (Nat.le_of_ble_eq_true rfl) ?_
  show jv g _ _ σ [(0, vr g 48), (1, vi a), (2, vi b)] 0 []
  refine j_aload_n eX12_knows_0 rfl ?_
  refine j_getI flX12_72 ly48 rfl eX12_knows_1 ?_
  refine j_bipush 10 eX12_knows_4 (by decide) ?_
  refine j_icmp_ne eX12_knows_6 (by omega) (fun h6 => ?_) (fun h6 => ?_)
  · try have f5 : (up (setc σ 53 (shf (σ 53) 36)) 48 5 9) 48 5 = 9 := rfl
    have j0 : ∀ (τ : Sg) (u v : Int), (up τ 53 u v) 48 5 = τ 48 5 := fun _ _ _ => rfl
    refine j_aload_n eX12_knows_47 rfl ?_
    refine j_getR flX12_23 ly48 rfl eX12_knows_48 ?_
    refine j_iconst 4 eX12_knows_51 ?_
    refine j_aload_n eX12_knows_52 rfl ?_
    refine j_getI flX12_72 ly48 rfl eX12_knows_53 ?_
    refine j_imul eX12_knows_56 ?_
    refine j_iload_n eX12_knows_57 rfl ?_
    refine j_iast ly53 (by omega) eX12_knows_58 ?_
    refine j_aload_n eX12_knows_59 rfl ?_
    refine j_getR flX12_23 ly48 rfl eX12_knows_60 ?_
    refine j_iconst 4 eX12_knows_63 ?_
    refine j_aload_n eX12_knows_64 rfl ?_
    refine j_getI flX12_72 ly48 rfl eX12_knows_65 ?_
    refine j_imul eX12_knows_68 ?_
    refine j_iconst 1 eX12_knows_69 ?_
    refine j_iadd eX12_knows_70 ?_
    refine j_aload_n eX12_knows_71 rfl ?_
    refine j_getR flX12_7 ly48 rfl eX12_knows_72 ?_
    refine j_iload_n eX12_knows_75 rfl ?_
    refine j_iald ly49 (by omega) eX12_knows_76 ?_
    refine j_iast ly53 (by simp only [j0]; omega) eX12_knows_77 ?_
    refine j_aload_n eX12_knows_78 rfl ?_
    refine j_getR flX12_23 ly48 rfl eX12_knows_79 ?_
    refine j_iconst 4 eX12_knows_82 ?_
    refine j_aload_n eX12_knows_83 rfl ?_
    refine j_getI flX12_72 ly48 rfl eX12_knows_84 ?_
    refine j_imul eX12_knows_87 ?_
    refine j_iconst 2 eX12_knows_88 ?_
    refine j_iadd eX12_knows_89 ?_
    refine j_iload_n eX12_knows_90 rfl ?_
    refine j_iast ly53 (by simp only [j0]; omega) eX12_knows_91 ?_
    refine j_aload_n eX12_knows_92 rfl ?_
    refine j_getR flX12_23 ly48 rfl eX12_knows_93 ?_
    refine j_iconst 4 eX12_knows_96 ?_
    refine j_aload_n eX12_knows_97 rfl ?_
    refine j_getI flX12_72 ly48 rfl eX12_knows_98 ?_
    refine j_imul eX12_knows_101 ?_
    refine j_iconst 3 eX12_knows_102 ?_
    refine j_iadd eX12_knows_103 ?_
    refine j_aload_n eX12_knows_104 rfl ?_
    refine j_getR flX12_7 ly48 rfl eX12_knows_105 ?_
    refine j_iload_n eX12_knows_108 rfl ?_
    refine j_iald ly49 (by omega) eX12_knows_109 ?_
    refine j_iast ly53 (by simp only [j0]; omega) eX12_knows_110 ?_
    refine j_aload_n eX12_knows_111 rfl ?_
    refine j_dup rfl eX12_knows_112 ?_
    refine j_getI flX12_72 ly48 rfl eX12_knows_113 ?_
    refine j_iconst 1 eX12_knows_116 ?_
    refine j_iadd eX12_knows_117 ?_
    refine j_putI fpX12_72 ly48 rfl eX12_knows_118 ?_
    refine r_vret rfl eX12_knows_121 ?_
    show _ = knw σ a b
    unfold knw
    first | (rw [if_pos (by omega)]; rfl) | (rw [if_neg (by omega)]; rfl)
  · refine j_iconst 0 eX12_knows_9 ?_
    refine j_istore_n eX12_knows_10 (Nat.le_of_ble_eq_true rfl) ?_
    have e1 := l_X12_knows (g := g) hC ha hb (by omega) 36 (by omega)
    rw [show (36 : Int) - ((36 : Nat) : Int) = 0 from rfl, shf_0, setc_self σ 53 rfl] at e1
    refine jv_lv ?_ e1
    exact lvC rfl (lvC rfl (lvC rfl (lvC rfl (lv0))))
theorem c_X12_coefs {g : Gl} {σ : Sg} {p k x : Int} (h : -2147483648 ≤ p ∧ p ≤ 2147483647 ∧ -2147483648 ≤ k ∧ k ≤ 2147483647 ∧ -2147483648 ≤ x ∧ x ≤ 2147483647) (hM : TM σ) (hC : 0 ≤ σ 48 5 ∧ σ 48 5 ≤ 10) : Ct g mX12_coefs [vr g 48, vi p, vi k, vi x] σ (PI (fun v σ' => (¬ ((0 ≤ p ∧ p < σ 49 0 ∧ 0 ≤ k ∧ k ≤ σ 49 (2 + p)) ∧ (-50 ≤ x ∧ x ≤ 50)) ∧ v = -1 ∧ σ' = σ) ∨ ((((0 ≤ p ∧ p < σ 49 0 ∧ 0 ≤ k ∧ k ≤ σ 49 (2 + p)) ∧ (-50 ≤ x ∧ x ≤ 50)) ∧ σ 49 (5 + 6 * p + k) = x) ∧ v = -2 ∧ σ' = σ) ∨ ((((0 ≤ p ∧ p < σ 49 0 ∧ 0 ≤ k ∧ k ≤ σ 49 (2 + p)) ∧ (-50 ≤ x ∧ x ≤ 50)) ∧ ¬ σ 49 (5 + 6 * p + k) = x) ∧ v = 1 ∧ σ' = up (knw σ (5 + 6 * p + k) (5 + 6 * p + k)) 49 (5 + 6 * p + k) x))) := by
  refine Ct.of (by decide +kernel) (Nat.le_of_ble_eq_true rfl) ?_
  show jv g _ _ σ [(0, vr g 48), (1, vi p), (2, vi k), (3, vi x)] 0 []
  have mP := hM.1
  have mB := hM.2.1
  have mS := hM.2.2.1
  refine j_aload_n eX12_coefs_0 rfl ?_
  refine j_iload_n eX12_coefs_1 rfl ?_
  refine j_iload_n eX12_coefs_2 rfl ?_
  refine j_cV2 zX12_isCoefficient lkX12_129 ⟨Nat.le_of_ble_eq_true rfl, Nat.le_of_ble_eq_true rfl⟩ ly48 rfl rfl (c_X12_isCoefficient (by omega) (by exact hM)) (Nat.le_of_ble_eq_true rfl) eX12_coefs_3 (k_B (fun h3 => ?_) (fun h3 => ?_))
  · refine j_ifeq_1 eX12_coefs_6 ?_
    refine j_iload_n eX12_coefs_9 rfl ?_
    refine j_bipush (-50) eX12_coefs_10 (by decide) ?_
    refine j_bipush 50 eX12_coefs_12 (by decide) ?_
    refine j_cS3 zX12_in lkX12_85 ⟨Nat.le_of_ble_eq_true rfl, Nat.le_of_ble_eq_true rfl⟩ (c_X12_in (by omega)) (Nat.le_of_ble_eq_true rfl) eX12_coefs_14 (k_B (fun h14 => ?_) (fun h14 => ?_))
    · refine j_ifne_1 eX12_coefs_17 ?_
      have q := mS p (by omega) (by omega)
      have ck := hM.2.2.2.1 p k (by omega) (by omega) (by omega) (by omega)
      refine j_iconst 5 eX12_coefs_22 ?_
      refine j_bipush 6 eX12_coefs_23 (by decide) ?_
      refine j_iload_n eX12_coefs_25 rfl ?_
      refine j_imul eX12_coefs_26 ?_
      refine j_iadd eX12_coefs_27 ?_
      refine j_iload_n eX12_coefs_28 rfl ?_
      refine j_iadd eX12_coefs_29 ?_
      refine j_istore eX12_coefs_30 (Nat.le_of_ble_eq_true rfl) ?_
      refine j_aload_n eX12_coefs_32 rfl ?_
      refine j_getR flX12_7 ly48 rfl eX12_coefs_33 ?_
      refine j_iload eX12_coefs_36 rfl ?_
      refine j_iald ly49 (by omega) eX12_coefs_38 ?_
      refine j_iload_n eX12_coefs_39 rfl ?_
      refine j_icmp_ne eX12_coefs_40 (by omega) (fun h40 => ?_) (fun h40 => ?_)
      · refine j_aload_n eX12_coefs_46 rfl ?_
        refine j_iload eX12_coefs_47 rfl ?_
        refine j_iload eX12_coefs_49 rfl ?_
        refine j_cV2 zX12_knows lkX12_134 ⟨Nat.le_of_ble_eq_true rfl, Nat.le_of_ble_eq_true rfl⟩ ly48 rfl rfl (c_X12_knows (by exact hC) (by omega) (by omega)) (Nat.le_of_ble_eq_true rfl) eX12_coefs_51 (k_VE ?_)
        refine j_aload_n eX12_coefs_54 rfl ?_
        refine j_getR flX12_7 ly48 rfl eX12_coefs_55 ?_
        refine j_iload eX12_coefs_58 rfl ?_
        refine j_iload_n eX12_coefs_60 rfl ?_
        refine j_iast ly49 (by omega) eX12_coefs_61 ?_
        refine j_iconst 1 eX12_coefs_62 ?_
        refine r_iret rfl eX12_coefs_63 ?_
        first | exact Or.inl ⟨by omega, rfl, rfl⟩ | exact Or.inr (Or.inl ⟨by omega, rfl, rfl⟩) | exact Or.inr (Or.inr (⟨by omega, rfl, rfl⟩))
      · refine j_bipush (-2) eX12_coefs_43 (by decide) ?_
        refine r_iret rfl eX12_coefs_45 ?_
        first | exact Or.inl ⟨by omega, rfl, rfl⟩ | exact Or.inr (Or.inl ⟨by omega, rfl, rfl⟩) | exact Or.inr (Or.inr (⟨by omega, rfl, rfl⟩))
    · refine j_ifne_0 eX12_coefs_17 ?_
      refine j_iconst (-1) eX12_coefs_20 ?_
      refine r_iret rfl eX12_coefs_21 ?_
      first | exact Or.inl ⟨by omega, rfl, rfl⟩ | exact Or.inr (Or.inl ⟨by omega, rfl, rfl⟩) | exact Or.inr (Or.inr (⟨by omega, rfl, rfl⟩))
  · refine j_ifeq_0 eX12_coefs_6 ?_
    refine j_iconst (-1) eX12_coefs_20 ?_
    refine r_iret rfl eX12_coefs_21 ?_
    first | exact Or.inl ⟨by omega, rfl, rfl⟩ | exact Or.inr (Or.inl ⟨by omega, rfl, rfl⟩) | exact Or.inr (Or.inr (⟨by omega, rfl, rfl⟩))
theorem c_X12_ends {g : Gl} {σ : Sg} {b x y : Int} (h : -2147483648 ≤ b ∧ b ≤ 2147483647 ∧ -2147483648 ≤ x ∧ x ≤ 2147483647 ∧ -2147483648 ≤ y ∧ y ≤ 2147483647) (hM : TM σ) (hC : 0 ≤ σ 48 5 ∧ σ 48 5 ≤ 10) : Ct g mX12_ends [vr g 48, vi b, vi x, vi y] σ (PI (fun v σ' => (¬ ((0 ≤ b ∧ b < σ 49 1) ∧ ((-5 ≤ x ∧ x ≤ 5) ∧ (-5 ≤ y ∧ y ≤ 5) ∧ x < y)) ∧ v = -1 ∧ σ' = σ) ∨ ((((0 ≤ b ∧ b < σ 49 1) ∧ ((-5 ≤ x ∧ x ≤ 5) ∧ (-5 ≤ y ∧ y ≤ 5) ∧ x < y)) ∧ (σ 49 (23 + b) = x ∧ σ 49 (26 + b) = y)) ∧ v = -2 ∧ σ' = σ) ∨ ((((0 ≤ b ∧ b < σ 49 1) ∧ ((-5 ≤ x ∧ x ≤ 5) ∧ (-5 ≤ y ∧ y ≤ 5) ∧ x < y)) ∧ ¬ (σ 49 (23 + b) = x ∧ σ 49 (26 + b) = y)) ∧ v = 1 ∧ σ' = up (up (knw σ (23 + b) (26 + b)) 49 (23 + b) x) 49 (26 + b) y))) := by
  refine Ct.of (by decide +kernel) (Nat.le_of_ble_eq_true rfl) ?_
  show jv g _ _ σ [(0, vr g 48), (1, vi b), (2, vi x), (3, vi y)] 0 []
  have mP := hM.1
  have mB := hM.2.1
  have mS := hM.2.2.1
  refine j_aload_n eX12_ends_0 rfl ?_
  refine j_iload_n eX12_ends_1 rfl ?_
  refine j_cV1 zX12_isBox lkX12_126 ⟨Nat.le_of_ble_eq_true rfl, Nat.le_of_ble_eq_true rfl⟩ ly48 rfl rfl (c_X12_isBox (by omega) (by omega)) (Nat.le_of_ble_eq_true rfl) eX12_ends_2 (k_B (fun h2 => ?_) (fun h2 => ?_))
  · refine j_ifeq_1 eX12_ends_5 ?_
    refine j_iload_n eX12_ends_8 rfl ?_
    refine j_bipush (-5) eX12_ends_9 (by decide) ?_
    refine j_iconst 5 eX12_ends_11 ?_
    refine j_cS3 zX12_in lkX12_85 ⟨Nat.le_of_ble_eq_true rfl, Nat.le_of_ble_eq_true rfl⟩ (c_X12_in (by omega)) (Nat.le_of_ble_eq_true rfl) eX12_ends_12 (k_B (fun h12 => ?_) (fun h12 => ?_))
    · refine j_ifeq_1 eX12_ends_15 ?_
      refine j_iload_n eX12_ends_18 rfl ?_
      refine j_bipush (-5) eX12_ends_19 (by decide) ?_
      refine j_iconst 5 eX12_ends_21 ?_
      refine j_cS3 zX12_in lkX12_85 ⟨Nat.le_of_ble_eq_true rfl, Nat.le_of_ble_eq_true rfl⟩ (c_X12_in (by omega)) (Nat.le_of_ble_eq_true rfl) eX12_ends_22 (k_B (fun h22 => ?_) (fun h22 => ?_))
      · refine j_ifeq_1 eX12_ends_25 ?_
        refine j_iload_n eX12_ends_28 rfl ?_
        refine j_iload_n eX12_ends_29 rfl ?_
        refine j_icmp_lt eX12_ends_30 (by omega) (fun h30 => ?_) (fun h30 => ?_)
        · have cb := hM.2.2.2.2.2 b (by omega) (by omega)
          refine j_aload_n eX12_ends_35 rfl ?_
          refine j_getR flX12_7 ly48 rfl eX12_ends_36 ?_
          refine j_bipush 23 eX12_ends_39 (by decide) ?_
          refine j_iload_n eX12_ends_41 rfl ?_
          refine j_iadd eX12_ends_42 ?_
          refine j_iald ly49 (by omega) eX12_ends_43 ?_
          refine j_iload_n eX12_ends_44 rfl ?_
          refine j_icmp_ne eX12_ends_45 (by omega) (fun h45 => ?_) (fun h45 => ?_)
          · refine j_aload_n eX12_ends_64 rfl ?_
            refine j_bipush 23 eX12_ends_65 (by decide) ?_
            refine j_iload_n eX12_ends_67 rfl ?_
            refine j_iadd eX12_ends_68 ?_
            refine j_bipush 26 eX12_ends_69 (by decide) ?_
            refine j_iload_n eX12_ends_71 rfl ?_
            refine j_iadd eX12_ends_72 ?_
            refine j_cV2 zX12_knows lkX12_134 ⟨Nat.le_of_ble_eq_true rfl, Nat.le_of_ble_eq_true rfl⟩ ly48 rfl rfl (c_X12_knows (by exact hC) (by omega) (by omega)) (Nat.le_of_ble_eq_true rfl) eX12_ends_73 (k_VE ?_)
            refine j_aload_n eX12_ends_76 rfl ?_
            refine j_getR flX12_7 ly48 rfl eX12_ends_77 ?_
            refine j_bipush 23 eX12_ends_80 (by decide) ?_
            refine j_iload_n eX12_ends_82 rfl ?_
            refine j_iadd eX12_ends_83 ?_
            refine j_iload_n eX12_ends_84 rfl ?_
            refine j_iast ly49 (by omega) eX12_ends_85 ?_
            refine j_aload_n eX12_ends_86 rfl ?_
            refine j_getR flX12_7 ly48 rfl eX12_ends_87 ?_
            refine j_bipush 26 eX12_ends_90 (by decide) ?_
            refine j_iload_n eX12_ends_92 rfl ?_
            refine j_iadd eX12_ends_93 ?_
            refine j_iload_n eX12_ends_94 rfl ?_
            refine j_iast ly49 (by omega) eX12_ends_95 ?_
            refine j_iconst 1 eX12_ends_96 ?_
            refine r_iret rfl eX12_ends_97 ?_
            first | exact Or.inl ⟨by omega, rfl, rfl⟩ | exact Or.inr (Or.inl ⟨by omega, rfl, rfl⟩) | exact Or.inr (Or.inr (⟨by omega, rfl, rfl⟩))
          · refine j_aload_n eX12_ends_48 rfl ?_
            refine j_getR flX12_7 ly48 rfl eX12_ends_49 ?_
            refine j_bipush 26 eX12_ends_52 (by decide) ?_
            refine j_iload_n eX12_ends_54 rfl ?_
            refine j_iadd eX12_ends_55 ?_
            refine j_iald ly49 (by omega) eX12_ends_56 ?_
            refine j_iload_n eX12_ends_57 rfl ?_
            refine j_icmp_ne eX12_ends_58 (by omega) (fun h58 => ?_) (fun h58 => ?_)
            · refine j_aload_n eX12_ends_64 rfl ?_
              refine j_bipush 23 eX12_ends_65 (by decide) ?_
              refine j_iload_n eX12_ends_67 rfl ?_
              refine j_iadd eX12_ends_68 ?_
              refine j_bipush 26 eX12_ends_69 (by decide) ?_
              refine j_iload_n eX12_ends_71 rfl ?_
              refine j_iadd eX12_ends_72 ?_
              refine j_cV2 zX12_knows lkX12_134 ⟨Nat.le_of_ble_eq_true rfl, Nat.le_of_ble_eq_true rfl⟩ ly48 rfl rfl (c_X12_knows (by exact hC) (by omega) (by omega)) (Nat.le_of_ble_eq_true rfl) eX12_ends_73 (k_VE ?_)
              refine j_aload_n eX12_ends_76 rfl ?_
              refine j_getR flX12_7 ly48 rfl eX12_ends_77 ?_
              refine j_bipush 23 eX12_ends_80 (by decide) ?_
              refine j_iload_n eX12_ends_82 rfl ?_
              refine j_iadd eX12_ends_83 ?_
              refine j_iload_n eX12_ends_84 rfl ?_
              refine j_iast ly49 (by omega) eX12_ends_85 ?_
              refine j_aload_n eX12_ends_86 rfl ?_
              refine j_getR flX12_7 ly48 rfl eX12_ends_87 ?_
              refine j_bipush 26 eX12_ends_90 (by decide) ?_
              refine j_iload_n eX12_ends_92 rfl ?_
              refine j_iadd eX12_ends_93 ?_
              refine j_iload_n eX12_ends_94 rfl ?_
              refine j_iast ly49 (by omega) eX12_ends_95 ?_
              refine j_iconst 1 eX12_ends_96 ?_
              refine r_iret rfl eX12_ends_97 ?_
              first | exact Or.inl ⟨by omega, rfl, rfl⟩ | exact Or.inr (Or.inl ⟨by omega, rfl, rfl⟩) | exact Or.inr (Or.inr (⟨by omega, rfl, rfl⟩))
            · refine j_bipush (-2) eX12_ends_61 (by decide) ?_
              refine r_iret rfl eX12_ends_63 ?_
              first | exact Or.inl ⟨by omega, rfl, rfl⟩ | exact Or.inr (Or.inl ⟨by omega, rfl, rfl⟩) | exact Or.inr (Or.inr (⟨by omega, rfl, rfl⟩))
        · refine j_iconst (-1) eX12_ends_33 ?_
          refine r_iret rfl eX12_ends_34 ?_
          first | exact Or.inl ⟨by omega, rfl, rfl⟩ | exact Or.inr (Or.inl ⟨by omega, rfl, rfl⟩) | exact Or.inr (Or.inr (⟨by omega, rfl, rfl⟩))
      · refine j_ifeq_0 eX12_ends_25 ?_
        refine j_iconst (-1) eX12_ends_33 ?_
        refine r_iret rfl eX12_ends_34 ?_
        first | exact Or.inl ⟨by omega, rfl, rfl⟩ | exact Or.inr (Or.inl ⟨by omega, rfl, rfl⟩) | exact Or.inr (Or.inr (⟨by omega, rfl, rfl⟩))
    · refine j_ifeq_0 eX12_ends_15 ?_
      refine j_iconst (-1) eX12_ends_33 ?_
      refine r_iret rfl eX12_ends_34 ?_
      first | exact Or.inl ⟨by omega, rfl, rfl⟩ | exact Or.inr (Or.inl ⟨by omega, rfl, rfl⟩) | exact Or.inr (Or.inr (⟨by omega, rfl, rfl⟩))
  · refine j_ifeq_0 eX12_ends_5 ?_
    refine j_iconst (-1) eX12_ends_33 ?_
    refine r_iret rfl eX12_ends_34 ?_
    first | exact Or.inl ⟨by omega, rfl, rfl⟩ | exact Or.inr (Or.inl ⟨by omega, rfl, rfl⟩) | exact Or.inr (Or.inr (⟨by omega, rfl, rfl⟩))
theorem c_X12_wishes {g : Gl} {σ : Sg} {p x : Int} (h : -2147483648 ≤ p ∧ p ≤ 2147483647 ∧ -2147483648 ≤ x ∧ x ≤ 2147483647) (hM : TM σ) (hC : 0 ≤ σ 48 5 ∧ σ 48 5 ≤ 10) : Ct g mX12_wishes [vr g 48, vi p, vi x] σ (PI (fun v σ' => (¬ ((0 ≤ p ∧ p < σ 49 0) ∧ (-1 ≤ x ∧ x ≤ 1)) ∧ v = -1 ∧ σ' = σ) ∨ ((((0 ≤ p ∧ p < σ 49 0) ∧ (-1 ≤ x ∧ x ≤ 1)) ∧ σ 49 (29 + p) = x) ∧ v = -2 ∧ σ' = σ) ∨ ((((0 ≤ p ∧ p < σ 49 0) ∧ (-1 ≤ x ∧ x ≤ 1)) ∧ ¬ σ 49 (29 + p) = x) ∧ v = 1 ∧ σ' = up (knw σ (29 + p) (29 + p)) 49 (29 + p) x))) := by
  refine Ct.of (by decide +kernel) (Nat.le_of_ble_eq_true rfl) ?_
  show jv g _ _ σ [(0, vr g 48), (1, vi p), (2, vi x)] 0 []
  have mP := hM.1
  have mB := hM.2.1
  have mS := hM.2.2.1
  refine j_aload_n eX12_wishes_0 rfl ?_
  refine j_iload_n eX12_wishes_1 rfl ?_
  refine j_cV1 zX12_isPolynomial lkX12_123 ⟨Nat.le_of_ble_eq_true rfl, Nat.le_of_ble_eq_true rfl⟩ ly48 rfl rfl (c_X12_isPolynomial (by omega) (by omega)) (Nat.le_of_ble_eq_true rfl) eX12_wishes_2 (k_B (fun h2 => ?_) (fun h2 => ?_))
  · refine j_ifeq_1 eX12_wishes_5 ?_
    refine j_iload_n eX12_wishes_8 rfl ?_
    refine j_iconst (-1) eX12_wishes_9 ?_
    refine j_iconst 1 eX12_wishes_10 ?_
    refine j_cS3 zX12_in lkX12_85 ⟨Nat.le_of_ble_eq_true rfl, Nat.le_of_ble_eq_true rfl⟩ (c_X12_in (by omega)) (Nat.le_of_ble_eq_true rfl) eX12_wishes_11 (k_B (fun h11 => ?_) (fun h11 => ?_))
    · refine j_ifne_1 eX12_wishes_14 ?_
      have ck := hM.2.2.2.2.1 p (by omega) (by omega)
      refine j_aload_n eX12_wishes_19 rfl ?_
      refine j_getR flX12_7 ly48 rfl eX12_wishes_20 ?_
      refine j_bipush 29 eX12_wishes_23 (by decide) ?_
      refine j_iload_n eX12_wishes_25 rfl ?_
      refine j_iadd eX12_wishes_26 ?_
      refine j_iald ly49 (by omega) eX12_wishes_27 ?_
      refine j_iload_n eX12_wishes_28 rfl ?_
      refine j_icmp_ne eX12_wishes_29 (by omega) (fun h29 => ?_) (fun h29 => ?_)
      · refine j_aload_n eX12_wishes_35 rfl ?_
        refine j_bipush 29 eX12_wishes_36 (by decide) ?_
        refine j_iload_n eX12_wishes_38 rfl ?_
        refine j_iadd eX12_wishes_39 ?_
        refine j_bipush 29 eX12_wishes_40 (by decide) ?_
        refine j_iload_n eX12_wishes_42 rfl ?_
        refine j_iadd eX12_wishes_43 ?_
        refine j_cV2 zX12_knows lkX12_134 ⟨Nat.le_of_ble_eq_true rfl, Nat.le_of_ble_eq_true rfl⟩ ly48 rfl rfl (c_X12_knows (by exact hC) (by omega) (by omega)) (Nat.le_of_ble_eq_true rfl) eX12_wishes_44 (k_VE ?_)
        refine j_aload_n eX12_wishes_47 rfl ?_
        refine j_getR flX12_7 ly48 rfl eX12_wishes_48 ?_
        refine j_bipush 29 eX12_wishes_51 (by decide) ?_
        refine j_iload_n eX12_wishes_53 rfl ?_
        refine j_iadd eX12_wishes_54 ?_
        refine j_iload_n eX12_wishes_55 rfl ?_
        refine j_iast ly49 (by omega) eX12_wishes_56 ?_
        refine j_iconst 1 eX12_wishes_57 ?_
        refine r_iret rfl eX12_wishes_58 ?_
        first | exact Or.inl ⟨by omega, rfl, rfl⟩ | exact Or.inr (Or.inl ⟨by omega, rfl, rfl⟩) | exact Or.inr (Or.inr (⟨by omega, rfl, rfl⟩))
      · refine j_bipush (-2) eX12_wishes_32 (by decide) ?_
        refine r_iret rfl eX12_wishes_34 ?_
        first | exact Or.inl ⟨by omega, rfl, rfl⟩ | exact Or.inr (Or.inl ⟨by omega, rfl, rfl⟩) | exact Or.inr (Or.inr (⟨by omega, rfl, rfl⟩))
    · refine j_ifne_0 eX12_wishes_14 ?_
      refine j_iconst (-1) eX12_wishes_17 ?_
      refine r_iret rfl eX12_wishes_18 ?_
      first | exact Or.inl ⟨by omega, rfl, rfl⟩ | exact Or.inr (Or.inl ⟨by omega, rfl, rfl⟩) | exact Or.inr (Or.inr (⟨by omega, rfl, rfl⟩))
  · refine j_ifeq_0 eX12_wishes_5 ?_
    refine j_iconst (-1) eX12_wishes_17 ?_
    refine r_iret rfl eX12_wishes_18 ?_
    first | exact Or.inl ⟨by omega, rfl, rfl⟩ | exact Or.inr (Or.inl ⟨by omega, rfl, rfl⟩) | exact Or.inr (Or.inr (⟨by omega, rfl, rfl⟩))
theorem c_X12_undo {g : Gl} {σ : Sg} (hC : 0 ≤ σ 48 5 ∧ σ 48 5 ≤ 10) (hU : 1 ≤ σ 48 5 → (0 ≤ σ 53 (4 * (σ 48 5 - 1)) ∧ σ 53 (4 * (σ 48 5 - 1)) < 32) ∧ 0 ≤ σ 53 ((4 * (σ 48 5 - 1)) + 2) ∧ σ 53 ((4 * (σ 48 5 - 1)) + 2) < 32) : Ct g mX12_undo [vr g 48] σ (PI (fun v σ' => (σ 48 5 = 0 ∧ v = -2 ∧ σ' = σ) ∨ (¬ σ 48 5 = 0 ∧ v = σ 48 5 - 1 ∧ σ' = popM σ))) := by
  refine Ct.of (by decide +kernel) (Nat.le_of_ble_eq_true rfl) ?_
  show jv g _ _ σ [(0, vr g 48)] 0 []
  refine j_aload_n eX12_undo_0 rfl ?_
  refine j_getI flX12_72 ly48 rfl eX12_undo_1 ?_
  refine j_if_ne eX12_undo_4 (by omega) (fun h4 => ?_) (fun h4 => ?_)
  · refine j_aload_n eX12_undo_10 rfl ?_
    refine j_dup rfl eX12_undo_11 ?_
    refine j_getI flX12_72 ly48 rfl eX12_undo_12 ?_
    refine j_iconst 1 eX12_undo_15 ?_
    refine j_isub eX12_undo_16 ?_
    refine j_putI fpX12_72 ly48 rfl eX12_undo_17 ?_
    have hu := hU (by omega)
    have f5 : (up σ 48 5 (σ 48 5 - 1)) 48 5 = σ 48 5 - 1 := rfl
    refine j_aload_n eX12_undo_20 rfl ?_
    refine j_getR flX12_7 ly48 rfl eX12_undo_21 ?_
    refine j_aload_n eX12_undo_24 rfl ?_
    refine j_getR flX12_23 ly48 rfl eX12_undo_25 ?_
    refine j_iconst 4 eX12_undo_28 ?_
    refine j_aload_n eX12_undo_29 rfl ?_
    refine j_getI flX12_72 ly48 rfl eX12_undo_30 ?_
    refine j_imul eX12_undo_33 ?_
    show jv g _ _ (up σ 48 5 (σ 48 5 - 1)) _ _ (vi (4 * (σ 48 5 - 1)) :: _)
    refine j_iald ly53 (by omega) eX12_undo_34 ?_
    refine j_aload_n eX12_undo_35 rfl ?_
    refine j_getR flX12_23 ly48 rfl eX12_undo_36 ?_
    refine j_iconst 4 eX12_undo_39 ?_
    refine j_aload_n eX12_undo_40 rfl ?_
    refine j_getI flX12_72 ly48 rfl eX12_undo_41 ?_
    refine j_imul eX12_undo_44 ?_
    refine j_iconst 1 eX12_undo_45 ?_
    refine j_iadd eX12_undo_46 ?_
    show jv g _ _ (up σ 48 5 (σ 48 5 - 1)) _ _ (vi (4 * (σ 48 5 - 1) + 1) :: _ :: vi (σ 53 (4 * (σ 48 5 - 1))) :: _)
    refine j_iald ly53 (by omega) eX12_undo_47 ?_
    refine j_iast ly49 (by omega) eX12_undo_48 ?_
    generalize hτ : up (up σ 48 5 (σ 48 5 - 1)) 49 (σ 53 (4 * (σ 48 5 - 1))) _ = τ
    have t5 : τ 48 5 = σ 48 5 - 1 := by rw [← hτ]; rfl
    have t53 : τ 53 = σ 53 := by rw [← hτ]; rfl
    refine j_aload_n eX12_undo_49 rfl ?_
    refine j_getR flX12_7 ly48 rfl eX12_undo_50 ?_
    refine j_aload_n eX12_undo_53 rfl ?_
    refine j_getR flX12_23 ly48 rfl eX12_undo_54 ?_
    refine j_iconst 4 eX12_undo_57 ?_
    refine j_aload_n eX12_undo_58 rfl ?_
    refine j_getI flX12_72 ly48 rfl eX12_undo_59 ?_
    refine j_imul eX12_undo_62 ?_
    refine j_iconst 2 eX12_undo_63 ?_
    refine j_iadd eX12_undo_64 ?_
    rw [t5]
    refine j_iald ly53 (by omega) eX12_undo_65 ?_
    refine j_aload_n eX12_undo_66 rfl ?_
    refine j_getR flX12_23 ly48 rfl eX12_undo_67 ?_
    refine j_iconst 4 eX12_undo_70 ?_
    refine j_aload_n eX12_undo_71 rfl ?_
    refine j_getI flX12_72 ly48 rfl eX12_undo_72 ?_
    refine j_imul eX12_undo_75 ?_
    refine j_iconst 3 eX12_undo_76 ?_
    refine j_iadd eX12_undo_77 ?_
    rw [t5]
    refine j_iald ly53 (by omega) eX12_undo_78 ?_
    rw [t53]
    refine j_iast ly49 (by omega) eX12_undo_79 ?_
    refine j_aload_n eX12_undo_80 rfl ?_
    refine j_getI flX12_72 ly48 rfl eX12_undo_81 ?_
    refine r_iret rfl eX12_undo_84 ?_
    refine Or.inr ⟨by omega, ?_, ?_⟩
    · show τ 48 5 = _
      exact t5
    · rw [← hτ]
      rfl
  · refine j_bipush (-2) eX12_undo_7 (by decide) ?_
    refine r_iret rfl eX12_undo_9 ?_
    exact Or.inl ⟨by omega, rfl, rfl⟩
theorem c_X12_wish {g : Gl} {σ : Sg} {p : Int} (h : -2147483648 ≤ p ∧ p ≤ 2147483647) (hM : TM σ) : Ct g mX12_wish [vr g 48, vi p] σ (PL (fun v σ' => ((0 ≤ p ∧ p < σ 49 0) ∧ v = σ 49 (29 + p) ∧ σ' = σ) ∨ (¬ (0 ≤ p ∧ p < σ 49 0) ∧ v = -4611686018427387904 ∧ σ' = σ))) := by
  refine Ct.of (by decide +kernel) (Nat.le_of_ble_eq_true rfl) ?_
  show jv g _ _ σ [(0, vr g 48), (1, vi p)] 0 []
  have mP := hM.1
  have mB := hM.2.1
  have mS := hM.2.2.1
  refine j_aload_n eX12_wish_0 rfl ?_
  refine j_iload_n eX12_wish_1 rfl ?_
  refine j_cV1 zX12_isPolynomial lkX12_123 ⟨Nat.le_of_ble_eq_true rfl, Nat.le_of_ble_eq_true rfl⟩ ly48 rfl rfl (c_X12_isPolynomial (by omega) (by omega)) (Nat.le_of_ble_eq_true rfl) eX12_wish_2 (k_B (fun h2 => ?_) (fun h2 => ?_))
  · refine j_ifeq_1 eX12_wish_5 ?_
    have ck := hM.2.2.2.2.1 p (by omega) (by omega)
    refine j_aload_n eX12_wish_8 rfl ?_
    refine j_getR flX12_7 ly48 rfl eX12_wish_9 ?_
    refine j_bipush 29 eX12_wish_12 (by decide) ?_
    refine j_iload_n eX12_wish_14 rfl ?_
    refine j_iadd eX12_wish_15 ?_
    refine j_iald ly49 (by omega) eX12_wish_16 ?_
    refine j_i2l (by omega) eX12_wish_17 ?_
    refine j_goto eX12_wish_18 ?_
    refine r_lret rfl eX12_wish_24 ?_
    first | exact Or.inl ⟨by omega, rfl, rfl⟩ | exact Or.inr (⟨by omega, rfl, rfl⟩)
  · refine j_ifeq_0 eX12_wish_5 ?_
    refine j_ldc2 (-4611686018427387904) cnX12_132 eX12_wish_21 ?_
    refine r_lret rfl eX12_wish_24 ?_
    first | exact Or.inl ⟨by omega, rfl, rfl⟩ | exact Or.inr (⟨by omega, rfl, rfl⟩)
theorem c_X12_sees {g : Gl} {σ : Sg} {x y : Int} (h : -2147483648 ≤ x ∧ x ≤ 2147483647 ∧ -2147483648 ≤ y ∧ y ≤ 2147483647) (hs : 0 ≤ σ 48 10 ∧ σ 48 10 ≤ 6) : Ct g mX12_sees [vr g 48, vi x, vi y] σ (PI (fun v σ' => (¬ ((-5 ≤ x ∧ x ≤ 5) ∧ (-1 ≤ y ∧ y ≤ 1)) ∧ v = -1 ∧ σ' = σ) ∨ ((((-5 ≤ x ∧ x ≤ 5) ∧ (-1 ≤ y ∧ y ≤ 1)) ∧ 6 ≤ σ 48 10) ∧ v = -3 ∧ σ' = σ) ∨ ((((-5 ≤ x ∧ x ≤ 5) ∧ (-1 ≤ y ∧ y ≤ 1)) ∧ σ 48 10 < 6) ∧ v = σ 48 10 + 1 ∧ σ' = up (up (up σ 54 (σ 48 10) x) 55 (σ 48 10) y) 48 10 (σ 48 10 + 1)))) := by
  refine Ct.of (by decide +kernel) (Nat.le_of_ble_eq_true rfl) ?_
  show jv g _ _ σ [(0, vr g 48), (1, vi x), (2, vi y)] 0 []
  refine j_iload_n eX12_sees_0 rfl ?_
  refine j_bipush (-5) eX12_sees_1 (by decide) ?_
  refine j_iconst 5 eX12_sees_3 ?_
  refine j_cS3 zX12_in lkX12_85 ⟨Nat.le_of_ble_eq_true rfl, Nat.le_of_ble_eq_true rfl⟩ (c_X12_in (by omega)) (Nat.le_of_ble_eq_true rfl) eX12_sees_4 (k_B (fun h4 => ?_) (fun h4 => ?_))
  · refine j_ifeq_1 eX12_sees_7 ?_
    refine j_iload_n eX12_sees_10 rfl ?_
    refine j_iconst (-1) eX12_sees_11 ?_
    refine j_iconst 1 eX12_sees_12 ?_
    refine j_cS3 zX12_in lkX12_85 ⟨Nat.le_of_ble_eq_true rfl, Nat.le_of_ble_eq_true rfl⟩ (c_X12_in (by omega)) (Nat.le_of_ble_eq_true rfl) eX12_sees_13 (k_B (fun h13 => ?_) (fun h13 => ?_))
    · refine j_ifne_1 eX12_sees_16 ?_
      refine j_aload_n eX12_sees_21 rfl ?_
      refine j_getI flX12_76 ly48 rfl eX12_sees_22 ?_
      refine j_bipush 6 eX12_sees_25 (by decide) ?_
      refine j_icmp_ne eX12_sees_27 (by omega) (fun h27 => ?_) (fun h27 => ?_)
      · refine j_aload_n eX12_sees_33 rfl ?_
        refine j_getR flX12_26 ly48 rfl eX12_sees_34 ?_
        refine j_aload_n eX12_sees_37 rfl ?_
        refine j_getI flX12_76 ly48 rfl eX12_sees_38 ?_
        refine j_iload_n eX12_sees_41 rfl ?_
        refine j_iast ly54 (by omega) eX12_sees_42 ?_
        refine j_aload_n eX12_sees_43 rfl ?_
        refine j_getR flX12_29 ly48 rfl eX12_sees_44 ?_
        refine j_aload_n eX12_sees_47 rfl ?_
        refine j_getI flX12_76 ly48 rfl eX12_sees_48 ?_
        refine j_iload_n eX12_sees_51 rfl ?_
        refine j_iast ly55 (by exact (show 0 ≤ σ 48 10 ∧ σ 48 10 < 6 by omega)) eX12_sees_52 ?_
        refine j_aload_n eX12_sees_53 rfl ?_
        refine j_dup rfl eX12_sees_54 ?_
        refine j_getI flX12_76 ly48 rfl eX12_sees_55 ?_
        refine j_iconst 1 eX12_sees_58 ?_
        refine j_iadd eX12_sees_59 ?_
        refine j_putI fpX12_76 ly48 rfl eX12_sees_60 ?_
        refine j_aload_n eX12_sees_63 rfl ?_
        refine j_getI flX12_76 ly48 rfl eX12_sees_64 ?_
        refine r_iret rfl eX12_sees_67 ?_
        first | exact Or.inl ⟨by omega, rfl, rfl⟩ | exact Or.inr (Or.inl ⟨by omega, rfl, rfl⟩) | exact Or.inr (Or.inr (⟨by omega, rfl, rfl⟩))
      · refine j_bipush (-3) eX12_sees_30 (by decide) ?_
        refine r_iret rfl eX12_sees_32 ?_
        first | exact Or.inl ⟨by omega, rfl, rfl⟩ | exact Or.inr (Or.inl ⟨by omega, rfl, rfl⟩) | exact Or.inr (Or.inr (⟨by omega, rfl, rfl⟩))
    · refine j_ifne_0 eX12_sees_16 ?_
      refine j_iconst (-1) eX12_sees_19 ?_
      refine r_iret rfl eX12_sees_20 ?_
      first | exact Or.inl ⟨by omega, rfl, rfl⟩ | exact Or.inr (Or.inl ⟨by omega, rfl, rfl⟩) | exact Or.inr (Or.inr (⟨by omega, rfl, rfl⟩))
  · refine j_ifeq_0 eX12_sees_7 ?_
    refine j_iconst (-1) eX12_sees_19 ?_
    refine r_iret rfl eX12_sees_20 ?_
    first | exact Or.inl ⟨by omega, rfl, rfl⟩ | exact Or.inr (Or.inl ⟨by omega, rfl, rfl⟩) | exact Or.inr (Or.inr (⟨by omega, rfl, rfl⟩))
theorem c_X12_forget {g : Gl} {σ : Sg} : Ct g mX12_forget [vr g 48] σ (PI (fun v σ' => v = σ 48 10 ∧ σ' = up σ 48 10 0)) := by
  refine Ct.of (by decide +kernel) (Nat.le_of_ble_eq_true rfl) ?_
  show jv g _ _ σ [(0, vr g 48)] 0 []
  refine j_aload_n eX12_forget_0 rfl ?_
  refine j_getI flX12_76 ly48 rfl eX12_forget_1 ?_
  refine j_istore_n eX12_forget_4 (Nat.le_of_ble_eq_true rfl) ?_
  refine j_aload_n eX12_forget_5 rfl ?_
  refine j_iconst 0 eX12_forget_6 ?_
  refine j_putI fpX12_76 ly48 rfl eX12_forget_7 ?_
  refine j_iload_n eX12_forget_10 rfl ?_
  refine r_iret rfl eX12_forget_11 ?_
  first | exact ⟨rfl, rfl⟩ | (exfalso; omega)
theorem c_X12_count {g : Gl} {σ : Sg} {a : Int} (h : -2147483648 ≤ a ∧ a ≤ 2147483647) (hM : TM σ) (hk : (0 ≤ σ 48 6 ∧ σ 48 6 ≤ 2) ∧ 0 ≤ σ 48 7 ∧ σ 48 7 ≤ 2) : Ct g mX12_count [vr g 48, vi a] σ (PI (fun v σ' => σ' = σ ∧ ((a = 0 ∧ v = σ 49 0) ∨ (a = 1 ∧ v = σ 49 1) ∨ (a = 2 ∧ v = σ 48 6) ∨ (a = 3 ∧ v = σ 48 7) ∨ ((a = 4 ∧ σ 48 6 < σ 49 0) ∧ v = σ 49 (2 + σ 48 6)) ∨ ((a = 4 ∧ ¬ σ 48 6 < σ 49 0) ∧ v = -9) ∨ (a = 5 ∧ v = σ 48 10) ∨ (a = 6 ∧ v = σ 48 12) ∨ (a = 7 ∧ v = σ 48 5) ∨ (¬ (0 ≤ a ∧ a ≤ 7) ∧ v = -1)))) := by
  refine Ct.of (by decide +kernel) (Nat.le_of_ble_eq_true rfl) ?_
  show jv g _ _ σ [(0, vr g 48), (1, vi a)] 0 []
  have mP := hM.1
  have mB := hM.2.1
  have mS := hM.2.2.1
  refine j_iload_n eX12_count_0 rfl ?_
  rcases (show a = 0 ∨ a = 1 ∨ a = 2 ∨ a = 3 ∨ a = 4 ∨ a = 5 ∨ a = 6 ∨ a = 7 ∨ (a < 0 ∨ 7 < a) by omega) with s1 | s1 | s1 | s1 | s1 | s1 | s1 | s1 | s1
  · refine j_tsIn eX12_count_1.1 (by omega) (by omega) (by omega) (off := 47) (tgt := 48) (by rw [s1]; rfl) (by decide) ?_
    refine j_aload_n eX12_count_48 rfl ?_
    refine j_getR flX12_7 ly48 rfl eX12_count_49 ?_
    refine j_iconst 0 eX12_count_52 ?_
    refine j_iald ly49 (by omega) eX12_count_53 ?_
    refine r_iret rfl eX12_count_54 ?_
    refine ⟨rfl, ?_⟩
    first | exact Or.inl ⟨by omega, rfl⟩ | exact Or.inr (Or.inl ⟨by omega, rfl⟩) | exact Or.inr (Or.inr (Or.inl ⟨by omega, rfl⟩)) | exact Or.inr (Or.inr (Or.inr (Or.inl ⟨by omega, rfl⟩))) | exact Or.inr (Or.inr (Or.inr (Or.inr (Or.inl ⟨by omega, rfl⟩)))) | exact Or.inr (Or.inr (Or.inr (Or.inr (Or.inr (Or.inl ⟨by omega, rfl⟩))))) | exact Or.inr (Or.inr (Or.inr (Or.inr (Or.inr (Or.inr (Or.inl ⟨by omega, rfl⟩)))))) | exact Or.inr (Or.inr (Or.inr (Or.inr (Or.inr (Or.inr (Or.inr (Or.inl ⟨by omega, rfl⟩))))))) | exact Or.inr (Or.inr (Or.inr (Or.inr (Or.inr (Or.inr (Or.inr (Or.inr (Or.inl ⟨by omega, rfl⟩)))))))) | exact Or.inr (Or.inr (Or.inr (Or.inr (Or.inr (Or.inr (Or.inr (Or.inr (Or.inr (⟨by omega, rfl⟩)))))))))
  · refine j_tsIn eX12_count_1.1 (by omega) (by omega) (by omega) (off := 54) (tgt := 55) (by rw [s1]; rfl) (by decide) ?_
    refine j_aload_n eX12_count_55 rfl ?_
    refine j_getR flX12_7 ly48 rfl eX12_count_56 ?_
    refine j_iconst 1 eX12_count_59 ?_
    refine j_iald ly49 (by omega) eX12_count_60 ?_
    refine r_iret rfl eX12_count_61 ?_
    refine ⟨rfl, ?_⟩
    first | exact Or.inl ⟨by omega, rfl⟩ | exact Or.inr (Or.inl ⟨by omega, rfl⟩) | exact Or.inr (Or.inr (Or.inl ⟨by omega, rfl⟩)) | exact Or.inr (Or.inr (Or.inr (Or.inl ⟨by omega, rfl⟩))) | exact Or.inr (Or.inr (Or.inr (Or.inr (Or.inl ⟨by omega, rfl⟩)))) | exact Or.inr (Or.inr (Or.inr (Or.inr (Or.inr (Or.inl ⟨by omega, rfl⟩))))) | exact Or.inr (Or.inr (Or.inr (Or.inr (Or.inr (Or.inr (Or.inl ⟨by omega, rfl⟩)))))) | exact Or.inr (Or.inr (Or.inr (Or.inr (Or.inr (Or.inr (Or.inr (Or.inl ⟨by omega, rfl⟩))))))) | exact Or.inr (Or.inr (Or.inr (Or.inr (Or.inr (Or.inr (Or.inr (Or.inr (Or.inl ⟨by omega, rfl⟩)))))))) | exact Or.inr (Or.inr (Or.inr (Or.inr (Or.inr (Or.inr (Or.inr (Or.inr (Or.inr (⟨by omega, rfl⟩)))))))))
  · refine j_tsIn eX12_count_1.1 (by omega) (by omega) (by omega) (off := 61) (tgt := 62) (by rw [s1]; rfl) (by decide) ?_
    refine j_aload_n eX12_count_62 rfl ?_
    refine j_getI flX12_79 ly48 rfl eX12_count_63 ?_
    refine r_iret rfl eX12_count_66 ?_
    refine ⟨rfl, ?_⟩
    first | exact Or.inl ⟨by omega, rfl⟩ | exact Or.inr (Or.inl ⟨by omega, rfl⟩) | exact Or.inr (Or.inr (Or.inl ⟨by omega, rfl⟩)) | exact Or.inr (Or.inr (Or.inr (Or.inl ⟨by omega, rfl⟩))) | exact Or.inr (Or.inr (Or.inr (Or.inr (Or.inl ⟨by omega, rfl⟩)))) | exact Or.inr (Or.inr (Or.inr (Or.inr (Or.inr (Or.inl ⟨by omega, rfl⟩))))) | exact Or.inr (Or.inr (Or.inr (Or.inr (Or.inr (Or.inr (Or.inl ⟨by omega, rfl⟩)))))) | exact Or.inr (Or.inr (Or.inr (Or.inr (Or.inr (Or.inr (Or.inr (Or.inl ⟨by omega, rfl⟩))))))) | exact Or.inr (Or.inr (Or.inr (Or.inr (Or.inr (Or.inr (Or.inr (Or.inr (Or.inl ⟨by omega, rfl⟩)))))))) | exact Or.inr (Or.inr (Or.inr (Or.inr (Or.inr (Or.inr (Or.inr (Or.inr (Or.inr (⟨by omega, rfl⟩)))))))))
  · refine j_tsIn eX12_count_1.1 (by omega) (by omega) (by omega) (off := 66) (tgt := 67) (by rw [s1]; rfl) (by decide) ?_
    refine j_aload_n eX12_count_67 rfl ?_
    refine j_getI flX12_82 ly48 rfl eX12_count_68 ?_
    refine r_iret rfl eX12_count_71 ?_
    refine ⟨rfl, ?_⟩
    first | exact Or.inl ⟨by omega, rfl⟩ | exact Or.inr (Or.inl ⟨by omega, rfl⟩) | exact Or.inr (Or.inr (Or.inl ⟨by omega, rfl⟩)) | exact Or.inr (Or.inr (Or.inr (Or.inl ⟨by omega, rfl⟩))) | exact Or.inr (Or.inr (Or.inr (Or.inr (Or.inl ⟨by omega, rfl⟩)))) | exact Or.inr (Or.inr (Or.inr (Or.inr (Or.inr (Or.inl ⟨by omega, rfl⟩))))) | exact Or.inr (Or.inr (Or.inr (Or.inr (Or.inr (Or.inr (Or.inl ⟨by omega, rfl⟩)))))) | exact Or.inr (Or.inr (Or.inr (Or.inr (Or.inr (Or.inr (Or.inr (Or.inl ⟨by omega, rfl⟩))))))) | exact Or.inr (Or.inr (Or.inr (Or.inr (Or.inr (Or.inr (Or.inr (Or.inr (Or.inl ⟨by omega, rfl⟩)))))))) | exact Or.inr (Or.inr (Or.inr (Or.inr (Or.inr (Or.inr (Or.inr (Or.inr (Or.inr (⟨by omega, rfl⟩)))))))))
  · refine j_tsIn eX12_count_1.1 (by omega) (by omega) (by omega) (off := 71) (tgt := 72) (by rw [s1]; rfl) (by decide) ?_
    refine j_aload_n eX12_count_72 rfl ?_
    refine j_aload_n eX12_count_73 rfl ?_
    refine j_getI flX12_79 ly48 rfl eX12_count_74 ?_
    refine j_cV1 zX12_isPolynomial lkX12_123 ⟨Nat.le_of_ble_eq_true rfl, Nat.le_of_ble_eq_true rfl⟩ ly48 rfl rfl (c_X12_isPolynomial (by omega) (by omega)) (Nat.le_of_ble_eq_true rfl) eX12_count_77 (k_B (fun h77 => ?_) (fun h77 => ?_))
    · refine j_ifeq_1 eX12_count_80 ?_
      refine j_aload_n eX12_count_83 rfl ?_
      refine j_getR flX12_7 ly48 rfl eX12_count_84 ?_
      refine j_iconst 2 eX12_count_87 ?_
      refine j_aload_n eX12_count_88 rfl ?_
      refine j_getI flX12_79 ly48 rfl eX12_count_89 ?_
      refine j_iadd eX12_count_92 ?_
      refine j_iald ly49 (by omega) eX12_count_93 ?_
      refine j_goto eX12_count_94 ?_
      refine r_iret rfl eX12_count_99 ?_
      refine ⟨rfl, ?_⟩
      first | exact Or.inl ⟨by omega, rfl⟩ | exact Or.inr (Or.inl ⟨by omega, rfl⟩) | exact Or.inr (Or.inr (Or.inl ⟨by omega, rfl⟩)) | exact Or.inr (Or.inr (Or.inr (Or.inl ⟨by omega, rfl⟩))) | exact Or.inr (Or.inr (Or.inr (Or.inr (Or.inl ⟨by omega, rfl⟩)))) | exact Or.inr (Or.inr (Or.inr (Or.inr (Or.inr (Or.inl ⟨by omega, rfl⟩))))) | exact Or.inr (Or.inr (Or.inr (Or.inr (Or.inr (Or.inr (Or.inl ⟨by omega, rfl⟩)))))) | exact Or.inr (Or.inr (Or.inr (Or.inr (Or.inr (Or.inr (Or.inr (Or.inl ⟨by omega, rfl⟩))))))) | exact Or.inr (Or.inr (Or.inr (Or.inr (Or.inr (Or.inr (Or.inr (Or.inr (Or.inl ⟨by omega, rfl⟩)))))))) | exact Or.inr (Or.inr (Or.inr (Or.inr (Or.inr (Or.inr (Or.inr (Or.inr (Or.inr (⟨by omega, rfl⟩)))))))))
    · refine j_ifeq_0 eX12_count_80 ?_
      refine j_bipush (-9) eX12_count_97 (by decide) ?_
      refine r_iret rfl eX12_count_99 ?_
      refine ⟨rfl, ?_⟩
      first | exact Or.inl ⟨by omega, rfl⟩ | exact Or.inr (Or.inl ⟨by omega, rfl⟩) | exact Or.inr (Or.inr (Or.inl ⟨by omega, rfl⟩)) | exact Or.inr (Or.inr (Or.inr (Or.inl ⟨by omega, rfl⟩))) | exact Or.inr (Or.inr (Or.inr (Or.inr (Or.inl ⟨by omega, rfl⟩)))) | exact Or.inr (Or.inr (Or.inr (Or.inr (Or.inr (Or.inl ⟨by omega, rfl⟩))))) | exact Or.inr (Or.inr (Or.inr (Or.inr (Or.inr (Or.inr (Or.inl ⟨by omega, rfl⟩)))))) | exact Or.inr (Or.inr (Or.inr (Or.inr (Or.inr (Or.inr (Or.inr (Or.inl ⟨by omega, rfl⟩))))))) | exact Or.inr (Or.inr (Or.inr (Or.inr (Or.inr (Or.inr (Or.inr (Or.inr (Or.inl ⟨by omega, rfl⟩)))))))) | exact Or.inr (Or.inr (Or.inr (Or.inr (Or.inr (Or.inr (Or.inr (Or.inr (Or.inr (⟨by omega, rfl⟩)))))))))
  · refine j_tsIn eX12_count_1.1 (by omega) (by omega) (by omega) (off := 99) (tgt := 100) (by rw [s1]; rfl) (by decide) ?_
    refine j_aload_n eX12_count_100 rfl ?_
    refine j_getI flX12_76 ly48 rfl eX12_count_101 ?_
    refine r_iret rfl eX12_count_104 ?_
    refine ⟨rfl, ?_⟩
    first | exact Or.inl ⟨by omega, rfl⟩ | exact Or.inr (Or.inl ⟨by omega, rfl⟩) | exact Or.inr (Or.inr (Or.inl ⟨by omega, rfl⟩)) | exact Or.inr (Or.inr (Or.inr (Or.inl ⟨by omega, rfl⟩))) | exact Or.inr (Or.inr (Or.inr (Or.inr (Or.inl ⟨by omega, rfl⟩)))) | exact Or.inr (Or.inr (Or.inr (Or.inr (Or.inr (Or.inl ⟨by omega, rfl⟩))))) | exact Or.inr (Or.inr (Or.inr (Or.inr (Or.inr (Or.inr (Or.inl ⟨by omega, rfl⟩)))))) | exact Or.inr (Or.inr (Or.inr (Or.inr (Or.inr (Or.inr (Or.inr (Or.inl ⟨by omega, rfl⟩))))))) | exact Or.inr (Or.inr (Or.inr (Or.inr (Or.inr (Or.inr (Or.inr (Or.inr (Or.inl ⟨by omega, rfl⟩)))))))) | exact Or.inr (Or.inr (Or.inr (Or.inr (Or.inr (Or.inr (Or.inr (Or.inr (Or.inr (⟨by omega, rfl⟩)))))))))
  · refine j_tsIn eX12_count_1.1 (by omega) (by omega) (by omega) (off := 104) (tgt := 105) (by rw [s1]; rfl) (by decide) ?_
    refine j_aload_n eX12_count_105 rfl ?_
    refine j_getI flX12_89 ly48 rfl eX12_count_106 ?_
    refine r_iret rfl eX12_count_109 ?_
    refine ⟨rfl, ?_⟩
    first | exact Or.inl ⟨by omega, rfl⟩ | exact Or.inr (Or.inl ⟨by omega, rfl⟩) | exact Or.inr (Or.inr (Or.inl ⟨by omega, rfl⟩)) | exact Or.inr (Or.inr (Or.inr (Or.inl ⟨by omega, rfl⟩))) | exact Or.inr (Or.inr (Or.inr (Or.inr (Or.inl ⟨by omega, rfl⟩)))) | exact Or.inr (Or.inr (Or.inr (Or.inr (Or.inr (Or.inl ⟨by omega, rfl⟩))))) | exact Or.inr (Or.inr (Or.inr (Or.inr (Or.inr (Or.inr (Or.inl ⟨by omega, rfl⟩)))))) | exact Or.inr (Or.inr (Or.inr (Or.inr (Or.inr (Or.inr (Or.inr (Or.inl ⟨by omega, rfl⟩))))))) | exact Or.inr (Or.inr (Or.inr (Or.inr (Or.inr (Or.inr (Or.inr (Or.inr (Or.inl ⟨by omega, rfl⟩)))))))) | exact Or.inr (Or.inr (Or.inr (Or.inr (Or.inr (Or.inr (Or.inr (Or.inr (Or.inr (⟨by omega, rfl⟩)))))))))
  · refine j_tsIn eX12_count_1.1 (by omega) (by omega) (by omega) (off := 109) (tgt := 110) (by rw [s1]; rfl) (by decide) ?_
    refine j_aload_n eX12_count_110 rfl ?_
    refine j_getI flX12_72 ly48 rfl eX12_count_111 ?_
    refine r_iret rfl eX12_count_114 ?_
    refine ⟨rfl, ?_⟩
    first | exact Or.inl ⟨by omega, rfl⟩ | exact Or.inr (Or.inl ⟨by omega, rfl⟩) | exact Or.inr (Or.inr (Or.inl ⟨by omega, rfl⟩)) | exact Or.inr (Or.inr (Or.inr (Or.inl ⟨by omega, rfl⟩))) | exact Or.inr (Or.inr (Or.inr (Or.inr (Or.inl ⟨by omega, rfl⟩)))) | exact Or.inr (Or.inr (Or.inr (Or.inr (Or.inr (Or.inl ⟨by omega, rfl⟩))))) | exact Or.inr (Or.inr (Or.inr (Or.inr (Or.inr (Or.inr (Or.inl ⟨by omega, rfl⟩)))))) | exact Or.inr (Or.inr (Or.inr (Or.inr (Or.inr (Or.inr (Or.inr (Or.inl ⟨by omega, rfl⟩))))))) | exact Or.inr (Or.inr (Or.inr (Or.inr (Or.inr (Or.inr (Or.inr (Or.inr (Or.inl ⟨by omega, rfl⟩)))))))) | exact Or.inr (Or.inr (Or.inr (Or.inr (Or.inr (Or.inr (Or.inr (Or.inr (Or.inr (⟨by omega, rfl⟩)))))))))
  · refine j_tsOut eX12_count_1.1 (by omega) s1 (tgt := 115) (by decide) ?_
    refine j_iconst (-1) eX12_count_115 ?_
    refine r_iret rfl eX12_count_116 ?_
    refine ⟨rfl, ?_⟩
    first | exact Or.inl ⟨by omega, rfl⟩ | exact Or.inr (Or.inl ⟨by omega, rfl⟩) | exact Or.inr (Or.inr (Or.inl ⟨by omega, rfl⟩)) | exact Or.inr (Or.inr (Or.inr (Or.inl ⟨by omega, rfl⟩))) | exact Or.inr (Or.inr (Or.inr (Or.inr (Or.inl ⟨by omega, rfl⟩)))) | exact Or.inr (Or.inr (Or.inr (Or.inr (Or.inr (Or.inl ⟨by omega, rfl⟩))))) | exact Or.inr (Or.inr (Or.inr (Or.inr (Or.inr (Or.inr (Or.inl ⟨by omega, rfl⟩)))))) | exact Or.inr (Or.inr (Or.inr (Or.inr (Or.inr (Or.inr (Or.inr (Or.inl ⟨by omega, rfl⟩))))))) | exact Or.inr (Or.inr (Or.inr (Or.inr (Or.inr (Or.inr (Or.inr (Or.inr (Or.inl ⟨by omega, rfl⟩)))))))) | exact Or.inr (Or.inr (Or.inr (Or.inr (Or.inr (Or.inr (Or.inr (Or.inr (Or.inr (⟨by omega, rfl⟩)))))))))
