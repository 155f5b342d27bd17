theorem c_X8_length {g : Gl} {σ : Sg} : Ct g mX8_length [vr g 25] σ (PE (σ 25 1) σ) := by
  refine Ct.of (by decide +kernel) (Nat.le_of_ble_eq_true rfl) ?_
  show jv g _ _ σ [(0, vr g 25)] 0 []
  refine j_aload_n eX8_length_0 rfl ?_
  refine j_getI flX8_15 ly25 rfl eX8_length_1 ?_
  refine r_iret rfl eX8_length_4 ?_
  first | exact ⟨rfl, rfl⟩ | (exfalso; omega)
theorem c_X8_isFull {g : Gl} {σ : Sg} (hT : 0 ≤ σ 25 1 ∧ σ 25 1 ≤ 120) : Ct g mX8_isFull [vr g 25] σ (PB (120 ≤ σ 25 1) σ) := by
  refine Ct.of (by decide +kernel) (Nat.le_of_ble_eq_true rfl) ?_
  show jv g _ _ σ [(0, vr g 25)] 0 []
  refine j_aload_n eX8_isFull_0 rfl ?_
  refine j_getI flX8_15 ly25 rfl eX8_isFull_1 ?_
  refine j_aload_n eX8_isFull_4 rfl ?_
  refine j_getR flX8_9 ly25 rfl eX8_isFull_5 ?_
  refine j_alen (by decide) ly26 eX8_isFull_8 ?_
  refine j_icmp_lt eX8_isFull_9 (by omega) (fun h9 => ?_) (fun h9 => ?_)
  · refine j_iconst 0 eX8_isFull_16 ?_
    exact r_zret (by decide) rfl eX8_isFull_17 (PB_f (by omega))
  · refine j_iconst 1 eX8_isFull_12 ?_
    refine j_goto eX8_isFull_13 ?_
    exact r_zret (by decide) rfl eX8_isFull_17 (PB_t (by omega))
theorem c_X8_add {g : Gl} {σ : Sg} {a : Int} (hT : 0 ≤ σ 25 1 ∧ σ 25 1 < 120) : Ct g mX8_add [vr g 25, vi a] σ (PV (fun σ' => σ' = up (up σ 26 (σ 25 1) a) 25 1 (σ 25 1 + 1))) := by
  refine Ct.of (by decide +kernel) (Nat.le_of_ble_eq_true rfl) ?_
  show jv g _ _ σ [(0, vr g 25), (1, vi a)] 0 []
  refine j_aload_n eX8_add_0 rfl ?_
  refine j_getI flX8_15 ly25 rfl eX8_add_1 ?_
  refine j_if_lt eX8_add_4 (by omega) (fun h4 => ?_) (fun h4 => ?_)
  · refine r_vret rfl eX8_add_39 ?_
    first | exact rfl | (exfalso; omega)
  · refine j_aload_n eX8_add_7 rfl ?_
    refine j_getI flX8_15 ly25 rfl eX8_add_8 ?_
    refine j_aload_n eX8_add_11 rfl ?_
    refine j_getR flX8_9 ly25 rfl eX8_add_12 ?_
    refine j_alen (by decide) ly26 eX8_add_15 ?_
    refine j_icmp_ge eX8_add_16 (by omega) (fun h16 => ?_) (fun h16 => ?_)
    · refine r_vret rfl eX8_add_39 ?_
      first | exact rfl | (exfalso; omega)
    · refine j_aload_n eX8_add_19 rfl ?_
      refine j_getR flX8_9 ly25 rfl eX8_add_20 ?_
      refine j_aload_n eX8_add_23 rfl ?_
      refine j_getI flX8_15 ly25 rfl eX8_add_24 ?_
      refine j_iload_n eX8_add_27 rfl ?_
      refine j_iast ly26 (by omega) eX8_add_28 ?_
      refine j_aload_n eX8_add_29 rfl ?_
      refine j_dup rfl eX8_add_30 ?_
      refine j_getI flX8_15 ly25 rfl eX8_add_31 ?_
      refine j_iconst 1 eX8_add_34 ?_
      refine j_iadd eX8_add_35 ?_
      refine j_putI fpX8_15 ly25 rfl eX8_add_36 ?_
      refine r_vret rfl eX8_add_39 ?_
      first | exact rfl | (exfalso; omega)
theorem c_X8_at {g : Gl} {σ : Sg} {a : Int} (ha : -2147483648 ≤ a ∧ a ≤ 2147483647) (hT : 0 ≤ σ 25 1 ∧ σ 25 1 ≤ 120) : Ct g mX8_at [vr g 25, vi a] σ (PE (if 0 ≤ a ∧ a < σ 25 1 then σ 26 a else -9) σ) := by
  refine Ct.of (by decide +kernel) (Nat.le_of_ble_eq_true rfl) ?_
  show jv g _ _ σ [(0, vr g 25), (1, vi a)] 0 []
  refine j_iload_n eX8_at_0 rfl ?_
  refine j_if_lt eX8_at_1 (by omega) (fun h1 => ?_) (fun h1 => ?_)
  · refine j_bipush (-9) eX8_at_30 (by decide) ?_
    refine r_iret rfl eX8_at_32 ?_
    first | exact ⟨(if_pos (by omega)).symm, rfl⟩ | exact ⟨(if_neg (by omega)).symm, rfl⟩
  · refine j_iload_n eX8_at_4 rfl ?_
    refine j_aload_n eX8_at_5 rfl ?_
    refine j_getI flX8_15 ly25 rfl eX8_at_6 ?_
    refine j_icmp_ge eX8_at_9 (by omega) (fun h9 => ?_) (fun h9 => ?_)
    · refine j_bipush (-9) eX8_at_30 (by decide) ?_
      refine r_iret rfl eX8_at_32 ?_
      first | exact ⟨(if_pos (by omega)).symm, rfl⟩ | exact ⟨(if_neg (by omega)).symm, rfl⟩
    · refine j_iload_n eX8_at_12 rfl ?_
      refine j_aload_n eX8_at_13 rfl ?_
      refine j_getR flX8_9 ly25 rfl eX8_at_14 ?_
      refine j_alen (by decide) ly26 eX8_at_17 ?_
      refine j_icmp_ge eX8_at_18 (by omega) (fun h18 => ?_) (fun h18 => ?_)
      · refine j_bipush (-9) eX8_at_30 (by decide) ?_
        refine r_iret rfl eX8_at_32 ?_
        first | exact ⟨(if_pos (by omega)).symm, rfl⟩ | exact ⟨(if_neg (by omega)).symm, rfl⟩
      · refine j_aload_n eX8_at_21 rfl ?_
        refine j_getR flX8_9 ly25 rfl eX8_at_22 ?_
        refine j_iload_n eX8_at_25 rfl ?_
        refine j_iald ly26 (by omega) eX8_at_26 ?_
        refine j_goto eX8_at_27 ?_
        refine r_iret rfl eX8_at_32 ?_
        first | exact ⟨(if_pos (by omega)).symm, rfl⟩ | exact ⟨(if_neg (by omega)).symm, rfl⟩
theorem c_X8_empty {g : Gl} {σ : Sg} : Ct g mX8_empty [vr g 25] σ (PV (fun σ' => σ' = up σ 25 1 0)) := by
  refine Ct.of (by decide +kernel) (Nat.le_of_ble_eq_true rfl) ?_
  show jv g _ _ σ [(0, vr g 25)] 0 []
  refine j_aload_n eX8_empty_0 rfl ?_
  refine j_iconst 0 eX8_empty_1 ?_
  refine j_putI fpX8_15 ly25 rfl eX8_empty_2 ?_
  refine r_vret rfl eX8_empty_5 ?_
  first | exact rfl | (exfalso; omega)
theorem c_X11_isWithin {g : Gl} {σ : Sg} {a b c : Int} (h : -2147483648 ≤ a ∧ a ≤ 2147483647 ∧ -2147483648 ≤ b ∧ b ≤ 2147483647 ∧ -2147483648 ≤ c ∧ c ≤ 2147483647) : Ct g mX11_isWithin [vi a, vi b, vi c] σ (PB (b ≤ a ∧ a ≤ c) σ) := by
  refine Ct.of (by decide +kernel) (Nat.le_of_ble_eq_true rfl) ?_
  show jv g _ _ σ [(0, vi a), (1, vi b), (2, vi c)] 0 []
  refine j_iload_n eX11_isWithin_0 rfl ?_
  refine j_iload_n eX11_isWithin_1 rfl ?_
  refine j_icmp_lt eX11_isWithin_2 (by omega) (fun h2 => ?_) (fun h2 => ?_)
  · refine j_iconst 0 eX11_isWithin_14 ?_
    exact r_zret (by decide) rfl eX11_isWithin_15 (PB_f (by omega))
  · refine j_iload_n eX11_isWithin_5 rfl ?_
    refine j_iload_n eX11_isWithin_6 rfl ?_
    refine j_icmp_gt eX11_isWithin_7 (by omega) (fun h7 => ?_) (fun h7 => ?_)
    · refine j_iconst 0 eX11_isWithin_14 ?_
      exact r_zret (by decide) rfl eX11_isWithin_15 (PB_f (by omega))
    · refine j_iconst 1 eX11_isWithin_10 ?_
      refine j_goto eX11_isWithin_11 ?_
      exact r_zret (by decide) rfl eX11_isWithin_15 (PB_t (by omega))
theorem c_X11_isNode {g : Gl} {σ : Sg} {a : Int} (h : -2147483648 ≤ a ∧ a ≤ 2147483647) : Ct g mX11_isNode [vi a] σ (PB (1 ≤ a ∧ a ≤ 127) σ) := by
  refine Ct.of (by decide +kernel) (Nat.le_of_ble_eq_true rfl) ?_
  show jv g _ _ σ [(0, vi a)] 0 []
  refine j_iload_n eX11_isNode_0 rfl ?_
  refine j_iconst 1 eX11_isNode_1 ?_
  refine j_bipush 127 eX11_isNode_2 (by decide) ?_
  refine j_cS3 zX11_isWithin lkX11_92 ⟨Nat.le_of_ble_eq_true rfl, Nat.le_of_ble_eq_true rfl⟩ (c_X11_isWithin (by omega)) (Nat.le_of_ble_eq_true rfl) eX11_isNode_4 (k_B (fun h4 => ?_) (fun h4 => ?_))
  · exact r_zret (by decide) rfl eX11_isNode_7 (PB_t (by first | omega | assumption))
  · exact r_zret (by decide) rfl eX11_isNode_7 (PB_f (by first | omega | assumption))
theorem c_X11_isPlace {g : Gl} {σ : Sg} {a : Int} (h : -2147483648 ≤ a ∧ a ≤ 2147483647) : Ct g mX11_isPlace [vi a] σ (PB (-5 ≤ a ∧ a ≤ 5) σ) := by
  refine Ct.of (by decide +kernel) (Nat.le_of_ble_eq_true rfl) ?_
  show jv g _ _ σ [(0, vi a)] 0 []
  refine j_iload_n eX11_isPlace_0 rfl ?_
  refine j_bipush (-5) eX11_isPlace_1 (by decide) ?_
  refine j_iconst 5 eX11_isPlace_3 ?_
  refine j_cS3 zX11_isWithin lkX11_92 ⟨Nat.le_of_ble_eq_true rfl, Nat.le_of_ble_eq_true rfl⟩ (c_X11_isWithin (by omega)) (Nat.le_of_ble_eq_true rfl) eX11_isPlace_4 (k_B (fun h4 => ?_) (fun h4 => ?_))
  · exact r_zret (by decide) rfl eX11_isPlace_7 (PB_t (by first | omega | assumption))
  · exact r_zret (by decide) rfl eX11_isPlace_7 (PB_f (by first | omega | assumption))
theorem c_X11_isCoefficient {g : Gl} {σ : Sg} {a : Int} (h : -2147483648 ≤ a ∧ a ≤ 2147483647) : Ct g mX11_isCoefficient [vi a] σ (PB (-50 ≤ a ∧ a ≤ 50) σ) := by
  refine Ct.of (by decide +kernel) (Nat.le_of_ble_eq_true rfl) ?_
  show jv g _ _ σ [(0, vi a)] 0 []
  refine j_iload_n eX11_isCoefficient_0 rfl ?_
  refine j_bipush (-50) eX11_isCoefficient_1 (by decide) ?_
  refine j_bipush 50 eX11_isCoefficient_3 (by decide) ?_
  refine j_cS3 zX11_isWithin lkX11_92 ⟨Nat.le_of_ble_eq_true rfl, Nat.le_of_ble_eq_true rfl⟩ (c_X11_isWithin (by omega)) (Nat.le_of_ble_eq_true rfl) eX11_isCoefficient_5 (k_B (fun h5 => ?_) (fun h5 => ?_))
  · exact r_zret (by decide) rfl eX11_isCoefficient_8 (PB_t (by first | omega | assumption))
  · exact r_zret (by decide) rfl eX11_isCoefficient_8 (PB_f (by first | omega | assumption))
theorem c_X10_polynomials_0 {g : Gl} {σ : Sg} : Ct g mX10_polynomials [vr g 0] σ (PE (σ 0 0) σ) := by
  refine Ct.of (by decide +kernel) (Nat.le_of_ble_eq_true rfl) ?_
  show jv g _ _ σ [(0, vr g 0)] 0 []
  refine j_aload_n eX10_polynomials_0 rfl ?_
  refine j_getI flX10_27 ly0 rfl eX10_polynomials_1 ?_
  refine r_iret rfl eX10_polynomials_4 ?_
  first | exact ⟨rfl, rfl⟩ | (exfalso; omega)
theorem c_X10_boxes_0 {g : Gl} {σ : Sg} : Ct g mX10_boxes [vr g 0] σ (PE (σ 0 1) σ) := by
  refine Ct.of (by decide +kernel) (Nat.le_of_ble_eq_true rfl) ?_
  show jv g _ _ σ [(0, vr g 0)] 0 []
  refine j_aload_n eX10_boxes_0 rfl ?_
  refine j_getI flX10_31 ly0 rfl eX10_boxes_1 ?_
  refine r_iret rfl eX10_boxes_4 ?_
  first | exact ⟨rfl, rfl⟩ | (exfalso; omega)
theorem c_X10_hasPolynomial_0 {g : Gl} {σ : Sg} {p : Int} (h : -2147483648 ≤ p ∧ p ≤ 2147483647) (hP : 0 ≤ σ 0 0 ∧ σ 0 0 ≤ 3) : Ct g mX10_hasPolynomial [vr g 0, vi p] σ (PB (0 ≤ p ∧ p < σ 0 0) σ) := by
  refine Ct.of (by decide +kernel) (Nat.le_of_ble_eq_true rfl) ?_
  show jv g _ _ σ [(0, vr g 0), (1, vi p)] 0 []
  refine j_iload_n eX10_hasPolynomial_0 rfl ?_
  refine j_if_lt eX10_hasPolynomial_1 (by omega) (fun h1 => ?_) (fun h1 => ?_)
  · refine j_iconst 0 eX10_hasPolynomial_21 ?_
    exact r_zret (by decide) rfl eX10_hasPolynomial_22 (PB_f (by omega))
  · refine j_iload_n eX10_hasPolynomial_4 rfl ?_
    refine j_aload_n eX10_hasPolynomial_5 rfl ?_
    refine j_getI flX10_27 ly0 rfl eX10_hasPolynomial_6 ?_
    refine j_icmp_ge eX10_hasPolynomial_9 (by omega) (fun h9 => ?_) (fun h9 => ?_)
    · refine j_iconst 0 eX10_hasPolynomial_21 ?_
      exact r_zret (by decide) rfl eX10_hasPolynomial_22 (PB_f (by omega))
    · refine j_iload_n eX10_hasPolynomial_12 rfl ?_
      refine j_iconst 3 eX10_hasPolynomial_13 ?_
      refine j_icmp_ge eX10_hasPolynomial_14 (by omega) (fun h14 => ?_) (fun h14 => ?_)
      · refine j_iconst 0 eX10_hasPolynomial_21 ?_
        exact r_zret (by decide) rfl eX10_hasPolynomial_22 (PB_f (by omega))
      · refine j_iconst 1 eX10_hasPolynomial_17 ?_
        refine j_goto eX10_hasPolynomial_18 ?_
        exact r_zret (by decide) rfl eX10_hasPolynomial_22 (PB_t (by omega))
theorem c_X10_polynomials_18 {g : Gl} {σ : Sg} : Ct g mX10_polynomials [vr g 18] σ (PE (σ 18 0) σ) := by
  refine Ct.of (by decide +kernel) (Nat.le_of_ble_eq_true rfl) ?_
  show jv g _ _ σ [(0, vr g 18)] 0 []
  refine j_aload_n eX10_polynomials_0 rfl ?_
  refine j_getI flX10_27 ly18 rfl eX10_polynomials_1 ?_
  refine r_iret rfl eX10_polynomials_4 ?_
  first | exact ⟨rfl, rfl⟩ | (exfalso; omega)
theorem c_X10_boxes_18 {g : Gl} {σ : Sg} : Ct g mX10_boxes [vr g 18] σ (PE (σ 18 1) σ) := by
  refine Ct.of (by decide +kernel) (Nat.le_of_ble_eq_true rfl) ?_
  show jv g _ _ σ [(0, vr g 18)] 0 []
  refine j_aload_n eX10_boxes_0 rfl ?_
  refine j_getI flX10_31 ly18 rfl eX10_boxes_1 ?_
  refine r_iret rfl eX10_boxes_4 ?_
  first | exact ⟨rfl, rfl⟩ | (exfalso; omega)
theorem c_X10_hasPolynomial_18 {g : Gl} {σ : Sg} {p : Int} (h : -2147483648 ≤ p ∧ p ≤ 2147483647) (hP : 0 ≤ σ 18 0 ∧ σ 18 0 ≤ 3) : Ct g mX10_hasPolynomial [vr g 18, vi p] σ (PB (0 ≤ p ∧ p < σ 18 0) σ) := by
  refine Ct.of (by decide +kernel) (Nat.le_of_ble_eq_true rfl) ?_
  show jv g _ _ σ [(0, vr g 18), (1, vi p)] 0 []
  refine j_iload_n eX10_hasPolynomial_0 rfl ?_
  refine j_if_lt eX10_hasPolynomial_1 (by omega) (fun h1 => ?_) (fun h1 => ?_)
  · refine j_iconst 0 eX10_hasPolynomial_21 ?_
    exact r_zret (by decide) rfl eX10_hasPolynomial_22 (PB_f (by omega))
  · refine j_iload_n eX10_hasPolynomial_4 rfl ?_
    refine j_aload_n eX10_hasPolynomial_5 rfl ?_
    refine j_getI flX10_27 ly18 rfl eX10_hasPolynomial_6 ?_
    refine j_icmp_ge eX10_hasPolynomial_9 (by omega) (fun h9 => ?_) (fun h9 => ?_)
    · refine j_iconst 0 eX10_hasPolynomial_21 ?_
      exact r_zret (by decide) rfl eX10_hasPolynomial_22 (PB_f (by omega))
    · refine j_iload_n eX10_hasPolynomial_12 rfl ?_
      refine j_iconst 3 eX10_hasPolynomial_13 ?_
      refine j_icmp_ge eX10_hasPolynomial_14 (by omega) (fun h14 => ?_) (fun h14 => ?_)
      · refine j_iconst 0 eX10_hasPolynomial_21 ?_
        exact r_zret (by decide) rfl eX10_hasPolynomial_22 (PB_f (by omega))
      · refine j_iconst 1 eX10_hasPolynomial_17 ?_
        refine j_goto eX10_hasPolynomial_18 ?_
        exact r_zret (by decide) rfl eX10_hasPolynomial_22 (PB_t (by omega))
theorem c_X10_hasBox_0 {g : Gl} {σ : Sg} {b : Int} (h : -2147483648 ≤ b ∧ b ≤ 2147483647) (hB : 0 ≤ σ 0 1 ∧ σ 0 1 ≤ 3) : Ct g mX10_hasBox [vr g 0, vi b] σ (PB (0 ≤ b ∧ b < σ 0 1) σ) := by
  refine Ct.of (by decide +kernel) (Nat.le_of_ble_eq_true rfl) ?_
  show jv g _ _ σ [(0, vr g 0), (1, vi b)] 0 []
  refine j_iload_n eX10_hasBox_0 rfl ?_
  refine j_if_lt eX10_hasBox_1 (by omega) (fun h1 => ?_) (fun h1 => ?_)
  · refine j_iconst 0 eX10_hasBox_21 ?_
    exact r_zret (by decide) rfl eX10_hasBox_22 (PB_f (by omega))
  · refine j_iload_n eX10_hasBox_4 rfl ?_
    refine j_aload_n eX10_hasBox_5 rfl ?_
    refine j_getI flX10_31 ly0 rfl eX10_hasBox_6 ?_
    refine j_icmp_ge eX10_hasBox_9 (by omega) (fun h9 => ?_) (fun h9 => ?_)
    · refine j_iconst 0 eX10_hasBox_21 ?_
      exact r_zret (by decide) rfl eX10_hasBox_22 (PB_f (by omega))
    · refine j_iload_n eX10_hasBox_12 rfl ?_
      refine j_iconst 3 eX10_hasBox_13 ?_
      refine j_icmp_ge eX10_hasBox_14 (by omega) (fun h14 => ?_) (fun h14 => ?_)
      · refine j_iconst 0 eX10_hasBox_21 ?_
        exact r_zret (by decide) rfl eX10_hasBox_22 (PB_f (by omega))
      · refine j_iconst 1 eX10_hasBox_17 ?_
        refine j_goto eX10_hasBox_18 ?_
        exact r_zret (by decide) rfl eX10_hasBox_22 (PB_t (by omega))
theorem c_X10_hasCoefficient_0 {g : Gl} {σ : Sg} {p k : Int} (h : -2147483648 ≤ p ∧ p ≤ 2147483647 ∧ -2147483648 ≤ k ∧ k ≤ 2147483647) (hP : 0 ≤ σ 0 0 ∧ σ 0 0 ≤ 3) (hS : ∀ p, 0 ≤ p → p < σ 0 0 → 1 ≤ σ 1 p ∧ σ 1 p ≤ 6) : Ct g mX10_hasCoefficient [vr g 0, vi p, vi k] σ (PB (0 ≤ p ∧ p < σ 0 0 ∧ 0 ≤ k ∧ k < σ 1 p) σ) := by
  refine Ct.of (by decide +kernel) (Nat.le_of_ble_eq_true rfl) ?_
  show jv g _ _ σ [(0, vr g 0), (1, vi p), (2, vi k)] 0 []
  refine j_iload_n eX10_hasCoefficient_0 rfl ?_
  refine j_if_lt eX10_hasCoefficient_1 (by omega) (fun h1 => ?_) (fun h1 => ?_)
  · refine j_iconst 0 eX10_hasCoefficient_41 ?_
    exact r_zret (by decide) rfl eX10_hasCoefficient_42 (PB_f (by omega))
  · refine j_iload_n eX10_hasCoefficient_4 rfl ?_
    refine j_aload_n eX10_hasCoefficient_5 rfl ?_
    refine j_getI flX10_27 ly0 rfl eX10_hasCoefficient_6 ?_
    refine j_icmp_ge eX10_hasCoefficient_9 (by omega) (fun h9 => ?_) (fun h9 => ?_)
    · refine j_iconst 0 eX10_hasCoefficient_41 ?_
      exact r_zret (by decide) rfl eX10_hasCoefficient_42 (PB_f (by omega))
    · refine j_iload_n eX10_hasCoefficient_12 rfl ?_
      refine j_iconst 3 eX10_hasCoefficient_13 ?_
      refine j_icmp_ge eX10_hasCoefficient_14 (by omega) (fun h14 => ?_) (fun h14 => ?_)
      · refine j_iconst 0 eX10_hasCoefficient_41 ?_
        exact r_zret (by decide) rfl eX10_hasCoefficient_42 (PB_f (by omega))
      · refine j_iload_n eX10_hasCoefficient_17 rfl ?_
        refine j_if_lt eX10_hasCoefficient_18 (by omega) (fun h18 => ?_) (fun h18 => ?_)
        · refine j_iconst 0 eX10_hasCoefficient_41 ?_
          exact r_zret (by decide) rfl eX10_hasCoefficient_42 (PB_f (by omega))
        · refine j_iload_n eX10_hasCoefficient_21 rfl ?_
          refine j_aload_n eX10_hasCoefficient_22 rfl ?_
          refine j_getR flX10_9 ly0 rfl eX10_hasCoefficient_23 ?_
          refine j_iload_n eX10_hasCoefficient_26 rfl ?_
          refine j_iald ly1 (by omega) eX10_hasCoefficient_27 ?_
          have q := hS p (by omega) (by omega)
          refine j_icmp_ge eX10_hasCoefficient_28 (by omega) (fun h28 => ?_) (fun h28 => ?_)
          · refine j_iconst 0 eX10_hasCoefficient_41 ?_
            exact r_zret (by decide) rfl eX10_hasCoefficient_42 (PB_f (by omega))
          · refine j_iload_n eX10_hasCoefficient_31 rfl ?_
            refine j_bipush 6 eX10_hasCoefficient_32 (by decide) ?_
            refine j_icmp_ge eX10_hasCoefficient_34 (by omega) (fun h34 => ?_) (fun h34 => ?_)
            · refine j_iconst 0 eX10_hasCoefficient_41 ?_
              exact r_zret (by decide) rfl eX10_hasCoefficient_42 (PB_f (by omega))
            · refine j_iconst 1 eX10_hasCoefficient_37 ?_
              refine j_goto eX10_hasCoefficient_38 ?_
              exact r_zret (by decide) rfl eX10_hasCoefficient_42 (PB_t (by omega))
theorem c_X10_degree_0 {g : Gl} {σ : Sg} {p : Int} (vp : 0 ≤ p ∧ p < σ 0 0) (hP : 0 ≤ σ 0 0 ∧ σ 0 0 ≤ 3) : Ct g mX10_degree [vr g 0, vi p] σ (PE (σ 1 p - 1) σ) := by
  refine Ct.of (by decide +kernel) (Nat.le_of_ble_eq_true rfl) ?_
  show jv g _ _ σ [(0, vr g 0), (1, vi p)] 0 []
  refine j_aload_n eX10_degree_0 rfl ?_
  refine j_iload_n eX10_degree_1 rfl ?_
  refine j_cV1 zX10_hasPolynomial lkX10_34 ⟨Nat.le_of_ble_eq_true rfl, Nat.le_of_ble_eq_true rfl⟩ ly0 rfl rfl (c_X10_hasPolynomial_0 (by omega) (by omega)) (Nat.le_of_ble_eq_true rfl) eX10_degree_2 (k_B (fun h2 => ?_) (fun h2 => ?_))
  · refine j_ifeq_1 eX10_degree_5 ?_
    refine j_aload_n eX10_degree_8 rfl ?_
    refine j_getR flX10_9 ly0 rfl eX10_degree_9 ?_
    refine j_iload_n eX10_degree_12 rfl ?_
    refine j_iald ly1 (by omega) eX10_degree_13 ?_
    refine j_iconst 1 eX10_degree_14 ?_
    refine j_isub eX10_degree_15 ?_
    refine j_goto eX10_degree_16 ?_
    refine r_iret rfl eX10_degree_21 ?_
    first | exact ⟨rfl, rfl⟩ | (exfalso; omega)
  · refine j_ifeq_0 eX10_degree_5 ?_
    refine j_bipush (-9) eX10_degree_19 (by decide) ?_
    refine r_iret rfl eX10_degree_21 ?_
    first | exact ⟨rfl, rfl⟩ | (exfalso; omega)
theorem c_X10_coefficient_0 {g : Gl} {σ : Sg} {p k : Int} (vp : 0 ≤ p ∧ p < σ 0 0) (vk : 0 ≤ k ∧ k < σ 1 p) (hP : 0 ≤ σ 0 0 ∧ σ 0 0 ≤ 3) (hS : ∀ p, 0 ≤ p → p < σ 0 0 → 1 ≤ σ 1 p ∧ σ 1 p ≤ 6) : Ct g mX10_coefficient [vr g 0, vi p, vi k] σ (PE (σ 2 (p * 6 + k)) σ) := by
  refine Ct.of (by decide +kernel) (Nat.le_of_ble_eq_true rfl) ?_
  show jv g _ _ σ [(0, vr g 0), (1, vi p), (2, vi k)] 0 []
  have q := hS p (by omega) (by omega)
  refine j_aload_n eX10_coefficient_0 rfl ?_
  refine j_iload_n eX10_coefficient_1 rfl ?_
  refine j_iload_n eX10_coefficient_2 rfl ?_
  refine j_cV2 zX10_hasCoefficient lkX10_38 ⟨Nat.le_of_ble_eq_true rfl, Nat.le_of_ble_eq_true rfl⟩ ly0 rfl rfl (c_X10_hasCoefficient_0 (by omega) (by omega) hS) (Nat.le_of_ble_eq_true rfl) eX10_coefficient_3 (k_B (fun h3 => ?_) (fun h3 => ?_))
  · refine j_ifeq_1 eX10_coefficient_6 ?_
    refine j_aload_n eX10_coefficient_9 rfl ?_
    refine j_getR flX10_15 ly0 rfl eX10_coefficient_10 ?_
    refine j_iload_n eX10_coefficient_13 rfl ?_
    refine j_bipush 6 eX10_coefficient_14 (by decide) ?_
    refine j_imul eX10_coefficient_16 ?_
    refine j_iload_n eX10_coefficient_17 rfl ?_
    refine j_iadd eX10_coefficient_18 ?_
    refine j_iald ly2 (by omega) eX10_coefficient_19 ?_
    refine j_goto eX10_coefficient_20 ?_
    refine r_iret rfl eX10_coefficient_24 ?_
    first | exact ⟨rfl, rfl⟩ | (exfalso; omega)
  · refine j_ifeq_0 eX10_coefficient_6 ?_
    refine j_iconst 0 eX10_coefficient_23 ?_
    refine r_iret rfl eX10_coefficient_24 ?_
    first | exact ⟨rfl, rfl⟩ | (exfalso; omega)
theorem c_X10_wanted_0 {g : Gl} {σ : Sg} {p : Int} (vp : 0 ≤ p ∧ p < σ 0 0) (hP : 0 ≤ σ 0 0 ∧ σ 0 0 ≤ 3) : Ct g mX10_wanted [vr g 0, vi p] σ (PE (σ 3 p) σ) := by
  refine Ct.of (by decide +kernel) (Nat.le_of_ble_eq_true rfl) ?_
  show jv g _ _ σ [(0, vr g 0), (1, vi p)] 0 []
  refine j_aload_n eX10_wanted_0 rfl ?_
  refine j_iload_n eX10_wanted_1 rfl ?_
  refine j_cV1 zX10_hasPolynomial lkX10_34 ⟨Nat.le_of_ble_eq_true rfl, Nat.le_of_ble_eq_true rfl⟩ ly0 rfl rfl (c_X10_hasPolynomial_0 (by omega) (by omega)) (Nat.le_of_ble_eq_true rfl) eX10_wanted_2 (k_B (fun h2 => ?_) (fun h2 => ?_))
  · refine j_ifeq_1 eX10_wanted_5 ?_
    refine j_aload_n eX10_wanted_8 rfl ?_
    refine j_getR flX10_18 ly0 rfl eX10_wanted_9 ?_
    refine j_iload_n eX10_wanted_12 rfl ?_
    refine j_iald ly3 (by omega) eX10_wanted_13 ?_
    refine j_goto eX10_wanted_14 ?_
    refine r_iret rfl eX10_wanted_18 ?_
    first | exact ⟨rfl, rfl⟩ | (exfalso; omega)
  · refine j_ifeq_0 eX10_wanted_5 ?_
    refine j_iconst 0 eX10_wanted_17 ?_
    refine r_iret rfl eX10_wanted_18 ?_
    first | exact ⟨rfl, rfl⟩ | (exfalso; omega)
theorem c_X10_lower_0 {g : Gl} {σ : Sg} {b : Int} (vb : 0 ≤ b ∧ b < σ 0 1) (hB : 0 ≤ σ 0 1 ∧ σ 0 1 ≤ 3) : Ct g mX10_lower [vr g 0, vi b] σ (PE (σ 4 b) σ) := by
  refine Ct.of (by decide +kernel) (Nat.le_of_ble_eq_true rfl) ?_
  show jv g _ _ σ [(0, vr g 0), (1, vi b)] 0 []
  refine j_aload_n eX10_lower_0 rfl ?_
  refine j_iload_n eX10_lower_1 rfl ?_
  refine j_cV1 zX10_hasBox lkX10_42 ⟨Nat.le_of_ble_eq_true rfl, Nat.le_of_ble_eq_true rfl⟩ ly0 rfl rfl (c_X10_hasBox_0 (by omega) (by omega)) (Nat.le_of_ble_eq_true rfl) eX10_lower_2 (k_B (fun h2 => ?_) (fun h2 => ?_))
  · refine j_ifeq_1 eX10_lower_5 ?_
    refine j_aload_n eX10_lower_8 rfl ?_
    refine j_getR flX10_21 ly0 rfl eX10_lower_9 ?_
    refine j_iload_n eX10_lower_12 rfl ?_
    refine j_iald ly4 (by omega) eX10_lower_13 ?_
    refine j_goto eX10_lower_14 ?_
    refine r_iret rfl eX10_lower_18 ?_
    first | exact ⟨rfl, rfl⟩ | (exfalso; omega)
  · refine j_ifeq_0 eX10_lower_5 ?_
    refine j_iconst 0 eX10_lower_17 ?_
    refine r_iret rfl eX10_lower_18 ?_
    first | exact ⟨rfl, rfl⟩ | (exfalso; omega)
theorem c_X10_upper_0 {g : Gl} {σ : Sg} {b : Int} (vb : 0 ≤ b ∧ b < σ 0 1) (hB : 0 ≤ σ 0 1 ∧ σ 0 1 ≤ 3) : Ct g mX10_upper [vr g 0, vi b] σ (PE (σ 5 b) σ) := by
  refine Ct.of (by decide +kernel) (Nat.le_of_ble_eq_true rfl) ?_
  show jv g _ _ σ [(0, vr g 0), (1, vi b)] 0 []
  refine j_aload_n eX10_upper_0 rfl ?_
  refine j_iload_n eX10_upper_1 rfl ?_
  refine j_cV1 zX10_hasBox lkX10_42 ⟨Nat.le_of_ble_eq_true rfl, Nat.le_of_ble_eq_true rfl⟩ ly0 rfl rfl (c_X10_hasBox_0 (by omega) (by omega)) (Nat.le_of_ble_eq_true rfl) eX10_upper_2 (k_B (fun h2 => ?_) (fun h2 => ?_))
  · refine j_ifeq_1 eX10_upper_5 ?_
    refine j_aload_n eX10_upper_8 rfl ?_
    refine j_getR flX10_24 ly0 rfl eX10_upper_9 ?_
    refine j_iload_n eX10_upper_12 rfl ?_
    refine j_iald ly5 (by omega) eX10_upper_13 ?_
    refine j_goto eX10_upper_14 ?_
    refine r_iret rfl eX10_upper_18 ?_
    first | exact ⟨rfl, rfl⟩ | (exfalso; omega)
  · refine j_ifeq_0 eX10_upper_5 ?_
    refine j_iconst 0 eX10_upper_17 ?_
    refine r_iret rfl eX10_upper_18 ?_
    first | exact ⟨rfl, rfl⟩ | (exfalso; omega)
theorem c_X10_placeBehind_0 {g : Gl} {σ : Sg} {b n : Int} (vb : 0 ≤ b ∧ b < σ 0 1) (hB : 0 ≤ σ 0 1 ∧ σ 0 1 ≤ 3) : Ct g mX10_placeBehind [vr g 0, vi b, vi n] σ (PE (σ 4 b * 64 + (σ 5 b - σ 4 b) * n) σ) := by
  refine Ct.of (by decide +kernel) (Nat.le_of_ble_eq_true rfl) ?_
  show jv g _ _ σ [(0, vr g 0), (1, vi b), (2, vi n)] 0 []
  refine j_iload_n eX10_placeBehind_0 rfl ?_
  refine j_if_lt eX10_placeBehind_1 (by omega) (fun h1 => ?_) (fun h1 => ?_)
  · refine j_iconst 0 eX10_placeBehind_9 ?_
    refine r_iret rfl eX10_placeBehind_10 ?_
    first | exact ⟨rfl, rfl⟩ | (exfalso; omega)
  · refine j_iload_n eX10_placeBehind_4 rfl ?_
    refine j_iconst 3 eX10_placeBehind_5 ?_
    refine j_icmp_lt eX10_placeBehind_6 (by omega) (fun h6 => ?_) (fun h6 => ?_)
    · refine j_aload_n eX10_placeBehind_11 rfl ?_
      refine j_getR flX10_21 ly0 rfl eX10_placeBehind_12 ?_
      refine j_iload_n eX10_placeBehind_15 rfl ?_
      refine j_iald ly4 (by omega) eX10_placeBehind_16 ?_
      refine j_bipush 64 eX10_placeBehind_17 (by decide) ?_
      refine j_imul eX10_placeBehind_19 ?_
      refine j_aload_n eX10_placeBehind_20 rfl ?_
      refine j_getR flX10_24 ly0 rfl eX10_placeBehind_21 ?_
      refine j_iload_n eX10_placeBehind_24 rfl ?_
      refine j_iald ly5 (by omega) eX10_placeBehind_25 ?_
      refine j_aload_n eX10_placeBehind_26 rfl ?_
      refine j_getR flX10_21 ly0 rfl eX10_placeBehind_27 ?_
      refine j_iload_n eX10_placeBehind_30 rfl ?_
      refine j_iald ly4 (by omega) eX10_placeBehind_31 ?_
      refine j_isub eX10_placeBehind_32 ?_
      refine j_iload_n eX10_placeBehind_33 rfl ?_
      refine j_imul eX10_placeBehind_34 ?_
      refine j_iadd eX10_placeBehind_35 ?_
      refine r_iret rfl eX10_placeBehind_36 ?_
      first | exact ⟨rfl, rfl⟩ | (exfalso; omega)
    · refine j_iconst 0 eX10_placeBehind_9 ?_
      refine r_iret rfl eX10_placeBehind_10 ?_
      first | exact ⟨rfl, rfl⟩ | (exfalso; omega)
def hn (f : Int → Int) (x : Int) : Nat → Int → Int
  | 0, s => s
  | m + 1, s => hn f x m (s * x + f m)
theorem c_X10_putCoefficient_0 {g : Gl} {σ : Sg} {p k v : Int} (vp : 0 ≤ p ∧ p < σ 0 0) (vk : 0 ≤ k ∧ k < σ 1 p) (hP : 0 ≤ σ 0 0 ∧ σ 0 0 ≤ 3) (hS : ∀ p, 0 ≤ p → p < σ 0 0 → 1 ≤ σ 1 p ∧ σ 1 p ≤ 6) : Ct g mX10_putCoefficient [vr g 0, vi p, vi k, vi v] σ (PV (fun σ' => σ' = up σ 2 (p * 6 + k) v)) := by
  refine Ct.of (by decide +kernel) (Nat.le_of_ble_eq_true rfl) ?_
  show jv g _ _ σ [(0, vr g 0), (1, vi p), (2, vi k), (3, vi v)] 0 []
  have q := hS p (by omega) (by omega)
  refine j_aload_n eX10_putCoefficient_0 rfl ?_
  refine j_iload_n eX10_putCoefficient_1 rfl ?_
  refine j_iload_n eX10_putCoefficient_2 rfl ?_
  refine j_cV2 zX10_hasCoefficient lkX10_38 ⟨Nat.le_of_ble_eq_true rfl, Nat.le_of_ble_eq_true rfl⟩ ly0 rfl rfl (c_X10_hasCoefficient_0 (by omega) (by omega) hS) (Nat.le_of_ble_eq_true rfl) eX10_putCoefficient_3 (k_B (fun h3 => ?_) (fun h3 => ?_))
  · refine j_ifeq_1 eX10_putCoefficient_6 ?_
    refine j_aload_n eX10_putCoefficient_9 rfl ?_
    refine j_getR flX10_15 ly0 rfl eX10_putCoefficient_10 ?_
    refine j_iload_n eX10_putCoefficient_13 rfl ?_
    refine j_bipush 6 eX10_putCoefficient_14 (by decide) ?_
    refine j_imul eX10_putCoefficient_16 ?_
    refine j_iload_n eX10_putCoefficient_17 rfl ?_
    refine j_iadd eX10_putCoefficient_18 ?_
    refine j_iload_n eX10_putCoefficient_19 rfl ?_
    refine j_iast ly2 (by omega) eX10_putCoefficient_20 ?_
    refine r_vret rfl eX10_putCoefficient_21 ?_
    first | exact rfl | (exfalso; omega)
  · refine j_ifeq_0 eX10_putCoefficient_6 ?_
    refine r_vret rfl eX10_putCoefficient_21 ?_
    first | exact rfl | (exfalso; omega)
theorem c_X10_putBox_0 {g : Gl} {σ : Sg} {b l u : Int} (vb : 0 ≤ b ∧ b < σ 0 1) (hB : 0 ≤ σ 0 1 ∧ σ 0 1 ≤ 3) : Ct g mX10_putBox [vr g 0, vi b, vi l, vi u] σ (PV (fun σ' => σ' = up (up σ 4 b l) 5 b u)) := by
  refine Ct.of (by decide +kernel) (Nat.le_of_ble_eq_true rfl) ?_
  show jv g _ _ σ [(0, vr g 0), (1, vi b), (2, vi l), (3, vi u)] 0 []
  refine j_aload_n eX10_putBox_0 rfl ?_
  refine j_iload_n eX10_putBox_1 rfl ?_
  refine j_cV1 zX10_hasBox lkX10_42 ⟨Nat.le_of_ble_eq_true rfl, Nat.le_of_ble_eq_true rfl⟩ ly0 rfl rfl (c_X10_hasBox_0 (by omega) (by omega)) (Nat.le_of_ble_eq_true rfl) eX10_putBox_2 (k_B (fun h2 => ?_) (fun h2 => ?_))
  · refine j_ifeq_1 eX10_putBox_5 ?_
    refine j_aload_n eX10_putBox_8 rfl ?_
    refine j_getR flX10_21 ly0 rfl eX10_putBox_9 ?_
    refine j_iload_n eX10_putBox_12 rfl ?_
    refine j_iload_n eX10_putBox_13 rfl ?_
    refine j_iast ly4 (by omega) eX10_putBox_14 ?_
    refine j_aload_n eX10_putBox_15 rfl ?_
    refine j_getR flX10_24 ly0 rfl eX10_putBox_16 ?_
    refine j_iload_n eX10_putBox_19 rfl ?_
    refine j_iload_n eX10_putBox_20 rfl ?_
    refine j_iast ly5 (by omega) eX10_putBox_21 ?_
    refine r_vret rfl eX10_putBox_22 ?_
    first | exact rfl | (exfalso; omega)
  · refine j_ifeq_0 eX10_putBox_5 ?_
    refine r_vret rfl eX10_putBox_22 ?_
    first | exact rfl | (exfalso; omega)
theorem c_X10_want_0 {g : Gl} {σ : Sg} {p v : Int} (vp : 0 ≤ p ∧ p < σ 0 0) (hP : 0 ≤ σ 0 0 ∧ σ 0 0 ≤ 3) : Ct g mX10_want [vr g 0, vi p, vi v] σ (PV (fun σ' => σ' = up σ 3 p v)) := by
  refine Ct.of (by decide +kernel) (Nat.le_of_ble_eq_true rfl) ?_
  show jv g _ _ σ [(0, vr g 0), (1, vi p), (2, vi v)] 0 []
  refine j_aload_n eX10_want_0 rfl ?_
  refine j_iload_n eX10_want_1 rfl ?_
  refine j_cV1 zX10_hasPolynomial lkX10_34 ⟨Nat.le_of_ble_eq_true rfl, Nat.le_of_ble_eq_true rfl⟩ ly0 rfl rfl (c_X10_hasPolynomial_0 (by omega) (by omega)) (Nat.le_of_ble_eq_true rfl) eX10_want_2 (k_B (fun h2 => ?_) (fun h2 => ?_))
  · refine j_ifeq_1 eX10_want_5 ?_
    refine j_aload_n eX10_want_8 rfl ?_
    refine j_getR flX10_18 ly0 rfl eX10_want_9 ?_
    refine j_iload_n eX10_want_12 rfl ?_
    refine j_iload_n eX10_want_13 rfl ?_
    refine j_iast ly3 (by omega) eX10_want_14 ?_
    refine r_vret rfl eX10_want_15 ?_
    first | exact rfl | (exfalso; omega)
  · refine j_ifeq_0 eX10_want_5 ?_
    refine r_vret rfl eX10_want_15 ?_
    first | exact rfl | (exfalso; omega)
theorem l_X10_at_0 {g : Gl} {σ : Sg} {p x : Int} (vp : 0 ≤ p ∧ p < σ 0 0) (hP : 0 ≤ σ 0 0 ∧ σ 0 0 ≤ 3) (hS : ∀ p, 0 ≤ p → p < σ 0 0 → 1 ≤ σ 1 p ∧ σ 1 p ≤ 6) : ∀ (m : Nat) (s : Int), (m : Int) ≤ σ 1 p → jv g mX10_at (Fm g (PE (hn (fun k => σ 2 (p * 6 + k)) x m s) σ)) σ [(0, vr g 0), (1, vi p), (2, vi x), (3, vi s), (4, vi ((m : Int) - 1))] 9 [] := by
  have q := hS p (by omega) (by omega)
  intro m
  induction m with
  | zero =>
    intro s hm
    refine j_iload eX10_at_9 rfl ?_
    refine j_if_lt eX10_at_11 (by omega) (fun h11 => ?_) (fun h11 => absurd (show ((0 : Nat) : Int) - 1 < 0 by omega) h11)
    refine j_iload_n eX10_at_32 rfl ?_
    exact r_iret rfl eX10_at_33 ⟨rfl, rfl⟩
  | succ m ih =>
    intro s hm
    refine j_iload eX10_at_9 rfl ?_
    refine j_if_lt eX10_at_11 (by omega) (fun h11 => absurd h11 (by omega)) (fun h11 => ?_)
    refine j_iload_n eX10_at_14 rfl ?_
    refine j_iload_n eX10_at_15 rfl ?_
    refine j_imul eX10_at_16 ?_
    refine j_aload_n eX10_at_17 rfl ?_
    refine j_iload_n eX10_at_18 rfl ?_
    refine j_iload eX10_at_19 rfl ?_
    refine j_cV2 zX10_coefficient lkX10_49 ⟨Nat.le_of_ble_eq_true rfl, Nat.le_of_ble_eq_true rfl⟩ ly0 rfl rfl (c_X10_coefficient_0 (by omega) (by omega) (by omega) hS) (Nat.le_of_ble_eq_true rfl) eX10_at_21 (k_E ?_)
    refine j_iadd eX10_at_24 ?_
    refine j_istore_n eX10_at_25 (Nat.le_of_ble_eq_true rfl) ?_
    refine j_iinc eX10_at_26 rfl (Nat.le_of_ble_eq_true rfl) ?_
    refine j_goto eX10_at_29 ?_
    have e1 : (((m + 1 : Nat) : Int) - 1) + -1 = (m : Int) - 1 := by omega
    have e2 : (((m + 1 : Nat) : Int) - 1) = (m : Int) := by omega
    rw [e1, e2]
    refine jv_lv ?_ (ih _ (by omega))
    exact lvC rfl (lvC rfl (lvC rfl (lvC rfl (lvC rfl lv0))))
theorem c_X10_at_0 {g : Gl} {σ : Sg} {p x : Int} (vp : 0 ≤ p ∧ p < σ 0 0) (hP : 0 ≤ σ 0 0 ∧ σ 0 0 ≤ 3) (hS : ∀ p, 0 ≤ p → p < σ 0 0 → 1 ≤ σ 1 p ∧ σ 1 p ≤ 6) : Ct g mX10_at [vr g 0, vi p, vi x] σ (PE (hn (fun k => σ 2 (p * 6 + k)) x (σ 1 p).toNat 0) σ) := by
  refine Ct.of (by decide +kernel) (Nat.le_of_ble_eq_true rfl) ?_
  show jv g _ _ σ [(0, vr g 0), (1, vi p), (2, vi x)] 0 []
  have q := hS p (by omega) (by omega)
  refine j_iconst 0 eX10_at_0 ?_
  refine j_istore_n eX10_at_1 (Nat.le_of_ble_eq_true rfl) ?_
  refine j_aload_n eX10_at_2 rfl ?_
  refine j_iload_n eX10_at_3 rfl ?_
  refine j_cV1 zX10_degree lkX10_45 ⟨Nat.le_of_ble_eq_true rfl, Nat.le_of_ble_eq_true rfl⟩ ly0 rfl rfl (c_X10_degree_0 (by omega) (by omega)) (Nat.le_of_ble_eq_true rfl) eX10_at_4 (k_E ?_)
  refine j_istore eX10_at_7 (Nat.le_of_ble_eq_true rfl) ?_
  refine jv_lv ?_ (l_X10_at_0 vp hP hS (σ 1 p).toNat 0 (by omega))
  have e1 : σ 1 p - 1 = (((σ 1 p).toNat : Nat) : Int) - 1 := by omega
  rw [e1]
  exact lvC rfl (lvC rfl (lvC rfl (lvC rfl (lvC rfl lv0))))
theorem c_X7_told {g : Gl} {σ : Sg} : Ct g mX7_told [vr g 27] σ (PR g 0 σ) := by
  refine Ct.of (by decide +kernel) (Nat.le_of_ble_eq_true rfl) ?_
  show jv g _ _ σ [(0, vr g 27)] 0 []
  refine j_aload_n eX7_told_0 rfl ?_
  refine j_getR flX7_9 ly27 rfl eX7_told_1 ?_
  exact r_aret rfl eX7_told_4
theorem c_X7_takenPolynomial {g : Gl} {σ : Sg} : Ct g mX7_takenPolynomial [vr g 27] σ (PE (σ 27 1) σ) := by
  refine Ct.of (by decide +kernel) (Nat.le_of_ble_eq_true rfl) ?_
  show jv g _ _ σ [(0, vr g 27)] 0 []
  refine j_aload_n eX7_takenPolynomial_0 rfl ?_
  refine j_getI flX7_15 ly27 rfl eX7_takenPolynomial_1 ?_
  refine r_iret rfl eX7_takenPolynomial_4 ?_
  first | exact ⟨rfl, rfl⟩ | (exfalso; omega)
theorem c_X7_takenBox {g : Gl} {σ : Sg} : Ct g mX7_takenBox [vr g 27] σ (PE (σ 27 2) σ) := by
  refine Ct.of (by decide +kernel) (Nat.le_of_ble_eq_true rfl) ?_
  show jv g _ _ σ [(0, vr g 27)] 0 []
  refine j_aload_n eX7_takenBox_0 rfl ?_
  refine j_getI flX7_19 ly27 rfl eX7_takenBox_1 ?_
  refine r_iret rfl eX7_takenBox_4 ?_
  first | exact ⟨rfl, rfl⟩ | (exfalso; omega)
theorem c_X7_take {g : Gl} {σ : Sg} {p b : Int} : Ct g mX7_take [vr g 27, vi p, vi b] σ (PV (fun σ' => σ' = up (up σ 27 1 p) 27 2 b)) := by
  refine Ct.of (by decide +kernel) (Nat.le_of_ble_eq_true rfl) ?_
  show jv g _ _ σ [(0, vr g 27), (1, vi p), (2, vi b)] 0 []
  refine j_aload_n eX7_take_0 rfl ?_
  refine j_iload_n eX7_take_1 rfl ?_
  refine j_putI fpX7_15 ly27 rfl eX7_take_2 ?_
  refine j_aload_n eX7_take_5 rfl ?_
  refine j_iload_n eX7_take_6 rfl ?_
  refine j_putI fpX7_19 ly27 rfl eX7_take_7 ?_
  refine r_vret rfl eX7_take_10 ?_
  first | exact rfl | (exfalso; omega)
theorem c_X7_hasBox {g : Gl} {σ : Sg} (h : -2147483648 ≤ σ 27 2 ∧ σ 27 2 ≤ 2147483647) (hB : 0 ≤ σ 0 1 ∧ σ 0 1 ≤ 3) : Ct g mX7_hasBox [vr g 27] σ (PB (0 ≤ σ 27 2 ∧ σ 27 2 < σ 0 1) σ) := by
  refine Ct.of (by decide +kernel) (Nat.le_of_ble_eq_true rfl) ?_
  show jv g _ _ σ [(0, vr g 27)] 0 []
  refine j_aload_n eX7_hasBox_0 rfl ?_
  refine j_getR flX7_9 ly27 rfl eX7_hasBox_1 ?_
  refine j_aload_n eX7_hasBox_4 rfl ?_
  refine j_getI flX7_19 ly27 rfl eX7_hasBox_5 ?_
  refine j_cV1 zX10_hasBox lkX7_22 ⟨Nat.le_of_ble_eq_true rfl, Nat.le_of_ble_eq_true rfl⟩ ly0 rfl rfl (c_X10_hasBox_0 (by omega) (by omega)) (Nat.le_of_ble_eq_true rfl) eX7_hasBox_8 (k_B (fun h8 => ?_) (fun h8 => ?_))
  · exact r_zret (by decide) rfl eX7_hasBox_11 (PB_t (by first | omega | assumption))
  · exact r_zret (by decide) rfl eX7_hasBox_11 (PB_f (by first | omega | assumption))
theorem c_X7_isThere {g : Gl} {σ : Sg} (h : -2147483648 ≤ σ 27 1 ∧ σ 27 1 ≤ 2147483647 ∧ -2147483648 ≤ σ 27 2 ∧ σ 27 2 ≤ 2147483647) (hP : 0 ≤ σ 0 0 ∧ σ 0 0 ≤ 3) (hB : 0 ≤ σ 0 1 ∧ σ 0 1 ≤ 3) : Ct g mX7_isThere [vr g 27] σ (PB ((0 ≤ σ 27 1 ∧ σ 27 1 < σ 0 0) ∧ 0 ≤ σ 27 2 ∧ σ 27 2 < σ 0 1) σ) := by
  refine Ct.of (by decide +kernel) (Nat.le_of_ble_eq_true rfl) ?_
  show jv g _ _ σ [(0, vr g 27)] 0 []
  refine j_aload_n eX7_isThere_0 rfl ?_
  refine j_getR flX7_9 ly27 rfl eX7_isThere_1 ?_
  refine j_aload_n eX7_isThere_4 rfl ?_
  refine j_getI flX7_15 ly27 rfl eX7_isThere_5 ?_
  refine j_cV1 zX10_hasPolynomial lkX7_28 ⟨Nat.le_of_ble_eq_true rfl, Nat.le_of_ble_eq_true rfl⟩ ly0 rfl rfl (c_X10_hasPolynomial_0 (by omega) (by omega)) (Nat.le_of_ble_eq_true rfl) eX7_isThere_8 (k_B (fun h8 => ?_) (fun h8 => ?_))
  · refine j_ifeq_1 eX7_isThere_11 ?_
    refine j_aload_n eX7_isThere_14 rfl ?_
    refine j_cV0 zX7_hasBox lkX7_31 ⟨Nat.le_of_ble_eq_true rfl, Nat.le_of_ble_eq_true rfl⟩ ly27 rfl rfl (c_X7_hasBox (by omega) (by omega)) (Nat.le_of_ble_eq_true rfl) eX7_isThere_15 (k_B (fun h15 => ?_) (fun h15 => ?_))
    · refine j_ifeq_1 eX7_isThere_18 ?_
      refine j_iconst 1 eX7_isThere_21 ?_
      refine j_goto eX7_isThere_22 ?_
      exact r_zret (by decide) rfl eX7_isThere_26 (PB_t (by omega))
    · refine j_ifeq_0 eX7_isThere_18 ?_
      refine j_iconst 0 eX7_isThere_25 ?_
      exact r_zret (by decide) rfl eX7_isThere_26 (PB_f (by omega))
  · refine j_ifeq_0 eX7_isThere_11 ?_
    refine j_iconst 0 eX7_isThere_25 ?_
    exact r_zret (by decide) rfl eX7_isThere_26 (PB_f (by omega))
