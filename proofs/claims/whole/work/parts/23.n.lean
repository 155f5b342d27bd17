theorem p64_b {n : Int} (h : 0 ≤ n ∧ n ≤ 5) : 1 ≤ (64 : Int) ^ n.toNat ∧ (64 : Int) ^ n.toNat ≤ 1073741824 := by
  rcases (show n = 0 ∨ n = 1 ∨ n = 2 ∨ n = 3 ∨ n = 4 ∨ n = 5 by omega) with rfl | rfl | rfl | rfl | rfl | rfl <;> decide
theorem bw_b {b u : Int} (hb : 1 ≤ b ∧ b ≤ 60) (hu : 1 ≤ u ∧ u ≤ 1073741824) : 0 < b * u ∧ b * u < 281474976710656 := by
  have h1 : 0 < b * u := Int.mul_pos (by omega) (by omega)
  have h2 : b * u ≤ b * 1073741824 := Int.mul_le_mul_of_nonneg_left hu.2 (by omega)
  omega
theorem trP_b (fg sl sh lo hi : Int → Int) : ∀ (t : Nat) (a : Int) (L : List Int), L.length + t ≤ 127 → -8 ≤ (trP fg sl sh lo hi t a L).1 ∧ (trP fg sl sh lo hi t a L).1 ≤ 127 ∧ ((trP fg sl sh lo hi t a L).1 ≠ -7 → (trP fg sl sh lo hi t a L).1 ≠ -8 → (trP fg sl sh lo hi t a L).1 = (trP fg sl sh lo hi t a L).2.2.length) := by
  intro t
  induction t with
  | zero => intro a L h; exact ⟨by show -8 ≤ (L.length : Int); omega, by show (L.length : Int) ≤ 127; omega, fun _ _ => rfl⟩
  | succ t ih =>
    intro a L h
    have e1 := fun b x => ih b (L ++ [x]) (by rw [List.length_append]; show L.length + 1 + t ≤ 127; omega)
    unfold trP
    split
    · exact ⟨by show -8 ≤ (L.length : Int); omega, by show (L.length : Int) ≤ 127; omega, fun _ _ => rfl⟩
    · split
      · exact e1 _ _
      · split
        · exact ⟨by show (-8 : Int) ≤ -7; omega, by show (-7 : Int) ≤ 127; omega, fun z => absurd rfl z⟩
        · split
          · exact ⟨by show (-8 : Int) ≤ -7; omega, by show (-7 : Int) ≤ 127; omega, fun z => absurd rfl z⟩
          · split
            · exact ⟨by show (-8 : Int) ≤ -8; omega, by show (-8 : Int) ≤ 127; omega, fun _ z => absurd rfl z⟩
            · exact e1 _ _
theorem trP_w {fg sl sh lo hi : Int → Int} (hlo : ∀ a, 1 ≤ a ∧ a ≤ 127 → -320 ≤ lo a ∧ lo a ≤ 320) (hhi : ∀ a, 1 ≤ a ∧ a ≤ 127 → -320 ≤ hi a ∧ hi a ≤ 320) : ∀ (t : Nat) (a : Int) (L : List Int), (a = 0 ∨ (1 ≤ a ∧ a ≤ 127)) → -320 ≤ (trP fg sl sh lo hi t a L).2.1 ∧ (trP fg sl sh lo hi t a L).2.1 ≤ 320 := by
  intro t
  induction t with
  | zero => intro a L h; exact ⟨by show (-320 : Int) ≤ 0; omega, by show (0 : Int) ≤ 320; omega⟩
  | succ t ih =>
    intro a L h
    unfold trP
    split
    · exact ⟨by show (-320 : Int) ≤ 0; omega, by show (0 : Int) ≤ 320; omega⟩
    · have na : 1 ≤ a ∧ a ≤ 127 := by omega
      have w := rk_of na
      split
      · exact ih _ _ (by by_cases z : bhd a = 0; exact Or.inl z; exact Or.inr (by have := w.2.2.2.2 z; omega))
      · split
        · exact hlo a na
        · split
          · exact hhi a na
          · split
            · exact ⟨by show (-320 : Int) ≤ 0; omega, by show (0 : Int) ≤ 320; omega⟩
            · exact ih _ _ (Or.inr (by omega))
theorem c_X11_control {g : Gl} {σ : Sg} {a r i w : Int} (h : -2147483648 ≤ a ∧ a ≤ 2147483647 ∧ -2147483648 ≤ r ∧ r ≤ 2147483647 ∧ -2147483648 ≤ i ∧ i ≤ 2147483647 ∧ -2147483648 ≤ w ∧ w ≤ 2147483647) (hX : TX σ) (hk : (0 ≤ σ 27 1 ∧ σ 27 1 ≤ 2) ∧ 0 ≤ σ 27 2 ∧ σ 27 2 ≤ 2) : Ct g mX11_control [vr g 24, vi a, vi r, vi i, vi w] σ (PL (fun v σ' => scX σ σ' ∧ ((((1 ≤ a ∧ a ≤ 127) ∧ (0 ≤ r ∧ r ≤ 2) ∧ (0 ≤ w ∧ w ≤ 1) ∧ ((0 ≤ σ 27 1 ∧ σ 27 1 < σ 0 0) ∧ 0 ≤ σ 27 2 ∧ σ 27 2 < σ 0 1) ∧ 0 ≤ i ∧ i ≤ nX σ + r) ∧ v = FR (NX σ a r.toNat i) (bnZ (nX σ + r) i * 64 ^ (nX σ).toNat) w) ∨ (¬ ((1 ≤ a ∧ a ≤ 127) ∧ (0 ≤ r ∧ r ≤ 2) ∧ (0 ≤ w ∧ w ≤ 1) ∧ ((0 ≤ σ 27 1 ∧ σ 27 1 < σ 0 0) ∧ 0 ≤ σ 27 2 ∧ σ 27 2 < σ 0 1) ∧ 0 ≤ i ∧ i ≤ nX σ + r) ∧ v = -4611686018427387904)))) := by
  refine Ct.of (by decide +kernel) (Nat.le_of_ble_eq_true rfl) ?_
  show jv g _ _ σ [(0, vr g 24), (1, vi a), (2, vi r), (3, vi i), (4, vi w)] 0 []
  have hP := hX.1
  have hB := hX.2.1
  have hS := hX.2.2.1
  refine j_iload_n eX11_control_0 rfl ?_
  refine j_cS1 zX11_isNode lkX11_198 ⟨Nat.le_of_ble_eq_true rfl, Nat.le_of_ble_eq_true rfl⟩ (c_X11_isNode (by omega)) (Nat.le_of_ble_eq_true rfl) eX11_control_1 (k_B (fun h1 => ?_) (fun h1 => ?_))
  · refine j_ifeq_1 eX11_control_4 ?_
    refine j_iload_n eX11_control_7 rfl ?_
    refine j_iconst 0 eX11_control_8 ?_
    refine j_iconst 2 eX11_control_9 ?_
    refine j_cS3 zX11_isWithin lkX11_92 ⟨Nat.le_of_ble_eq_true rfl, Nat.le_of_ble_eq_true rfl⟩ (c_X11_isWithin (by omega)) (Nat.le_of_ble_eq_true rfl) eX11_control_10 (k_B (fun h10 => ?_) (fun h10 => ?_))
    · refine j_ifeq_1 eX11_control_13 ?_
      refine j_iload eX11_control_16 rfl ?_
      refine j_iconst 0 eX11_control_18 ?_
      refine j_iconst 1 eX11_control_19 ?_
      refine j_cS3 zX11_isWithin lkX11_92 ⟨Nat.le_of_ble_eq_true rfl, Nat.le_of_ble_eq_true rfl⟩ (c_X11_isWithin (by omega)) (Nat.le_of_ble_eq_true rfl) eX11_control_20 (k_B (fun h20 => ?_) (fun h20 => ?_))
      · refine j_ifeq_1 eX11_control_23 ?_
        refine j_aload_n eX11_control_26 rfl ?_
        refine j_getR flX11_28 ly24 rfl eX11_control_27 ?_
        refine j_cV0 zX7_isThere lkX11_201 ⟨Nat.le_of_ble_eq_true rfl, Nat.le_of_ble_eq_true rfl⟩ ly27 rfl rfl (c_X7_isThere (by omega) (by exact hP) (by exact hB)) (Nat.le_of_ble_eq_true rfl) eX11_control_30 (k_B (fun h30 => ?_) (fun h30 => ?_))
        · refine j_ifne_1 eX11_control_33 ?_
          have hV : VT σ := h30
          have q1 := hX.2.2.1 (σ 27 1) hV.1.1 hV.1.2
          have en : nX σ = σ 1 (σ 27 1) - 1 := rfl
          have p6 := p64_b (n := nX σ) (by omega)
          refine j_iload_n eX11_control_40 rfl ?_
          refine j_iconst 0 eX11_control_41 ?_
          refine j_aload_n eX11_control_42 rfl ?_
          refine j_getR flX11_19 ly24 rfl eX11_control_43 ?_
          refine j_aload_n eX11_control_46 rfl ?_
          refine j_getR flX11_28 ly24 rfl eX11_control_47 ?_
          refine j_cV0 zX7_takenPolynomial lkX11_204 ⟨Nat.le_of_ble_eq_true rfl, Nat.le_of_ble_eq_true rfl⟩ ly27 rfl rfl (c_X7_takenPolynomial) (Nat.le_of_ble_eq_true rfl) eX11_control_50 (k_E ?_)
          refine j_cV1 zX10_degree lkX11_207 ⟨Nat.le_of_ble_eq_true rfl, Nat.le_of_ble_eq_true rfl⟩ ly0 rfl rfl (c_X10_degree_0 (by exact hV.1) (by exact hP)) (Nat.le_of_ble_eq_true rfl) eX11_control_53 (k_E ?_)
          refine j_iload_n eX11_control_56 rfl ?_
          refine j_iadd eX11_control_57 ?_
          refine j_cS3 zX11_isWithin lkX11_92 ⟨Nat.le_of_ble_eq_true rfl, Nat.le_of_ble_eq_true rfl⟩ (c_X11_isWithin (by omega)) (Nat.le_of_ble_eq_true rfl) eX11_control_58 (k_B (fun h58 => ?_) (fun h58 => ?_))
          · refine j_ifne_1 eX11_control_61 ?_
            refine j_aload_n eX11_control_68 rfl ?_
            refine j_getR flX11_60 ly24 rfl eX11_control_69 ?_
            refine j_aload_n eX11_control_72 rfl ?_
            refine j_getR flX11_28 ly24 rfl eX11_control_73 ?_
            refine j_iload_n eX11_control_76 rfl ?_
            refine j_iload_n eX11_control_77 rfl ?_
            refine j_cV3 zX4_layRaised lkX11_210 ⟨Nat.le_of_ble_eq_true rfl, Nat.le_of_ble_eq_true rfl⟩ ly35 rfl rfl (c_X4_layRaised (by exact hX) (by exact hV) (by omega) (by omega)) (Nat.le_of_ble_eq_true rfl) eX11_control_78 (k_V (fun σ78 h78 => ?_))
            have ww := h78.of (σ := σ) (fun _ _ => rfl)
            have hN := h78.N hX hV.1 hV.2 h1 (by omega)
            have hT := h78.T hX hV.1 (by omega)
            have t1 : σ78 35 1 = nX σ + r := by rw [ww.2.1]; omega
            have ni := hN i (by omega) (by omega)
            refine j_aload_n eX11_control_81 rfl ?_
            refine j_getR flX11_60 ly24 rfl eX11_control_82 ?_
            refine j_iload_n eX11_control_85 rfl ?_
            refine j_cV1 zX4_number lkX11_214 ⟨Nat.le_of_ble_eq_true rfl, Nat.le_of_ble_eq_true rfl⟩ ly35 rfl rfl (c_X4_number (by omega)) (Nat.le_of_ble_eq_true rfl) eX11_control_86 (k_EL ?_)
            refine j_aload_n eX11_control_89 rfl ?_
            refine j_getR flX11_60 ly24 rfl eX11_control_90 ?_
            refine j_iload_n eX11_control_93 rfl ?_
            refine j_cV1 zX4_below lkX11_218 ⟨Nat.le_of_ble_eq_true rfl, Nat.le_of_ble_eq_true rfl⟩ ly35 rfl rfl (c_X4_below (by exact hT) (by omega)) (Nat.le_of_ble_eq_true rfl) eX11_control_94 (k_EL ?_)
            rw [t1, ww.2.2.1, ww.2.2.2 i (by omega) (by omega)]
            have bz := bnZ_b (t := nX σ + r) (i := i) (by omega) (by omega)
            have bw := bw_b (b := bnZ (nX σ + r) i) (by omega) p6
            rw [ww.2.2.2 i (by omega) (by omega)] at ni
            refine j_iload eX11_control_97 rfl ?_
            refine j_cS3 zX11_part lkX11_221 ⟨Nat.le_of_ble_eq_true rfl, Nat.le_of_ble_eq_true rfl⟩ (c_X11_part (by omega) (by omega)) (Nat.le_of_ble_eq_true rfl) eX11_control_99 (k_EL ?_)
            refine r_lret rfl eX11_control_102 ?_
            exact ⟨fun k hk => h78.1 k (by omega) (by omega), Or.inl ⟨by omega, rfl⟩⟩
          · refine j_ifne_0 eX11_control_61 ?_
            refine j_ldc2 (-4611686018427387904) cnX11_153 eX11_control_64 ?_
            refine r_lret rfl eX11_control_67 ?_
            exact ⟨fun _ _ => rfl, Or.inr ⟨by omega, rfl⟩⟩
        · refine j_ifne_0 eX11_control_33 ?_
          refine j_ldc2 (-4611686018427387904) cnX11_153 eX11_control_36 ?_
          refine r_lret rfl eX11_control_39 ?_
          exact ⟨fun _ _ => rfl, Or.inr ⟨by omega, rfl⟩⟩
      · refine j_ifeq_0 eX11_control_23 ?_
        refine j_ldc2 (-4611686018427387904) cnX11_153 eX11_control_36 ?_
        refine r_lret rfl eX11_control_39 ?_
        exact ⟨fun _ _ => rfl, Or.inr ⟨by omega, rfl⟩⟩
    · refine j_ifeq_0 eX11_control_13 ?_
      refine j_ldc2 (-4611686018427387904) cnX11_153 eX11_control_36 ?_
      refine r_lret rfl eX11_control_39 ?_
      exact ⟨fun _ _ => rfl, Or.inr ⟨by omega, rfl⟩⟩
  · refine j_ifeq_0 eX11_control_4 ?_
    refine j_ldc2 (-4611686018427387904) cnX11_153 eX11_control_36 ?_
    refine r_lret rfl eX11_control_39 ?_
    exact ⟨fun _ _ => rfl, Or.inr ⟨by omega, rfl⟩⟩
theorem c_X11_variation {g : Gl} {σ : Sg} {a r : Int} (h : -2147483648 ≤ a ∧ a ≤ 2147483647 ∧ -2147483648 ≤ r ∧ r ≤ 2147483647) (hX : TX σ) (hk : (0 ≤ σ 27 1 ∧ σ 27 1 ≤ 2) ∧ 0 ≤ σ 27 2 ∧ σ 27 2 ≤ 2) : Ct g mX11_variation [vr g 24, vi a, vi r] σ (PI (fun v σ' => scX σ σ' ∧ ((¬ ((1 ≤ a ∧ a ≤ 127) ∧ (0 ≤ r ∧ r ≤ 2)) ∧ v = -1) ∨ ((((1 ≤ a ∧ a ≤ 127) ∧ (0 ≤ r ∧ r ≤ 2)) ∧ ¬ ((0 ≤ σ 27 1 ∧ σ 27 1 < σ 0 0) ∧ 0 ≤ σ 27 2 ∧ σ 27 2 < σ 0 1)) ∧ v = -2) ∨ ((((1 ≤ a ∧ a ≤ 127) ∧ (0 ≤ r ∧ r ≤ 2)) ∧ ((0 ≤ σ 27 1 ∧ σ 27 1 < σ 0 0) ∧ 0 ≤ σ 27 2 ∧ σ 27 2 < σ 0 1)) ∧ v = vch (NX σ a r.toNat) (nX σ + r + 1).toNat 0 0 0)))) := by
  refine Ct.of (by decide +kernel) (Nat.le_of_ble_eq_true rfl) ?_
  show jv g _ _ σ [(0, vr g 24), (1, vi a), (2, vi r)] 0 []
  have hP := hX.1
  have hB := hX.2.1
  have hS := hX.2.2.1
  refine j_iload_n eX11_variation_0 rfl ?_
  refine j_cS1 zX11_isNode lkX11_198 ⟨Nat.le_of_ble_eq_true rfl, Nat.le_of_ble_eq_true rfl⟩ (c_X11_isNode (by omega)) (Nat.le_of_ble_eq_true rfl) eX11_variation_1 (k_B (fun h1 => ?_) (fun h1 => ?_))
  · refine j_ifeq_1 eX11_variation_4 ?_
    refine j_iload_n eX11_variation_7 rfl ?_
    refine j_iconst 0 eX11_variation_8 ?_
    refine j_iconst 2 eX11_variation_9 ?_
    refine j_cS3 zX11_isWithin lkX11_92 ⟨Nat.le_of_ble_eq_true rfl, Nat.le_of_ble_eq_true rfl⟩ (c_X11_isWithin (by omega)) (Nat.le_of_ble_eq_true rfl) eX11_variation_10 (k_B (fun h10 => ?_) (fun h10 => ?_))
    · refine j_ifne_1 eX11_variation_13 ?_
      refine j_aload_n eX11_variation_18 rfl ?_
      refine j_getR flX11_28 ly24 rfl eX11_variation_19 ?_
      refine j_cV0 zX7_isThere lkX11_201 ⟨Nat.le_of_ble_eq_true rfl, Nat.le_of_ble_eq_true rfl⟩ ly27 rfl rfl (c_X7_isThere (by omega) (by exact hP) (by exact hB)) (Nat.le_of_ble_eq_true rfl) eX11_variation_22 (k_B (fun h22 => ?_) (fun h22 => ?_))
      · refine j_ifne_1 eX11_variation_25 ?_
        have hV : VT σ := h22
        have q1 := hX.2.2.1 (σ 27 1) hV.1.1 hV.1.2
        have en : nX σ = σ 1 (σ 27 1) - 1 := rfl
        have p6 := p64_b (n := nX σ) (by omega)
        refine j_aload_n eX11_variation_31 rfl ?_
        refine j_getR flX11_60 ly24 rfl eX11_variation_32 ?_
        refine j_aload_n eX11_variation_35 rfl ?_
        refine j_getR flX11_28 ly24 rfl eX11_variation_36 ?_
        refine j_iload_n eX11_variation_39 rfl ?_
        refine j_iload_n eX11_variation_40 rfl ?_
        refine j_cV3 zX4_layRaised lkX11_210 ⟨Nat.le_of_ble_eq_true rfl, Nat.le_of_ble_eq_true rfl⟩ ly35 rfl rfl (c_X4_layRaised (by exact hX) (by exact hV) (by omega) (by omega)) (Nat.le_of_ble_eq_true rfl) eX11_variation_41 (k_V (fun σ41 h41 => ?_))
        have ww := h41.of (σ := σ) (fun _ _ => rfl)
        have hN := h41.N hX hV.1 hV.2 h1 (by omega)
        have hT := h41.T hX hV.1 (by omega)
        have t1 : σ41 35 1 = nX σ + r := by rw [ww.2.1]; omega
        refine j_aload_n eX11_variation_44 rfl ?_
        refine j_getR flX11_60 ly24 rfl eX11_variation_45 ?_
        refine j_cV0 zX4_signChanges lkX11_225 ⟨Nat.le_of_ble_eq_true rfl, Nat.le_of_ble_eq_true rfl⟩ ly35 rfl rfl (c_X4_signChanges (by exact hT) (by exact hN)) (Nat.le_of_ble_eq_true rfl) eX11_variation_48 (k_E ?_)
        refine r_iret rfl eX11_variation_51 ?_
        refine ⟨fun k hk => h41.1 k (by omega) (by omega), Or.inr (Or.inr ⟨by omega, ?_⟩)⟩
        rw [t1]
        exact vch_congr _ _ _ _ (fun j x z => ww.2.2.2 j x (by omega))
      · refine j_ifne_0 eX11_variation_25 ?_
        refine j_bipush (-2) eX11_variation_28 (by decide) ?_
        refine r_iret rfl eX11_variation_30 ?_
        exact ⟨fun _ _ => rfl, Or.inr (Or.inl ⟨by omega, rfl⟩)⟩
    · refine j_ifne_0 eX11_variation_13 ?_
      refine j_iconst (-1) eX11_variation_16 ?_
      refine r_iret rfl eX11_variation_17 ?_
      exact ⟨fun _ _ => rfl, Or.inl ⟨by omega, rfl⟩⟩
  · refine j_ifeq_0 eX11_variation_4 ?_
    refine j_iconst (-1) eX11_variation_16 ?_
    refine r_iret rfl eX11_variation_17 ?_
    exact ⟨fun _ _ => rfl, Or.inl ⟨by omega, rfl⟩⟩
theorem c_X11_end {g : Gl} {σ : Sg} {a r w : Int} (h : -2147483648 ≤ a ∧ a ≤ 2147483647 ∧ -2147483648 ≤ r ∧ r ≤ 2147483647 ∧ -2147483648 ≤ w ∧ w ≤ 2147483647) (hX : TX σ) (hk : (0 ≤ σ 27 1 ∧ σ 27 1 ≤ 2) ∧ 0 ≤ σ 27 2 ∧ σ 27 2 ≤ 2) : Ct g mX11_end [vr g 24, vi a, vi r, vi w] σ (PL (fun v σ' => scX σ σ' ∧ ((((1 ≤ a ∧ a ≤ 127) ∧ (0 ≤ r ∧ r ≤ 1) ∧ (0 ≤ w ∧ w ≤ 1) ∧ ((0 ≤ σ 27 1 ∧ σ 27 1 < σ 0 0) ∧ 0 ≤ σ 27 2 ∧ σ 27 2 < σ 0 1)) ∧ v = FR (if r = 0 then loX σ a else hiX σ a) 64 w) ∨ (¬ ((1 ≤ a ∧ a ≤ 127) ∧ (0 ≤ r ∧ r ≤ 1) ∧ (0 ≤ w ∧ w ≤ 1) ∧ ((0 ≤ σ 27 1 ∧ σ 27 1 < σ 0 0) ∧ 0 ≤ σ 27 2 ∧ σ 27 2 < σ 0 1)) ∧ v = -4611686018427387904)))) := by
  refine Ct.of (by decide +kernel) (Nat.le_of_ble_eq_true rfl) ?_
  show jv g _ _ σ [(0, vr g 24), (1, vi a), (2, vi r), (3, vi w)] 0 []
  have hP := hX.1
  have hB := hX.2.1
  have hS := hX.2.2.1
  refine j_iload_n eX11_end_0 rfl ?_
  refine j_cS1 zX11_isNode lkX11_198 ⟨Nat.le_of_ble_eq_true rfl, Nat.le_of_ble_eq_true rfl⟩ (c_X11_isNode (by omega)) (Nat.le_of_ble_eq_true rfl) eX11_end_1 (k_B (fun h1 => ?_) (fun h1 => ?_))
  · refine j_ifeq_1 eX11_end_4 ?_
    refine j_iload_n eX11_end_7 rfl ?_
    refine j_iconst 0 eX11_end_8 ?_
    refine j_iconst 1 eX11_end_9 ?_
    refine j_cS3 zX11_isWithin lkX11_92 ⟨Nat.le_of_ble_eq_true rfl, Nat.le_of_ble_eq_true rfl⟩ (c_X11_isWithin (by omega)) (Nat.le_of_ble_eq_true rfl) eX11_end_10 (k_B (fun h10 => ?_) (fun h10 => ?_))
    · refine j_ifeq_1 eX11_end_13 ?_
      refine j_iload_n eX11_end_16 rfl ?_
      refine j_iconst 0 eX11_end_17 ?_
      refine j_iconst 1 eX11_end_18 ?_
      refine j_cS3 zX11_isWithin lkX11_92 ⟨Nat.le_of_ble_eq_true rfl, Nat.le_of_ble_eq_true rfl⟩ (c_X11_isWithin (by omega)) (Nat.le_of_ble_eq_true rfl) eX11_end_19 (k_B (fun h19 => ?_) (fun h19 => ?_))
      · refine j_ifeq_1 eX11_end_22 ?_
        refine j_aload_n eX11_end_25 rfl ?_
        refine j_getR flX11_28 ly24 rfl eX11_end_26 ?_
        refine j_cV0 zX7_isThere lkX11_201 ⟨Nat.le_of_ble_eq_true rfl, Nat.le_of_ble_eq_true rfl⟩ ly27 rfl rfl (c_X7_isThere (by omega) (by exact hP) (by exact hB)) (Nat.le_of_ble_eq_true rfl) eX11_end_29 (k_B (fun h29 => ?_) (fun h29 => ?_))
        · refine j_ifne_1 eX11_end_32 ?_
          have hV : VT σ := h29
          have q1 := hX.2.2.1 (σ 27 1) hV.1.1 hV.1.2
          have en : nX σ = σ 1 (σ 27 1) - 1 := rfl
          have p6 := p64_b (n := nX σ) (by omega)
          have lb := loX_b hX (a := a) (by omega) hV.2
          refine j_iload_n eX11_end_39 rfl ?_
          refine j_if_ne eX11_end_40 (by omega) (fun h40 => ?_) (fun h40 => ?_)
          · refine j_aload_n eX11_end_54 rfl ?_
            refine j_getR flX11_28 ly24 rfl eX11_end_55 ?_
            refine j_iload_n eX11_end_58 rfl ?_
            refine j_cV1 zX7_high lkX11_231 ⟨Nat.le_of_ble_eq_true rfl, Nat.le_of_ble_eq_true rfl⟩ ly27 rfl rfl (c_X7_high (by omega) (by exact hV.2) (by exact hB)) (Nat.le_of_ble_eq_true rfl) eX11_end_59 (k_E ?_)
            first | (show jv g _ _ σ _ _ (vi (loX σ a) :: _)) | (show jv g _ _ σ _ _ (vi (hiX σ a) :: _))
            refine j_istore eX11_end_62 (Nat.le_of_ble_eq_true rfl) ?_
            refine j_iload eX11_end_64 rfl ?_
            refine j_i2l (by omega) eX11_end_66 ?_
            refine j_ldc2 (64) cnX11_234 eX11_end_67 ?_
            refine j_iload_n eX11_end_70 rfl ?_
            refine j_cS3 zX11_part lkX11_221 ⟨Nat.le_of_ble_eq_true rfl, Nat.le_of_ble_eq_true rfl⟩ (c_X11_part (by omega) (by omega)) (Nat.le_of_ble_eq_true rfl) eX11_end_71 (k_EL ?_)
            refine r_lret rfl eX11_end_74 ?_
            refine ⟨fun _ _ => rfl, Or.inl ⟨by omega, ?_⟩⟩
            first | (rw [if_pos (show r = 0 by omega)]; rfl) | (rw [if_neg (show ¬ r = 0 by omega)]; rfl)
          · refine j_aload_n eX11_end_43 rfl ?_
            refine j_getR flX11_28 ly24 rfl eX11_end_44 ?_
            refine j_iload_n eX11_end_47 rfl ?_
            refine j_cV1 zX7_low lkX11_228 ⟨Nat.le_of_ble_eq_true rfl, Nat.le_of_ble_eq_true rfl⟩ ly27 rfl rfl (c_X7_low (by omega) (by exact hV.2) (by exact hB)) (Nat.le_of_ble_eq_true rfl) eX11_end_48 (k_E ?_)
            show jv g _ _ σ _ _ (vi (loX σ a) :: _)
            refine j_goto eX11_end_51 ?_
            first | (show jv g _ _ σ _ _ (vi (loX σ a) :: _)) | (show jv g _ _ σ _ _ (vi (hiX σ a) :: _))
            refine j_istore eX11_end_62 (Nat.le_of_ble_eq_true rfl) ?_
            refine j_iload eX11_end_64 rfl ?_
            refine j_i2l (by omega) eX11_end_66 ?_
            refine j_ldc2 (64) cnX11_234 eX11_end_67 ?_
            refine j_iload_n eX11_end_70 rfl ?_
            refine j_cS3 zX11_part lkX11_221 ⟨Nat.le_of_ble_eq_true rfl, Nat.le_of_ble_eq_true rfl⟩ (c_X11_part (by omega) (by omega)) (Nat.le_of_ble_eq_true rfl) eX11_end_71 (k_EL ?_)
            refine r_lret rfl eX11_end_74 ?_
            refine ⟨fun _ _ => rfl, Or.inl ⟨by omega, ?_⟩⟩
            first | (rw [if_pos (show r = 0 by omega)]; rfl) | (rw [if_neg (show ¬ r = 0 by omega)]; rfl)
        · refine j_ifne_0 eX11_end_32 ?_
          refine j_ldc2 (-4611686018427387904) cnX11_153 eX11_end_35 ?_
          refine r_lret rfl eX11_end_38 ?_
          exact ⟨fun _ _ => rfl, Or.inr ⟨by omega, rfl⟩⟩
      · refine j_ifeq_0 eX11_end_22 ?_
        refine j_ldc2 (-4611686018427387904) cnX11_153 eX11_end_35 ?_
        refine r_lret rfl eX11_end_38 ?_
        exact ⟨fun _ _ => rfl, Or.inr ⟨by omega, rfl⟩⟩
    · refine j_ifeq_0 eX11_end_13 ?_
      refine j_ldc2 (-4611686018427387904) cnX11_153 eX11_end_35 ?_
      refine r_lret rfl eX11_end_38 ?_
      exact ⟨fun _ _ => rfl, Or.inr ⟨by omega, rfl⟩⟩
  · refine j_ifeq_0 eX11_end_4 ?_
    refine j_ldc2 (-4611686018427387904) cnX11_153 eX11_end_35 ?_
    refine r_lret rfl eX11_end_38 ?_
    exact ⟨fun _ _ => rfl, Or.inr ⟨by omega, rfl⟩⟩
theorem bnZ_0n : ∀ t : Fin 8, bnZ (t.1 : Int) 0 = 1 ∧ bnZ (t.1 : Int) (t.1 : Int) = 1 := by decide +kernel
theorem bnZ_0 {t : Int} (h : 0 ≤ t ∧ t ≤ 7) : bnZ t 0 = 1 := by
  have := (bnZ_0n ⟨t.toNat, by omega⟩).1
  simp only at this
  rwa [show ((t.toNat : Nat) : Int) = t from by omega] at this
theorem bnZ_n {t : Int} (h : 0 ≤ t ∧ t ≤ 7) : bnZ t t = 1 := by
  have := (bnZ_0n ⟨t.toNat, by omega⟩).2
  simp only at this
  rwa [show ((t.toNat : Nat) : Int) = t from by omega] at this
theorem c_X11_value {g : Gl} {σ : Sg} {a r w : Int} (h : -2147483648 ≤ a ∧ a ≤ 2147483647 ∧ -2147483648 ≤ r ∧ r ≤ 2147483647 ∧ -2147483648 ≤ w ∧ w ≤ 2147483647) (hX : TX σ) (hk : (0 ≤ σ 27 1 ∧ σ 27 1 ≤ 2) ∧ 0 ≤ σ 27 2 ∧ σ 27 2 ≤ 2) : Ct g mX11_value [vr g 24, vi a, vi r, vi w] σ (PL (fun v σ' => scX σ σ' ∧ ((((1 ≤ a ∧ a ≤ 127) ∧ (0 ≤ r ∧ r ≤ 1) ∧ (0 ≤ w ∧ w ≤ 1) ∧ ((0 ≤ σ 27 1 ∧ σ 27 1 < σ 0 0) ∧ 0 ≤ σ 27 2 ∧ σ 27 2 < σ 0 1)) ∧ v = FR (NX σ a 0 (if r = 0 then 0 else nX σ)) (64 ^ (nX σ).toNat) w) ∨ (¬ ((1 ≤ a ∧ a ≤ 127) ∧ (0 ≤ r ∧ r ≤ 1) ∧ (0 ≤ w ∧ w ≤ 1) ∧ ((0 ≤ σ 27 1 ∧ σ 27 1 < σ 0 0) ∧ 0 ≤ σ 27 2 ∧ σ 27 2 < σ 0 1)) ∧ v = -4611686018427387904)))) := by
  refine Ct.of (by decide +kernel) (Nat.le_of_ble_eq_true rfl) ?_
  show jv g _ _ σ [(0, vr g 24), (1, vi a), (2, vi r), (3, vi w)] 0 []
  have hP := hX.1
  have hB := hX.2.1
  have hS := hX.2.2.1
  refine j_iload_n eX11_value_0 rfl ?_
  refine j_cS1 zX11_isNode lkX11_198 ⟨Nat.le_of_ble_eq_true rfl, Nat.le_of_ble_eq_true rfl⟩ (c_X11_isNode (by omega)) (Nat.le_of_ble_eq_true rfl) eX11_value_1 (k_B (fun h1 => ?_) (fun h1 => ?_))
  · refine j_ifeq_1 eX11_value_4 ?_
    refine j_iload_n eX11_value_7 rfl ?_
    refine j_iconst 0 eX11_value_8 ?_
    refine j_iconst 1 eX11_value_9 ?_
    refine j_cS3 zX11_isWithin lkX11_92 ⟨Nat.le_of_ble_eq_true rfl, Nat.le_of_ble_eq_true rfl⟩ (c_X11_isWithin (by omega)) (Nat.le_of_ble_eq_true rfl) eX11_value_10 (k_B (fun h10 => ?_) (fun h10 => ?_))
    · refine j_ifeq_1 eX11_value_13 ?_
      refine j_iload_n eX11_value_16 rfl ?_
      refine j_iconst 0 eX11_value_17 ?_
      refine j_iconst 1 eX11_value_18 ?_
      refine j_cS3 zX11_isWithin lkX11_92 ⟨Nat.le_of_ble_eq_true rfl, Nat.le_of_ble_eq_true rfl⟩ (c_X11_isWithin (by omega)) (Nat.le_of_ble_eq_true rfl) eX11_value_19 (k_B (fun h19 => ?_) (fun h19 => ?_))
      · refine j_ifeq_1 eX11_value_22 ?_
        refine j_aload_n eX11_value_25 rfl ?_
        refine j_getR flX11_28 ly24 rfl eX11_value_26 ?_
        refine j_cV0 zX7_isThere lkX11_201 ⟨Nat.le_of_ble_eq_true rfl, Nat.le_of_ble_eq_true rfl⟩ ly27 rfl rfl (c_X7_isThere (by omega) (by exact hP) (by exact hB)) (Nat.le_of_ble_eq_true rfl) eX11_value_29 (k_B (fun h29 => ?_) (fun h29 => ?_))
        · refine j_ifne_1 eX11_value_32 ?_
          have hV : VT σ := h29
          have q1 := hX.2.2.1 (σ 27 1) hV.1.1 hV.1.2
          have en : nX σ = σ 1 (σ 27 1) - 1 := rfl
          have p6 := p64_b (n := nX σ) (by omega)
          refine j_aload_n eX11_value_39 rfl ?_
          refine j_getR flX11_60 ly24 rfl eX11_value_40 ?_
          refine j_aload_n eX11_value_43 rfl ?_
          refine j_getR flX11_28 ly24 rfl eX11_value_44 ?_
          refine j_iload_n eX11_value_47 rfl ?_
          refine j_cV2 zX4_lay lkX11_236 ⟨Nat.le_of_ble_eq_true rfl, Nat.le_of_ble_eq_true rfl⟩ ly35 rfl rfl (c_X4_lay (by exact hX) (by exact hV) (by omega)) (Nat.le_of_ble_eq_true rfl) eX11_value_48 (k_V (fun σ48 h48 => ?_))
          have ww := h48.of (σ := σ) (fun _ _ => rfl)
          have hN := h48.N hX hV.1 hV.2 h1 (by omega)
          have hT := h48.T hX hV.1 (by omega)
          have t1 : σ48 35 1 = nX σ := by rw [ww.2.1]; omega
          have n0 := hN 0 (by omega) (by omega)
          have n1 := hN (σ48 35 1) (by omega) (by omega)
          have b0 : bnZ (nX σ) 0 = 1 := bnZ_0 (by omega)
          have b1 : bnZ (nX σ) (nX σ) = 1 := bnZ_n (by omega)
          refine j_iload_n eX11_value_51 rfl ?_
          refine j_if_ne eX11_value_52 (by omega) (fun h52 => ?_) (fun h52 => ?_)
          · refine j_aload_n eX11_value_59 rfl ?_
            refine j_getR flX11_60 ly24 rfl eX11_value_60 ?_
            refine j_cV0 zX4_top lkX11_240 ⟨Nat.le_of_ble_eq_true rfl, Nat.le_of_ble_eq_true rfl⟩ ly35 rfl rfl (c_X4_top) (Nat.le_of_ble_eq_true rfl) eX11_value_63 (k_E ?_)
            refine j_istore eX11_value_66 (Nat.le_of_ble_eq_true rfl) ?_
            refine j_aload_n eX11_value_68 rfl ?_
            refine j_getR flX11_60 ly24 rfl eX11_value_69 ?_
            refine j_iload eX11_value_72 rfl ?_
            refine j_cV1 zX4_number lkX11_214 ⟨Nat.le_of_ble_eq_true rfl, Nat.le_of_ble_eq_true rfl⟩ ly35 rfl rfl (c_X4_number (by omega)) (Nat.le_of_ble_eq_true rfl) eX11_value_74 (k_EL ?_)
            refine j_aload_n eX11_value_77 rfl ?_
            refine j_getR flX11_60 ly24 rfl eX11_value_78 ?_
            refine j_iload eX11_value_81 rfl ?_
            refine j_cV1 zX4_below lkX11_218 ⟨Nat.le_of_ble_eq_true rfl, Nat.le_of_ble_eq_true rfl⟩ ly35 rfl rfl (c_X4_below (by exact hT) (by omega)) (Nat.le_of_ble_eq_true rfl) eX11_value_83 (k_EL ?_)
            rw [t1, ww.2.2.1]
            rw [t1] at n1
            try rw [b0, Int.one_mul]
            try rw [b1, Int.one_mul]
            have bw := bw_b (b := 1) (by omega) p6
            rw [Int.one_mul] at bw
            refine j_iload_n eX11_value_86 rfl ?_
            refine j_cS3 zX11_part lkX11_221 ⟨Nat.le_of_ble_eq_true rfl, Nat.le_of_ble_eq_true rfl⟩ (c_X11_part (by omega) (by omega)) (Nat.le_of_ble_eq_true rfl) eX11_value_87 (k_EL ?_)
            refine r_lret rfl eX11_value_90 ?_
            refine ⟨fun k hk => h48.1 k (by omega) (by omega), Or.inl ⟨by omega, ?_⟩⟩
            first | (rw [if_pos (show r = 0 by omega), ← ww.2.2.2 0 (by omega) (by omega)]; rfl) | (rw [if_neg (show ¬ r = 0 by omega), ← ww.2.2.2 (nX σ) (by omega) (by omega), t1]; rfl) | (rw [if_neg (show ¬ r = 0 by omega), ← ww.2.2.2 (nX σ) (by omega) (by omega)]; rfl)
          · refine j_iconst 0 eX11_value_55 ?_
            refine j_goto eX11_value_56 ?_
            refine j_istore eX11_value_66 (Nat.le_of_ble_eq_true rfl) ?_
            refine j_aload_n eX11_value_68 rfl ?_
            refine j_getR flX11_60 ly24 rfl eX11_value_69 ?_
            refine j_iload eX11_value_72 rfl ?_
            refine j_cV1 zX4_number lkX11_214 ⟨Nat.le_of_ble_eq_true rfl, Nat.le_of_ble_eq_true rfl⟩ ly35 rfl rfl (c_X4_number (by omega)) (Nat.le_of_ble_eq_true rfl) eX11_value_74 (k_EL ?_)
            refine j_aload_n eX11_value_77 rfl ?_
            refine j_getR flX11_60 ly24 rfl eX11_value_78 ?_
            refine j_iload eX11_value_81 rfl ?_
            refine j_cV1 zX4_below lkX11_218 ⟨Nat.le_of_ble_eq_true rfl, Nat.le_of_ble_eq_true rfl⟩ ly35 rfl rfl (c_X4_below (by exact hT) (by omega)) (Nat.le_of_ble_eq_true rfl) eX11_value_83 (k_EL ?_)
            rw [t1, ww.2.2.1]
            rw [t1] at n1
            try rw [b0, Int.one_mul]
            try rw [b1, Int.one_mul]
            have bw := bw_b (b := 1) (by omega) p6
            rw [Int.one_mul] at bw
            refine j_iload_n eX11_value_86 rfl ?_
            refine j_cS3 zX11_part lkX11_221 ⟨Nat.le_of_ble_eq_true rfl, Nat.le_of_ble_eq_true rfl⟩ (c_X11_part (by omega) (by omega)) (Nat.le_of_ble_eq_true rfl) eX11_value_87 (k_EL ?_)
            refine r_lret rfl eX11_value_90 ?_
            refine ⟨fun k hk => h48.1 k (by omega) (by omega), Or.inl ⟨by omega, ?_⟩⟩
            first | (rw [if_pos (show r = 0 by omega), ← ww.2.2.2 0 (by omega) (by omega)]; rfl) | (rw [if_neg (show ¬ r = 0 by omega), ← ww.2.2.2 (nX σ) (by omega) (by omega), t1]; rfl) | (rw [if_neg (show ¬ r = 0 by omega), ← ww.2.2.2 (nX σ) (by omega) (by omega)]; rfl)
        · refine j_ifne_0 eX11_value_32 ?_
          refine j_ldc2 (-4611686018427387904) cnX11_153 eX11_value_35 ?_
          refine r_lret rfl eX11_value_38 ?_
          exact ⟨fun _ _ => rfl, Or.inr ⟨by omega, rfl⟩⟩
      · refine j_ifeq_0 eX11_value_22 ?_
        refine j_ldc2 (-4611686018427387904) cnX11_153 eX11_value_35 ?_
        refine r_lret rfl eX11_value_38 ?_
        exact ⟨fun _ _ => rfl, Or.inr ⟨by omega, rfl⟩⟩
    · refine j_ifeq_0 eX11_value_13 ?_
      refine j_ldc2 (-4611686018427387904) cnX11_153 eX11_value_35 ?_
      refine r_lret rfl eX11_value_38 ?_
      exact ⟨fun _ _ => rfl, Or.inr ⟨by omega, rfl⟩⟩
  · refine j_ifeq_0 eX11_value_4 ?_
    refine j_ldc2 (-4611686018427387904) cnX11_153 eX11_value_35 ?_
    refine r_lret rfl eX11_value_38 ?_
    exact ⟨fun _ _ => rfl, Or.inr ⟨by omega, rfl⟩⟩
theorem c_X11_brackets {g : Gl} {σ : Sg} (hX : TX σ) (hk : (0 ≤ σ 27 1 ∧ σ 27 1 ≤ 2) ∧ 0 ≤ σ 27 2 ∧ σ 27 2 ≤ 2) : Ct g mX11_brackets [vr g 24] σ (PI (fun v σ' => scX σ σ' ∧ ((¬ ((0 ≤ σ 27 1 ∧ σ 27 1 < σ 0 0) ∧ 0 ≤ σ 27 2 ∧ σ 27 2 < σ 0 1) ∧ v = -2) ∨ (((0 ≤ σ 27 1 ∧ σ 27 1 < σ 0 0) ∧ 0 ≤ σ 27 2 ∧ σ 27 2 < σ 0 1) ∧ v = (trB (VX σ) (ZX σ) 127 1 []).length)))) := by
  refine Ct.of (by decide +kernel) (Nat.le_of_ble_eq_true rfl) ?_
  show jv g _ _ σ [(0, vr g 24)] 0 []
  have hP := hX.1
  have hB := hX.2.1
  have hS := hX.2.2.1
  refine j_aload_n eX11_brackets_0 rfl ?_
  refine j_getR flX11_28 ly24 rfl eX11_brackets_1 ?_
  refine j_cV0 zX7_isThere lkX11_201 ⟨Nat.le_of_ble_eq_true rfl, Nat.le_of_ble_eq_true rfl⟩ ly27 rfl rfl (c_X7_isThere (by omega) (by exact hP) (by exact hB)) (Nat.le_of_ble_eq_true rfl) eX11_brackets_4 (k_B (fun h4 => ?_) (fun h4 => ?_))
  · refine j_ifne_1 eX11_brackets_7 ?_
    have hV : VT σ := h4
    refine j_aload_n eX11_brackets_13 rfl ?_
    refine j_getR flX11_67 ly24 rfl eX11_brackets_14 ?_
    refine j_aload_n eX11_brackets_17 rfl ?_
    refine j_getR flX11_28 ly24 rfl eX11_brackets_18 ?_
    refine j_aload_n eX11_brackets_21 rfl ?_
    refine j_getR flX11_60 ly24 rfl eX11_brackets_22 ?_
    refine j_cV2 zX3_find lkX11_243 ⟨Nat.le_of_ble_eq_true rfl, Nat.le_of_ble_eq_true rfl⟩ ly37 rfl rfl (c_X3_find (by exact hX) (by exact hV)) (Nat.le_of_ble_eq_true rfl) eX11_brackets_25 (k_V (fun σ25 h25 => ?_))
    refine j_aload_n eX11_brackets_28 rfl ?_
    refine j_getR flX11_67 ly24 rfl eX11_brackets_29 ?_
    refine j_cV0 zX3_size lkX11_247 ⟨Nat.le_of_ble_eq_true rfl, Nat.le_of_ble_eq_true rfl⟩ ly37 rfl rfl (c_X3_size) (Nat.le_of_ble_eq_true rfl) eX11_brackets_32 (k_E ?_)
    refine r_iret rfl eX11_brackets_35 ?_
    exact ⟨fun k hk => h25.1 k (by omega) (by omega) (by omega) (by omega) (by omega), Or.inr ⟨h4, h25.2.1.1⟩⟩
  · refine j_ifne_0 eX11_brackets_7 ?_
    refine j_bipush (-2) eX11_brackets_10 (by decide) ?_
    refine r_iret rfl eX11_brackets_12 ?_
    exact ⟨fun _ _ => rfl, Or.inl ⟨by omega, rfl⟩⟩
theorem c_X11_bracket {g : Gl} {σ : Sg} {a w : Int} (h : -2147483648 ≤ a ∧ a ≤ 2147483647 ∧ -2147483648 ≤ w ∧ w ≤ 2147483647) (hX : TX σ) (hk : (0 ≤ σ 27 1 ∧ σ 27 1 ≤ 2) ∧ 0 ≤ σ 27 2 ∧ σ 27 2 ≤ 2) : Ct g mX11_bracket [vr g 24, vi a, vi w] σ (PI (fun v σ' => scX σ σ' ∧ ((¬ (0 ≤ a ∧ 0 ≤ w ∧ w ≤ 1) ∧ v = -1) ∨ (((0 ≤ a ∧ 0 ≤ w ∧ w ≤ 1) ∧ ¬ ((0 ≤ σ 27 1 ∧ σ 27 1 < σ 0 0) ∧ 0 ≤ σ 27 2 ∧ σ 27 2 < σ 0 1)) ∧ v = -2) ∨ (((0 ≤ a ∧ 0 ≤ w ∧ w ≤ 1) ∧ ((0 ≤ σ 27 1 ∧ σ 27 1 < σ 0 0) ∧ 0 ≤ σ 27 2 ∧ σ 27 2 < σ 0 1)) ∧ (((trB (VX σ) (ZX σ) 127 1 []).length ≤ a ∧ v = -9) ∨ ∃ q, (trB (VX σ) (ZX σ) 127 1 [])[a.toNat]? = some q ∧ v = if w = 0 then q.1 else q.2))))) := by
  refine Ct.of (by decide +kernel) (Nat.le_of_ble_eq_true rfl) ?_
  show jv g _ _ σ [(0, vr g 24), (1, vi a), (2, vi w)] 0 []
  have hP := hX.1
  have hB := hX.2.1
  have hS := hX.2.2.1
  refine j_iload_n eX11_bracket_0 rfl ?_
  refine j_if_lt eX11_bracket_1 (by omega) (fun h1 => ?_) (fun h1 => ?_)
  · refine j_iconst (-1) eX11_bracket_13 ?_
    refine r_iret rfl eX11_bracket_14 ?_
    exact ⟨fun _ _ => rfl, Or.inl ⟨by omega, rfl⟩⟩
  · refine j_iload_n eX11_bracket_4 rfl ?_
    refine j_iconst 0 eX11_bracket_5 ?_
    refine j_iconst 1 eX11_bracket_6 ?_
    refine j_cS3 zX11_isWithin lkX11_92 ⟨Nat.le_of_ble_eq_true rfl, Nat.le_of_ble_eq_true rfl⟩ (c_X11_isWithin (by omega)) (Nat.le_of_ble_eq_true rfl) eX11_bracket_7 (k_B (fun h7 => ?_) (fun h7 => ?_))
    · refine j_ifne_1 eX11_bracket_10 ?_
      refine j_aload_n eX11_bracket_15 rfl ?_
      refine j_getR flX11_28 ly24 rfl eX11_bracket_16 ?_
      refine j_cV0 zX7_isThere lkX11_201 ⟨Nat.le_of_ble_eq_true rfl, Nat.le_of_ble_eq_true rfl⟩ ly27 rfl rfl (c_X7_isThere (by omega) (by exact hP) (by exact hB)) (Nat.le_of_ble_eq_true rfl) eX11_bracket_19 (k_B (fun h19 => ?_) (fun h19 => ?_))
      · refine j_ifne_1 eX11_bracket_22 ?_
        have hV : VT σ := h19
        refine j_aload_n eX11_bracket_28 rfl ?_
        refine j_getR flX11_67 ly24 rfl eX11_bracket_29 ?_
        refine j_aload_n eX11_bracket_32 rfl ?_
        refine j_getR flX11_28 ly24 rfl eX11_bracket_33 ?_
        refine j_aload_n eX11_bracket_36 rfl ?_
        refine j_getR flX11_60 ly24 rfl eX11_bracket_37 ?_
        refine j_cV2 zX3_find lkX11_243 ⟨Nat.le_of_ble_eq_true rfl, Nat.le_of_ble_eq_true rfl⟩ ly37 rfl rfl (c_X3_find (by exact hX) (by exact hV)) (Nat.le_of_ble_eq_true rfl) eX11_bracket_40 (k_V (fun σ40 h40 => ?_))
        have rb := h40.2.1.1
        have rl := h40.2.2
        refine j_iload_n eX11_bracket_43 rfl ?_
        refine j_aload_n eX11_bracket_44 rfl ?_
        refine j_getR flX11_67 ly24 rfl eX11_bracket_45 ?_
        refine j_cV0 zX3_size lkX11_247 ⟨Nat.le_of_ble_eq_true rfl, Nat.le_of_ble_eq_true rfl⟩ ly37 rfl rfl (c_X3_size) (Nat.le_of_ble_eq_true rfl) eX11_bracket_48 (k_E ?_)
        refine j_icmp_lt eX11_bracket_51 (by omega) (fun h51 => ?_) (fun h51 => ?_)
        · obtain ⟨q, hq⟩ : ∃ q, (trB (VX σ) (ZX σ) 127 1 [])[a.toNat]? = some q := ⟨_, List.getElem?_eq_getElem (by omega)⟩
          have rq := h40.2.1.2 a.toNat q hq
          rw [show ((a.toNat : Nat) : Int) = a from by omega] at rq
          refine j_iload_n eX11_bracket_57 rfl ?_
          refine j_if_ne eX11_bracket_58 (by omega) (fun h58 => ?_) (fun h58 => ?_)
          · refine j_aload_n eX11_bracket_72 rfl ?_
            refine j_getR flX11_67 ly24 rfl eX11_bracket_73 ?_
            refine j_iload_n eX11_bracket_76 rfl ?_
            refine j_cV1 zX3_kind lkX11_251 ⟨Nat.le_of_ble_eq_true rfl, Nat.le_of_ble_eq_true rfl⟩ ly37 rfl rfl (c_X3_kind (by omega) (by omega)) (Nat.le_of_ble_eq_true rfl) eX11_bracket_77 (k_E ?_)
            refine r_iret rfl eX11_bracket_80 ?_
            refine ⟨fun k hk => h40.1 k (by omega) (by omega) (by omega) (by omega) (by omega), Or.inr (Or.inr ⟨by omega, Or.inr ⟨q, hq, ?_⟩⟩)⟩
            first | (rw [if_pos (show w = 0 by omega)]; exact rq.1) | (rw [if_neg (show ¬ w = 0 by omega)]; exact rq.2)
          · refine j_aload_n eX11_bracket_61 rfl ?_
            refine j_getR flX11_67 ly24 rfl eX11_bracket_62 ?_
            refine j_iload_n eX11_bracket_65 rfl ?_
            refine j_cV1 zX3_node lkX11_248 ⟨Nat.le_of_ble_eq_true rfl, Nat.le_of_ble_eq_true rfl⟩ ly37 rfl rfl (c_X3_node (by omega) (by omega)) (Nat.le_of_ble_eq_true rfl) eX11_bracket_66 (k_E ?_)
            refine j_goto eX11_bracket_69 ?_
            refine r_iret rfl eX11_bracket_80 ?_
            refine ⟨fun k hk => h40.1 k (by omega) (by omega) (by omega) (by omega) (by omega), Or.inr (Or.inr ⟨by omega, Or.inr ⟨q, hq, ?_⟩⟩)⟩
            first | (rw [if_pos (show w = 0 by omega)]; exact rq.1) | (rw [if_neg (show ¬ w = 0 by omega)]; exact rq.2)
        · refine j_bipush (-9) eX11_bracket_54 (by decide) ?_
          refine r_iret rfl eX11_bracket_56 ?_
          exact ⟨fun k hk => h40.1 k (by omega) (by omega) (by omega) (by omega) (by omega), Or.inr (Or.inr ⟨by omega, Or.inl ⟨by omega, rfl⟩⟩)⟩
      · refine j_ifne_0 eX11_bracket_22 ?_
        refine j_bipush (-2) eX11_bracket_25 (by decide) ?_
        refine r_iret rfl eX11_bracket_27 ?_
        exact ⟨fun _ _ => rfl, Or.inr (Or.inl ⟨by omega, rfl⟩)⟩
    · refine j_ifne_0 eX11_bracket_10 ?_
      refine j_iconst (-1) eX11_bracket_13 ?_
      refine r_iret rfl eX11_bracket_14 ?_
      exact ⟨fun _ _ => rfl, Or.inl ⟨by omega, rfl⟩⟩
theorem c_X11_makes {g : Gl} {σ : Sg} (hX : TX σ) (hk : (0 ≤ σ 27 1 ∧ σ 27 1 ≤ 2) ∧ 0 ≤ σ 27 2 ∧ σ 27 2 ≤ 2) : Ct g mX11_makes [vr g 24] σ (PI (fun v σ' => scX σ σ' ∧ ((¬ ((0 ≤ σ 27 1 ∧ σ 27 1 < σ 0 0) ∧ 0 ≤ σ 27 2 ∧ σ 27 2 < σ 0 1) ∧ v = -2) ∨ (((0 ≤ σ 27 1 ∧ σ 27 1 < σ 0 0) ∧ 0 ≤ σ 27 2 ∧ σ 27 2 < σ 0 1) ∧ v = (trP (FG σ) (SL σ) (SH σ) (loX σ) (hiX σ) 127 1 []).1)))) := by
  refine Ct.of (by decide +kernel) (Nat.le_of_ble_eq_true rfl) ?_
  show jv g _ _ σ [(0, vr g 24)] 0 []
  have hP := hX.1
  have hB := hX.2.1
  have hS := hX.2.2.1
  refine j_aload_n eX11_makes_0 rfl ?_
  refine j_getR flX11_28 ly24 rfl eX11_makes_1 ?_
  refine j_cV0 zX7_isThere lkX11_201 ⟨Nat.le_of_ble_eq_true rfl, Nat.le_of_ble_eq_true rfl⟩ ly27 rfl rfl (c_X7_isThere (by omega) (by exact hP) (by exact hB)) (Nat.le_of_ble_eq_true rfl) eX11_makes_4 (k_B (fun h4 => ?_) (fun h4 => ?_))
  · refine j_ifeq_1 eX11_makes_7 ?_
    have hV : VT σ := h4
    refine j_aload_n eX11_makes_10 rfl ?_
    refine j_getR flX11_74 ly24 rfl eX11_makes_11 ?_
    refine j_aload_n eX11_makes_14 rfl ?_
    refine j_getR flX11_28 ly24 rfl eX11_makes_15 ?_
    refine j_aload_n eX11_makes_18 rfl ?_
    refine j_getR flX11_60 ly24 rfl eX11_makes_19 ?_
    refine j_cV2 zX2_write lkX11_254 ⟨Nat.le_of_ble_eq_true rfl, Nat.le_of_ble_eq_true rfl⟩ ly40 rfl rfl (c_X2_write (by exact hX) (by exact hV)) (Nat.le_of_ble_eq_true rfl) eX11_makes_22 (k_I (fun v22 σ22 h22 => ?_))
    refine j_goto eX11_makes_25 ?_
    refine r_iret rfl eX11_makes_30 ?_
    first | exact ⟨fun _ _ => rfl, Or.inl ⟨by omega, rfl⟩⟩ | exact ⟨fun k hk => h22.1 k (by omega) (by omega) (by omega) (by omega), Or.inr ⟨h4, h22.2.1⟩⟩
  · refine j_ifeq_0 eX11_makes_7 ?_
    refine j_bipush (-2) eX11_makes_28 (by decide) ?_
    refine r_iret rfl eX11_makes_30 ?_
    first | exact ⟨fun _ _ => rfl, Or.inl ⟨by omega, rfl⟩⟩ | exact ⟨fun k hk => h22.1 k (by omega) (by omega) (by omega) (by omega), Or.inr ⟨h4, h22.2.1⟩⟩
theorem c_X11_paper {g : Gl} {σ : Sg} {a : Int} (h : -2147483648 ≤ a ∧ a ≤ 2147483647) (hX : TX σ) (hk : (0 ≤ σ 27 1 ∧ σ 27 1 ≤ 2) ∧ 0 ≤ σ 27 2 ∧ σ 27 2 ≤ 2) : Ct g mX11_paper [vr g 24, vi a] σ (PI (fun v σ' => scX σ σ' ∧ ((¬ 0 ≤ a ∧ v = -1) ∨ ((0 ≤ a ∧ ¬ ((0 ≤ σ 27 1 ∧ σ 27 1 < σ 0 0) ∧ 0 ≤ σ 27 2 ∧ σ 27 2 < σ 0 1)) ∧ v = -2) ∨ ((0 ≤ a ∧ ((0 ≤ σ 27 1 ∧ σ 27 1 < σ 0 0) ∧ 0 ≤ σ 27 2 ∧ σ 27 2 < σ 0 1)) ∧ (((trP (FG σ) (SL σ) (SH σ) (loX σ) (hiX σ) 127 1 []).1 ≤ a ∧ v = -9) ∨ (a < (trP (FG σ) (SL σ) (SH σ) (loX σ) (hiX σ) 127 1 []).1 ∧ ∃ q, (trP (FG σ) (SL σ) (SH σ) (loX σ) (hiX σ) 127 1 []).2.2[a.toNat]? = some q ∧ v = q)))))) := by
  refine Ct.of (by decide +kernel) (Nat.le_of_ble_eq_true rfl) ?_
  show jv g _ _ σ [(0, vr g 24), (1, vi a)] 0 []
  have hP := hX.1
  have hB := hX.2.1
  have hS := hX.2.2.1
  refine j_iload_n eX11_paper_0 rfl ?_
  refine j_if_ge eX11_paper_1 (by omega) (fun h1 => ?_) (fun h1 => ?_)
  · refine j_aload_n eX11_paper_6 rfl ?_
    refine j_getR flX11_28 ly24 rfl eX11_paper_7 ?_
    refine j_cV0 zX7_isThere lkX11_201 ⟨Nat.le_of_ble_eq_true rfl, Nat.le_of_ble_eq_true rfl⟩ ly27 rfl rfl (c_X7_isThere (by omega) (by exact hP) (by exact hB)) (Nat.le_of_ble_eq_true rfl) eX11_paper_10 (k_B (fun h10 => ?_) (fun h10 => ?_))
    · refine j_ifne_1 eX11_paper_13 ?_
      have hV : VT σ := h10
      have tb := trP_b (FG σ) (SL σ) (SH σ) (loX σ) (hiX σ) 127 1 [] (by decide)
      refine j_aload_n eX11_paper_19 rfl ?_
      refine j_getR flX11_74 ly24 rfl eX11_paper_20 ?_
      refine j_aload_n eX11_paper_23 rfl ?_
      refine j_getR flX11_28 ly24 rfl eX11_paper_24 ?_
      refine j_aload_n eX11_paper_27 rfl ?_
      refine j_getR flX11_60 ly24 rfl eX11_paper_28 ?_
      refine j_cV2 zX2_write lkX11_254 ⟨Nat.le_of_ble_eq_true rfl, Nat.le_of_ble_eq_true rfl⟩ ly40 rfl rfl (c_X2_write (by exact hX) (by exact hV)) (Nat.le_of_ble_eq_true rfl) eX11_paper_31 (k_I (fun v31 σ31 h31 => ?_))
      obtain ⟨z1, z2, z3, z4, z5⟩ := h31
      rw [← z2] at tb
      have z6 := z4.1
      refine j_istore_n eX11_paper_34 (Nat.le_of_ble_eq_true rfl) ?_
      refine j_iload_n eX11_paper_35 rfl ?_
      refine j_iload_n eX11_paper_36 rfl ?_
      refine j_icmp_ge eX11_paper_37 (by omega) (fun h37 => ?_) (fun h37 => ?_)
      · refine j_bipush (-9) eX11_paper_51 (by decide) ?_
        refine r_iret rfl eX11_paper_53 ?_
        have fr : scX σ σ31 := fun k hk => z1 k (by omega) (by omega) (by omega) (by omega)
        first | exact ⟨fr, Or.inr (Or.inr ⟨by omega, Or.inl ⟨by omega, rfl⟩⟩)⟩ | exact ⟨fr, Or.inr (Or.inr ⟨by omega, Or.inr ⟨by omega, q, hq, rq⟩⟩)⟩
      · have tl := tb.2.2 (by omega) (by omega)
        obtain ⟨q, hq⟩ : ∃ q, (trP (FG σ) (SL σ) (SH σ) (loX σ) (hiX σ) 127 1 []).2.2[a.toNat]? = some q := ⟨_, List.getElem?_eq_getElem (by omega)⟩
        have rq := z4.2 a.toNat q hq
        rw [show ((a.toNat : Nat) : Int) = a from by omega] at rq
        refine j_aload_n eX11_paper_40 rfl ?_
        refine j_getR flX11_74 ly24 rfl eX11_paper_41 ?_
        refine j_iload_n eX11_paper_44 rfl ?_
        refine j_cV1 zX2_letter lkX11_258 ⟨Nat.le_of_ble_eq_true rfl, Nat.le_of_ble_eq_true rfl⟩ ly40 rfl rfl (c_X2_letter (by omega) (by omega)) (Nat.le_of_ble_eq_true rfl) eX11_paper_45 (k_E ?_)
        refine j_goto eX11_paper_48 ?_
        refine r_iret rfl eX11_paper_53 ?_
        have fr : scX σ σ31 := fun k hk => z1 k (by omega) (by omega) (by omega) (by omega)
        first | exact ⟨fr, Or.inr (Or.inr ⟨by omega, Or.inl ⟨by omega, rfl⟩⟩)⟩ | exact ⟨fr, Or.inr (Or.inr ⟨by omega, Or.inr ⟨by omega, q, hq, rq⟩⟩)⟩
    · refine j_ifne_0 eX11_paper_13 ?_
      refine j_bipush (-2) eX11_paper_16 (by decide) ?_
      refine r_iret rfl eX11_paper_18 ?_
      exact ⟨fun _ _ => rfl, Or.inr (Or.inl ⟨by omega, rfl⟩)⟩
  · refine j_iconst (-1) eX11_paper_4 ?_
    refine r_iret rfl eX11_paper_5 ?_
    exact ⟨fun _ _ => rfl, Or.inl ⟨by omega, rfl⟩⟩
theorem c_X11_witness {g : Gl} {σ : Sg} {w : Int} (h : -2147483648 ≤ w ∧ w ≤ 2147483647) (hX : TX σ) (hk : (0 ≤ σ 27 1 ∧ σ 27 1 ≤ 2) ∧ 0 ≤ σ 27 2 ∧ σ 27 2 ≤ 2) : Ct g mX11_witness [vr g 24, vi w] σ (PL (fun v σ' => scX σ σ' ∧ ((((0 ≤ w ∧ w ≤ 1) ∧ ((0 ≤ σ 27 1 ∧ σ 27 1 < σ 0 0) ∧ 0 ≤ σ 27 2 ∧ σ 27 2 < σ 0 1) ∧ (trP (FG σ) (SL σ) (SH σ) (loX σ) (hiX σ) 127 1 []).1 = -7) ∧ v = FR (trP (FG σ) (SL σ) (SH σ) (loX σ) (hiX σ) 127 1 []).2.1 64 w) ∨ (¬ ((0 ≤ w ∧ w ≤ 1) ∧ ((0 ≤ σ 27 1 ∧ σ 27 1 < σ 0 0) ∧ 0 ≤ σ 27 2 ∧ σ 27 2 < σ 0 1) ∧ (trP (FG σ) (SL σ) (SH σ) (loX σ) (hiX σ) 127 1 []).1 = -7) ∧ v = -4611686018427387904)))) := by
  refine Ct.of (by decide +kernel) (Nat.le_of_ble_eq_true rfl) ?_
  show jv g _ _ σ [(0, vr g 24), (1, vi w)] 0 []
  have hP := hX.1
  have hB := hX.2.1
  have hS := hX.2.2.1
  refine j_iload_n eX11_witness_0 rfl ?_
  refine j_iconst 0 eX11_witness_1 ?_
  refine j_iconst 1 eX11_witness_2 ?_
  refine j_cS3 zX11_isWithin lkX11_92 ⟨Nat.le_of_ble_eq_true rfl, Nat.le_of_ble_eq_true rfl⟩ (c_X11_isWithin (by omega)) (Nat.le_of_ble_eq_true rfl) eX11_witness_3 (k_B (fun h3 => ?_) (fun h3 => ?_))
  · refine j_ifeq_1 eX11_witness_6 ?_
    refine j_aload_n eX11_witness_9 rfl ?_
    refine j_getR flX11_28 ly24 rfl eX11_witness_10 ?_
    refine j_cV0 zX7_isThere lkX11_201 ⟨Nat.le_of_ble_eq_true rfl, Nat.le_of_ble_eq_true rfl⟩ ly27 rfl rfl (c_X7_isThere (by omega) (by exact hP) (by exact hB)) (Nat.le_of_ble_eq_true rfl) eX11_witness_13 (k_B (fun h13 => ?_) (fun h13 => ?_))
    · refine j_ifne_1 eX11_witness_16 ?_
      have hV : VT σ := h13
      have tb := trP_b (FG σ) (SL σ) (SH σ) (loX σ) (hiX σ) 127 1 [] (by decide)
      have tw := trP_w (fg := FG σ) (sl := SL σ) (sh := SH σ) (fun a h => (loX_b hX h hV.2).1) (fun a h => (loX_b hX h hV.2).2) 127 1 [] (Or.inr (by omega))
      refine j_aload_n eX11_witness_23 rfl ?_
      refine j_getR flX11_74 ly24 rfl eX11_witness_24 ?_
      refine j_aload_n eX11_witness_27 rfl ?_
      refine j_getR flX11_28 ly24 rfl eX11_witness_28 ?_
      refine j_aload_n eX11_witness_31 rfl ?_
      refine j_getR flX11_60 ly24 rfl eX11_witness_32 ?_
      refine j_cV2 zX2_write lkX11_254 ⟨Nat.le_of_ble_eq_true rfl, Nat.le_of_ble_eq_true rfl⟩ ly40 rfl rfl (c_X2_write (by exact hX) (by exact hV)) (Nat.le_of_ble_eq_true rfl) eX11_witness_35 (k_I (fun v35 σ35 h35 => ?_))
      obtain ⟨z1, z2, z3, z4, z5⟩ := h35
      rw [← z2] at tb z3
      have fr : scX σ σ35 := fun k hk => z1 k (by omega) (by omega) (by omega) (by omega)
      refine j_bipush (-7) eX11_witness_38 (by decide) ?_
      refine j_icmp_eq eX11_witness_40 (by omega) (fun h40 => ?_) (fun h40 => ?_)
      · refine j_aload_n eX11_witness_47 rfl ?_
        refine j_getR flX11_74 ly24 rfl eX11_witness_48 ?_
        refine j_cV0 zX2_place lkX11_261 ⟨Nat.le_of_ble_eq_true rfl, Nat.le_of_ble_eq_true rfl⟩ ly40 rfl rfl (c_X2_place) (Nat.le_of_ble_eq_true rfl) eX11_witness_51 (k_E ?_)
        rw [z3 (by omega)]
        refine j_i2l (by omega) eX11_witness_54 ?_
        refine j_ldc2 (64) cnX11_234 eX11_witness_55 ?_
        refine j_iload_n eX11_witness_58 rfl ?_
        refine j_cS3 zX11_part lkX11_221 ⟨Nat.le_of_ble_eq_true rfl, Nat.le_of_ble_eq_true rfl⟩ (c_X11_part (by omega) (by omega)) (Nat.le_of_ble_eq_true rfl) eX11_witness_59 (k_EL ?_)
        refine r_lret rfl eX11_witness_62 ?_
        exact ⟨fr, Or.inl ⟨⟨by omega, by omega, by omega⟩, rfl⟩⟩
      · refine j_ldc2 (-4611686018427387904) cnX11_153 eX11_witness_43 ?_
        refine r_lret rfl eX11_witness_46 ?_
        exact ⟨fr, Or.inr ⟨fun z => by omega, rfl⟩⟩
    · refine j_ifne_0 eX11_witness_16 ?_
      refine j_ldc2 (-4611686018427387904) cnX11_153 eX11_witness_19 ?_
      refine r_lret rfl eX11_witness_22 ?_
      exact ⟨fun _ _ => rfl, Or.inr ⟨fun z => by omega, rfl⟩⟩
  · refine j_ifeq_0 eX11_witness_6 ?_
    refine j_ldc2 (-4611686018427387904) cnX11_153 eX11_witness_19 ?_
    refine r_lret rfl eX11_witness_22 ?_
    exact ⟨fun _ _ => rfl, Or.inr ⟨fun z => by omega, rfl⟩⟩
theorem c_X11_proves {g : Gl} {σ : Sg} (hX : TX σ) (hk : (0 ≤ σ 27 1 ∧ σ 27 1 ≤ 2) ∧ 0 ≤ σ 27 2 ∧ σ 27 2 ≤ 2) (hT : 0 ≤ σ 25 1 ∧ σ 25 1 ≤ 120) (hL : ∀ i, 0 ≤ i → i < σ 25 1 → 0 ≤ σ 26 i ∧ σ 26 i ≤ 255) : Ct g mX11_proves [vr g 24] σ (PI (fun v σ' => scX σ σ' ∧ ((¬ ((0 ≤ σ 27 1 ∧ σ 27 1 < σ 0 0) ∧ 0 ≤ σ 27 2 ∧ σ 27 2 < σ 0 1) ∧ v = -2) ∨ (((0 ≤ σ 27 1 ∧ σ 27 1 < σ 0 0) ∧ 0 ≤ σ 27 2 ∧ σ 27 2 < σ 0 1) ∧ v = trR (AX σ) (σ 26) (σ 25 1) (σ 25 1).toNat 0 1 true)))) := by
  refine Ct.of (by decide +kernel) (Nat.le_of_ble_eq_true rfl) ?_
  show jv g _ _ σ [(0, vr g 24)] 0 []
  have hP := hX.1
  have hB := hX.2.1
  have hS := hX.2.2.1
  refine j_aload_n eX11_proves_0 rfl ?_
  refine j_getR flX11_28 ly24 rfl eX11_proves_1 ?_
  refine j_cV0 zX7_isThere lkX11_201 ⟨Nat.le_of_ble_eq_true rfl, Nat.le_of_ble_eq_true rfl⟩ ly27 rfl rfl (c_X7_isThere (by omega) (by exact hP) (by exact hB)) (Nat.le_of_ble_eq_true rfl) eX11_proves_4 (k_B (fun h4 => ?_) (fun h4 => ?_))
  · refine j_ifeq_1 eX11_proves_7 ?_
    have hV : VT σ := h4
    refine j_aload_n eX11_proves_10 rfl ?_
    refine j_getR flX11_74 ly24 rfl eX11_proves_11 ?_
    refine j_aload_n eX11_proves_14 rfl ?_
    refine j_getR flX11_28 ly24 rfl eX11_proves_15 ?_
    refine j_aload_n eX11_proves_18 rfl ?_
    refine j_getR flX11_60 ly24 rfl eX11_proves_19 ?_
    refine j_aload_n eX11_proves_22 rfl ?_
    refine j_getR flX11_12 ly24 rfl eX11_proves_23 ?_
    refine j_cV3 zX2_read lkX11_264 ⟨Nat.le_of_ble_eq_true rfl, Nat.le_of_ble_eq_true rfl⟩ ly40 rfl rfl (c_X2_read (by exact hX) (by exact hV) (by exact hT) (by exact hL)) (Nat.le_of_ble_eq_true rfl) eX11_proves_26 (k_I (fun v26 σ26 h26 => ?_))
    refine j_goto eX11_proves_29 ?_
    refine r_iret rfl eX11_proves_34 ?_
    first | exact ⟨fun _ _ => rfl, Or.inl ⟨by omega, rfl⟩⟩ | exact ⟨fun k hk => h26.1 k (by omega) (by omega), Or.inr ⟨h4, h26.2⟩⟩
  · refine j_ifeq_0 eX11_proves_7 ?_
    refine j_bipush (-2) eX11_proves_32 (by decide) ?_
    refine r_iret rfl eX11_proves_34 ?_
    first | exact ⟨fun _ _ => rfl, Or.inl ⟨by omega, rfl⟩⟩ | exact ⟨fun k hk => h26.1 k (by omega) (by omega), Or.inr ⟨h4, h26.2⟩⟩
theorem c_X11_narrowed {g : Gl} {σ : Sg} {n r w : Int} (h : -2147483648 ≤ n ∧ n ≤ 2147483647 ∧ -2147483648 ≤ r ∧ r ≤ 2147483647 ∧ -2147483648 ≤ w ∧ w ≤ 2147483647) (hX : TX σ) (hk : (0 ≤ σ 27 1 ∧ σ 27 1 ≤ 2) ∧ 0 ≤ σ 27 2 ∧ σ 27 2 ≤ 2) : Ct g mX11_narrowed [vr g 24, vi n, vi r, vi w] σ (PL (fun v σ' => scX σ σ' ∧ ((((0 ≤ n ∧ n ≤ 20) ∧ (0 ≤ r ∧ r ≤ 1) ∧ (0 ≤ w ∧ w ≤ 1) ∧ ((0 ≤ σ 27 1 ∧ σ 27 1 < σ 0 0) ∧ 0 ≤ σ 27 2 ∧ σ 27 2 < σ 0 1)) ∧ v = FR (if r = 0 then mnf (fun j => mX σ ((nrF (mX σ) n.toNat 1 (fun _ => 1)).2 j)) ((nrF (mX σ) n.toNat 1 (fun _ => 1)).1 - 1).toNat 1 (mX σ ((nrF (mX σ) n.toNat 1 (fun _ => 1)).2 0)) else mnf (fun j => eX σ ((nrF (mX σ) n.toNat 1 (fun _ => 1)).2 j)) ((nrF (mX σ) n.toNat 1 (fun _ => 1)).1 - 1).toNat 1 (eX σ ((nrF (mX σ) n.toNat 1 (fun _ => 1)).2 0))) (60 * 64 ^ (nX σ).toNat) w) ∨ (¬ ((0 ≤ n ∧ n ≤ 20) ∧ (0 ≤ r ∧ r ≤ 1) ∧ (0 ≤ w ∧ w ≤ 1) ∧ ((0 ≤ σ 27 1 ∧ σ 27 1 < σ 0 0) ∧ 0 ≤ σ 27 2 ∧ σ 27 2 < σ 0 1)) ∧ v = -4611686018427387904)))) := by
  refine Ct.of (by decide +kernel) (Nat.le_of_ble_eq_true rfl) ?_
  show jv g _ _ σ [(0, vr g 24), (1, vi n), (2, vi r), (3, vi w)] 0 []
  have hP := hX.1
  have hB := hX.2.1
  have hS := hX.2.2.1
  refine j_iload_n eX11_narrowed_0 rfl ?_
  refine j_iconst 0 eX11_narrowed_1 ?_
  refine j_bipush 20 eX11_narrowed_2 (by decide) ?_
  refine j_cS3 zX11_isWithin lkX11_92 ⟨Nat.le_of_ble_eq_true rfl, Nat.le_of_ble_eq_true rfl⟩ (c_X11_isWithin (by omega)) (Nat.le_of_ble_eq_true rfl) eX11_narrowed_4 (k_B (fun h4 => ?_) (fun h4 => ?_))
  · refine j_ifeq_1 eX11_narrowed_7 ?_
    refine j_iload_n eX11_narrowed_10 rfl ?_
    refine j_iconst 0 eX11_narrowed_11 ?_
    refine j_iconst 1 eX11_narrowed_12 ?_
    refine j_cS3 zX11_isWithin lkX11_92 ⟨Nat.le_of_ble_eq_true rfl, Nat.le_of_ble_eq_true rfl⟩ (c_X11_isWithin (by omega)) (Nat.le_of_ble_eq_true rfl) eX11_narrowed_13 (k_B (fun h13 => ?_) (fun h13 => ?_))
    · refine j_ifeq_1 eX11_narrowed_16 ?_
      refine j_iload_n eX11_narrowed_19 rfl ?_
      refine j_iconst 0 eX11_narrowed_20 ?_
      refine j_iconst 1 eX11_narrowed_21 ?_
      refine j_cS3 zX11_isWithin lkX11_92 ⟨Nat.le_of_ble_eq_true rfl, Nat.le_of_ble_eq_true rfl⟩ (c_X11_isWithin (by omega)) (Nat.le_of_ble_eq_true rfl) eX11_narrowed_22 (k_B (fun h22 => ?_) (fun h22 => ?_))
      · refine j_ifne_1 eX11_narrowed_25 ?_
        refine j_aload_n eX11_narrowed_32 rfl ?_
        refine j_getR flX11_28 ly24 rfl eX11_narrowed_33 ?_
        refine j_cV0 zX7_isThere lkX11_201 ⟨Nat.le_of_ble_eq_true rfl, Nat.le_of_ble_eq_true rfl⟩ ly27 rfl rfl (c_X7_isThere (by omega) (by exact hP) (by exact hB)) (Nat.le_of_ble_eq_true rfl) eX11_narrowed_36 (k_B (fun h36 => ?_) (fun h36 => ?_))
        · refine j_ifne_1 eX11_narrowed_39 ?_
          have hV : VT σ := h36
          have q1 := hX.2.2.1 (σ 27 1) hV.1.1 hV.1.2
          have en : nX σ = σ 1 (σ 27 1) - 1 := rfl
          have p6 := p64_b (n := nX σ) (by omega)
          refine j_aload_n eX11_narrowed_46 rfl ?_
          refine j_getR flX11_81 ly24 rfl eX11_narrowed_47 ?_
          refine j_aload_n eX11_narrowed_50 rfl ?_
          refine j_getR flX11_28 ly24 rfl eX11_narrowed_51 ?_
          refine j_aload_n eX11_narrowed_54 rfl ?_
          refine j_getR flX11_60 ly24 rfl eX11_narrowed_55 ?_
          refine j_iload_n eX11_narrowed_58 rfl ?_
          refine j_cV3 zX0_narrow lkX11_267 ⟨Nat.le_of_ble_eq_true rfl, Nat.le_of_ble_eq_true rfl⟩ ly42 rfl rfl (c_X0_narrow (by exact hX) (by exact hV) (by omega)) (Nat.le_of_ble_eq_true rfl) eX11_narrowed_59 (k_V (fun σ59 h59 => ?_))
          generalize hR : (nrF (mX σ) n.toNat 1 (fun _ => 1)) = R at *
          obtain ⟨z1, z2, z3, z4, z5⟩ := h59
          have fr : scX σ σ59 := fun k hk => z1 k (by omega) (by omega) (by omega) (by omega) (by omega) (by omega)
          have qm : ∀ j, 0 ≤ j → j < σ59 42 3 → -4611686018427387904 ≤ σ59 44 j ∧ σ59 44 j ≤ 4611686018427387904 := fun j x z => by
            rw [z3] at z
            have y := z5 j x z
            have := mX_b hX hV (a := R.2 j) y.2.2.2
            rw [y.2.1]
            omega
          have qe : ∀ j, 0 ≤ j → j < σ59 42 3 → -4611686018427387904 ≤ σ59 45 j ∧ σ59 45 j ≤ 4611686018427387904 := fun j x z => by
            rw [z3] at z
            have y := z5 j x z
            have := eX_b hX hV (a := R.2 j) y.2.2.2
            rw [y.2.2.1]
            omega
          have em : mnf (σ59 44) (σ59 42 3 - 1).toNat 1 (σ59 44 0) = mnf (fun j => mX σ (R.2 j)) (R.1 - 1).toNat 1 (mX σ (R.2 0)) := by
            rw [z3, (z5 0 (by omega) (by omega)).2.1]
            exact mnf_congr _ _ _ (fun j x z => (z5 j (by omega) (by omega)).2.1)
          have ee : mnf (σ59 45) (σ59 42 3 - 1).toNat 1 (σ59 45 0) = mnf (fun j => eX σ (R.2 j)) (R.1 - 1).toNat 1 (eX σ (R.2 0)) := by
            rw [z3, (z5 0 (by omega) (by omega)).2.2.1]
            exact mnf_congr _ _ _ (fun j x z => (z5 j (by omega) (by omega)).2.2.1)
          have bm := mnf_b (f := fun j => mX σ (R.2 j)) (A := -1800000000000000000) (B := 1800000000000000000) (R.1 - 1).toNat 1 (mX σ (R.2 0)) (fun j x z => mX_b hX hV (z5 j (by omega) (by omega)).2.2.2) (mX_b hX hV (z5 0 (by omega) (by omega)).2.2.2).1 (mX_b hX hV (z5 0 (by omega) (by omega)).2.2.2).2
          have be := mnf_b (f := fun j => eX σ (R.2 j)) (A := -1800000000000000000) (B := 1800000000000000000) (R.1 - 1).toNat 1 (eX σ (R.2 0)) (fun j x z => eX_b hX hV (z5 j (by omega) (by omega)).2.2.2) (eX_b hX hV (z5 0 (by omega) (by omega)).2.2.2).1 (eX_b hX hV (z5 0 (by omega) (by omega)).2.2.2).2
          have bw := bw_b (b := 60) (by omega) p6
          refine j_iload_n eX11_narrowed_62 rfl ?_
          refine j_if_ne eX11_narrowed_63 (by omega) (fun h63 => ?_) (fun h63 => ?_)
          · refine j_aload_n eX11_narrowed_76 rfl ?_
            refine j_getR flX11_81 ly24 rfl eX11_narrowed_77 ?_
            refine j_cV0 zX0_leastEnd lkX11_275 ⟨Nat.le_of_ble_eq_true rfl, Nat.le_of_ble_eq_true rfl⟩ ly42 rfl rfl (c_X0_leastEnd (by rw [z3]; exact z4) (by exact qe)) (Nat.le_of_ble_eq_true rfl) eX11_narrowed_80 (k_EL ?_)
            first | rw [em] | rw [ee]
            refine j_lstore eX11_narrowed_83 (Nat.le_of_ble_eq_true rfl) ?_
            refine j_lload eX11_narrowed_85 rfl ?_
            refine j_aload_n eX11_narrowed_87 rfl ?_
            refine j_getR flX11_60 ly24 rfl eX11_narrowed_88 ?_
            refine j_cV0 zX4_commonBelow lkX11_278 ⟨Nat.le_of_ble_eq_true rfl, Nat.le_of_ble_eq_true rfl⟩ ly35 rfl rfl (c_X4_commonBelow) (Nat.le_of_ble_eq_true rfl) eX11_narrowed_91 (k_EL ?_)
            rw [z2]
            refine j_iload_n eX11_narrowed_94 rfl ?_
            refine j_cS3 zX11_part lkX11_221 ⟨Nat.le_of_ble_eq_true rfl, Nat.le_of_ble_eq_true rfl⟩ (c_X11_part (by omega) (by omega)) (Nat.le_of_ble_eq_true rfl) eX11_narrowed_95 (k_EL ?_)
            refine r_lret rfl eX11_narrowed_98 ?_
            refine ⟨fr, Or.inl ⟨by omega, ?_⟩⟩
            first | (rw [if_pos (show r = 0 by omega)]; rfl) | (rw [if_neg (show ¬ r = 0 by omega)]; rfl)
          · refine j_aload_n eX11_narrowed_66 rfl ?_
            refine j_getR flX11_81 ly24 rfl eX11_narrowed_67 ?_
            refine j_cV0 zX0_leastNumber lkX11_271 ⟨Nat.le_of_ble_eq_true rfl, Nat.le_of_ble_eq_true rfl⟩ ly42 rfl rfl (c_X0_leastNumber (by rw [z3]; exact z4) (by exact qm)) (Nat.le_of_ble_eq_true rfl) eX11_narrowed_70 (k_EL ?_)
            refine j_goto eX11_narrowed_73 ?_
            first | rw [em] | rw [ee]
            refine j_lstore eX11_narrowed_83 (Nat.le_of_ble_eq_true rfl) ?_
            refine j_lload eX11_narrowed_85 rfl ?_
            refine j_aload_n eX11_narrowed_87 rfl ?_
            refine j_getR flX11_60 ly24 rfl eX11_narrowed_88 ?_
            refine j_cV0 zX4_commonBelow lkX11_278 ⟨Nat.le_of_ble_eq_true rfl, Nat.le_of_ble_eq_true rfl⟩ ly35 rfl rfl (c_X4_commonBelow) (Nat.le_of_ble_eq_true rfl) eX11_narrowed_91 (k_EL ?_)
            rw [z2]
            refine j_iload_n eX11_narrowed_94 rfl ?_
            refine j_cS3 zX11_part lkX11_221 ⟨Nat.le_of_ble_eq_true rfl, Nat.le_of_ble_eq_true rfl⟩ (c_X11_part (by omega) (by omega)) (Nat.le_of_ble_eq_true rfl) eX11_narrowed_95 (k_EL ?_)
            refine r_lret rfl eX11_narrowed_98 ?_
            refine ⟨fr, Or.inl ⟨by omega, ?_⟩⟩
            first | (rw [if_pos (show r = 0 by omega)]; rfl) | (rw [if_neg (show ¬ r = 0 by omega)]; rfl)
        · refine j_ifne_0 eX11_narrowed_39 ?_
          refine j_ldc2 (-4611686018427387904) cnX11_153 eX11_narrowed_42 ?_
          refine r_lret rfl eX11_narrowed_45 ?_
          exact ⟨fun _ _ => rfl, Or.inr ⟨by omega, rfl⟩⟩
      · refine j_ifne_0 eX11_narrowed_25 ?_
        refine j_ldc2 (-4611686018427387904) cnX11_153 eX11_narrowed_28 ?_
        refine r_lret rfl eX11_narrowed_31 ?_
        exact ⟨fun _ _ => rfl, Or.inr ⟨by omega, rfl⟩⟩
    · refine j_ifeq_0 eX11_narrowed_16 ?_
      refine j_ldc2 (-4611686018427387904) cnX11_153 eX11_narrowed_28 ?_
      refine r_lret rfl eX11_narrowed_31 ?_
      exact ⟨fun _ _ => rfl, Or.inr ⟨by omega, rfl⟩⟩
  · refine j_ifeq_0 eX11_narrowed_7 ?_
    refine j_ldc2 (-4611686018427387904) cnX11_153 eX11_narrowed_28 ?_
    refine r_lret rfl eX11_narrowed_31 ?_
    exact ⟨fun _ _ => rfl, Or.inr ⟨by omega, rfl⟩⟩
theorem c_X11_sure {g : Gl} {σ : Sg} {a : Int} (h : -2147483648 ≤ a ∧ a ≤ 2147483647) (hX : TX σ) (hk : (0 ≤ σ 27 1 ∧ σ 27 1 ≤ 2) ∧ 0 ≤ σ 27 2 ∧ σ 27 2 ≤ 2) : Ct g mX11_sure [vr g 24, vi a] σ (PI (fun v σ' => scX σ σ' ∧ ((¬ (0 ≤ a ∧ a ≤ 2) ∧ v = -1) ∨ (((0 ≤ a ∧ a ≤ 2) ∧ ¬ (0 ≤ σ 27 2 ∧ σ 27 2 < σ 0 1)) ∧ v = -2) ∨ (((0 ≤ a ∧ a ≤ 2) ∧ (0 ≤ σ 27 2 ∧ σ 27 2 < σ 0 1)) ∧ ∃ f : Int → Int, (∀ i, 0 ≤ i → i < 3 → f i = 0) ∧ v = trS (JX σ) 127 1 f a)))) := by
  refine Ct.of (by decide +kernel) (Nat.le_of_ble_eq_true rfl) ?_
  show jv g _ _ σ [(0, vr g 24), (1, vi a)] 0 []
  have hP := hX.1
  have hB := hX.2.1
  have hS := hX.2.2.1
  refine j_iload_n eX11_sure_0 rfl ?_
  refine j_iconst 0 eX11_sure_1 ?_
  refine j_iconst 2 eX11_sure_2 ?_
  refine j_cS3 zX11_isWithin lkX11_92 ⟨Nat.le_of_ble_eq_true rfl, Nat.le_of_ble_eq_true rfl⟩ (c_X11_isWithin (by omega)) (Nat.le_of_ble_eq_true rfl) eX11_sure_3 (k_B (fun h3 => ?_) (fun h3 => ?_))
  · refine j_ifne_1 eX11_sure_6 ?_
    refine j_aload_n eX11_sure_11 rfl ?_
    refine j_getR flX11_28 ly24 rfl eX11_sure_12 ?_
    refine j_cV0 zX7_hasBox lkX11_281 ⟨Nat.le_of_ble_eq_true rfl, Nat.le_of_ble_eq_true rfl⟩ ly27 rfl rfl (c_X7_hasBox (by omega) (by exact hB)) (Nat.le_of_ble_eq_true rfl) eX11_sure_15 (k_B (fun h15 => ?_) (fun h15 => ?_))
    · refine j_ifne_1 eX11_sure_18 ?_
      refine j_aload_n eX11_sure_24 rfl ?_
      refine j_getR flX11_88 ly24 rfl eX11_sure_25 ?_
      refine j_aload_n eX11_sure_28 rfl ?_
      refine j_getR flX11_28 ly24 rfl eX11_sure_29 ?_
      refine j_aload_n eX11_sure_32 rfl ?_
      refine j_getR flX11_60 ly24 rfl eX11_sure_33 ?_
      refine j_cV2 zX5_measure lkX11_283 ⟨Nat.le_of_ble_eq_true rfl, Nat.le_of_ble_eq_true rfl⟩ ly46 rfl rfl (c_X5_measure (by exact hX) (by exact h15)) (Nat.le_of_ble_eq_true rfl) eX11_sure_36 (k_V (fun σ36 h36 => ?_))
      obtain ⟨z1, f, z2, z3⟩ := h36
      refine j_aload_n eX11_sure_39 rfl ?_
      refine j_getR flX11_88 ly24 rfl eX11_sure_40 ?_
      refine j_iload_n eX11_sure_43 rfl ?_
      refine j_cV1 zX5_share lkX11_286 ⟨Nat.le_of_ble_eq_true rfl, Nat.le_of_ble_eq_true rfl⟩ ly46 rfl rfl (c_X5_share (by omega)) (Nat.le_of_ble_eq_true rfl) eX11_sure_44 (k_E ?_)
      refine r_iret rfl eX11_sure_47 ?_
      exact ⟨fun k hk => z1 k (by omega) (by omega) (by omega), Or.inr (Or.inr ⟨by omega, f, z2, by rw [z3]⟩)⟩
    · refine j_ifne_0 eX11_sure_18 ?_
      refine j_bipush (-2) eX11_sure_21 (by decide) ?_
      refine r_iret rfl eX11_sure_23 ?_
      exact ⟨fun _ _ => rfl, Or.inr (Or.inl ⟨by omega, rfl⟩)⟩
  · refine j_ifne_0 eX11_sure_6 ?_
    refine j_iconst (-1) eX11_sure_9 ?_
    refine r_iret rfl eX11_sure_10 ?_
    exact ⟨fun _ _ => rfl, Or.inl ⟨by omega, rfl⟩⟩
theorem c_X11_first {g : Gl} {σ : Sg} (hX : TX σ) (hk : (0 ≤ σ 27 1 ∧ σ 27 1 ≤ 2) ∧ 0 ≤ σ 27 2 ∧ σ 27 2 ≤ 2) : Ct g mX11_first [vr g 24] σ (PI (fun v σ' => scX σ σ' ∧ ((¬ (0 ≤ σ 27 2 ∧ σ 27 2 < σ 0 1) ∧ v = -2) ∨ ((0 ≤ σ 27 2 ∧ σ 27 2 < σ 0 1) ∧ v = frs (JX σ) 127 1)))) := by
  refine Ct.of (by decide +kernel) (Nat.le_of_ble_eq_true rfl) ?_
  show jv g _ _ σ [(0, vr g 24)] 0 []
  have hP := hX.1
  have hB := hX.2.1
  have hS := hX.2.2.1
  refine j_aload_n eX11_first_0 rfl ?_
  refine j_getR flX11_28 ly24 rfl eX11_first_1 ?_
  refine j_cV0 zX7_hasBox lkX11_281 ⟨Nat.le_of_ble_eq_true rfl, Nat.le_of_ble_eq_true rfl⟩ ly27 rfl rfl (c_X7_hasBox (by omega) (by exact hB)) (Nat.le_of_ble_eq_true rfl) eX11_first_4 (k_B (fun h4 => ?_) (fun h4 => ?_))
  · refine j_ifeq_1 eX11_first_7 ?_
    refine j_aload_n eX11_first_10 rfl ?_
    refine j_getR flX11_88 ly24 rfl eX11_first_11 ?_
    refine j_aload_n eX11_first_14 rfl ?_
    refine j_getR flX11_28 ly24 rfl eX11_first_15 ?_
    refine j_aload_n eX11_first_18 rfl ?_
    refine j_getR flX11_60 ly24 rfl eX11_first_19 ?_
    refine j_cV2 zX5_firstHeld lkX11_289 ⟨Nat.le_of_ble_eq_true rfl, Nat.le_of_ble_eq_true rfl⟩ ly46 rfl rfl (c_X5_firstHeld (by exact hX) (by exact h4)) (Nat.le_of_ble_eq_true rfl) eX11_first_22 (k_I (fun v22 σ22 h22 => ?_))
    refine j_goto eX11_first_25 ?_
    refine r_iret rfl eX11_first_30 ?_
    first | exact ⟨fun _ _ => rfl, Or.inl ⟨by omega, rfl⟩⟩ | exact ⟨fun k hk => h22.1 k (by omega) (by omega), Or.inr ⟨h4, h22.2⟩⟩
  · refine j_ifeq_0 eX11_first_7 ?_
    refine j_bipush (-2) eX11_first_28 (by decide) ?_
    refine r_iret rfl eX11_first_30 ?_
    first | exact ⟨fun _ _ => rfl, Or.inl ⟨by omega, rfl⟩⟩ | exact ⟨fun k hk => h22.1 k (by omega) (by omega), Or.inr ⟨h4, h22.2⟩⟩
