theorem l_J7_fill_d0a16 {g : Gl} {σ : Sg} {v : Int} : ∀ (t : Nat) (τ : Sg), (t : Int) ≤ 8 → (∀ k, k ≠ 36 → τ k = σ k) → (∀ i, 0 ≤ i → i < 8 - (t : Int) → τ 36 i = v) → jv g mJ7_fill_d0a16 (Fm g (PV (fun σ' => (∀ k, k ≠ 36 → σ' k = σ k) ∧ ∀ i, 0 ≤ i → i < 8 → σ' 36 i = v))) τ [(0, vr g 36), (1, vl v), (3, vi (8 - (t : Int))), (4, vi 8)] 6 [] := by
  intro t
  induction t with
  | zero =>
    intro τ h1 h2 h3
    refine j_iload_n eJ7_fill_d0a16_6 rfl ?_
    refine j_iload eJ7_fill_d0a16_7 rfl ?_
    refine j_icmp_ge eJ7_fill_d0a16_9 (by omega) (fun h => ?_) (fun h => absurd (by omega) h)
    exact r_vret rfl eJ7_fill_d0a16_22 ⟨h2, fun i a b => h3 i a (by omega)⟩
  | succ t ih =>
    intro τ h1 h2 h3
    refine j_iload_n eJ7_fill_d0a16_6 rfl ?_
    refine j_iload eJ7_fill_d0a16_7 rfl ?_
    refine j_icmp_ge eJ7_fill_d0a16_9 (by omega) (fun h9 => absurd h9 (by omega)) (fun h9 => ?_)
    refine j_aload_n eJ7_fill_d0a16_12 rfl ?_
    refine j_iload_n eJ7_fill_d0a16_13 rfl ?_
    refine j_lload_n eJ7_fill_d0a16_14 rfl ?_
    refine j_last ly36 (by omega) eJ7_fill_d0a16_15 ?_
    refine j_iinc eJ7_fill_d0a16_16 rfl (Nat.le_of_ble_eq_true rfl) ?_
    refine j_goto eJ7_fill_d0a16_19 ?_
    have e1 : 8 - ((t + 1 : Nat) : Int) + 1 = 8 - (t : Int) := by omega
    rw [e1]
    refine jv_lv ?_ (ih _ (by omega) (fun k hk => by rw [up_ne hk]; exact h2 k hk) (fun i a b => ?_))
    · exact lvC rfl (lvC rfl (lvC rfl (lvC rfl (lv0))))
    · rw [up_same]
      by_cases z : i = 8 - ((t + 1 : Nat) : Int)
      · rw [z, up1_same]
      · rw [up1_ne z]; exact h3 i a (by omega)
theorem c_J7_fill_d0a16_36 {g : Gl} {σ : Sg} {v : Int} : Ct g mJ7_fill_d0a16 [vr g 36, vl v] σ (PV (fun σ' => (∀ k, k ≠ 36 → σ' k = σ k) ∧ ∀ i, 0 ≤ i → i < 8 → σ' 36 i = v)) := by
  refine Ct.of (by decide +kernel) (Nat.le_of_ble_eq_true rfl) ?_
  show jv g _ _ σ [(0, vr g 36), (1, vl v)] 0 []
  refine j_iconst 0 eJ7_fill_d0a16_0 ?_
  refine j_istore_n eJ7_fill_d0a16_1 (Nat.le_of_ble_eq_true rfl) ?_
  refine j_aload_n eJ7_fill_d0a16_2 rfl ?_
  refine j_alen (by decide) ly36 eJ7_fill_d0a16_3 ?_
  refine j_istore eJ7_fill_d0a16_4 (Nat.le_of_ble_eq_true rfl) ?_
  refine jv_lv ?_ (l_J7_fill_d0a16 8 σ (by omega) (fun _ _ => rfl) (fun i a b => by omega))
  exact lvC rfl (lvC rfl (lvC rfl (lvC rfl (lv0))))
theorem l_J7_fill_53178 {g : Gl} {σ : Sg} {v : Int} : ∀ (t : Nat) (τ : Sg), (t : Int) ≤ 3 → (∀ k, k ≠ 47 → τ k = σ k) → (∀ i, 0 ≤ i → i < 3 - (t : Int) → τ 47 i = v) → jv g mJ7_fill_53178 (Fm g (PV (fun σ' => (∀ k, k ≠ 47 → σ' k = σ k) ∧ ∀ i, 0 ≤ i → i < 3 → σ' 47 i = v))) τ [(0, vr g 47), (1, vi v), (2, vi (3 - (t : Int))), (3, vi 3)] 5 [] := by
  intro t
  induction t with
  | zero =>
    intro τ h1 h2 h3
    refine j_iload_n eJ7_fill_53178_5 rfl ?_
    refine j_iload_n eJ7_fill_53178_6 rfl ?_
    refine j_icmp_ge eJ7_fill_53178_7 (by omega) (fun h => ?_) (fun h => absurd (by omega) h)
    exact r_vret rfl eJ7_fill_53178_20 ⟨h2, fun i a b => h3 i a (by omega)⟩
  | succ t ih =>
    intro τ h1 h2 h3
    refine j_iload_n eJ7_fill_53178_5 rfl ?_
    refine j_iload_n eJ7_fill_53178_6 rfl ?_
    refine j_icmp_ge eJ7_fill_53178_7 (by omega) (fun h7 => absurd h7 (by omega)) (fun h7 => ?_)
    refine j_aload_n eJ7_fill_53178_10 rfl ?_
    refine j_iload_n eJ7_fill_53178_11 rfl ?_
    refine j_iload_n eJ7_fill_53178_12 rfl ?_
    refine j_iast ly47 (by omega) eJ7_fill_53178_13 ?_
    refine j_iinc eJ7_fill_53178_14 rfl (Nat.le_of_ble_eq_true rfl) ?_
    refine j_goto eJ7_fill_53178_17 ?_
    have e1 : 3 - ((t + 1 : Nat) : Int) + 1 = 3 - (t : Int) := by omega
    rw [e1]
    refine jv_lv ?_ (ih _ (by omega) (fun k hk => by rw [up_ne hk]; exact h2 k hk) (fun i a b => ?_))
    · exact lvC rfl (lvC rfl (lvC rfl (lvC rfl (lv0))))
    · rw [up_same]
      by_cases z : i = 3 - ((t + 1 : Nat) : Int)
      · rw [z, up1_same]
      · rw [up1_ne z]; exact h3 i a (by omega)
theorem c_J7_fill_53178_47 {g : Gl} {σ : Sg} {v : Int} : Ct g mJ7_fill_53178 [vr g 47, vi v] σ (PV (fun σ' => (∀ k, k ≠ 47 → σ' k = σ k) ∧ ∀ i, 0 ≤ i → i < 3 → σ' 47 i = v)) := by
  refine Ct.of (by decide +kernel) (Nat.le_of_ble_eq_true rfl) ?_
  show jv g _ _ σ [(0, vr g 47), (1, vi v)] 0 []
  refine j_iconst 0 eJ7_fill_53178_0 ?_
  refine j_istore_n eJ7_fill_53178_1 (Nat.le_of_ble_eq_true rfl) ?_
  refine j_aload_n eJ7_fill_53178_2 rfl ?_
  refine j_alen (by decide) ly47 eJ7_fill_53178_3 ?_
  refine j_istore_n eJ7_fill_53178_4 (Nat.le_of_ble_eq_true rfl) ?_
  refine jv_lv ?_ (l_J7_fill_53178 3 σ (by omega) (fun _ _ => rfl) (fun i a b => by omega))
  exact lvC rfl (lvC rfl (lvC rfl (lvC rfl (lv0))))
theorem l_X4_multiply {g : Gl} {σ : Sg} {l r : Int} (hT : 0 ≤ σ 35 1 ∧ σ 35 1 ≤ 6) : ∀ (m : Nat), (m : Int) ≤ σ 35 1 + 1 → jv g mX4_multiply (Fm g (PV (fun σ' => σ' = setc (up σ 35 1 (σ 35 1 + 1)) 36 (mulF (σ 36) (σ 35 1 + 1) l r)))) (setc (up σ 35 1 (σ 35 1 + 1)) 36 (mulP (σ 36) (σ 35 1 + 1) l r m)) [(0, vr g 35), (1, vl l), (3, vl r), (5, vi (m : Int))] 38 [] := by
  intro m
  induction m with
  | zero =>
    intro h1
    refine j_iload eX4_multiply_38 rfl ?_
    refine j_if_le eX4_multiply_40 (by omega) (fun h => ?_) (fun h => absurd (by omega) h)
    refine j_aload_n eX4_multiply_77 rfl ?_
    refine j_getR flX4_9 ly35 rfl eX4_multiply_78 ?_
    refine j_iconst 0 eX4_multiply_81 ?_
    refine j_dup2 rfl rfl eX4_multiply_82 ?_
    refine j_lald ly36 (by omega) eX4_multiply_83 ?_
    refine j_lload_n eX4_multiply_84 rfl ?_
    refine j_lmul eX4_multiply_85 ?_
    refine j_last ly36 (by omega) eX4_multiply_86 ?_
    exact r_vret rfl eX4_multiply_87 mulP_end
  | succ m ih =>
    intro h1
    refine j_iload eX4_multiply_38 rfl ?_
    refine j_if_le eX4_multiply_40 (by omega) (fun h40 => absurd h40 (by omega)) (fun h40 => ?_)
    refine j_aload_n eX4_multiply_43 rfl ?_
    refine j_getR flX4_9 ly35 rfl eX4_multiply_44 ?_
    refine j_iload eX4_multiply_47 rfl ?_
    refine j_aload_n eX4_multiply_49 rfl ?_
    refine j_getR flX4_9 ly35 rfl eX4_multiply_50 ?_
    refine j_iload eX4_multiply_53 rfl ?_
    refine j_lald ly36 (by omega) eX4_multiply_55 ?_
    refine j_lload_n eX4_multiply_56 rfl ?_
    refine j_lmul eX4_multiply_57 ?_
    refine j_aload_n eX4_multiply_58 rfl ?_
    refine j_getR flX4_9 ly35 rfl eX4_multiply_59 ?_
    refine j_iload eX4_multiply_62 rfl ?_
    refine j_iconst 1 eX4_multiply_64 ?_
    refine j_isub eX4_multiply_65 ?_
    refine j_lald ly36 (by omega) eX4_multiply_66 ?_
    refine j_lload_n eX4_multiply_67 rfl ?_
    refine j_lmul eX4_multiply_68 ?_
    refine j_ladd eX4_multiply_69 ?_
    refine j_last ly36 (by omega) eX4_multiply_70 ?_
    refine j_iinc eX4_multiply_71 rfl (Nat.le_of_ble_eq_true rfl) ?_
    refine j_goto eX4_multiply_74 ?_
    refine jv_st (mulP_step (by omega)) ?_
    have e1 : ((m + 1 : Nat) : Int) + -1 = (m : Int) := by omega
    rw [e1]
    refine jv_lv ?_ (ih (by omega))
    exact lvC rfl (lvC rfl (lvC rfl (lvC rfl (lv0))))
theorem c_X4_multiply {g : Gl} {σ : Sg} {l r : Int} (hT : 0 ≤ σ 35 1 ∧ σ 35 1 ≤ 6) : Ct g mX4_multiply [vr g 35, vl l, vl r] σ (PV (fun σ' => σ' = setc (up σ 35 1 (σ 35 1 + 1)) 36 (mulF (σ 36) (σ 35 1 + 1) l r))) := by
  refine Ct.of (by decide +kernel) (Nat.le_of_ble_eq_true rfl) ?_
  show jv g _ _ σ [(0, vr g 35), (1, vl l), (3, vl r)] 0 []
  refine j_aload_n eX4_multiply_0 rfl ?_
  refine j_getI flX4_15 ly35 rfl eX4_multiply_1 ?_
  refine j_if_lt eX4_multiply_4 (by omega) (fun h4 => absurd h4 (by omega)) (fun h4 => ?_)
  refine j_aload_n eX4_multiply_7 rfl ?_
  refine j_getI flX4_15 ly35 rfl eX4_multiply_8 ?_
  refine j_iconst 1 eX4_multiply_11 ?_
  refine j_iadd eX4_multiply_12 ?_
  refine j_aload_n eX4_multiply_13 rfl ?_
  refine j_getR flX4_9 ly35 rfl eX4_multiply_14 ?_
  refine j_alen (by decide) ly36 eX4_multiply_17 ?_
  refine j_icmp_lt eX4_multiply_18 (by omega) (fun h18 => ?_) (fun h18 => absurd h18 (by omega))
  refine j_aload_n eX4_multiply_22 rfl ?_
  refine j_dup rfl eX4_multiply_23 ?_
  refine j_getI flX4_15 ly35 rfl eX4_multiply_24 ?_
  refine j_iconst 1 eX4_multiply_27 ?_
  refine j_iadd eX4_multiply_28 ?_
  refine j_putI fpX4_15 ly35 rfl eX4_multiply_29 ?_
  refine j_aload_n eX4_multiply_32 rfl ?_
  refine j_getI flX4_15 ly35 rfl eX4_multiply_33 ?_
  refine j_istore eX4_multiply_36 (Nat.le_of_ble_eq_true rfl) ?_
  have e0 : (up σ 35 1 (σ 35 1 + 1)) 35 1 = (((σ 35 1 + 1).toNat : Nat) : Int) := by show σ 35 1 + 1 = _; omega
  rw [e0]
  have e2 : up σ 35 1 (σ 35 1 + 1) = setc (up σ 35 1 (σ 35 1 + 1)) 36 (mulP (σ 36) (σ 35 1 + 1) l r (σ 35 1 + 1).toNat) := (setc_self (up σ 35 1 (σ 35 1 + 1)) 36 (show mulP (σ 36) (σ 35 1 + 1) l r (σ 35 1 + 1).toNat = σ 36 from mulP_top (σ 36) (by omega))).symm
  refine jv_st e2 (jv_lv ?_ (l_X4_multiply hT (σ 35 1 + 1).toNat (by omega)))
  exact lvC rfl (lvC rfl (lvC rfl (lvC rfl (lv0))))
theorem c_X4_raise {g : Gl} {σ : Sg} (hT : 0 ≤ σ 35 1 ∧ σ 35 1 ≤ 6) : Ct g mX4_raise [vr g 35] σ (PV (fun σ' => σ' = setc (up σ 35 1 (σ 35 1 + 1)) 36 (mulF (σ 36) (σ 35 1 + 1) 1 1))) := by
  refine Ct.of (by decide +kernel) (Nat.le_of_ble_eq_true rfl) ?_
  show jv g _ _ σ [(0, vr g 35)] 0 []
  refine j_aload_n eX4_raise_0 rfl ?_
  refine j_lconst1 eX4_raise_1 ?_
  refine j_lconst1 eX4_raise_2 ?_
  refine j_cV2 zX4_multiply lkX4_69 ⟨Nat.le_of_ble_eq_true rfl, Nat.le_of_ble_eq_true rfl⟩ ly35 rfl rfl (c_X4_multiply (by omega)) (Nat.le_of_ble_eq_true rfl) eX4_raise_3 (k_VE ?_)
  refine r_vret rfl eX4_raise_6 ?_
  first | exact rfl | (exfalso; omega)
theorem l_X4_addWhole {g : Gl} {σ : Sg} {w : Int} (hT : 0 ≤ σ 35 1 ∧ σ 35 1 ≤ 7) : ∀ (t : Nat), (t : Int) ≤ σ 35 1 + 1 → jv g mX4_addWhole (Fm g (PV (fun σ' => σ' = setc σ 36 (addP (σ 36) (σ 35 1) w (σ 35 1 + 1))))) (setc σ 36 (addP (σ 36) (σ 35 1) w (σ 35 1 + 1 - (t : Int)))) [(0, vr g 35), (1, vl w), (3, vi (σ 35 1 + 1 - (t : Int)))] 2 [] := by
  intro t
  induction t with
  | zero =>
    intro h1
    have f6 : (setc σ 36 (addP (σ 36) (σ 35 1) w (σ 35 1 + 1 - ((0 : Nat) : Int)))) 35 1 = σ 35 1 := rfl
    refine j_iload_n eX4_addWhole_2 rfl ?_
    refine j_aload_n eX4_addWhole_3 rfl ?_
    refine j_getI flX4_15 ly35 rfl eX4_addWhole_4 ?_
    refine j_icmp_gt eX4_addWhole_7 (by omega) (fun h => ?_) (fun h => absurd (by omega) h)
    refine r_vret rfl eX4_addWhole_42 ?_
    rw [show σ 35 1 + 1 - ((0 : Nat) : Int) = σ 35 1 + 1 from by omega]
  | succ t ih =>
    intro h1
    try have f5 : ∀ j, (setc σ 36 (addP (σ 36) (σ 35 1) w (σ 35 1 + 1 - ((t + 1 : Nat) : Int)))) 35 j = σ 35 j := fun _ => rfl
    try have f6 := f5 1
    refine j_iload_n eX4_addWhole_2 rfl ?_
    refine j_aload_n eX4_addWhole_3 rfl ?_
    refine j_getI flX4_15 ly35 rfl eX4_addWhole_4 ?_
    refine j_icmp_gt eX4_addWhole_7 (by omega) (fun h7 => absurd h7 (by omega)) (fun h7 => ?_)
    refine j_iload_n eX4_addWhole_10 rfl ?_
    refine j_aload_n eX4_addWhole_11 rfl ?_
    refine j_getR flX4_9 ly35 rfl eX4_addWhole_12 ?_
    refine j_alen (by decide) ly36 eX4_addWhole_15 ?_
    refine j_icmp_ge eX4_addWhole_16 (by omega) (fun h16 => absurd h16 (by omega)) (fun h16 => ?_)
    refine j_aload_n eX4_addWhole_19 rfl ?_
    refine j_getR flX4_9 ly35 rfl eX4_addWhole_20 ?_
    refine j_iload_n eX4_addWhole_23 rfl ?_
    refine j_dup2 rfl rfl eX4_addWhole_24 ?_
    refine j_lald ly36 (by omega) eX4_addWhole_25 ?_
    refine j_lload_n eX4_addWhole_26 rfl ?_
    refine j_aload_n eX4_addWhole_27 rfl ?_
    refine j_iload_n eX4_addWhole_28 rfl ?_
    have wb := bnZ_b hT (i := σ 35 1 + 1 - ((t + 1 : Nat) : Int)) (by omega)
    refine j_cV1 zX4_ways lkX4_77 ⟨Nat.le_of_ble_eq_true rfl, Nat.le_of_ble_eq_true rfl⟩ ly35 rfl rfl (c_X4_ways (by rw [f6]; omega) (by rw [f6]; omega)) (Nat.le_of_ble_eq_true rfl) eX4_addWhole_29 (k_E ?_)
    have wc : -2147483648 ≤ bnZ ((setc σ 36 (addP (σ 36) (σ 35 1) w (σ 35 1 + 1 - ((t + 1 : Nat) : Int)))) 35 1) (σ 35 1 + 1 - ((t + 1 : Nat) : Int)) ∧ bnZ ((setc σ 36 (addP (σ 36) (σ 35 1) w (σ 35 1 + 1 - ((t + 1 : Nat) : Int)))) 35 1) (σ 35 1 + 1 - ((t + 1 : Nat) : Int)) ≤ 2147483647 := by rw [f6]; omega
    refine j_i2l (by exact wc) eX4_addWhole_32 ?_
    refine j_lmul eX4_addWhole_33 ?_
    refine j_ladd eX4_addWhole_34 ?_
    refine j_last ly36 (by omega) eX4_addWhole_35 ?_
    refine j_iinc eX4_addWhole_36 rfl (Nat.le_of_ble_eq_true rfl) ?_
    refine j_goto eX4_addWhole_39 ?_
    try have f5 : ∀ j, (setc σ 36 (addP (σ 36) (σ 35 1) w (σ 35 1 + 1 - ((t + 1 : Nat) : Int)))) 35 j = σ 35 j := fun _ => rfl
    try have f6 := f5 1
    have e1 : σ 35 1 + 1 - ((t + 1 : Nat) : Int) + 1 = σ 35 1 + 1 - (t : Int) := by omega
    refine jv_st (addP_step (by omega)) ?_
    rw [e1]
    refine jv_lv ?_ (ih (by omega))
    exact lvC rfl (lvC rfl (lvC rfl (lv0)))
theorem c_X4_addWhole {g : Gl} {σ : Sg} {w : Int} (hT : 0 ≤ σ 35 1 ∧ σ 35 1 ≤ 7) : Ct g mX4_addWhole [vr g 35, vl w] σ (PV (fun σ' => σ' = setc σ 36 (addP (σ 36) (σ 35 1) w (σ 35 1 + 1)))) := by
  refine Ct.of (by decide +kernel) (Nat.le_of_ble_eq_true rfl) ?_
  show jv g _ _ σ [(0, vr g 35), (1, vl w)] 0 []
  refine j_iconst 0 eX4_addWhole_0 ?_
  refine j_istore_n eX4_addWhole_1 (Nat.le_of_ble_eq_true rfl) ?_
  try have f5 : ∀ j, (setc σ 36 (addP (σ 36) (σ 35 1) w (σ 35 1 + 1 - ((t + 1 : Nat) : Int)))) 35 j = σ 35 j := fun _ => rfl
  try have f6 := f5 1
  have e0 : (0 : Int) = σ 35 1 + 1 - (((σ 35 1 + 1).toNat : Nat) : Int) := by omega
  have e1 := l_X4_addWhole (g := g) (w := w) hT (σ 35 1 + 1).toNat (by omega)
  rw [← e0, addP_0, setc_self σ 36 rfl] at e1
  refine jv_lv ?_ e1
  exact lvC rfl (lvC rfl (lvC rfl (lv0)))
theorem l_X4_least {g : Gl} {σ : Sg} (hT : 0 ≤ σ 35 1 ∧ σ 35 1 ≤ 7) (hQ : ∀ i, 0 ≤ i → i ≤ σ 35 1 → -4611686018427387904 ≤ cmn σ i ∧ cmn σ i ≤ 4611686018427387904) : ∀ (t : Nat) (m : Int), (t : Int) ≤ σ 35 1 → -4611686018427387904 ≤ m → m ≤ 4611686018427387904 → jv g mX4_least (Fm g (PEL (mnf (cmn σ) t (σ 35 1 + 1 - (t : Int)) m) σ)) σ [(0, vr g 35), (1, vl m), (3, vi (σ 35 1 + 1 - (t : Int)))] 8 [] := by
  intro t
  induction t with
  | zero =>
    intro m h1 h2 h3
    refine j_iload_n eX4_least_8 rfl ?_
    refine j_aload_n eX4_least_9 rfl ?_
    refine j_getI flX4_15 ly35 rfl eX4_least_10 ?_
    refine j_icmp_gt eX4_least_13 (by omega) (fun h => ?_) (fun h => absurd (by omega) h)
    refine j_lload_n eX4_least_32 rfl ?_
    exact r_lret rfl eX4_least_33 ⟨rfl, rfl⟩
  | succ t ih =>
    intro m h1 h2 h3
    refine j_iload_n eX4_least_8 rfl ?_
    refine j_aload_n eX4_least_9 rfl ?_
    refine j_getI flX4_15 ly35 rfl eX4_least_10 ?_
    refine j_icmp_gt eX4_least_13 (by omega) (fun h13 => absurd h13 (by omega)) (fun h13 => ?_)
    have q := hQ (σ 35 1 + 1 - ((t + 1 : Nat) : Int)) (by omega) (by omega)
    refine j_lload_n eX4_least_16 rfl ?_
    refine j_aload_n eX4_least_17 rfl ?_
    refine j_iload_n eX4_least_18 rfl ?_
    refine j_cV1 zX4_commonNumber lkX4_90 ⟨Nat.le_of_ble_eq_true rfl, Nat.le_of_ble_eq_true rfl⟩ ly35 rfl rfl (c_X4_commonNumber (by omega) (by omega)) (Nat.le_of_ble_eq_true rfl) eX4_least_19 (k_EL ?_)
    refine j_minL (by omega) lkX4_93 (Nat.le_of_ble_eq_true rfl) (Nat.le_of_ble_eq_true rfl) eX4_least_22 ?_
    refine j_lstore_n eX4_least_25 (Nat.le_of_ble_eq_true rfl) ?_
    refine j_iinc eX4_least_26 rfl (Nat.le_of_ble_eq_true rfl) ?_
    refine j_goto eX4_least_29 ?_
    have e1 : σ 35 1 + 1 - ((t + 1 : Nat) : Int) + 1 = σ 35 1 + 1 - (t : Int) := by omega
    have e2 : mnf (cmn σ) (t + 1) (σ 35 1 + 1 - ((t + 1 : Nat) : Int)) m = mnf (cmn σ) t (σ 35 1 + 1 - ((t + 1 : Nat) : Int) + 1) (if cmn σ (σ 35 1 + 1 - ((t + 1 : Nat) : Int)) < m then cmn σ (σ 35 1 + 1 - ((t + 1 : Nat) : Int)) else m) := rfl
    rw [e2, e1]
    refine jv_lv ?_ (ih _ (by omega) (by split <;> omega) (by split <;> omega))
    exact lvC rfl (lvC rfl (lvC rfl (lv0)))
theorem c_X4_least {g : Gl} {σ : Sg} (hT : 0 ≤ σ 35 1 ∧ σ 35 1 ≤ 7) (hQ : ∀ i, 0 ≤ i → i ≤ σ 35 1 → -4611686018427387904 ≤ cmn σ i ∧ cmn σ i ≤ 4611686018427387904) : Ct g mX4_least [vr g 35] σ (PEL (mnf (cmn σ) (σ 35 1).toNat 1 (cmn σ 0)) σ) := by
  refine Ct.of (by decide +kernel) (Nat.le_of_ble_eq_true rfl) ?_
  show jv g _ _ σ [(0, vr g 35)] 0 []
  refine j_aload_n eX4_least_0 rfl ?_
  refine j_iconst 0 eX4_least_1 ?_
  refine j_cV1 zX4_commonNumber lkX4_90 ⟨Nat.le_of_ble_eq_true rfl, Nat.le_of_ble_eq_true rfl⟩ ly35 rfl rfl (c_X4_commonNumber (by omega) (by omega)) (Nat.le_of_ble_eq_true rfl) eX4_least_2 (k_EL ?_)
  refine j_lstore_n eX4_least_5 (Nat.le_of_ble_eq_true rfl) ?_
  refine j_iconst 1 eX4_least_6 ?_
  refine j_istore_n eX4_least_7 (Nat.le_of_ble_eq_true rfl) ?_
  have e0 : (1 : Int) = σ 35 1 + 1 - (((σ 35 1).toNat : Nat) : Int) := by omega
  have q := hQ 0 (by omega) (by omega)
  have e1 := l_X4_least (g := g) hT hQ (σ 35 1).toNat (cmn σ 0) (by omega) (by omega) (by omega)
  rw [← e0] at e1
  refine jv_lv ?_ e1
  exact lvC rfl (lvC rfl (lvC rfl (lv0)))
theorem c_X4_leastEnd {g : Gl} {σ : Sg} (hT : 0 ≤ σ 35 1 ∧ σ 35 1 ≤ 7) (hQ : ∀ i, 0 ≤ i → i ≤ σ 35 1 → -4611686018427387904 ≤ cmn σ i ∧ cmn σ i ≤ 4611686018427387904) : Ct g mX4_leastEnd [vr g 35] σ (PEL (if cmn σ (σ 35 1) < cmn σ 0 then cmn σ (σ 35 1) else cmn σ 0) σ) := by
  refine Ct.of (by decide +kernel) (Nat.le_of_ble_eq_true rfl) ?_
  show jv g _ _ σ [(0, vr g 35)] 0 []
  have q0 := hQ 0 (by omega) (by omega)
  have q1 := hQ (σ 35 1) (by omega) (by omega)
  refine j_aload_n eX4_leastEnd_0 rfl ?_
  refine j_iconst 0 eX4_leastEnd_1 ?_
  refine j_cV1 zX4_commonNumber lkX4_90 ⟨Nat.le_of_ble_eq_true rfl, Nat.le_of_ble_eq_true rfl⟩ ly35 rfl rfl (c_X4_commonNumber (by omega) (by omega)) (Nat.le_of_ble_eq_true rfl) eX4_leastEnd_2 (k_EL ?_)
  refine j_aload_n eX4_leastEnd_5 rfl ?_
  refine j_aload_n eX4_leastEnd_6 rfl ?_
  refine j_getI flX4_15 ly35 rfl eX4_leastEnd_7 ?_
  refine j_cV1 zX4_commonNumber lkX4_90 ⟨Nat.le_of_ble_eq_true rfl, Nat.le_of_ble_eq_true rfl⟩ ly35 rfl rfl (c_X4_commonNumber (by omega) (by omega)) (Nat.le_of_ble_eq_true rfl) eX4_leastEnd_10 (k_EL ?_)
  refine j_minL (by omega) lkX4_93 (Nat.le_of_ble_eq_true rfl) (Nat.le_of_ble_eq_true rfl) eX4_leastEnd_13 ?_
  refine r_lret rfl eX4_leastEnd_16 ?_
  first | exact ⟨rfl, rfl⟩ | (exfalso; omega)
theorem l_X4_layOne {g : Gl} {σ : Sg} {p a : Int} (hX : TX σ) (vp : 0 ≤ p ∧ p < σ 0 0) (nd : 1 ≤ a ∧ a ≤ 127) (tb : 0 ≤ σ 27 2 ∧ σ 27 2 < σ 0 1) : ∀ (t : Nat) (τ : Sg) (d : Nat), (t : Int) + d = σ 1 p - 1 → RowAt σ τ (fX σ p) (σ 1 p - 1) (loX σ a) (hiX σ a) d → jv g mX4_layOne (Fm g (PV (fun σ' => RowIs σ σ' (fX σ p) (σ 1 p - 1) (loX σ a) (hiX σ a) 0))) τ [(0, vr g 35), (1, vr g 27), (2, vi p), (3, vi a), (4, vr g 0), (5, vl (loX σ a)), (7, vl (hiX σ a)), (10, vi ((t : Int) - 1))] 73 [] := by
  have q := hX.2.2.1 p (by omega) (by omega)
  intro t
  induction t with
  | zero =>
    intro τ d h1 h2
    refine j_iload eX4_layOne_73 rfl ?_
    refine j_if_lt eX4_layOne_75 (by omega) (fun h => ?_) (fun h => absurd (show ((0 : Nat) : Int) - 1 < 0 by omega) h)
    refine r_vret rfl eX4_layOne_122 ?_
    obtain ⟨a1, a2, a3, a4⟩ := h2
    have e1 : d = (σ 1 p - 1).toNat := by omega
    refine ⟨a1, by rw [a2]; omega, by rw [a3, e1], fun i x z => ?_⟩
    rw [a4 i x z, e1]
    rfl
  | succ t ih =>
    intro τ d h1 h2
    have k0 := h2.1
    have kX : TX τ := hX.mono (fun k hk => k0 k (by omega) (by omega))
    have c0 := k0 0 (by decide) (by decide)
    have c1 := k0 1 (by decide) (by decide)
    have c2 := k0 2 (by decide) (by decide)
    have t1 := h2.2.1
    have u1 : (up τ 35 2 (τ 35 2 * 64)) 35 1 = τ 35 1 := rfl
    have ck := hX.2.2.2.1 p (((t + 1 : Nat) : Int) - 1) (by omega) (by omega) (by omega) (by omega)
    have f1 : ∀ k, k ≠ 35 → k ≠ 36 → (setc (up (up τ 35 2 (τ 35 2 * 64)) 35 1 ((up τ 35 2 (τ 35 2 * 64)) 35 1 + 1)) 36 (mulF ((up τ 35 2 (τ 35 2 * 64)) 36) ((up τ 35 2 (τ 35 2 * 64)) 35 1 + 1) (loX σ a) (hiX σ a))) k = τ k := fun k x z => by rw [setc_ne z, up_ne x, up_ne x]
    have f2 : (setc (up (up τ 35 2 (τ 35 2 * 64)) 35 1 ((up τ 35 2 (τ 35 2 * 64)) 35 1 + 1)) 36 (mulF ((up τ 35 2 (τ 35 2 * 64)) 36) ((up τ 35 2 (τ 35 2 * 64)) 35 1 + 1) (loX σ a) (hiX σ a))) 35 1 = τ 35 1 + 1 := rfl
    refine j_iload eX4_layOne_73 rfl ?_
    refine j_if_lt eX4_layOne_75 (by omega) (fun h75 => absurd h75 (by omega)) (fun h75 => ?_)
    refine j_aload_n eX4_layOne_78 rfl ?_
    refine j_dup rfl eX4_layOne_79 ?_
    refine j_getL flX4_60 ly35 rfl eX4_layOne_80 ?_
    refine j_ldc2 (64) cnX4_67 eX4_layOne_83 ?_
    refine j_lmul eX4_layOne_86 ?_
    refine j_putL fpX4_60 ly35 rfl eX4_layOne_87 ?_
    refine j_aload_n eX4_layOne_90 rfl ?_
    refine j_lload eX4_layOne_91 rfl ?_
    refine j_lload eX4_layOne_93 rfl ?_
    refine j_cV2 zX4_multiply lkX4_69 ⟨Nat.le_of_ble_eq_true rfl, Nat.le_of_ble_eq_true rfl⟩ ly35 rfl rfl (c_X4_multiply (by rw [u1]; omega)) (Nat.le_of_ble_eq_true rfl) eX4_layOne_95 (k_VE ?_)
    refine j_aload_n eX4_layOne_98 rfl ?_
    refine j_aload eX4_layOne_99 rfl ?_
    refine j_iload_n eX4_layOne_101 rfl ?_
    refine j_iload eX4_layOne_102 rfl ?_
    refine j_cV2 zX10_coefficient lkX4_64 ⟨Nat.le_of_ble_eq_true rfl, Nat.le_of_ble_eq_true rfl⟩ ly0 rfl rfl (c_X10_coefficient_0 (by rw [f1 0 (by decide) (by decide), c0]; exact vp) (by rw [f1 1 (by decide) (by decide), c1]; omega) (by exact (kX.mono (fun k hk => f1 k (by omega) (by omega))).1) (by exact (kX.mono (fun k hk => f1 k (by omega) (by omega))).2.2.1)) (Nat.le_of_ble_eq_true rfl) eX4_layOne_104 (k_E ?_)
    rw [f1 2 (by decide) (by decide), c2]
    refine j_i2l (by omega) eX4_layOne_107 ?_
    refine j_aload_n eX4_layOne_108 rfl ?_
    refine j_getL flX4_60 ly35 rfl eX4_layOne_109 ?_
    refine j_lmul eX4_layOne_112 ?_
    refine j_cV1 zX4_addWhole lkX4_73 ⟨Nat.le_of_ble_eq_true rfl, Nat.le_of_ble_eq_true rfl⟩ ly35 rfl rfl (c_X4_addWhole (by rw [f2]; omega)) (Nat.le_of_ble_eq_true rfl) eX4_layOne_113 (k_VE ?_)
    refine j_iinc eX4_layOne_116 rfl (Nat.le_of_ble_eq_true rfl) ?_
    refine j_goto eX4_layOne_119 ?_
    have e1 : ((t + 1 : Nat) : Int) - 1 + -1 = (t : Int) - 1 := by omega
    rw [e1]
    have RR := h2.step (by omega) (σ 2 (p * 6 + (((t + 1 : Nat) : Int) - 1))) (show _ = σ 2 (p * 6 + (σ 1 p - 1 - 1 - d)) from by rw [show σ 1 p - 1 - 1 - (d : Int) = ((t + 1 : Nat) : Int) - 1 from by omega])
    refine jv_lv ?_ (ih _ (d + 1) (by omega) RR)
    exact lvC rfl (lvC rfl (lvC rfl (lvC rfl (lvC rfl (lvC rfl (lvC rfl (lvC rfl (lv0))))))))
theorem c_X4_layOne {g : Gl} {σ : Sg} {p a : Int} (hX : TX σ) (vp : 0 ≤ p ∧ p < σ 0 0) (nd : 1 ≤ a ∧ a ≤ 127) (tb : 0 ≤ σ 27 2 ∧ σ 27 2 < σ 0 1) : Ct g mX4_layOne [vr g 35, vr g 27, vi p, vi a] σ (PV (fun σ' => RowIs σ σ' (fX σ p) (σ 1 p - 1) (loX σ a) (hiX σ a) 0)) := by
  refine Ct.of (by decide +kernel) (Nat.le_of_ble_eq_true rfl) ?_
  show jv g _ _ σ [(0, vr g 35), (1, vr g 27), (2, vi p), (3, vi a)] 0 []
  have hP := hX.1
  have hB := hX.2.1
  have hS := hX.2.2.1
  have q := hS p (by omega) (by omega)
  have lb := loX_b hX nd tb
  have ck := hX.2.2.2.1 p (σ 1 p - 1) (by omega) (by omega) (by omega) (by omega)
  refine j_aload_n eX4_layOne_0 rfl ?_
  refine j_cV0 zX7_told lkX4_32 ⟨Nat.le_of_ble_eq_true rfl, Nat.le_of_ble_eq_true rfl⟩ ly27 rfl rfl (c_X7_told) (Nat.le_of_ble_eq_true rfl) eX4_layOne_1 (k_R ?_)
  refine j_astore eX4_layOne_4 (Nat.le_of_ble_eq_true rfl) ?_
  refine j_aload_n eX4_layOne_6 rfl ?_
  refine j_iload_n eX4_layOne_7 rfl ?_
  refine j_cV1 zX7_low lkX4_36 ⟨Nat.le_of_ble_eq_true rfl, Nat.le_of_ble_eq_true rfl⟩ ly27 rfl rfl (c_X7_low (by omega) (by omega) (by omega)) (Nat.le_of_ble_eq_true rfl) eX4_layOne_8 (k_E ?_)
  show jv g _ _ σ _ _ (vi (loX σ a) :: _)
  refine j_i2l (by omega) eX4_layOne_11 ?_
  refine j_lstore eX4_layOne_12 (Nat.le_of_ble_eq_true rfl) ?_
  refine j_aload_n eX4_layOne_14 rfl ?_
  refine j_iload_n eX4_layOne_15 rfl ?_
  refine j_cV1 zX7_high lkX4_40 ⟨Nat.le_of_ble_eq_true rfl, Nat.le_of_ble_eq_true rfl⟩ ly27 rfl rfl (c_X7_high (by omega) (by omega) (by omega)) (Nat.le_of_ble_eq_true rfl) eX4_layOne_16 (k_E ?_)
  show jv g _ _ σ _ _ (vi (hiX σ a) :: _)
  refine j_i2l (by omega) eX4_layOne_19 ?_
  refine j_lstore eX4_layOne_20 (Nat.le_of_ble_eq_true rfl) ?_
  refine j_aload eX4_layOne_22 rfl ?_
  refine j_iload_n eX4_layOne_24 rfl ?_
  refine j_cV1 zX10_degree lkX4_43 ⟨Nat.le_of_ble_eq_true rfl, Nat.le_of_ble_eq_true rfl⟩ ly0 rfl rfl (c_X10_degree_0 (by omega) (by omega)) (Nat.le_of_ble_eq_true rfl) eX4_layOne_25 (k_E ?_)
  refine j_iconst 5 eX4_layOne_28 ?_
  refine j_minI (by omega) lkX4_48 (Nat.le_of_ble_eq_true rfl) (Nat.le_of_ble_eq_true rfl) eX4_layOne_29 ?_
  rw [if_neg (show ¬ (5 : Int) < σ 1 p - 1 by omega)]
  refine j_istore eX4_layOne_32 (Nat.le_of_ble_eq_true rfl) ?_
  refine j_aload_n eX4_layOne_34 rfl ?_
  refine j_getR flX4_9 ly35 rfl eX4_layOne_35 ?_
  refine j_lconst0 eX4_layOne_38 ?_
  refine j_cS2 zJ7_fill_d0a16 lkX4_54 ⟨Nat.le_of_ble_eq_true rfl, Nat.le_of_ble_eq_true rfl⟩ (c_J7_fill_d0a16_36) (Nat.le_of_ble_eq_true rfl) eX4_layOne_39 (k_V (fun σ39 h39 => ?_))
  obtain ⟨g1, g2⟩ := h39
  refine j_aload_n eX4_layOne_42 rfl ?_
  refine j_lconst1 eX4_layOne_43 ?_
  refine j_putL fpX4_60 ly35 rfl eX4_layOne_44 ?_
  refine j_aload_n eX4_layOne_47 rfl ?_
  refine j_iconst 0 eX4_layOne_48 ?_
  refine j_putI fpX4_15 ly35 rfl eX4_layOne_49 ?_
  refine j_aload_n eX4_layOne_52 rfl ?_
  refine j_getR flX4_9 ly35 rfl eX4_layOne_53 ?_
  refine j_iconst 0 eX4_layOne_56 ?_
  refine j_aload eX4_layOne_57 rfl ?_
  refine j_iload_n eX4_layOne_59 rfl ?_
  refine j_iload eX4_layOne_60 rfl ?_
  have k0 : ∀ k, k ≠ 35 → k ≠ 36 → (up (up σ39 35 2 1) 35 1 0) k = σ k := fun k x z => by rw [up_ne x, up_ne x]; exact g1 k z
  have kX : TX (up (up σ39 35 2 1) 35 1 0) := hX.mono (fun k hk => k0 k (by omega) (by omega))
  have c0 := k0 0 (by decide) (by decide)
  have c1 := k0 1 (by decide) (by decide)
  have c2 := k0 2 (by decide) (by decide)
  refine j_cV2 zX10_coefficient lkX4_64 ⟨Nat.le_of_ble_eq_true rfl, Nat.le_of_ble_eq_true rfl⟩ ly0 rfl rfl (c_X10_coefficient_0 (by rw [c0]; exact vp) (by rw [c1]; omega) (by exact kX.1) (by exact kX.2.2.1)) (Nat.le_of_ble_eq_true rfl) eX4_layOne_62 (k_E ?_)
  rw [c2]
  refine j_i2l (by omega) eX4_layOne_65 ?_
  refine j_last ly36 (by decide) eX4_layOne_66 ?_
  refine j_iload eX4_layOne_67 rfl ?_
  refine j_iconst 1 eX4_layOne_69 ?_
  refine j_isub eX4_layOne_70 ?_
  refine j_istore eX4_layOne_71 (Nat.le_of_ble_eq_true rfl) ?_
  have e1 : σ 1 p - 1 - 1 = (((σ 1 p - 1).toNat : Nat) : Int) - 1 := by omega
  rw [e1]
  refine jv_lv ?_ (l_X4_layOne hX vp nd tb (σ 1 p - 1).toNat _ 0 (by omega) ⟨?_, rfl, rfl, ?_⟩)
  · exact lvC rfl (lvC rfl (lvC rfl (lvC rfl (lvC rfl (lvC rfl (lvC rfl (lvC rfl (lv0))))))))
  · intro k x z
    rw [up_ne z]
    exact k0 k x z
  · intro i x z
    rw [up_same]
    show _ = if i = 0 then _ else _
    by_cases w : i = 0
    · rw [w, up1_same, if_pos rfl]; rfl
    · rw [up1_ne w, if_neg w]; exact g2 i x z
