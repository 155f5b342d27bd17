/-! the reference: copies, changes of sign -/
def BcM (σ σ' : Sg) : Prop := (∀ k, k ≠ 48 → k ≠ 49 → k ≠ 52 → σ' k = σ k) ∧ (∀ j, 0 ≤ j → j < 32 → σ' 49 j = σ 50 j) ∧ (σ' 52 0 = 0 ∧ σ' 52 1 = 0) ∧ (∀ j, j ≠ 5 → j ≠ 6 → j ≠ 7 → j ≠ 10 → σ' 48 j = σ 48 j) ∧ σ' 48 5 = 0 ∧ σ' 48 6 = 0 ∧ σ' 48 7 = 0 ∧ σ' 48 10 = 0
def KpM (σ σ' : Sg) (i : Int) : Prop := (∀ k, k ≠ 51 → k ≠ 52 → σ' k = σ k) ∧ (∀ j, 0 ≤ j → j < 32 → σ' 51 (32 * i + j) = σ 49 j) ∧ (∀ j, (j < 32 * i ∨ 32 * i + 32 ≤ j) → σ' 51 j = σ 51 j) ∧ σ' 52 i = 1 ∧ ∀ j, j ≠ i → σ' 52 j = σ 52 j
def BkM (σ σ' : Sg) (i : Int) : Prop := (∀ k, k ≠ 48 → k ≠ 49 → σ' k = σ k) ∧ (∀ j, 0 ≤ j → j < 32 → σ' 49 j = σ 51 (32 * i + j)) ∧ (∀ j, j ≠ 5 → σ' 48 j = σ 48 j) ∧ σ' 48 5 = 0
theorem sg_is {x s : Int} (h : (x = 0 ∧ s = 0) ∨ (0 < x ∧ s = 1) ∨ (x < 0 ∧ s = -1)) : sgn x = s := by
  unfold sgn
  split
  · omega
  · split <;> omega
theorem vchA {f : Int → Int} {N i b c : Int} (h : i ≤ N) (hx : f i = 0) : vch f (N + 1 - i).toNat i b c = vch f (N + 1 - (i + 1)).toNat (i + 1) b (c + 0) := by
  rw [show (N + 1 - i).toNat = (N + 1 - (i + 1)).toNat + 1 from by omega, Int.add_zero]
  exact if_pos (by rw [hx]; rfl)
theorem vchB {f : Int → Int} {N i b c s : Int} (h : i ≤ N) (hx : (0 < f i ∧ s = 1) ∨ (f i < 0 ∧ s = -1)) (hb : b = 0 ∨ s = b) : vch f (N + 1 - i).toNat i b c = vch f (N + 1 - (i + 1)).toNat (i + 1) s (c + 0) := by
  have e : sgn (f i) = s := sg_is (by omega)
  rw [show (N + 1 - i).toNat = (N + 1 - (i + 1)).toNat + 1 from by omega, Int.add_zero]
  show (if sgn (f i) = 0 then _ else _) = _
  rw [e, if_neg (by omega)]
  by_cases z : b = 0
  · rw [if_pos z]
  · rw [if_neg z, if_pos (by omega)]
theorem vchD {f : Int → Int} {N i b c s : Int} (h : i ≤ N) (hx : (0 < f i ∧ s = 1) ∨ (f i < 0 ∧ s = -1)) (hb : ¬ b = 0 ∧ ¬ s = b) : vch f (N + 1 - i).toNat i b c = vch f (N + 1 - (i + 1)).toNat (i + 1) s (c + 1) := by
  have e : sgn (f i) = s := sg_is (by omega)
  rw [show (N + 1 - i).toNat = (N + 1 - (i + 1)).toNat + 1 from by omega]
  show (if sgn (f i) = 0 then _ else _) = _
  rw [e, if_neg (by omega), if_neg hb.1, if_neg hb.2]
theorem lc_bw {σ : Sg} {p r : Int} (qn : 0 ≤ σ 49 (2 + p) ∧ σ 49 (2 + p) ≤ 5) (hr : 0 ≤ r ∧ r ≤ 2) : 0 < lcf (σ 49 (2 + p) + r) (σ 49 (2 + p)) * 64 ^ (σ 49 (2 + p)).toNat ∧ lcf (σ 49 (2 + p) + r) (σ 49 (2 + p)) * 64 ^ (σ 49 (2 + p)).toNat ≤ 450971566080 := by
  have lb := lcf_b qn hr
  have pb := p64_b qn
  generalize lcf (σ 49 (2 + p) + r) (σ 49 (2 + p)) = L at *
  generalize (64 : Int) ^ (σ 49 (2 + p)).toNat = P at *
  refine ⟨Int.mul_pos (by omega) (by omega), ?_⟩
  have : L * P ≤ 420 * 1073741824 := Int.mul_le_mul (by omega) (by omega) (by omega) (by omega)
  omega
theorem RowM.fq {σ σ' : Sg} {p a r : Int} (hM : TM σ) (hp : 0 ≤ p ∧ p < σ 49 0) (hb : 0 ≤ σ 48 7 ∧ σ 48 7 < σ 49 1) (na : 1 ≤ a ∧ a ≤ 127) (hr : 0 ≤ r ∧ r ≤ 2) (h : RowM σ σ' p a r) {i w : Int} (h0 : 0 ≤ i ∧ i ≤ σ 49 (2 + p) + r) : FR (σ' 60 i) (σ' 48 21) w = FR (NMp σ p a r.toNat i) (bnZ (σ 49 (2 + p) + r) i * 64 ^ (σ 49 (2 + p)).toNat) w := by
  have qn := hM.2.2.1 p hp.1 hp.2
  have id := (h.S hM hp hb na hr i h0.1 h0.2).2.2
  have lb := lc_bw (σ := σ) (p := p) qn hr
  have pb := p64_b qn
  have bb := bnZ_b (t := σ 49 (2 + p) + r) (i := i) (by omega) (by omega)
  rw [h.2.2.2.1]
  refine FR_eq lb.1 (Int.mul_pos (by omega) (by omega)) ?_
  generalize NMp σ p a r.toNat i = Nv at *
  generalize bnZ (σ 49 (2 + p) + r) i = B at *
  generalize lcf (σ 49 (2 + p) + r) (σ 49 (2 + p)) = L at *
  generalize (64 : Int) ^ (σ 49 (2 + p)).toNat = P at *
  grind
theorem l_X12_becomes {g : Gl} {σ : Sg} : ∀ (t : Nat) (j : Int) (τ : Sg), 32 - j < t → (0 ≤ j ∧ j ≤ 32) → (∀ k, k ≠ 49 → τ k = σ k) → (∀ i, 0 ≤ i → i < j → τ 49 i = σ 50 i) → jv g mX12_becomes (Fm g (PV (fun σ' => BcM σ σ'))) τ [(0, vr g 48), (1, vi j)] 2 [] := by
  intro t
  induction t with
  | zero =>
    intro j τ h1 h2 h4 hv
    exfalso
    omega
  | succ t ih =>
    intro j τ h1 h2 h4 hv
    refine j_iload_n eX12_becomes_2 rfl ?_
    refine j_bipush 32 eX12_becomes_3 (by decide) ?_
    refine j_icmp_ge eX12_becomes_5 (by omega) (fun h5 => ?_) (fun h5 => ?_)
    · refine j_aload_n eX12_becomes_26 rfl ?_
      refine j_getR flX12_19 ly48 rfl eX12_becomes_27 ?_
      refine j_iconst 0 eX12_becomes_30 ?_
      refine j_iconst 0 eX12_becomes_31 ?_
      refine j_zast (by decide) ly52 (by omega) eX12_becomes_32 ?_
      refine j_aload_n eX12_becomes_33 rfl ?_
      refine j_getR flX12_19 ly48 rfl eX12_becomes_34 ?_
      refine j_iconst 1 eX12_becomes_37 ?_
      refine j_iconst 0 eX12_becomes_38 ?_
      refine j_zast (by decide) ly52 (by omega) eX12_becomes_39 ?_
      refine j_aload_n eX12_becomes_40 rfl ?_
      refine j_iconst 0 eX12_becomes_41 ?_
      refine j_putI fpX12_72 ly48 rfl eX12_becomes_42 ?_
      refine j_aload_n eX12_becomes_45 rfl ?_
      refine j_iconst 0 eX12_becomes_46 ?_
      refine j_putI fpX12_76 ly48 rfl eX12_becomes_47 ?_
      refine j_aload_n eX12_becomes_50 rfl ?_
      refine j_iconst 0 eX12_becomes_51 ?_
      refine j_putI fpX12_79 ly48 rfl eX12_becomes_52 ?_
      refine j_aload_n eX12_becomes_55 rfl ?_
      refine j_iconst 0 eX12_becomes_56 ?_
      refine j_putI fpX12_82 ly48 rfl eX12_becomes_57 ?_
      refine r_vret rfl eX12_becomes_60 ?_
      refine ⟨fun k a b c => ?_, fun j x z => ?_, ⟨rfl, rfl⟩, fun j a b c d => ?_, rfl, rfl, rfl, rfl⟩
      · rw [up_ne a, up_ne a, up_ne a, up_ne a, up_ne c, up_ne c]
        exact h4 k b
      · exact hv j x (by omega)
      · rw [up_same, up1_ne c, up_same, up1_ne b, up_same, up1_ne d, up_same, up1_ne a]
        exact congrFun (h4 48 (by decide)) j
    · refine j_aload_n eX12_becomes_8 rfl ?_
      refine j_getR flX12_7 ly48 rfl eX12_becomes_9 ?_
      refine j_iload_n eX12_becomes_12 rfl ?_
      refine j_aload_n eX12_becomes_13 rfl ?_
      refine j_getR flX12_13 ly48 rfl eX12_becomes_14 ?_
      refine j_iload_n eX12_becomes_17 rfl ?_
      refine j_iald ly50 (by omega) eX12_becomes_18 ?_
      refine j_iast ly49 (by omega) eX12_becomes_19 ?_
      refine j_iinc eX12_becomes_20 rfl (Nat.le_of_ble_eq_true rfl) ?_
      refine j_goto eX12_becomes_23 ?_
      refine jv_lv ?_ (ih (j + 1) _ (by omega) (by omega) (fun k hk => by rw [up_ne hk]; exact h4 k hk) (fun i x z => ?_))
      · exact lvC rfl (lvC rfl (lv0))
      · rw [up_same]
        by_cases w : i = j
        · rw [w, up1_same, h4 50 (by decide)]
        · rw [up1_ne w]; exact hv i x (by omega)
theorem c_X12_becomes {g : Gl} {σ : Sg} : Ct g mX12_becomes [vr g 48] σ (PV (fun σ' => BcM σ σ')) := by
  refine Ct.of (by decide +kernel) (Nat.le_of_ble_eq_true rfl) ?_
  show jv g _ _ σ [(0, vr g 48)] 0 []
  refine j_iconst 0 eX12_becomes_0 ?_
  refine j_istore_n eX12_becomes_1 (Nat.le_of_ble_eq_true rfl) ?_
  refine jv_lv ?_ (l_X12_becomes 33 0 σ (by omega) (by omega) (fun _ _ => rfl) (fun i x z => by omega))
  exact lvC rfl (lvC rfl (lv0))
theorem l_X12_keep {g : Gl} {σ : Sg} {i : Int} (h : -2147483648 ≤ i ∧ i ≤ 2147483647) (hi : 0 ≤ i ∧ i ≤ 1) : ∀ (t : Nat) (j : Int) (τ : Sg), 32 - j < t → (0 ≤ j ∧ j ≤ 32) → (∀ k, k ≠ 51 → τ k = σ k) → ((∀ y, 0 ≤ y → y < j → τ 51 (32 * i + y) = σ 49 y) ∧ ∀ y, (y < 32 * i ∨ 32 * i + j ≤ y) → τ 51 y = σ 51 y) → jv g mX12_keep (Fm g (PI (fun v σ' => (¬ (0 ≤ i ∧ i ≤ 1) ∧ v = -1 ∧ σ' = σ) ∨ ((0 ≤ i ∧ i ≤ 1) ∧ v = σ 49 0 ∧ KpM σ σ' i)))) τ [(0, vr g 48), (1, vi i), (2, vi j)] 13 [] := by
  intro t
  induction t with
  | zero =>
    intro j τ h1 h2 h4 h5
    exfalso
    omega
  | succ t ih =>
    intro j τ h1 h2 h4 h5
    refine j_iload_n eX12_keep_13 rfl ?_
    refine j_bipush 32 eX12_keep_14 (by decide) ?_
    refine j_icmp_ge eX12_keep_16 (by omega) (fun h16 => ?_) (fun h16 => ?_)
    · refine j_aload_n eX12_keep_42 rfl ?_
      refine j_getR flX12_19 ly48 rfl eX12_keep_43 ?_
      refine j_iload_n eX12_keep_46 rfl ?_
      refine j_iconst 1 eX12_keep_47 ?_
      refine j_zast (by decide) ly52 (by omega) eX12_keep_48 ?_
      refine j_aload_n eX12_keep_49 rfl ?_
      refine j_getR flX12_7 ly48 rfl eX12_keep_50 ?_
      refine j_iconst 0 eX12_keep_53 ?_
      refine j_iald ly49 (by omega) eX12_keep_54 ?_
      refine r_iret rfl eX12_keep_55 ?_
      refine Or.inr ⟨hi, ?_, fun k a b => ?_, fun y x z => ?_, fun y z => ?_, ?_, fun y z => ?_⟩
      · show τ 49 0 = _
        rw [h4 49 (by decide)]
      · rw [up_ne b]; exact h4 k a
      · exact h5.1 y x (by omega)
      · exact h5.2 y (by omega)
      · rw [up_same, up1_same]
      · rw [up_same, up1_ne z, h4 52 (by decide)]
    · refine j_aload_n eX12_keep_19 rfl ?_
      refine j_getR flX12_16 ly48 rfl eX12_keep_20 ?_
      refine j_bipush 32 eX12_keep_23 (by decide) ?_
      refine j_iload_n eX12_keep_25 rfl ?_
      refine j_imul eX12_keep_26 ?_
      refine j_iload_n eX12_keep_27 rfl ?_
      refine j_iadd eX12_keep_28 ?_
      refine j_aload_n eX12_keep_29 rfl ?_
      refine j_getR flX12_7 ly48 rfl eX12_keep_30 ?_
      refine j_iload_n eX12_keep_33 rfl ?_
      refine j_iald ly49 (by omega) eX12_keep_34 ?_
      refine j_iast ly51 (by omega) eX12_keep_35 ?_
      refine j_iinc eX12_keep_36 rfl (Nat.le_of_ble_eq_true rfl) ?_
      refine j_goto eX12_keep_39 ?_
      refine jv_lv ?_ (ih (j + 1) _ (by omega) (by omega) (fun k hk => by rw [up_ne hk]; exact h4 k hk) ⟨fun y x z => ?_, fun y z => ?_⟩)
      · exact lvC rfl (lvC rfl (lvC rfl (lv0)))
      · rw [up_same]
        by_cases w : y = j
        · rw [w, up1_same, h4 49 (by decide)]
        · rw [up1_ne (by omega)]; exact h5.1 y x (by omega)
      · rw [up_same, up1_ne (by omega)]; exact h5.2 y (by omega)
theorem c_X12_keep {g : Gl} {σ : Sg} {i : Int} (h : -2147483648 ≤ i ∧ i ≤ 2147483647) : Ct g mX12_keep [vr g 48, vi i] σ (PI (fun v σ' => (¬ (0 ≤ i ∧ i ≤ 1) ∧ v = -1 ∧ σ' = σ) ∨ ((0 ≤ i ∧ i ≤ 1) ∧ v = σ 49 0 ∧ KpM σ σ' i))) := by
  refine Ct.of (by decide +kernel) (Nat.le_of_ble_eq_true rfl) ?_
  show jv g _ _ σ [(0, vr g 48), (1, vi i)] 0 []
  refine j_iload_n eX12_keep_0 rfl ?_
  refine j_iconst 0 eX12_keep_1 ?_
  refine j_iconst 1 eX12_keep_2 ?_
  refine j_cS3 zX12_in lkX12_85 ⟨Nat.le_of_ble_eq_true rfl, Nat.le_of_ble_eq_true rfl⟩ (c_X12_in (by omega)) (Nat.le_of_ble_eq_true rfl) eX12_keep_3 (k_B (fun h3 => ?_) (fun h3 => ?_))
  · refine j_ifne_1 eX12_keep_6 ?_
    refine j_iconst 0 eX12_keep_11 ?_
    refine j_istore_n eX12_keep_12 (Nat.le_of_ble_eq_true rfl) ?_
    refine jv_lv ?_ (l_X12_keep h (by omega) 33 0 σ (by omega) (by omega) (fun _ _ => rfl) ⟨fun i x z => by omega, fun _ _ => rfl⟩)
    exact lvC rfl (lvC rfl (lvC rfl (lv0)))
  · refine j_ifne_0 eX12_keep_6 ?_
    refine j_iconst (-1) eX12_keep_9 ?_
    refine r_iret rfl eX12_keep_10 ?_
    exact Or.inl ⟨by omega, rfl, rfl⟩
theorem l_X12_back {g : Gl} {σ : Sg} {i : Int} (h : -2147483648 ≤ i ∧ i ≤ 2147483647) (hb : ∀ j, 0 ≤ j → j ≤ 1 → 0 ≤ σ 52 j ∧ σ 52 j ≤ 1) (hi : (0 ≤ i ∧ i ≤ 1) ∧ ¬ σ 52 i = 0) : ∀ (t : Nat) (j : Int) (τ : Sg), 32 - j < t → (0 ≤ j ∧ j ≤ 32) → (∀ k, k ≠ 49 → τ k = σ k) → (∀ y, 0 ≤ y → y < j → τ 49 y = σ 51 (32 * i + y)) → jv g mX12_back (Fm g (PI (fun v σ' => (¬ (0 ≤ i ∧ i ≤ 1) ∧ v = -1 ∧ σ' = σ) ∨ (((0 ≤ i ∧ i ≤ 1) ∧ σ 52 i = 0) ∧ v = -2 ∧ σ' = σ) ∨ (((0 ≤ i ∧ i ≤ 1) ∧ ¬ σ 52 i = 0) ∧ v = σ 51 (32 * i) ∧ BkM σ σ' i)))) τ [(0, vr g 48), (1, vi i), (2, vi j)] 25 [] := by
  intro t
  induction t with
  | zero =>
    intro j τ h1 h2 h4 h5
    exfalso
    omega
  | succ t ih =>
    intro j τ h1 h2 h4 h5
    refine j_iload_n eX12_back_25 rfl ?_
    refine j_bipush 32 eX12_back_26 (by decide) ?_
    refine j_icmp_ge eX12_back_28 (by omega) (fun h28 => ?_) (fun h28 => ?_)
    · refine j_aload_n eX12_back_54 rfl ?_
      refine j_iconst 0 eX12_back_55 ?_
      refine j_putI fpX12_72 ly48 rfl eX12_back_56 ?_
      refine j_aload_n eX12_back_59 rfl ?_
      refine j_getR flX12_7 ly48 rfl eX12_back_60 ?_
      refine j_iconst 0 eX12_back_63 ?_
      refine j_iald ly49 (by omega) eX12_back_64 ?_
      refine r_iret rfl eX12_back_65 ?_
      refine Or.inr (Or.inr ⟨hi, ?_, fun k a b => ?_, fun y x z => ?_, fun y z => ?_, rfl⟩)
      · show τ 49 0 = _
        rw [h5 0 (by omega) (by omega), Int.add_zero]
      · rw [up_ne a]; exact h4 k b
      · exact h5 y x (by omega)
      · rw [up_same, up1_ne z, h4 48 (by decide)]
    · refine j_aload_n eX12_back_31 rfl ?_
      refine j_getR flX12_7 ly48 rfl eX12_back_32 ?_
      refine j_iload_n eX12_back_35 rfl ?_
      refine j_aload_n eX12_back_36 rfl ?_
      refine j_getR flX12_16 ly48 rfl eX12_back_37 ?_
      refine j_bipush 32 eX12_back_40 (by decide) ?_
      refine j_iload_n eX12_back_42 rfl ?_
      refine j_imul eX12_back_43 ?_
      refine j_iload_n eX12_back_44 rfl ?_
      refine j_iadd eX12_back_45 ?_
      refine j_iald ly51 (by omega) eX12_back_46 ?_
      refine j_iast ly49 (by omega) eX12_back_47 ?_
      refine j_iinc eX12_back_48 rfl (Nat.le_of_ble_eq_true rfl) ?_
      refine j_goto eX12_back_51 ?_
      refine jv_lv ?_ (ih (j + 1) _ (by omega) (by omega) (fun k hk => by rw [up_ne hk]; exact h4 k hk) (fun y x z => ?_))
      · exact lvC rfl (lvC rfl (lvC rfl (lv0)))
      · rw [up_same]
        by_cases w : y = j
        · rw [w, up1_same, h4 51 (by decide)]
        · rw [up1_ne w]; exact h5 y x (by omega)
theorem c_X12_back {g : Gl} {σ : Sg} {i : Int} (h : -2147483648 ≤ i ∧ i ≤ 2147483647) (hb : ∀ j, 0 ≤ j → j ≤ 1 → 0 ≤ σ 52 j ∧ σ 52 j ≤ 1) : Ct g mX12_back [vr g 48, vi i] σ (PI (fun v σ' => (¬ (0 ≤ i ∧ i ≤ 1) ∧ v = -1 ∧ σ' = σ) ∨ (((0 ≤ i ∧ i ≤ 1) ∧ σ 52 i = 0) ∧ v = -2 ∧ σ' = σ) ∨ (((0 ≤ i ∧ i ≤ 1) ∧ ¬ σ 52 i = 0) ∧ v = σ 51 (32 * i) ∧ BkM σ σ' i))) := by
  refine Ct.of (by decide +kernel) (Nat.le_of_ble_eq_true rfl) ?_
  show jv g _ _ σ [(0, vr g 48), (1, vi i)] 0 []
  refine j_iload_n eX12_back_0 rfl ?_
  refine j_iconst 0 eX12_back_1 ?_
  refine j_iconst 1 eX12_back_2 ?_
  refine j_cS3 zX12_in lkX12_85 ⟨Nat.le_of_ble_eq_true rfl, Nat.le_of_ble_eq_true rfl⟩ (c_X12_in (by omega)) (Nat.le_of_ble_eq_true rfl) eX12_back_3 (k_B (fun h3 => ?_) (fun h3 => ?_))
  · refine j_ifne_1 eX12_back_6 ?_
    have bi := hb i (by omega) (by omega)
    refine j_aload_n eX12_back_11 rfl ?_
    refine j_getR flX12_19 ly48 rfl eX12_back_12 ?_
    refine j_iload_n eX12_back_15 rfl ?_
    refine j_zald ly52 (by omega) eX12_back_16 ?_
    refine j_if_ne eX12_back_17 (by omega) (fun h17 => ?_) (fun h17 => ?_)
    · refine j_iconst 0 eX12_back_23 ?_
      refine j_istore_n eX12_back_24 (Nat.le_of_ble_eq_true rfl) ?_
      refine jv_lv ?_ (l_X12_back h hb (by omega) 33 0 σ (by omega) (by omega) (fun _ _ => rfl) (fun i x z => by omega))
      exact lvC rfl (lvC rfl (lvC rfl (lv0)))
    · refine j_bipush (-2) eX12_back_20 (by decide) ?_
      refine r_iret rfl eX12_back_22 ?_
      exact Or.inr (Or.inl ⟨by omega, rfl, rfl⟩)
  · refine j_ifne_0 eX12_back_6 ?_
    refine j_iconst (-1) eX12_back_9 ?_
    refine r_iret rfl eX12_back_10 ?_
    exact Or.inl ⟨by omega, rfl, rfl⟩
theorem l_X12_varies {g : Gl} {a r : Int} {Q : Int → Sg → Prop} {τ : Sg} (hN : 0 ≤ τ 48 20 ∧ τ 48 20 ≤ 7) (hB : ∀ i, 0 ≤ i → i ≤ τ 48 20 → -4611686018427387904 ≤ τ 60 i ∧ τ 60 i ≤ 4611686018427387904) : ∀ (t : Nat) (i b c : Int), τ 48 20 + 1 - i < t → (0 ≤ i ∧ i ≤ τ 48 20 + 1) → (-1 ≤ b ∧ b ≤ 1) → Q (vch (τ 60) (τ 48 20 + 1 - i).toNat i b c) τ → jv g mX12_varies (Fm g (PI Q)) τ [(0, vr g 48), (1, vi a), (2, vi r), (3, vi c), (4, vi b), (5, vi i)] 18 [] := by
  intro t
  induction t with
  | zero =>
    intro i b c h1 h2 h3 hq
    exfalso
    omega
  | succ t ih =>
    intro i b c h1 h2 h3 hq
    refine j_iload eX12_varies_18 rfl ?_
    refine j_aload_n eX12_varies_20 rfl ?_
    refine j_getI flX12_161 ly48 rfl eX12_varies_21 ?_
    refine j_icmp_gt eX12_varies_24 (by omega) (fun h24 => ?_) (fun h24 => ?_)
    · refine j_iload_n eX12_varies_107 rfl ?_
      refine r_iret rfl eX12_varies_108 ?_
      rw [show (τ 48 20 + 1 - i).toNat = 0 from by omega] at hq
      exact hq
    · have rb := hB i (by omega) (by omega)
      refine j_aload_n eX12_varies_27 rfl ?_
      refine j_getR flX12_44 ly48 rfl eX12_varies_28 ?_
      refine j_iload eX12_varies_31 rfl ?_
      refine j_lald ly60 (by omega) eX12_varies_33 ?_
      refine j_lconst0 eX12_varies_34 ?_
      refine j_lc_le eX12_varies_35 eX12_varies_36 (by omega) (fun h35 => ?_) (fun h35 => ?_)
      · refine j_aload_n eX12_varies_43 rfl ?_
        refine j_getR flX12_44 ly48 rfl eX12_varies_44 ?_
        refine j_iload eX12_varies_47 rfl ?_
        refine j_lald ly60 (by omega) eX12_varies_49 ?_
        refine j_lconst0 eX12_varies_50 ?_
        refine j_lc_ge eX12_varies_51 eX12_varies_52 (by omega) (fun h51 => ?_) (fun h51 => ?_)
        · refine j_iconst 0 eX12_varies_59 ?_
          refine j_istore eX12_varies_60 (Nat.le_of_ble_eq_true rfl) ?_
          refine j_iload_n eX12_varies_62 rfl ?_
          refine j_iload eX12_varies_63 rfl ?_
          refine j_ifeq_0 eX12_varies_65 ?_
          refine j_iconst 0 eX12_varies_84 ?_
          refine j_iadd eX12_varies_85 ?_
          refine j_istore_n eX12_varies_86 (Nat.le_of_ble_eq_true rfl) ?_
          refine j_iload eX12_varies_87 rfl ?_
          refine j_ifne_0 eX12_varies_89 ?_
          refine j_iload eX12_varies_92 rfl ?_
          refine j_goto eX12_varies_94 ?_
          refine j_istore eX12_varies_99 (Nat.le_of_ble_eq_true rfl) ?_
          refine j_iinc eX12_varies_101 rfl (Nat.le_of_ble_eq_true rfl) ?_
          refine j_goto eX12_varies_104 ?_
          first
          | (exfalso; omega)
          | (have e2 := vchA (f := τ 60) (N := τ 48 20) (i := i) (b := b) (c := c) (by omega) (by omega); rw [e2] at hq; refine jv_lv ?_ (ih (i + 1) _ _ (by omega) (by omega) (by omega) hq); exact lvC rfl (lvC rfl (lvC rfl (lvC rfl (lvC rfl (lvC rfl (lv0)))))))
          | (have e2 := vchB (f := τ 60) (N := τ 48 20) (i := i) (b := b) (c := c) (s := 1) (by omega) (by omega) (by omega); rw [e2] at hq; refine jv_lv ?_ (ih (i + 1) _ _ (by omega) (by omega) (by omega) hq); exact lvC rfl (lvC rfl (lvC rfl (lvC rfl (lvC rfl (lvC rfl (lv0)))))))
          | (have e2 := vchB (f := τ 60) (N := τ 48 20) (i := i) (b := b) (c := c) (s := -1) (by omega) (by omega) (by omega); rw [e2] at hq; refine jv_lv ?_ (ih (i + 1) _ _ (by omega) (by omega) (by omega) hq); exact lvC rfl (lvC rfl (lvC rfl (lvC rfl (lvC rfl (lvC rfl (lv0)))))))
          | (have e2 := vchD (f := τ 60) (N := τ 48 20) (i := i) (b := b) (c := c) (s := 1) (by omega) (by omega) (by omega); rw [e2] at hq; refine jv_lv ?_ (ih (i + 1) _ _ (by omega) (by omega) (by omega) hq); exact lvC rfl (lvC rfl (lvC rfl (lvC rfl (lvC rfl (lvC rfl (lv0)))))))
          | (have e2 := vchD (f := τ 60) (N := τ 48 20) (i := i) (b := b) (c := c) (s := -1) (by omega) (by omega) (by omega); rw [e2] at hq; refine jv_lv ?_ (ih (i + 1) _ _ (by omega) (by omega) (by omega) hq); exact lvC rfl (lvC rfl (lvC rfl (lvC rfl (lvC rfl (lvC rfl (lv0)))))))
        · refine j_iconst (-1) eX12_varies_55 ?_
          refine j_goto eX12_varies_56 ?_
          refine j_istore eX12_varies_60 (Nat.le_of_ble_eq_true rfl) ?_
          refine j_iload_n eX12_varies_62 rfl ?_
          refine j_iload eX12_varies_63 rfl ?_
          refine j_if_eq eX12_varies_65 (by omega) (fun h65 => ?_) (fun h65 => ?_)
          · refine j_iconst 0 eX12_varies_84 ?_
            refine j_iadd eX12_varies_85 ?_
            refine j_istore_n eX12_varies_86 (Nat.le_of_ble_eq_true rfl) ?_
            refine j_iload eX12_varies_87 rfl ?_
            refine j_if_ne eX12_varies_89 (by omega) (fun h89 => ?_) (fun h89 => ?_)
            · refine j_iload eX12_varies_97 rfl ?_
              refine j_istore eX12_varies_99 (Nat.le_of_ble_eq_true rfl) ?_
              refine j_iinc eX12_varies_101 rfl (Nat.le_of_ble_eq_true rfl) ?_
              refine j_goto eX12_varies_104 ?_
              first
              | (exfalso; omega)
              | (have e2 := vchA (f := τ 60) (N := τ 48 20) (i := i) (b := b) (c := c) (by omega) (by omega); rw [e2] at hq; refine jv_lv ?_ (ih (i + 1) _ _ (by omega) (by omega) (by omega) hq); exact lvC rfl (lvC rfl (lvC rfl (lvC rfl (lvC rfl (lvC rfl (lv0)))))))
              | (have e2 := vchB (f := τ 60) (N := τ 48 20) (i := i) (b := b) (c := c) (s := 1) (by omega) (by omega) (by omega); rw [e2] at hq; refine jv_lv ?_ (ih (i + 1) _ _ (by omega) (by omega) (by omega) hq); exact lvC rfl (lvC rfl (lvC rfl (lvC rfl (lvC rfl (lvC rfl (lv0)))))))
              | (have e2 := vchB (f := τ 60) (N := τ 48 20) (i := i) (b := b) (c := c) (s := -1) (by omega) (by omega) (by omega); rw [e2] at hq; refine jv_lv ?_ (ih (i + 1) _ _ (by omega) (by omega) (by omega) hq); exact lvC rfl (lvC rfl (lvC rfl (lvC rfl (lvC rfl (lvC rfl (lv0)))))))
              | (have e2 := vchD (f := τ 60) (N := τ 48 20) (i := i) (b := b) (c := c) (s := 1) (by omega) (by omega) (by omega); rw [e2] at hq; refine jv_lv ?_ (ih (i + 1) _ _ (by omega) (by omega) (by omega) hq); exact lvC rfl (lvC rfl (lvC rfl (lvC rfl (lvC rfl (lvC rfl (lv0)))))))
              | (have e2 := vchD (f := τ 60) (N := τ 48 20) (i := i) (b := b) (c := c) (s := -1) (by omega) (by omega) (by omega); rw [e2] at hq; refine jv_lv ?_ (ih (i + 1) _ _ (by omega) (by omega) (by omega) hq); exact lvC rfl (lvC rfl (lvC rfl (lvC rfl (lvC rfl (lvC rfl (lv0)))))))
            · refine j_iload eX12_varies_92 rfl ?_
              refine j_goto eX12_varies_94 ?_
              refine j_istore eX12_varies_99 (Nat.le_of_ble_eq_true rfl) ?_
              refine j_iinc eX12_varies_101 rfl (Nat.le_of_ble_eq_true rfl) ?_
              refine j_goto eX12_varies_104 ?_
              first
              | (exfalso; omega)
              | (have e2 := vchA (f := τ 60) (N := τ 48 20) (i := i) (b := b) (c := c) (by omega) (by omega); rw [e2] at hq; refine jv_lv ?_ (ih (i + 1) _ _ (by omega) (by omega) (by omega) hq); exact lvC rfl (lvC rfl (lvC rfl (lvC rfl (lvC rfl (lvC rfl (lv0)))))))
              | (have e2 := vchB (f := τ 60) (N := τ 48 20) (i := i) (b := b) (c := c) (s := 1) (by omega) (by omega) (by omega); rw [e2] at hq; refine jv_lv ?_ (ih (i + 1) _ _ (by omega) (by omega) (by omega) hq); exact lvC rfl (lvC rfl (lvC rfl (lvC rfl (lvC rfl (lvC rfl (lv0)))))))
              | (have e2 := vchB (f := τ 60) (N := τ 48 20) (i := i) (b := b) (c := c) (s := -1) (by omega) (by omega) (by omega); rw [e2] at hq; refine jv_lv ?_ (ih (i + 1) _ _ (by omega) (by omega) (by omega) hq); exact lvC rfl (lvC rfl (lvC rfl (lvC rfl (lvC rfl (lvC rfl (lv0)))))))
              | (have e2 := vchD (f := τ 60) (N := τ 48 20) (i := i) (b := b) (c := c) (s := 1) (by omega) (by omega) (by omega); rw [e2] at hq; refine jv_lv ?_ (ih (i + 1) _ _ (by omega) (by omega) (by omega) hq); exact lvC rfl (lvC rfl (lvC rfl (lvC rfl (lvC rfl (lvC rfl (lv0)))))))
              | (have e2 := vchD (f := τ 60) (N := τ 48 20) (i := i) (b := b) (c := c) (s := -1) (by omega) (by omega) (by omega); rw [e2] at hq; refine jv_lv ?_ (ih (i + 1) _ _ (by omega) (by omega) (by omega) hq); exact lvC rfl (lvC rfl (lvC rfl (lvC rfl (lvC rfl (lvC rfl (lv0)))))))
          · refine j_iload eX12_varies_68 rfl ?_
            refine j_if_eq eX12_varies_70 (by omega) (fun h70 => ?_) (fun h70 => ?_)
            · refine j_iconst 0 eX12_varies_84 ?_
              refine j_iadd eX12_varies_85 ?_
              refine j_istore_n eX12_varies_86 (Nat.le_of_ble_eq_true rfl) ?_
              refine j_iload eX12_varies_87 rfl ?_
              refine j_if_ne eX12_varies_89 (by omega) (fun h89 => ?_) (fun h89 => ?_)
              · refine j_iload eX12_varies_97 rfl ?_
                refine j_istore eX12_varies_99 (Nat.le_of_ble_eq_true rfl) ?_
                refine j_iinc eX12_varies_101 rfl (Nat.le_of_ble_eq_true rfl) ?_
                refine j_goto eX12_varies_104 ?_
                first
                | (exfalso; omega)
                | (have e2 := vchA (f := τ 60) (N := τ 48 20) (i := i) (b := b) (c := c) (by omega) (by omega); rw [e2] at hq; refine jv_lv ?_ (ih (i + 1) _ _ (by omega) (by omega) (by omega) hq); exact lvC rfl (lvC rfl (lvC rfl (lvC rfl (lvC rfl (lvC rfl (lv0)))))))
                | (have e2 := vchB (f := τ 60) (N := τ 48 20) (i := i) (b := b) (c := c) (s := 1) (by omega) (by omega) (by omega); rw [e2] at hq; refine jv_lv ?_ (ih (i + 1) _ _ (by omega) (by omega) (by omega) hq); exact lvC rfl (lvC rfl (lvC rfl (lvC rfl (lvC rfl (lvC rfl (lv0)))))))
                | (have e2 := vchB (f := τ 60) (N := τ 48 20) (i := i) (b := b) (c := c) (s := -1) (by omega) (by omega) (by omega); rw [e2] at hq; refine jv_lv ?_ (ih (i + 1) _ _ (by omega) (by omega) (by omega) hq); exact lvC rfl (lvC rfl (lvC rfl (lvC rfl (lvC rfl (lvC rfl (lv0)))))))
                | (have e2 := vchD (f := τ 60) (N := τ 48 20) (i := i) (b := b) (c := c) (s := 1) (by omega) (by omega) (by omega); rw [e2] at hq; refine jv_lv ?_ (ih (i + 1) _ _ (by omega) (by omega) (by omega) hq); exact lvC rfl (lvC rfl (lvC rfl (lvC rfl (lvC rfl (lvC rfl (lv0)))))))
                | (have e2 := vchD (f := τ 60) (N := τ 48 20) (i := i) (b := b) (c := c) (s := -1) (by omega) (by omega) (by omega); rw [e2] at hq; refine jv_lv ?_ (ih (i + 1) _ _ (by omega) (by omega) (by omega) hq); exact lvC rfl (lvC rfl (lvC rfl (lvC rfl (lvC rfl (lvC rfl (lv0)))))))
              · refine j_iload eX12_varies_92 rfl ?_
                refine j_goto eX12_varies_94 ?_
                refine j_istore eX12_varies_99 (Nat.le_of_ble_eq_true rfl) ?_
                refine j_iinc eX12_varies_101 rfl (Nat.le_of_ble_eq_true rfl) ?_
                refine j_goto eX12_varies_104 ?_
                first
                | (exfalso; omega)
                | (have e2 := vchA (f := τ 60) (N := τ 48 20) (i := i) (b := b) (c := c) (by omega) (by omega); rw [e2] at hq; refine jv_lv ?_ (ih (i + 1) _ _ (by omega) (by omega) (by omega) hq); exact lvC rfl (lvC rfl (lvC rfl (lvC rfl (lvC rfl (lvC rfl (lv0)))))))
                | (have e2 := vchB (f := τ 60) (N := τ 48 20) (i := i) (b := b) (c := c) (s := 1) (by omega) (by omega) (by omega); rw [e2] at hq; refine jv_lv ?_ (ih (i + 1) _ _ (by omega) (by omega) (by omega) hq); exact lvC rfl (lvC rfl (lvC rfl (lvC rfl (lvC rfl (lvC rfl (lv0)))))))
                | (have e2 := vchB (f := τ 60) (N := τ 48 20) (i := i) (b := b) (c := c) (s := -1) (by omega) (by omega) (by omega); rw [e2] at hq; refine jv_lv ?_ (ih (i + 1) _ _ (by omega) (by omega) (by omega) hq); exact lvC rfl (lvC rfl (lvC rfl (lvC rfl (lvC rfl (lvC rfl (lv0)))))))
                | (have e2 := vchD (f := τ 60) (N := τ 48 20) (i := i) (b := b) (c := c) (s := 1) (by omega) (by omega) (by omega); rw [e2] at hq; refine jv_lv ?_ (ih (i + 1) _ _ (by omega) (by omega) (by omega) hq); exact lvC rfl (lvC rfl (lvC rfl (lvC rfl (lvC rfl (lvC rfl (lv0)))))))
                | (have e2 := vchD (f := τ 60) (N := τ 48 20) (i := i) (b := b) (c := c) (s := -1) (by omega) (by omega) (by omega); rw [e2] at hq; refine jv_lv ?_ (ih (i + 1) _ _ (by omega) (by omega) (by omega) hq); exact lvC rfl (lvC rfl (lvC rfl (lvC rfl (lvC rfl (lvC rfl (lv0)))))))
            · refine j_iload eX12_varies_73 rfl ?_
              refine j_iload eX12_varies_75 rfl ?_
              refine j_icmp_eq eX12_varies_77 (by omega) (fun h77 => ?_) (fun h77 => ?_)
              · refine j_iconst 0 eX12_varies_84 ?_
                refine j_iadd eX12_varies_85 ?_
                refine j_istore_n eX12_varies_86 (Nat.le_of_ble_eq_true rfl) ?_
                refine j_iload eX12_varies_87 rfl ?_
                refine j_if_ne eX12_varies_89 (by omega) (fun h89 => ?_) (fun h89 => ?_)
                · refine j_iload eX12_varies_97 rfl ?_
                  refine j_istore eX12_varies_99 (Nat.le_of_ble_eq_true rfl) ?_
                  refine j_iinc eX12_varies_101 rfl (Nat.le_of_ble_eq_true rfl) ?_
                  refine j_goto eX12_varies_104 ?_
                  first
                  | (exfalso; omega)
                  | (have e2 := vchA (f := τ 60) (N := τ 48 20) (i := i) (b := b) (c := c) (by omega) (by omega); rw [e2] at hq; refine jv_lv ?_ (ih (i + 1) _ _ (by omega) (by omega) (by omega) hq); exact lvC rfl (lvC rfl (lvC rfl (lvC rfl (lvC rfl (lvC rfl (lv0)))))))
                  | (have e2 := vchB (f := τ 60) (N := τ 48 20) (i := i) (b := b) (c := c) (s := 1) (by omega) (by omega) (by omega); rw [e2] at hq; refine jv_lv ?_ (ih (i + 1) _ _ (by omega) (by omega) (by omega) hq); exact lvC rfl (lvC rfl (lvC rfl (lvC rfl (lvC rfl (lvC rfl (lv0)))))))
                  | (have e2 := vchB (f := τ 60) (N := τ 48 20) (i := i) (b := b) (c := c) (s := -1) (by omega) (by omega) (by omega); rw [e2] at hq; refine jv_lv ?_ (ih (i + 1) _ _ (by omega) (by omega) (by omega) hq); exact lvC rfl (lvC rfl (lvC rfl (lvC rfl (lvC rfl (lvC rfl (lv0)))))))
                  | (have e2 := vchD (f := τ 60) (N := τ 48 20) (i := i) (b := b) (c := c) (s := 1) (by omega) (by omega) (by omega); rw [e2] at hq; refine jv_lv ?_ (ih (i + 1) _ _ (by omega) (by omega) (by omega) hq); exact lvC rfl (lvC rfl (lvC rfl (lvC rfl (lvC rfl (lvC rfl (lv0)))))))
                  | (have e2 := vchD (f := τ 60) (N := τ 48 20) (i := i) (b := b) (c := c) (s := -1) (by omega) (by omega) (by omega); rw [e2] at hq; refine jv_lv ?_ (ih (i + 1) _ _ (by omega) (by omega) (by omega) hq); exact lvC rfl (lvC rfl (lvC rfl (lvC rfl (lvC rfl (lvC rfl (lv0)))))))
                · refine j_iload eX12_varies_92 rfl ?_
                  refine j_goto eX12_varies_94 ?_
                  refine j_istore eX12_varies_99 (Nat.le_of_ble_eq_true rfl) ?_
                  refine j_iinc eX12_varies_101 rfl (Nat.le_of_ble_eq_true rfl) ?_
                  refine j_goto eX12_varies_104 ?_
                  first
                  | (exfalso; omega)
                  | (have e2 := vchA (f := τ 60) (N := τ 48 20) (i := i) (b := b) (c := c) (by omega) (by omega); rw [e2] at hq; refine jv_lv ?_ (ih (i + 1) _ _ (by omega) (by omega) (by omega) hq); exact lvC rfl (lvC rfl (lvC rfl (lvC rfl (lvC rfl (lvC rfl (lv0)))))))
                  | (have e2 := vchB (f := τ 60) (N := τ 48 20) (i := i) (b := b) (c := c) (s := 1) (by omega) (by omega) (by omega); rw [e2] at hq; refine jv_lv ?_ (ih (i + 1) _ _ (by omega) (by omega) (by omega) hq); exact lvC rfl (lvC rfl (lvC rfl (lvC rfl (lvC rfl (lvC rfl (lv0)))))))
                  | (have e2 := vchB (f := τ 60) (N := τ 48 20) (i := i) (b := b) (c := c) (s := -1) (by omega) (by omega) (by omega); rw [e2] at hq; refine jv_lv ?_ (ih (i + 1) _ _ (by omega) (by omega) (by omega) hq); exact lvC rfl (lvC rfl (lvC rfl (lvC rfl (lvC rfl (lvC rfl (lv0)))))))
                  | (have e2 := vchD (f := τ 60) (N := τ 48 20) (i := i) (b := b) (c := c) (s := 1) (by omega) (by omega) (by omega); rw [e2] at hq; refine jv_lv ?_ (ih (i + 1) _ _ (by omega) (by omega) (by omega) hq); exact lvC rfl (lvC rfl (lvC rfl (lvC rfl (lvC rfl (lvC rfl (lv0)))))))
                  | (have e2 := vchD (f := τ 60) (N := τ 48 20) (i := i) (b := b) (c := c) (s := -1) (by omega) (by omega) (by omega); rw [e2] at hq; refine jv_lv ?_ (ih (i + 1) _ _ (by omega) (by omega) (by omega) hq); exact lvC rfl (lvC rfl (lvC rfl (lvC rfl (lvC rfl (lvC rfl (lv0)))))))
              · refine j_iconst 1 eX12_varies_80 ?_
                refine j_goto eX12_varies_81 ?_
                refine j_iadd eX12_varies_85 ?_
                refine j_istore_n eX12_varies_86 (Nat.le_of_ble_eq_true rfl) ?_
                refine j_iload eX12_varies_87 rfl ?_
                refine j_if_ne eX12_varies_89 (by omega) (fun h89 => ?_) (fun h89 => ?_)
                · refine j_iload eX12_varies_97 rfl ?_
                  refine j_istore eX12_varies_99 (Nat.le_of_ble_eq_true rfl) ?_
                  refine j_iinc eX12_varies_101 rfl (Nat.le_of_ble_eq_true rfl) ?_
                  refine j_goto eX12_varies_104 ?_
                  first
                  | (exfalso; omega)
                  | (have e2 := vchA (f := τ 60) (N := τ 48 20) (i := i) (b := b) (c := c) (by omega) (by omega); rw [e2] at hq; refine jv_lv ?_ (ih (i + 1) _ _ (by omega) (by omega) (by omega) hq); exact lvC rfl (lvC rfl (lvC rfl (lvC rfl (lvC rfl (lvC rfl (lv0)))))))
                  | (have e2 := vchB (f := τ 60) (N := τ 48 20) (i := i) (b := b) (c := c) (s := 1) (by omega) (by omega) (by omega); rw [e2] at hq; refine jv_lv ?_ (ih (i + 1) _ _ (by omega) (by omega) (by omega) hq); exact lvC rfl (lvC rfl (lvC rfl (lvC rfl (lvC rfl (lvC rfl (lv0)))))))
                  | (have e2 := vchB (f := τ 60) (N := τ 48 20) (i := i) (b := b) (c := c) (s := -1) (by omega) (by omega) (by omega); rw [e2] at hq; refine jv_lv ?_ (ih (i + 1) _ _ (by omega) (by omega) (by omega) hq); exact lvC rfl (lvC rfl (lvC rfl (lvC rfl (lvC rfl (lvC rfl (lv0)))))))
                  | (have e2 := vchD (f := τ 60) (N := τ 48 20) (i := i) (b := b) (c := c) (s := 1) (by omega) (by omega) (by omega); rw [e2] at hq; refine jv_lv ?_ (ih (i + 1) _ _ (by omega) (by omega) (by omega) hq); exact lvC rfl (lvC rfl (lvC rfl (lvC rfl (lvC rfl (lvC rfl (lv0)))))))
                  | (have e2 := vchD (f := τ 60) (N := τ 48 20) (i := i) (b := b) (c := c) (s := -1) (by omega) (by omega) (by omega); rw [e2] at hq; refine jv_lv ?_ (ih (i + 1) _ _ (by omega) (by omega) (by omega) hq); exact lvC rfl (lvC rfl (lvC rfl (lvC rfl (lvC rfl (lvC rfl (lv0)))))))
                · refine j_iload eX12_varies_92 rfl ?_
                  refine j_goto eX12_varies_94 ?_
                  refine j_istore eX12_varies_99 (Nat.le_of_ble_eq_true rfl) ?_
                  refine j_iinc eX12_varies_101 rfl (Nat.le_of_ble_eq_true rfl) ?_
                  refine j_goto eX12_varies_104 ?_
                  first
                  | (exfalso; omega)
                  | (have e2 := vchA (f := τ 60) (N := τ 48 20) (i := i) (b := b) (c := c) (by omega) (by omega); rw [e2] at hq; refine jv_lv ?_ (ih (i + 1) _ _ (by omega) (by omega) (by omega) hq); exact lvC rfl (lvC rfl (lvC rfl (lvC rfl (lvC rfl (lvC rfl (lv0)))))))
                  | (have e2 := vchB (f := τ 60) (N := τ 48 20) (i := i) (b := b) (c := c) (s := 1) (by omega) (by omega) (by omega); rw [e2] at hq; refine jv_lv ?_ (ih (i + 1) _ _ (by omega) (by omega) (by omega) hq); exact lvC rfl (lvC rfl (lvC rfl (lvC rfl (lvC rfl (lvC rfl (lv0)))))))
                  | (have e2 := vchB (f := τ 60) (N := τ 48 20) (i := i) (b := b) (c := c) (s := -1) (by omega) (by omega) (by omega); rw [e2] at hq; refine jv_lv ?_ (ih (i + 1) _ _ (by omega) (by omega) (by omega) hq); exact lvC rfl (lvC rfl (lvC rfl (lvC rfl (lvC rfl (lvC rfl (lv0)))))))
                  | (have e2 := vchD (f := τ 60) (N := τ 48 20) (i := i) (b := b) (c := c) (s := 1) (by omega) (by omega) (by omega); rw [e2] at hq; refine jv_lv ?_ (ih (i + 1) _ _ (by omega) (by omega) (by omega) hq); exact lvC rfl (lvC rfl (lvC rfl (lvC rfl (lvC rfl (lvC rfl (lv0)))))))
                  | (have e2 := vchD (f := τ 60) (N := τ 48 20) (i := i) (b := b) (c := c) (s := -1) (by omega) (by omega) (by omega); rw [e2] at hq; refine jv_lv ?_ (ih (i + 1) _ _ (by omega) (by omega) (by omega) hq); exact lvC rfl (lvC rfl (lvC rfl (lvC rfl (lvC rfl (lvC rfl (lv0)))))))
      · refine j_iconst 1 eX12_varies_39 ?_
        refine j_goto eX12_varies_40 ?_
        refine j_istore eX12_varies_60 (Nat.le_of_ble_eq_true rfl) ?_
        refine j_iload_n eX12_varies_62 rfl ?_
        refine j_iload eX12_varies_63 rfl ?_
        refine j_ifeq_1 eX12_varies_65 ?_
        refine j_iload eX12_varies_68 rfl ?_
        refine j_if_eq eX12_varies_70 (by omega) (fun h70 => ?_) (fun h70 => ?_)
        · refine j_iconst 0 eX12_varies_84 ?_
          refine j_iadd eX12_varies_85 ?_
          refine j_istore_n eX12_varies_86 (Nat.le_of_ble_eq_true rfl) ?_
          refine j_iload eX12_varies_87 rfl ?_
          refine j_ifne_1 eX12_varies_89 ?_
          refine j_iload eX12_varies_97 rfl ?_
          refine j_istore eX12_varies_99 (Nat.le_of_ble_eq_true rfl) ?_
          refine j_iinc eX12_varies_101 rfl (Nat.le_of_ble_eq_true rfl) ?_
          refine j_goto eX12_varies_104 ?_
          first
          | (exfalso; omega)
          | (have e2 := vchA (f := τ 60) (N := τ 48 20) (i := i) (b := b) (c := c) (by omega) (by omega); rw [e2] at hq; refine jv_lv ?_ (ih (i + 1) _ _ (by omega) (by omega) (by omega) hq); exact lvC rfl (lvC rfl (lvC rfl (lvC rfl (lvC rfl (lvC rfl (lv0)))))))
          | (have e2 := vchB (f := τ 60) (N := τ 48 20) (i := i) (b := b) (c := c) (s := 1) (by omega) (by omega) (by omega); rw [e2] at hq; refine jv_lv ?_ (ih (i + 1) _ _ (by omega) (by omega) (by omega) hq); exact lvC rfl (lvC rfl (lvC rfl (lvC rfl (lvC rfl (lvC rfl (lv0)))))))
          | (have e2 := vchB (f := τ 60) (N := τ 48 20) (i := i) (b := b) (c := c) (s := -1) (by omega) (by omega) (by omega); rw [e2] at hq; refine jv_lv ?_ (ih (i + 1) _ _ (by omega) (by omega) (by omega) hq); exact lvC rfl (lvC rfl (lvC rfl (lvC rfl (lvC rfl (lvC rfl (lv0)))))))
          | (have e2 := vchD (f := τ 60) (N := τ 48 20) (i := i) (b := b) (c := c) (s := 1) (by omega) (by omega) (by omega); rw [e2] at hq; refine jv_lv ?_ (ih (i + 1) _ _ (by omega) (by omega) (by omega) hq); exact lvC rfl (lvC rfl (lvC rfl (lvC rfl (lvC rfl (lvC rfl (lv0)))))))
          | (have e2 := vchD (f := τ 60) (N := τ 48 20) (i := i) (b := b) (c := c) (s := -1) (by omega) (by omega) (by omega); rw [e2] at hq; refine jv_lv ?_ (ih (i + 1) _ _ (by omega) (by omega) (by omega) hq); exact lvC rfl (lvC rfl (lvC rfl (lvC rfl (lvC rfl (lvC rfl (lv0)))))))
        · refine j_iload eX12_varies_73 rfl ?_
          refine j_iload eX12_varies_75 rfl ?_
          refine j_icmp_eq eX12_varies_77 (by omega) (fun h77 => ?_) (fun h77 => ?_)
          · refine j_iconst 0 eX12_varies_84 ?_
            refine j_iadd eX12_varies_85 ?_
            refine j_istore_n eX12_varies_86 (Nat.le_of_ble_eq_true rfl) ?_
            refine j_iload eX12_varies_87 rfl ?_
            refine j_ifne_1 eX12_varies_89 ?_
            refine j_iload eX12_varies_97 rfl ?_
            refine j_istore eX12_varies_99 (Nat.le_of_ble_eq_true rfl) ?_
            refine j_iinc eX12_varies_101 rfl (Nat.le_of_ble_eq_true rfl) ?_
            refine j_goto eX12_varies_104 ?_
            first
            | (exfalso; omega)
            | (have e2 := vchA (f := τ 60) (N := τ 48 20) (i := i) (b := b) (c := c) (by omega) (by omega); rw [e2] at hq; refine jv_lv ?_ (ih (i + 1) _ _ (by omega) (by omega) (by omega) hq); exact lvC rfl (lvC rfl (lvC rfl (lvC rfl (lvC rfl (lvC rfl (lv0)))))))
            | (have e2 := vchB (f := τ 60) (N := τ 48 20) (i := i) (b := b) (c := c) (s := 1) (by omega) (by omega) (by omega); rw [e2] at hq; refine jv_lv ?_ (ih (i + 1) _ _ (by omega) (by omega) (by omega) hq); exact lvC rfl (lvC rfl (lvC rfl (lvC rfl (lvC rfl (lvC rfl (lv0)))))))
            | (have e2 := vchB (f := τ 60) (N := τ 48 20) (i := i) (b := b) (c := c) (s := -1) (by omega) (by omega) (by omega); rw [e2] at hq; refine jv_lv ?_ (ih (i + 1) _ _ (by omega) (by omega) (by omega) hq); exact lvC rfl (lvC rfl (lvC rfl (lvC rfl (lvC rfl (lvC rfl (lv0)))))))
            | (have e2 := vchD (f := τ 60) (N := τ 48 20) (i := i) (b := b) (c := c) (s := 1) (by omega) (by omega) (by omega); rw [e2] at hq; refine jv_lv ?_ (ih (i + 1) _ _ (by omega) (by omega) (by omega) hq); exact lvC rfl (lvC rfl (lvC rfl (lvC rfl (lvC rfl (lvC rfl (lv0)))))))
            | (have e2 := vchD (f := τ 60) (N := τ 48 20) (i := i) (b := b) (c := c) (s := -1) (by omega) (by omega) (by omega); rw [e2] at hq; refine jv_lv ?_ (ih (i + 1) _ _ (by omega) (by omega) (by omega) hq); exact lvC rfl (lvC rfl (lvC rfl (lvC rfl (lvC rfl (lvC rfl (lv0)))))))
          · refine j_iconst 1 eX12_varies_80 ?_
            refine j_goto eX12_varies_81 ?_
            refine j_iadd eX12_varies_85 ?_
            refine j_istore_n eX12_varies_86 (Nat.le_of_ble_eq_true rfl) ?_
            refine j_iload eX12_varies_87 rfl ?_
            refine j_ifne_1 eX12_varies_89 ?_
            refine j_iload eX12_varies_97 rfl ?_
            refine j_istore eX12_varies_99 (Nat.le_of_ble_eq_true rfl) ?_
            refine j_iinc eX12_varies_101 rfl (Nat.le_of_ble_eq_true rfl) ?_
            refine j_goto eX12_varies_104 ?_
            first
            | (exfalso; omega)
            | (have e2 := vchA (f := τ 60) (N := τ 48 20) (i := i) (b := b) (c := c) (by omega) (by omega); rw [e2] at hq; refine jv_lv ?_ (ih (i + 1) _ _ (by omega) (by omega) (by omega) hq); exact lvC rfl (lvC rfl (lvC rfl (lvC rfl (lvC rfl (lvC rfl (lv0)))))))
            | (have e2 := vchB (f := τ 60) (N := τ 48 20) (i := i) (b := b) (c := c) (s := 1) (by omega) (by omega) (by omega); rw [e2] at hq; refine jv_lv ?_ (ih (i + 1) _ _ (by omega) (by omega) (by omega) hq); exact lvC rfl (lvC rfl (lvC rfl (lvC rfl (lvC rfl (lvC rfl (lv0)))))))
            | (have e2 := vchB (f := τ 60) (N := τ 48 20) (i := i) (b := b) (c := c) (s := -1) (by omega) (by omega) (by omega); rw [e2] at hq; refine jv_lv ?_ (ih (i + 1) _ _ (by omega) (by omega) (by omega) hq); exact lvC rfl (lvC rfl (lvC rfl (lvC rfl (lvC rfl (lvC rfl (lv0)))))))
            | (have e2 := vchD (f := τ 60) (N := τ 48 20) (i := i) (b := b) (c := c) (s := 1) (by omega) (by omega) (by omega); rw [e2] at hq; refine jv_lv ?_ (ih (i + 1) _ _ (by omega) (by omega) (by omega) hq); exact lvC rfl (lvC rfl (lvC rfl (lvC rfl (lvC rfl (lvC rfl (lv0)))))))
            | (have e2 := vchD (f := τ 60) (N := τ 48 20) (i := i) (b := b) (c := c) (s := -1) (by omega) (by omega) (by omega); rw [e2] at hq; refine jv_lv ?_ (ih (i + 1) _ _ (by omega) (by omega) (by omega) hq); exact lvC rfl (lvC rfl (lvC rfl (lvC rfl (lvC rfl (lvC rfl (lv0)))))))
theorem c_X12_varies {g : Gl} {σ : Sg} {a r : Int} (hM : TM σ) (vt : VTm σ) (nd : 1 ≤ a ∧ a ≤ 127) (hr : 0 ≤ r ∧ r ≤ 2) : Ct g mX12_varies [vr g 48, vi a, vi r] σ (PI (fun v σ' => frL σ σ' ∧ v = vch (NMp σ (σ 48 6) a r.toNat) ((σ 49 (2 + σ 48 6)) + r + 1).toNat 0 0 0)) := by
  refine Ct.of (by decide +kernel) (Nat.le_of_ble_eq_true rfl) ?_
  show jv g _ _ σ [(0, vr g 48), (1, vi a), (2, vi r)] 0 []
  have qn := hM.2.2.1 (σ 48 6) vt.1.1 vt.1.2
  refine j_aload_n eX12_varies_0 rfl ?_
  refine j_aload_n eX12_varies_1 rfl ?_
  refine j_getI flX12_79 ly48 rfl eX12_varies_2 ?_
  refine j_iload_n eX12_varies_5 rfl ?_
  refine j_iload_n eX12_varies_6 rfl ?_
  refine j_cV3 zX12_lays lkX12_178 ⟨Nat.le_of_ble_eq_true rfl, Nat.le_of_ble_eq_true rfl⟩ ly48 rfl rfl (c_X12_lays (by exact hM) (by exact vt.1) (by exact nd) (by exact vt.2) (by exact hr)) (Nat.le_of_ble_eq_true rfl) eX12_varies_7 (k_V (fun σ7 h7 => ?_))
  have sr := h7.S hM vt.1 vt.2 nd hr
  have t1 := h7.2.2.1
  refine j_iconst 0 eX12_varies_10 ?_
  refine j_istore_n eX12_varies_11 (Nat.le_of_ble_eq_true rfl) ?_
  refine j_iconst 0 eX12_varies_12 ?_
  refine j_istore eX12_varies_13 (Nat.le_of_ble_eq_true rfl) ?_
  refine j_iconst 0 eX12_varies_15 ?_
  refine j_istore eX12_varies_16 (Nat.le_of_ble_eq_true rfl) ?_
  refine jv_lv ?_ (l_X12_varies (a := a) (r := r) (τ := σ7) (by omega) (fun i x z => (sr i x (by omega)).2.1) 9 0 0 0 (by omega) (by omega) (by omega) ⟨h7.fr, ?_⟩)
  · exact lvC rfl (lvC rfl (lvC rfl (lvC rfl (lvC rfl (lvC rfl (lv0))))))
  · rw [t1, show (σ 49 (2 + σ 48 6)) + r + 1 - 0 = (σ 49 (2 + σ 48 6)) + r + 1 from by omega]
    exact vch_sgn _ _ _ _ (fun j x z => (sr j x (by omega)).1)
theorem c_X12_variation {g : Gl} {σ : Sg} {a r : Int} (h : -2147483648 ≤ a ∧ a ≤ 2147483647 ∧ -2147483648 ≤ r ∧ r ≤ 2147483647) (hM : TM σ) (hk : (0 ≤ σ 48 6 ∧ σ 48 6 ≤ 2) ∧ 0 ≤ σ 48 7 ∧ σ 48 7 ≤ 2) : Ct g mX12_variation [vr g 48, vi a, vi r] σ (PI (fun v σ' => frL σ σ' ∧ ((¬ ((1 ≤ a ∧ a ≤ 127) ∧ (0 ≤ r ∧ r ≤ 2)) ∧ v = -1) ∨ ((((1 ≤ a ∧ a ≤ 127) ∧ (0 ≤ r ∧ r ≤ 2)) ∧ ¬ ((0 ≤ σ 48 6 ∧ σ 48 6 < σ 49 0) ∧ 0 ≤ σ 48 7 ∧ σ 48 7 < σ 49 1)) ∧ v = -2) ∨ ((((1 ≤ a ∧ a ≤ 127) ∧ (0 ≤ r ∧ r ≤ 2)) ∧ ((0 ≤ σ 48 6 ∧ σ 48 6 < σ 49 0) ∧ 0 ≤ σ 48 7 ∧ σ 48 7 < σ 49 1)) ∧ v = vch (NMp σ (σ 48 6) a r.toNat) ((σ 49 (2 + σ 48 6)) + r + 1).toNat 0 0 0)))) := by
  refine Ct.of (by decide +kernel) (Nat.le_of_ble_eq_true rfl) ?_
  show jv g _ _ σ [(0, vr g 48), (1, vi a), (2, vi r)] 0 []
  refine j_iload_n eX12_variation_0 rfl ?_
  refine j_cS1 zX12_isNode lkX12_172 ⟨Nat.le_of_ble_eq_true rfl, Nat.le_of_ble_eq_true rfl⟩ (c_X12_isNode (by omega)) (Nat.le_of_ble_eq_true rfl) eX12_variation_1 (k_B (fun h1 => ?_) (fun h1 => ?_))
  · refine j_ifeq_1 eX12_variation_4 ?_
    refine j_iload_n eX12_variation_7 rfl ?_
    refine j_iconst 0 eX12_variation_8 ?_
    refine j_iconst 2 eX12_variation_9 ?_
    refine j_cS3 zX12_in lkX12_85 ⟨Nat.le_of_ble_eq_true rfl, Nat.le_of_ble_eq_true rfl⟩ (c_X12_in (by omega)) (Nat.le_of_ble_eq_true rfl) eX12_variation_10 (k_B (fun h10 => ?_) (fun h10 => ?_))
    · refine j_ifne_1 eX12_variation_13 ?_
      refine j_aload_n eX12_variation_18 rfl ?_
      refine j_cV0 zX12_isTaken lkX12_175 ⟨Nat.le_of_ble_eq_true rfl, Nat.le_of_ble_eq_true rfl⟩ ly48 rfl rfl (c_X12_isTaken (by exact hM) (by exact hk)) (Nat.le_of_ble_eq_true rfl) eX12_variation_19 (k_B (fun h19 => ?_) (fun h19 => ?_))
      · refine j_ifeq_1 eX12_variation_22 ?_
        have vt : VTm σ := h19
        refine j_aload_n eX12_variation_25 rfl ?_
        refine j_iload_n eX12_variation_26 rfl ?_
        refine j_iload_n eX12_variation_27 rfl ?_
        refine j_cV2 zX12_varies lkX12_186 ⟨Nat.le_of_ble_eq_true rfl, Nat.le_of_ble_eq_true rfl⟩ ly48 rfl rfl (c_X12_varies (by exact hM) (by exact vt) (by omega) (by omega)) (Nat.le_of_ble_eq_true rfl) eX12_variation_28 (k_I (fun v28 σ28 h28 => ?_))
        refine j_goto eX12_variation_31 ?_
        refine r_iret rfl eX12_variation_36 ?_
        first | exact ⟨frL.rf σ, Or.inl ⟨by omega, rfl⟩⟩ | exact ⟨frL.rf σ, Or.inr (Or.inl ⟨by omega, rfl⟩)⟩ | exact ⟨h28.1, Or.inr (Or.inr ⟨by omega, h28.2⟩)⟩
      · refine j_ifeq_0 eX12_variation_22 ?_
        refine j_bipush (-2) eX12_variation_34 (by decide) ?_
        refine r_iret rfl eX12_variation_36 ?_
        first | exact ⟨frL.rf σ, Or.inl ⟨by omega, rfl⟩⟩ | exact ⟨frL.rf σ, Or.inr (Or.inl ⟨by omega, rfl⟩)⟩ | exact ⟨h28.1, Or.inr (Or.inr ⟨by omega, h28.2⟩)⟩
    · refine j_ifne_0 eX12_variation_13 ?_
      refine j_iconst (-1) eX12_variation_16 ?_
      refine r_iret rfl eX12_variation_17 ?_
      first | exact ⟨frL.rf σ, Or.inl ⟨by omega, rfl⟩⟩ | exact ⟨frL.rf σ, Or.inr (Or.inl ⟨by omega, rfl⟩)⟩ | exact ⟨h28.1, Or.inr (Or.inr ⟨by omega, h28.2⟩)⟩
  · refine j_ifeq_0 eX12_variation_4 ?_
    refine j_iconst (-1) eX12_variation_16 ?_
    refine r_iret rfl eX12_variation_17 ?_
    first | exact ⟨frL.rf σ, Or.inl ⟨by omega, rfl⟩⟩ | exact ⟨frL.rf σ, Or.inr (Or.inl ⟨by omega, rfl⟩)⟩ | exact ⟨h28.1, Or.inr (Or.inr ⟨by omega, h28.2⟩)⟩
theorem c_X12_control {g : Gl} {σ : Sg} {a r i w : Int} (h : -2147483648 ≤ a ∧ a ≤ 2147483647 ∧ -2147483648 ≤ r ∧ r ≤ 2147483647 ∧ -2147483648 ≤ i ∧ i ≤ 2147483647 ∧ -2147483648 ≤ w ∧ w ≤ 2147483647) (hM : TM σ) (hk : (0 ≤ σ 48 6 ∧ σ 48 6 ≤ 2) ∧ 0 ≤ σ 48 7 ∧ σ 48 7 ≤ 2) : Ct g mX12_control [vr g 48, vi a, vi r, vi i, vi w] σ (PL (fun v σ' => frL σ σ' ∧ ((((1 ≤ a ∧ a ≤ 127) ∧ (0 ≤ r ∧ r ≤ 2) ∧ (0 ≤ w ∧ w ≤ 1) ∧ ((0 ≤ σ 48 6 ∧ σ 48 6 < σ 49 0) ∧ 0 ≤ σ 48 7 ∧ σ 48 7 < σ 49 1) ∧ 0 ≤ i ∧ i ≤ (σ 49 (2 + σ 48 6)) + r) ∧ v = FR (NMp σ (σ 48 6) a r.toNat i) (bnZ ((σ 49 (2 + σ 48 6)) + r) i * 64 ^ (σ 49 (2 + σ 48 6)).toNat) w) ∨ (¬ ((1 ≤ a ∧ a ≤ 127) ∧ (0 ≤ r ∧ r ≤ 2) ∧ (0 ≤ w ∧ w ≤ 1) ∧ ((0 ≤ σ 48 6 ∧ σ 48 6 < σ 49 0) ∧ 0 ≤ σ 48 7 ∧ σ 48 7 < σ 49 1) ∧ 0 ≤ i ∧ i ≤ (σ 49 (2 + σ 48 6)) + r) ∧ v = -4611686018427387904)))) := by
  refine Ct.of (by decide +kernel) (Nat.le_of_ble_eq_true rfl) ?_
  show jv g _ _ σ [(0, vr g 48), (1, vi a), (2, vi r), (3, vi i), (4, vi w)] 0 []
  refine j_iload_n eX12_control_0 rfl ?_
  refine j_cS1 zX12_isNode lkX12_172 ⟨Nat.le_of_ble_eq_true rfl, Nat.le_of_ble_eq_true rfl⟩ (c_X12_isNode (by omega)) (Nat.le_of_ble_eq_true rfl) eX12_control_1 (k_B (fun h1 => ?_) (fun h1 => ?_))
  · refine j_ifeq_1 eX12_control_4 ?_
    refine j_iload_n eX12_control_7 rfl ?_
    refine j_iconst 0 eX12_control_8 ?_
    refine j_iconst 2 eX12_control_9 ?_
    refine j_cS3 zX12_in lkX12_85 ⟨Nat.le_of_ble_eq_true rfl, Nat.le_of_ble_eq_true rfl⟩ (c_X12_in (by omega)) (Nat.le_of_ble_eq_true rfl) eX12_control_10 (k_B (fun h10 => ?_) (fun h10 => ?_))
    · refine j_ifeq_1 eX12_control_13 ?_
      refine j_iload eX12_control_16 rfl ?_
      refine j_iconst 0 eX12_control_18 ?_
      refine j_iconst 1 eX12_control_19 ?_
      refine j_cS3 zX12_in lkX12_85 ⟨Nat.le_of_ble_eq_true rfl, Nat.le_of_ble_eq_true rfl⟩ (c_X12_in (by omega)) (Nat.le_of_ble_eq_true rfl) eX12_control_20 (k_B (fun h20 => ?_) (fun h20 => ?_))
      · refine j_ifeq_1 eX12_control_23 ?_
        refine j_aload_n eX12_control_26 rfl ?_
        refine j_cV0 zX12_isTaken lkX12_175 ⟨Nat.le_of_ble_eq_true rfl, Nat.le_of_ble_eq_true rfl⟩ ly48 rfl rfl (c_X12_isTaken (by exact hM) (by exact hk)) (Nat.le_of_ble_eq_true rfl) eX12_control_27 (k_B (fun h27 => ?_) (fun h27 => ?_))
        · refine j_ifeq_1 eX12_control_30 ?_
          have vt : VTm σ := h27
          have qn := hM.2.2.1 (σ 48 6) vt.1.1 vt.1.2
          refine j_iload_n eX12_control_33 rfl ?_
          refine j_iconst 0 eX12_control_34 ?_
          refine j_aload_n eX12_control_35 rfl ?_
          refine j_getR flX12_7 ly48 rfl eX12_control_36 ?_
          refine j_iconst 2 eX12_control_39 ?_
          refine j_aload_n eX12_control_40 rfl ?_
          refine j_getI flX12_79 ly48 rfl eX12_control_41 ?_
          refine j_iadd eX12_control_44 ?_
          refine j_iald ly49 (by omega) eX12_control_45 ?_
          refine j_iload_n eX12_control_46 rfl ?_
          refine j_iadd eX12_control_47 ?_
          refine j_cS3 zX12_in lkX12_85 ⟨Nat.le_of_ble_eq_true rfl, Nat.le_of_ble_eq_true rfl⟩ (c_X12_in (by omega)) (Nat.le_of_ble_eq_true rfl) eX12_control_48 (k_B (fun h48 => ?_) (fun h48 => ?_))
          · refine j_ifne_1 eX12_control_51 ?_
            refine j_aload_n eX12_control_58 rfl ?_
            refine j_aload_n eX12_control_59 rfl ?_
            refine j_getI flX12_79 ly48 rfl eX12_control_60 ?_
            refine j_iload_n eX12_control_63 rfl ?_
            refine j_iload_n eX12_control_64 rfl ?_
            refine j_cV3 zX12_lays lkX12_178 ⟨Nat.le_of_ble_eq_true rfl, Nat.le_of_ble_eq_true rfl⟩ ly48 rfl rfl (c_X12_lays (by exact hM) (by exact vt.1) (by omega) (by exact vt.2) (by omega)) (Nat.le_of_ble_eq_true rfl) eX12_control_65 (k_V (fun σ65 h65 => ?_))
            have sr := h65.S hM vt.1 vt.2 (by omega) (by omega) i (by omega) (by omega)
            have lw := lc_bw (σ := σ) (p := σ 48 6) (r := r) qn (by omega)
            have fq := h65.fq hM vt.1 vt.2 (by omega) (by omega) (i := i) (w := w) (by omega)
            rw [← h65.2.2.2.1] at lw
            refine j_aload_n eX12_control_68 rfl ?_
            refine j_getR flX12_44 ly48 rfl eX12_control_69 ?_
            refine j_iload_n eX12_control_72 rfl ?_
            refine j_lald ly60 (by omega) eX12_control_73 ?_
            refine j_aload_n eX12_control_74 rfl ?_
            refine j_getL flX12_168 ly48 rfl eX12_control_75 ?_
            refine j_iload eX12_control_78 rfl ?_
            refine j_cS3 zX12_fraction lkX12_182 ⟨Nat.le_of_ble_eq_true rfl, Nat.le_of_ble_eq_true rfl⟩ (c_X12_fraction (by omega) (by omega)) (Nat.le_of_ble_eq_true rfl) eX12_control_80 (k_EL ?_)
            refine r_lret rfl eX12_control_83 ?_
            first | exact ⟨frL.rf σ, Or.inr ⟨by omega, rfl⟩⟩ | exact ⟨h65.fr, Or.inl ⟨by omega, fq⟩⟩
          · refine j_ifne_0 eX12_control_51 ?_
            refine j_ldc2 (-4611686018427387904) cnX12_132 eX12_control_54 ?_
            refine r_lret rfl eX12_control_57 ?_
            first | exact ⟨frL.rf σ, Or.inr ⟨by omega, rfl⟩⟩ | exact ⟨h65.fr, Or.inl ⟨by omega, fq⟩⟩
        · refine j_ifeq_0 eX12_control_30 ?_
          refine j_ldc2 (-4611686018427387904) cnX12_132 eX12_control_54 ?_
          refine r_lret rfl eX12_control_57 ?_
          first | exact ⟨frL.rf σ, Or.inr ⟨by omega, rfl⟩⟩ | exact ⟨h65.fr, Or.inl ⟨by omega, fq⟩⟩
      · refine j_ifeq_0 eX12_control_23 ?_
        refine j_ldc2 (-4611686018427387904) cnX12_132 eX12_control_54 ?_
        refine r_lret rfl eX12_control_57 ?_
        first | exact ⟨frL.rf σ, Or.inr ⟨by omega, rfl⟩⟩ | exact ⟨h65.fr, Or.inl ⟨by omega, fq⟩⟩
    · refine j_ifeq_0 eX12_control_13 ?_
      refine j_ldc2 (-4611686018427387904) cnX12_132 eX12_control_54 ?_
      refine r_lret rfl eX12_control_57 ?_
      first | exact ⟨frL.rf σ, Or.inr ⟨by omega, rfl⟩⟩ | exact ⟨h65.fr, Or.inl ⟨by omega, fq⟩⟩
  · refine j_ifeq_0 eX12_control_4 ?_
    refine j_ldc2 (-4611686018427387904) cnX12_132 eX12_control_54 ?_
    refine r_lret rfl eX12_control_57 ?_
    first | exact ⟨frL.rf σ, Or.inr ⟨by omega, rfl⟩⟩ | exact ⟨h65.fr, Or.inl ⟨by omega, fq⟩⟩
theorem c_X12_end {g : Gl} {σ : Sg} {a r w : Int} (h : -2147483648 ≤ a ∧ a ≤ 2147483647 ∧ -2147483648 ≤ r ∧ r ≤ 2147483647 ∧ -2147483648 ≤ w ∧ w ≤ 2147483647) (hM : TM σ) (hk : (0 ≤ σ 48 6 ∧ σ 48 6 ≤ 2) ∧ 0 ≤ σ 48 7 ∧ σ 48 7 ≤ 2) : Ct g mX12_end [vr g 48, vi a, vi r, vi w] σ (PL (fun v σ' => σ' = σ ∧ ((((1 ≤ a ∧ a ≤ 127) ∧ (0 ≤ r ∧ r ≤ 1) ∧ (0 ≤ w ∧ w ≤ 1) ∧ ((0 ≤ σ 48 6 ∧ σ 48 6 < σ 49 0) ∧ 0 ≤ σ 48 7 ∧ σ 48 7 < σ 49 1)) ∧ v = FR (if r = 0 then loM σ a else loM σ a + wdM σ a) 64 w) ∨ (¬ ((1 ≤ a ∧ a ≤ 127) ∧ (0 ≤ r ∧ r ≤ 1) ∧ (0 ≤ w ∧ w ≤ 1) ∧ ((0 ≤ σ 48 6 ∧ σ 48 6 < σ 49 0) ∧ 0 ≤ σ 48 7 ∧ σ 48 7 < σ 49 1)) ∧ v = -4611686018427387904)))) := by
  refine Ct.of (by decide +kernel) (Nat.le_of_ble_eq_true rfl) ?_
  show jv g _ _ σ [(0, vr g 48), (1, vi a), (2, vi r), (3, vi w)] 0 []
  refine j_iload_n eX12_end_0 rfl ?_
  refine j_cS1 zX12_isNode lkX12_172 ⟨Nat.le_of_ble_eq_true rfl, Nat.le_of_ble_eq_true rfl⟩ (c_X12_isNode (by omega)) (Nat.le_of_ble_eq_true rfl) eX12_end_1 (k_B (fun h1 => ?_) (fun h1 => ?_))
  · refine j_ifeq_1 eX12_end_4 ?_
    refine j_iload_n eX12_end_7 rfl ?_
    refine j_iconst 0 eX12_end_8 ?_
    refine j_iconst 1 eX12_end_9 ?_
    refine j_cS3 zX12_in lkX12_85 ⟨Nat.le_of_ble_eq_true rfl, Nat.le_of_ble_eq_true rfl⟩ (c_X12_in (by omega)) (Nat.le_of_ble_eq_true rfl) eX12_end_10 (k_B (fun h10 => ?_) (fun h10 => ?_))
    · refine j_ifeq_1 eX12_end_13 ?_
      refine j_iload_n eX12_end_16 rfl ?_
      refine j_iconst 0 eX12_end_17 ?_
      refine j_iconst 1 eX12_end_18 ?_
      refine j_cS3 zX12_in lkX12_85 ⟨Nat.le_of_ble_eq_true rfl, Nat.le_of_ble_eq_true rfl⟩ (c_X12_in (by omega)) (Nat.le_of_ble_eq_true rfl) eX12_end_19 (k_B (fun h19 => ?_) (fun h19 => ?_))
      · refine j_ifeq_1 eX12_end_22 ?_
        refine j_aload_n eX12_end_25 rfl ?_
        refine j_cV0 zX12_isTaken lkX12_175 ⟨Nat.le_of_ble_eq_true rfl, Nat.le_of_ble_eq_true rfl⟩ ly48 rfl rfl (c_X12_isTaken (by exact hM) (by exact hk)) (Nat.le_of_ble_eq_true rfl) eX12_end_26 (k_B (fun h26 => ?_) (fun h26 => ?_))
        · refine j_ifne_1 eX12_end_29 ?_
          have vt : VTm σ := h26
          have lb := (wdM_b hM (a := a) (by omega) vt.2).1
          have hb := hiM_b hM (a := a) (by omega) vt.2
          refine j_iload_n eX12_end_36 rfl ?_
          refine j_if_ne eX12_end_37 (by omega) (fun h37 => ?_) (fun h37 => ?_)
          · refine j_aload_n eX12_end_49 rfl ?_
            refine j_iload_n eX12_end_50 rfl ?_
            refine j_cV1 zX12_highOf lkX12_190 ⟨Nat.le_of_ble_eq_true rfl, Nat.le_of_ble_eq_true rfl⟩ ly48 rfl rfl (c_X12_highOf (by omega) (by omega)) (Nat.le_of_ble_eq_true rfl) eX12_end_51 (k_E ?_)
            refine j_i2l (by omega) eX12_end_54 ?_
            refine j_ldc2 (64) cnX12_148 eX12_end_55 ?_
            refine j_iload_n eX12_end_58 rfl ?_
            refine j_cS3 zX12_fraction lkX12_182 ⟨Nat.le_of_ble_eq_true rfl, Nat.le_of_ble_eq_true rfl⟩ (c_X12_fraction (by omega) (by omega)) (Nat.le_of_ble_eq_true rfl) eX12_end_59 (k_EL ?_)
            refine r_lret rfl eX12_end_62 ?_
            first | exact ⟨rfl, Or.inr ⟨by omega, rfl⟩⟩ | exact ⟨rfl, Or.inl ⟨by omega, by rw [if_pos (show r = 0 by omega)]⟩⟩ | exact ⟨rfl, Or.inl ⟨by omega, by rw [if_neg (show ¬ r = 0 by omega)]⟩⟩
          · refine j_aload_n eX12_end_40 rfl ?_
            refine j_iload_n eX12_end_41 rfl ?_
            refine j_cV1 zX12_lowOf lkX12_145 ⟨Nat.le_of_ble_eq_true rfl, Nat.le_of_ble_eq_true rfl⟩ ly48 rfl rfl (c_X12_lowOf (by omega) (by omega)) (Nat.le_of_ble_eq_true rfl) eX12_end_42 (k_E ?_)
            refine j_i2l (by omega) eX12_end_45 ?_
            refine j_goto eX12_end_46 ?_
            refine j_ldc2 (64) cnX12_148 eX12_end_55 ?_
            refine j_iload_n eX12_end_58 rfl ?_
            refine j_cS3 zX12_fraction lkX12_182 ⟨Nat.le_of_ble_eq_true rfl, Nat.le_of_ble_eq_true rfl⟩ (c_X12_fraction (by omega) (by omega)) (Nat.le_of_ble_eq_true rfl) eX12_end_59 (k_EL ?_)
            refine r_lret rfl eX12_end_62 ?_
            first | exact ⟨rfl, Or.inr ⟨by omega, rfl⟩⟩ | exact ⟨rfl, Or.inl ⟨by omega, by rw [if_pos (show r = 0 by omega)]⟩⟩ | exact ⟨rfl, Or.inl ⟨by omega, by rw [if_neg (show ¬ r = 0 by omega)]⟩⟩
        · refine j_ifne_0 eX12_end_29 ?_
          refine j_ldc2 (-4611686018427387904) cnX12_132 eX12_end_32 ?_
          refine r_lret rfl eX12_end_35 ?_
          first | exact ⟨rfl, Or.inr ⟨by omega, rfl⟩⟩ | exact ⟨rfl, Or.inl ⟨by omega, by rw [if_pos (show r = 0 by omega)]⟩⟩ | exact ⟨rfl, Or.inl ⟨by omega, by rw [if_neg (show ¬ r = 0 by omega)]⟩⟩
      · refine j_ifeq_0 eX12_end_22 ?_
        refine j_ldc2 (-4611686018427387904) cnX12_132 eX12_end_32 ?_
        refine r_lret rfl eX12_end_35 ?_
        first | exact ⟨rfl, Or.inr ⟨by omega, rfl⟩⟩ | exact ⟨rfl, Or.inl ⟨by omega, by rw [if_pos (show r = 0 by omega)]⟩⟩ | exact ⟨rfl, Or.inl ⟨by omega, by rw [if_neg (show ¬ r = 0 by omega)]⟩⟩
    · refine j_ifeq_0 eX12_end_13 ?_
      refine j_ldc2 (-4611686018427387904) cnX12_132 eX12_end_32 ?_
      refine r_lret rfl eX12_end_35 ?_
      first | exact ⟨rfl, Or.inr ⟨by omega, rfl⟩⟩ | exact ⟨rfl, Or.inl ⟨by omega, by rw [if_pos (show r = 0 by omega)]⟩⟩ | exact ⟨rfl, Or.inl ⟨by omega, by rw [if_neg (show ¬ r = 0 by omega)]⟩⟩
  · refine j_ifeq_0 eX12_end_4 ?_
    refine j_ldc2 (-4611686018427387904) cnX12_132 eX12_end_32 ?_
    refine r_lret rfl eX12_end_35 ?_
    first | exact ⟨rfl, Or.inr ⟨by omega, rfl⟩⟩ | exact ⟨rfl, Or.inl ⟨by omega, by rw [if_pos (show r = 0 by omega)]⟩⟩ | exact ⟨rfl, Or.inl ⟨by omega, by rw [if_neg (show ¬ r = 0 by omega)]⟩⟩
theorem c_X12_value {g : Gl} {σ : Sg} {a r w : Int} (h : -2147483648 ≤ a ∧ a ≤ 2147483647 ∧ -2147483648 ≤ r ∧ r ≤ 2147483647 ∧ -2147483648 ≤ w ∧ w ≤ 2147483647) (hM : TM σ) (hk : (0 ≤ σ 48 6 ∧ σ 48 6 ≤ 2) ∧ 0 ≤ σ 48 7 ∧ σ 48 7 ≤ 2) : Ct g mX12_value [vr g 48, vi a, vi r, vi w] σ (PL (fun v σ' => frL σ σ' ∧ ((((1 ≤ a ∧ a ≤ 127) ∧ (0 ≤ r ∧ r ≤ 1) ∧ (0 ≤ w ∧ w ≤ 1) ∧ ((0 ≤ σ 48 6 ∧ σ 48 6 < σ 49 0) ∧ 0 ≤ σ 48 7 ∧ σ 48 7 < σ 49 1)) ∧ v = FR (NMp σ (σ 48 6) a 0 (if r = 0 then 0 else (σ 49 (2 + σ 48 6)))) (64 ^ (σ 49 (2 + σ 48 6)).toNat) w) ∨ (¬ ((1 ≤ a ∧ a ≤ 127) ∧ (0 ≤ r ∧ r ≤ 1) ∧ (0 ≤ w ∧ w ≤ 1) ∧ ((0 ≤ σ 48 6 ∧ σ 48 6 < σ 49 0) ∧ 0 ≤ σ 48 7 ∧ σ 48 7 < σ 49 1)) ∧ v = -4611686018427387904)))) := by
  refine Ct.of (by decide +kernel) (Nat.le_of_ble_eq_true rfl) ?_
  show jv g _ _ σ [(0, vr g 48), (1, vi a), (2, vi r), (3, vi w)] 0 []
  refine j_iload_n eX12_value_0 rfl ?_
  refine j_cS1 zX12_isNode lkX12_172 ⟨Nat.le_of_ble_eq_true rfl, Nat.le_of_ble_eq_true rfl⟩ (c_X12_isNode (by omega)) (Nat.le_of_ble_eq_true rfl) eX12_value_1 (k_B (fun h1 => ?_) (fun h1 => ?_))
  · refine j_ifeq_1 eX12_value_4 ?_
    refine j_iload_n eX12_value_7 rfl ?_
    refine j_iconst 0 eX12_value_8 ?_
    refine j_iconst 1 eX12_value_9 ?_
    refine j_cS3 zX12_in lkX12_85 ⟨Nat.le_of_ble_eq_true rfl, Nat.le_of_ble_eq_true rfl⟩ (c_X12_in (by omega)) (Nat.le_of_ble_eq_true rfl) eX12_value_10 (k_B (fun h10 => ?_) (fun h10 => ?_))
    · refine j_ifeq_1 eX12_value_13 ?_
      refine j_iload_n eX12_value_16 rfl ?_
      refine j_iconst 0 eX12_value_17 ?_
      refine j_iconst 1 eX12_value_18 ?_
      refine j_cS3 zX12_in lkX12_85 ⟨Nat.le_of_ble_eq_true rfl, Nat.le_of_ble_eq_true rfl⟩ (c_X12_in (by omega)) (Nat.le_of_ble_eq_true rfl) eX12_value_19 (k_B (fun h19 => ?_) (fun h19 => ?_))
      · refine j_ifeq_1 eX12_value_22 ?_
        refine j_aload_n eX12_value_25 rfl ?_
        refine j_cV0 zX12_isTaken lkX12_175 ⟨Nat.le_of_ble_eq_true rfl, Nat.le_of_ble_eq_true rfl⟩ ly48 rfl rfl (c_X12_isTaken (by exact hM) (by exact hk)) (Nat.le_of_ble_eq_true rfl) eX12_value_26 (k_B (fun h26 => ?_) (fun h26 => ?_))
        · refine j_ifne_1 eX12_value_29 ?_
          have vt : VTm σ := h26
          have qn := hM.2.2.1 (σ 48 6) vt.1.1 vt.1.2
          refine j_aload_n eX12_value_36 rfl ?_
          refine j_aload_n eX12_value_37 rfl ?_
          refine j_getI flX12_79 ly48 rfl eX12_value_38 ?_
          refine j_iload_n eX12_value_41 rfl ?_
          refine j_iconst 0 eX12_value_42 ?_
          refine j_cV3 zX12_lays lkX12_178 ⟨Nat.le_of_ble_eq_true rfl, Nat.le_of_ble_eq_true rfl⟩ ly48 rfl rfl (c_X12_lays (by exact hM) (by exact vt.1) (by omega) (by exact vt.2) (by omega)) (Nat.le_of_ble_eq_true rfl) eX12_value_43 (k_V (fun σ43 h43 => ?_))
          have t1 := h43.2.2.1
          rw [Int.add_zero] at t1
          have sr := h43.S hM vt.1 vt.2 (by omega) (by omega)
          have s0 := (sr 0 (by omega) (by omega)).2.1
          have s1 := (sr (σ 49 (2 + σ 48 6)) (by omega) (by omega)).2.1
          have lw := lc_bw (σ := σ) (p := σ 48 6) (r := 0) qn (by omega)
          rw [← h43.2.2.2.1] at lw
          have f0 := h43.fq hM vt.1 vt.2 (by omega) (by omega) (i := 0) (w := w) (by omega)
          have f1 := h43.fq hM vt.1 vt.2 (by omega) (by omega) (i := (σ 49 (2 + σ 48 6))) (w := w) (by omega)
          rw [Int.add_zero, bnZ_0 (by omega), Int.one_mul] at f0
          rw [Int.add_zero, bnZ_n (by omega), Int.one_mul] at f1
          refine j_iload_n eX12_value_46 rfl ?_
          refine j_if_ne eX12_value_47 (by omega) (fun h47 => ?_) (fun h47 => ?_)
          · refine j_aload_n eX12_value_59 rfl ?_
            refine j_getR flX12_44 ly48 rfl eX12_value_60 ?_
            refine j_aload_n eX12_value_63 rfl ?_
            refine j_getI flX12_161 ly48 rfl eX12_value_64 ?_
            rw [t1]
            refine j_lald ly60 (by omega) eX12_value_67 ?_
            refine j_aload_n eX12_value_68 rfl ?_
            refine j_getL flX12_168 ly48 rfl eX12_value_69 ?_
            refine j_iload_n eX12_value_72 rfl ?_
            refine j_cS3 zX12_fraction lkX12_182 ⟨Nat.le_of_ble_eq_true rfl, Nat.le_of_ble_eq_true rfl⟩ (c_X12_fraction (by omega) (by omega)) (Nat.le_of_ble_eq_true rfl) eX12_value_73 (k_EL ?_)
            refine r_lret rfl eX12_value_76 ?_
            first | exact ⟨frL.rf σ, Or.inr ⟨by omega, rfl⟩⟩ | exact ⟨h43.fr, Or.inl ⟨by omega, by rw [if_pos (show r = 0 by omega)]; exact f0⟩⟩ | exact ⟨h43.fr, Or.inl ⟨by omega, by rw [if_neg (show ¬ r = 0 by omega)]; exact f1⟩⟩
          · refine j_aload_n eX12_value_50 rfl ?_
            refine j_getR flX12_44 ly48 rfl eX12_value_51 ?_
            refine j_iconst 0 eX12_value_54 ?_
            refine j_lald ly60 (by omega) eX12_value_55 ?_
            refine j_goto eX12_value_56 ?_
            refine j_aload_n eX12_value_68 rfl ?_
            refine j_getL flX12_168 ly48 rfl eX12_value_69 ?_
            refine j_iload_n eX12_value_72 rfl ?_
            refine j_cS3 zX12_fraction lkX12_182 ⟨Nat.le_of_ble_eq_true rfl, Nat.le_of_ble_eq_true rfl⟩ (c_X12_fraction (by omega) (by omega)) (Nat.le_of_ble_eq_true rfl) eX12_value_73 (k_EL ?_)
            refine r_lret rfl eX12_value_76 ?_
            first | exact ⟨frL.rf σ, Or.inr ⟨by omega, rfl⟩⟩ | exact ⟨h43.fr, Or.inl ⟨by omega, by rw [if_pos (show r = 0 by omega)]; exact f0⟩⟩ | exact ⟨h43.fr, Or.inl ⟨by omega, by rw [if_neg (show ¬ r = 0 by omega)]; exact f1⟩⟩
        · refine j_ifne_0 eX12_value_29 ?_
          refine j_ldc2 (-4611686018427387904) cnX12_132 eX12_value_32 ?_
          refine r_lret rfl eX12_value_35 ?_
          first | exact ⟨frL.rf σ, Or.inr ⟨by omega, rfl⟩⟩ | exact ⟨h43.fr, Or.inl ⟨by omega, by rw [if_pos (show r = 0 by omega)]; exact f0⟩⟩ | exact ⟨h43.fr, Or.inl ⟨by omega, by rw [if_neg (show ¬ r = 0 by omega)]; exact f1⟩⟩
      · refine j_ifeq_0 eX12_value_22 ?_
        refine j_ldc2 (-4611686018427387904) cnX12_132 eX12_value_32 ?_
        refine r_lret rfl eX12_value_35 ?_
        first | exact ⟨frL.rf σ, Or.inr ⟨by omega, rfl⟩⟩ | exact ⟨h43.fr, Or.inl ⟨by omega, by rw [if_pos (show r = 0 by omega)]; exact f0⟩⟩ | exact ⟨h43.fr, Or.inl ⟨by omega, by rw [if_neg (show ¬ r = 0 by omega)]; exact f1⟩⟩
    · refine j_ifeq_0 eX12_value_13 ?_
      refine j_ldc2 (-4611686018427387904) cnX12_132 eX12_value_32 ?_
      refine r_lret rfl eX12_value_35 ?_
      first | exact ⟨frL.rf σ, Or.inr ⟨by omega, rfl⟩⟩ | exact ⟨h43.fr, Or.inl ⟨by omega, by rw [if_pos (show r = 0 by omega)]; exact f0⟩⟩ | exact ⟨h43.fr, Or.inl ⟨by omega, by rw [if_neg (show ¬ r = 0 by omega)]; exact f1⟩⟩
  · refine j_ifeq_0 eX12_value_4 ?_
    refine j_ldc2 (-4611686018427387904) cnX12_132 eX12_value_32 ?_
    refine r_lret rfl eX12_value_35 ?_
    first | exact ⟨frL.rf σ, Or.inr ⟨by omega, rfl⟩⟩ | exact ⟨h43.fr, Or.inl ⟨by omega, by rw [if_pos (show r = 0 by omega)]; exact f0⟩⟩ | exact ⟨h43.fr, Or.inl ⟨by omega, by rw [if_neg (show ¬ r = 0 by omega)]; exact f1⟩⟩
theorem c_X12_puts {g : Gl} {σ : Sg} {a : Int} (ht : 0 ≤ σ 48 24 ∧ σ 48 24 < 400) : Ct g mX12_puts [vr g 48, vi a] σ (PV (fun σ' => σ' = up (up σ 62 (σ 48 24) a) 48 24 (σ 48 24 + 1))) := by
  refine Ct.of (by decide +kernel) (Nat.le_of_ble_eq_true rfl) ?_
  show jv g _ _ σ [(0, vr g 48), (1, vi a)] 0 []
  refine j_aload_n eX12_puts_0 rfl ?_
  refine j_getR flX12_51 ly48 rfl eX12_puts_1 ?_
  refine j_aload_n eX12_puts_4 rfl ?_
  refine j_getI flX12_193 ly48 rfl eX12_puts_5 ?_
  refine j_iload_n eX12_puts_8 rfl ?_
  refine j_iast ly62 (by omega) eX12_puts_9 ?_
  refine j_aload_n eX12_puts_10 rfl ?_
  refine j_dup rfl eX12_puts_11 ?_
  refine j_getI flX12_193 ly48 rfl eX12_puts_12 ?_
  refine j_iconst 1 eX12_puts_15 ?_
  refine j_iadd eX12_puts_16 ?_
  refine j_putI fpX12_193 ly48 rfl eX12_puts_17 ?_
  refine r_vret rfl eX12_puts_20 ?_
  exact rfl
theorem c_X12_finds {g : Gl} {σ : Sg} {a b : Int} (ht : 0 ≤ σ 48 27 ∧ σ 48 27 < 200) : Ct g mX12_finds [vr g 48, vi a, vi b] σ (PV (fun σ' => σ' = up (up (up σ 63 (σ 48 27) a) 64 (σ 48 27) b) 48 27 (σ 48 27 + 1))) := by
  refine Ct.of (by decide +kernel) (Nat.le_of_ble_eq_true rfl) ?_
  show jv g _ _ σ [(0, vr g 48), (1, vi a), (2, vi b)] 0 []
  refine j_aload_n eX12_finds_0 rfl ?_
  refine j_getR flX12_54 ly48 rfl eX12_finds_1 ?_
  refine j_aload_n eX12_finds_4 rfl ?_
  refine j_getI flX12_196 ly48 rfl eX12_finds_5 ?_
  refine j_iload_n eX12_finds_8 rfl ?_
  refine j_iast ly63 (by omega) eX12_finds_9 ?_
  refine j_aload_n eX12_finds_10 rfl ?_
  refine j_getR flX12_57 ly48 rfl eX12_finds_11 ?_
  refine j_aload_n eX12_finds_14 rfl ?_
  refine j_getI flX12_196 ly48 rfl eX12_finds_15 ?_
  refine j_iload_n eX12_finds_18 rfl ?_
  refine j_iast ly64 (by exact (show 0 ≤ σ 48 27 ∧ σ 48 27 < 200 by omega)) eX12_finds_19 ?_
  refine j_aload_n eX12_finds_20 rfl ?_
  refine j_dup rfl eX12_finds_21 ?_
  refine j_getI flX12_196 ly48 rfl eX12_finds_22 ?_
  refine j_iconst 1 eX12_finds_25 ?_
  refine j_iadd eX12_finds_26 ?_
  refine j_putI fpX12_196 ly48 rfl eX12_finds_27 ?_
  refine r_vret rfl eX12_finds_30 ?_
  exact rfl
