/-! the reference: signs at whole numbers -/
def smS (f : Int → Int) (x : Int) : Nat → Int → Int → Int
  | 0, _, s => s
  | t + 1, k, s => smS f x t (k + 1) (s + f k * x ^ k.toNat)
theorem smS_0 {f : Int → Int} {x n k s : Int} (h : n < k) : smS f x (n + 1 - k).toNat k s = s := by
  rw [show (n + 1 - k).toNat = 0 from by omega]
  rfl
theorem smS_1 {f : Int → Int} {x n k s : Int} (h : k ≤ n) : smS f x (n + 1 - k).toNat k s = smS f x (n + 1 - (k + 1)).toNat (k + 1) (s + f k * x ^ k.toNat) := by
  rw [show (n + 1 - k).toNat = (n + 1 - (k + 1)).toNat + 1 from by omega]
  rfl
theorem pwx_tab : ∀ (x : Fin 11) (k : Fin 6), -3125 ≤ ((x.1 : Int) - 5) ^ k.1 ∧ ((x.1 : Int) - 5) ^ k.1 ≤ 3125 := by decide +kernel
theorem pwx {x k : Int} (hx : -5 ≤ x ∧ x ≤ 5) (hk : 0 ≤ k ∧ k ≤ 5) : -3125 ≤ x ^ k.toNat ∧ x ^ k.toNat ≤ 3125 := by
  have w := pwx_tab ⟨(x + 5).toNat, by omega⟩ ⟨k.toNat, by omega⟩
  simp only at w
  rw [show (((x + 5).toNat : Nat) : Int) - 5 = x from by omega] at w
  exact w
def FtM (σ : Sg) (p : Int) : Prop := ∀ k, 0 ≤ k → k < σ 48 10 → sgn (smS (fM σ p) (σ 54 k) (σ 49 (2 + p) + 1).toNat 0 0) = σ 55 k
theorem l_X12_signAt {g : Gl} {σ : Sg} {p x : Int} (hM : TM σ) (vp : 0 ≤ p ∧ p < σ 49 0) (hx : -5 ≤ x ∧ x ≤ 5) {G : Int} : ∀ (t : Nat) (k s : Int), σ 49 (2 + p) + 1 - k < t → (0 ≤ k ∧ k ≤ σ 49 (2 + p) + 1) → (-(156250 * k) ≤ s ∧ s ≤ 156250 * k) → smS (fM σ p) x (σ 49 (2 + p) + 1 - k).toNat k s = G → jv g mX12_signAt (Fm g (PE (sgn G) σ)) σ [(0, vr g 48), (1, vi p), (2, vi x), (3, vl s), (5, vi k)] 5 [] := by
  have m0 := hM.1
  have qn := hM.2.2.1 p vp.1 vp.2
  intro t
  induction t with
  | zero =>
    intro k s h1 h2
    exfalso
    omega
  | succ t ih =>
    intro k s h1 h2 h3 hG
    refine j_iload eX12_signAt_5 rfl ?_
    refine j_aload_n eX12_signAt_7 rfl ?_
    refine j_getR flX12_7 ly48 rfl eX12_signAt_8 ?_
    refine j_iconst 2 eX12_signAt_11 ?_
    refine j_iload_n eX12_signAt_12 rfl ?_
    refine j_iadd eX12_signAt_13 ?_
    refine j_iald ly49 (by omega) eX12_signAt_14 ?_
    refine j_icmp_gt eX12_signAt_15 (by omega) (fun h15 => ?_) (fun h15 => ?_)
    · refine j_lload_n eX12_signAt_50 rfl ?_
      refine j_lconst0 eX12_signAt_51 ?_
      refine j_lc_le eX12_signAt_52 eX12_signAt_53 (by omega) (fun h52 => ?_) (fun h52 => ?_)
      · refine j_lload_n eX12_signAt_60 rfl ?_
        refine j_lconst0 eX12_signAt_61 ?_
        refine j_lc_ge eX12_signAt_62 eX12_signAt_63 (by omega) (fun h62 => ?_) (fun h62 => ?_)
        · refine j_iconst 0 eX12_signAt_70 ?_
          refine r_iret rfl eX12_signAt_71 ?_
          rw [smS_0 (by omega)] at hG
          rw [← hG]
          exact ⟨(sg_is (by omega)).symm, rfl⟩
        · refine j_iconst (-1) eX12_signAt_66 ?_
          refine j_goto eX12_signAt_67 ?_
          refine r_iret rfl eX12_signAt_71 ?_
          rw [smS_0 (by omega)] at hG
          rw [← hG]
          exact ⟨(sg_is (by omega)).symm, rfl⟩
      · refine j_iconst 1 eX12_signAt_56 ?_
        refine j_goto eX12_signAt_57 ?_
        refine r_iret rfl eX12_signAt_71 ?_
        rw [smS_0 (by omega)] at hG
        rw [← hG]
        exact ⟨(sg_is (by omega)).symm, rfl⟩
    · have ck := hM.2.2.2.1 p k (by omega) (by omega) (by omega) (by omega)
      have px := pwx (k := k) hx (by omega)
      have mb := abs2 (X := 50) (Y := 3125) ck px
      refine j_lload_n eX12_signAt_18 rfl ?_
      refine j_aload_n eX12_signAt_19 rfl ?_
      refine j_getR flX12_7 ly48 rfl eX12_signAt_20 ?_
      refine j_iconst 5 eX12_signAt_23 ?_
      refine j_bipush 6 eX12_signAt_24 (by decide) ?_
      refine j_iload_n eX12_signAt_26 rfl ?_
      refine j_imul eX12_signAt_27 ?_
      refine j_iadd eX12_signAt_28 ?_
      refine j_iload eX12_signAt_29 rfl ?_
      refine j_iadd eX12_signAt_31 ?_
      refine j_iald ly49 (by omega) eX12_signAt_32 ?_
      refine j_i2l (by omega) eX12_signAt_33 ?_
      refine j_iload_n eX12_signAt_34 rfl ?_
      refine j_i2l (by omega) eX12_signAt_35 ?_
      refine j_iload eX12_signAt_36 rfl ?_
      refine j_cS2 zX12_power lkX12_150 ⟨Nat.le_of_ble_eq_true rfl, Nat.le_of_ble_eq_true rfl⟩ (c_X12_power (by omega)) (Nat.le_of_ble_eq_true rfl) eX12_signAt_38 (k_EL ?_)
      refine j_lmul eX12_signAt_41 ?_
      refine j_ladd eX12_signAt_42 ?_
      refine j_lstore_n eX12_signAt_43 (Nat.le_of_ble_eq_true rfl) ?_
      refine j_iinc eX12_signAt_44 rfl (Nat.le_of_ble_eq_true rfl) ?_
      refine j_goto eX12_signAt_47 ?_
      rw [smS_1 (by omega)] at hG
      refine jv_lv ?_ (ih (k + 1) _ (by omega) (by omega) (by show -(156250 * (k + 1)) ≤ s + σ 49 (5 + 6 * p + k) * x ^ k.toNat ∧ s + σ 49 (5 + 6 * p + k) * x ^ k.toNat ≤ 156250 * (k + 1); omega) hG)
      exact lvC rfl (lvC rfl (lvC rfl (lvC rfl (lvC rfl (lv0)))))
theorem c_X12_signAt {g : Gl} {σ : Sg} {p x : Int} (hM : TM σ) (vp : 0 ≤ p ∧ p < σ 49 0) (hx : -5 ≤ x ∧ x ≤ 5) : Ct g mX12_signAt [vr g 48, vi p, vi x] σ (PE (sgn (smS (fM σ p) x (σ 49 (2 + p) + 1).toNat 0 0)) σ) := by
  refine Ct.of (by decide +kernel) (Nat.le_of_ble_eq_true rfl) ?_
  show jv g _ _ σ [(0, vr g 48), (1, vi p), (2, vi x)] 0 []
  have m0 := hM.1
  have qn := hM.2.2.1 p vp.1 vp.2
  refine j_lconst0 eX12_signAt_0 ?_
  refine j_lstore_n eX12_signAt_1 (Nat.le_of_ble_eq_true rfl) ?_
  refine j_iconst 0 eX12_signAt_2 ?_
  refine j_istore eX12_signAt_3 (Nat.le_of_ble_eq_true rfl) ?_
  refine jv_lv ?_ (l_X12_signAt hM vp hx 7 0 0 (by omega) (by omega) (by omega) (by rw [Int.sub_zero]))
  exact lvC rfl (lvC rfl (lvC rfl (lvC rfl (lvC rfl (lv0)))))
