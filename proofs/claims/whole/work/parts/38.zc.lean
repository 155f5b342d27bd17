theorem ior_0 (a : Int) : kI a ||| kI 0 = kI a := by
  show kI a ||| (0 : Int32) = kI a
  exact Int32.or_zero
theorem unF_0 {F : Int → Bool} {n p u : Int} (h : n ≤ p) : unF F (n - p).toNat p u = u := by
  rw [show (n - p).toNat = 0 from by omega]
  rfl
theorem unF_1 {F : Int → Bool} {n p u : Int} (h : p < n) : unF F (n - p).toNat p u = unF F (n - (p + 1)).toNat (p + 1) (if F p = true then u + pw2 p else u) := by
  rw [show (n - p).toNat = (n - (p + 1)).toNat + 1 from by omega]
  rfl
theorem i_X12_unseen {g : Gl} {σ : Sg} (hM : TM σ) (hs : 0 ≤ σ 48 10 ∧ σ 48 10 ≤ 6) (hv : ∀ k, 0 ≤ k → k < σ 48 10 → (-5 ≤ σ 54 k ∧ σ 54 k ≤ 5) ∧ -1 ≤ σ 55 k ∧ σ 55 k ≤ 1) {F : Ex} {p u : Int} (hp : 0 ≤ p ∧ p < σ 49 0) (kk : ∀ b, ((FtM σ p ∧ b = 1) ∨ (¬ FtM σ p ∧ b = 0)) → jv g mX12_unseen F σ [(0, vr g 48), (1, vi u), (2, vi p), (3, vi b)] 66 []) : ∀ (t : Nat) (k b : Int), σ 48 10 - k < t → (0 ≤ k ∧ k ≤ σ 48 10) → ((b = 1 ∧ ∀ k2, 0 ≤ k2 → k2 < k → sgn (smS (fM σ p) (σ 54 k2) (σ 49 (2 + p) + 1).toNat 0 0) = σ 55 k2) ∨ (b = 0 ∧ ¬ FtM σ p)) → jv g mX12_unseen F σ [(0, vr g 48), (1, vi u), (2, vi p), (3, vi b), (4, vi k)] 19 [] := by
  have m0 := hM.1
  intro t
  induction t with
  | zero =>
    intro k b h1 h2
    exfalso
    omega
  | succ t ih =>
    intro k b h1 h2 hq
    have bb : b = 0 ∨ b = 1 := by omega
    refine j_iload eX12_unseen_19 rfl ?_
    refine j_aload_n eX12_unseen_21 rfl ?_
    refine j_getI flX12_76 ly48 rfl eX12_unseen_22 ?_
    refine j_icmp_ge eX12_unseen_25 (by omega) (fun h25 => ?_) (fun h25 => ?_)
    · refine jv_lv ?_ (kk b ?_)
      · exact lvC rfl (lvC rfl (lvC rfl (lvC rfl (lv0))))
      · rcases hq with ⟨q1, q2⟩ | ⟨q1, q2⟩
        · exact Or.inl ⟨fun k2 x z => q2 k2 x (by omega), q1⟩
        · exact Or.inr ⟨q2, q1⟩
    · have sv := hv k (by omega) (by omega)
      have sb := sgn_b (smS (fM σ p) (σ 54 k) (σ 49 (2 + p) + 1).toNat 0 0)
      refine j_iload_n eX12_unseen_28 rfl ?_
      refine j_if_eq eX12_unseen_29 (by omega) (fun h29 => ?_) (fun h29 => ?_)
      · refine j_iconst 0 eX12_unseen_58 ?_
        refine j_istore_n eX12_unseen_59 (Nat.le_of_ble_eq_true rfl) ?_
        refine j_iinc eX12_unseen_60 rfl (Nat.le_of_ble_eq_true rfl) ?_
        refine j_goto eX12_unseen_63 ?_
        first
        | (exfalso; omega)
        | (have c0 : b = 0 := (by omega); refine jv_lv ?_ (ih (k + 1) 0 (by omega) (by omega) (Or.inr ⟨rfl, (hq.resolve_left (by omega)).2⟩)); exact lvC rfl (lvC rfl (lvC rfl (lvC rfl (lvC rfl (lv0))))))
        | (have c0 : sgn (smS (fM σ p) (σ 54 k) (σ 49 (2 + p) + 1).toNat 0 0) = σ 55 k := (by omega); refine jv_lv ?_ (ih (k + 1) 1 (by omega) (by omega) (Or.inl ⟨rfl, fun k2 x z => if w : k2 = k then by rw [w]; exact c0 else (hq.resolve_right (by omega)).2 k2 x (by omega)⟩)); exact lvC rfl (lvC rfl (lvC rfl (lvC rfl (lvC rfl (lv0))))))
        | (have c0 : ¬ sgn (smS (fM σ p) (σ 54 k) (σ 49 (2 + p) + 1).toNat 0 0) = σ 55 k := (by omega); refine jv_lv ?_ (ih (k + 1) 0 (by omega) (by omega) (Or.inr ⟨rfl, fun z => c0 (z k (by omega) (by omega))⟩)); exact lvC rfl (lvC rfl (lvC rfl (lvC rfl (lvC rfl (lv0))))))
      · refine j_aload_n eX12_unseen_32 rfl ?_
        refine j_iload_n eX12_unseen_33 rfl ?_
        refine j_aload_n eX12_unseen_34 rfl ?_
        refine j_getR flX12_26 ly48 rfl eX12_unseen_35 ?_
        refine j_iload eX12_unseen_38 rfl ?_
        refine j_iald ly54 (by omega) eX12_unseen_40 ?_
        refine j_cV2 zX12_signAt lkX12_238 ⟨Nat.le_of_ble_eq_true rfl, Nat.le_of_ble_eq_true rfl⟩ ly48 rfl rfl (c_X12_signAt (by exact hM) (by omega) (by omega)) (Nat.le_of_ble_eq_true rfl) eX12_unseen_41 (k_E ?_)
        refine j_aload_n eX12_unseen_44 rfl ?_
        refine j_getR flX12_29 ly48 rfl eX12_unseen_45 ?_
        refine j_iload eX12_unseen_48 rfl ?_
        refine j_iald ly55 (by omega) eX12_unseen_50 ?_
        refine j_icmp_ne eX12_unseen_51 (by omega) (fun h51 => ?_) (fun h51 => ?_)
        · refine j_iconst 0 eX12_unseen_58 ?_
          refine j_istore_n eX12_unseen_59 (Nat.le_of_ble_eq_true rfl) ?_
          refine j_iinc eX12_unseen_60 rfl (Nat.le_of_ble_eq_true rfl) ?_
          refine j_goto eX12_unseen_63 ?_
          first
          | (exfalso; omega)
          | (have c0 : b = 0 := (by omega); refine jv_lv ?_ (ih (k + 1) 0 (by omega) (by omega) (Or.inr ⟨rfl, (hq.resolve_left (by omega)).2⟩)); exact lvC rfl (lvC rfl (lvC rfl (lvC rfl (lvC rfl (lv0))))))
          | (have c0 : sgn (smS (fM σ p) (σ 54 k) (σ 49 (2 + p) + 1).toNat 0 0) = σ 55 k := (by omega); refine jv_lv ?_ (ih (k + 1) 1 (by omega) (by omega) (Or.inl ⟨rfl, fun k2 x z => if w : k2 = k then by rw [w]; exact c0 else (hq.resolve_right (by omega)).2 k2 x (by omega)⟩)); exact lvC rfl (lvC rfl (lvC rfl (lvC rfl (lvC rfl (lv0))))))
          | (have c0 : ¬ sgn (smS (fM σ p) (σ 54 k) (σ 49 (2 + p) + 1).toNat 0 0) = σ 55 k := (by omega); refine jv_lv ?_ (ih (k + 1) 0 (by omega) (by omega) (Or.inr ⟨rfl, fun z => c0 (z k (by omega) (by omega))⟩)); exact lvC rfl (lvC rfl (lvC rfl (lvC rfl (lvC rfl (lv0))))))
        · refine j_iconst 1 eX12_unseen_54 ?_
          refine j_goto eX12_unseen_55 ?_
          refine j_istore_n eX12_unseen_59 (Nat.le_of_ble_eq_true rfl) ?_
          refine j_iinc eX12_unseen_60 rfl (Nat.le_of_ble_eq_true rfl) ?_
          refine j_goto eX12_unseen_63 ?_
          first
          | (exfalso; omega)
          | (have c0 : b = 0 := (by omega); refine jv_lv ?_ (ih (k + 1) 0 (by omega) (by omega) (Or.inr ⟨rfl, (hq.resolve_left (by omega)).2⟩)); exact lvC rfl (lvC rfl (lvC rfl (lvC rfl (lvC rfl (lv0))))))
          | (have c0 : sgn (smS (fM σ p) (σ 54 k) (σ 49 (2 + p) + 1).toNat 0 0) = σ 55 k := (by omega); refine jv_lv ?_ (ih (k + 1) 1 (by omega) (by omega) (Or.inl ⟨rfl, fun k2 x z => if w : k2 = k then by rw [w]; exact c0 else (hq.resolve_right (by omega)).2 k2 x (by omega)⟩)); exact lvC rfl (lvC rfl (lvC rfl (lvC rfl (lvC rfl (lv0))))))
          | (have c0 : ¬ sgn (smS (fM σ p) (σ 54 k) (σ 49 (2 + p) + 1).toNat 0 0) = σ 55 k := (by omega); refine jv_lv ?_ (ih (k + 1) 0 (by omega) (by omega) (Or.inr ⟨rfl, fun z => c0 (z k (by omega) (by omega))⟩)); exact lvC rfl (lvC rfl (lvC rfl (lvC rfl (lvC rfl (lv0))))))
theorem l_X12_unseen {g : Gl} {σ : Sg} (hM : TM σ) (hs : 0 ≤ σ 48 10 ∧ σ 48 10 ≤ 6) (hv : ∀ k, 0 ≤ k → k < σ 48 10 → (-5 ≤ σ 54 k ∧ σ 54 k ≤ 5) ∧ -1 ≤ σ 55 k ∧ σ 55 k ≤ 1) {G : Int} : ∀ (t : Nat) (p u : Int), σ 49 0 - p < t → (0 ≤ p ∧ p ≤ σ 49 0) → (0 ≤ u ∧ u < pw2 p) → unF (FTb (FtM σ)) (σ 49 0 - p).toNat p u = G → jv g mX12_unseen (Fm g (PE G σ)) σ [(0, vr g 48), (1, vi u), (2, vi p)] 4 [] := by
  have m0 := hM.1
  intro t
  induction t with
  | zero =>
    intro p u h1 h2
    exfalso
    omega
  | succ t ih =>
    intro p u h1 h2 h3 hG
    refine j_iload_n eX12_unseen_4 rfl ?_
    refine j_aload_n eX12_unseen_5 rfl ?_
    refine j_getR flX12_7 ly48 rfl eX12_unseen_6 ?_
    refine j_iconst 0 eX12_unseen_9 ?_
    refine j_iald ly49 (by omega) eX12_unseen_10 ?_
    refine j_icmp_ge eX12_unseen_11 (by omega) (fun h11 => ?_) (fun h11 => ?_)
    · refine j_iload_n eX12_unseen_86 rfl ?_
      refine r_iret rfl eX12_unseen_87 ?_
      rw [unF_0 (by omega)] at hG
      rw [← hG]
      exact ⟨rfl, rfl⟩
    · have pb := pw2_b (p := p) (by omega)
      refine j_iconst 1 eX12_unseen_14 ?_
      refine j_istore_n eX12_unseen_15 (Nat.le_of_ble_eq_true rfl) ?_
      refine j_iconst 0 eX12_unseen_16 ?_
      refine j_istore eX12_unseen_17 (Nat.le_of_ble_eq_true rfl) ?_
      refine jv_lv ?_ (i_X12_unseen hM hs hv (p := p) (u := u) (by omega) (fun b hb => ?_) 8 0 1 (by omega) (by omega) (Or.inl ⟨rfl, fun k2 x z => by omega⟩))
      · exact lvC rfl (lvC rfl (lvC rfl (lvC rfl (lvC rfl (lv0)))))
      · rcases hb with ⟨hF, hb⟩ | ⟨hF, hb⟩
        · refine j_iload_n eX12_unseen_66 rfl ?_
          refine j_iload_n eX12_unseen_67 rfl ?_
          refine j_if_eq eX12_unseen_68 (by omega) (fun h68 => absurd h68 (by omega)) (fun h68 => ?_)
          refine j_iconst 1 eX12_unseen_71 ?_
          refine j_iload_n eX12_unseen_72 rfl ?_
          refine j_ishl (v := pw2 p) (ishl_1 (by omega)) eX12_unseen_73 ?_
          refine j_goto eX12_unseen_74 ?_
          refine j_ior (v := u + pw2 p) (ior_b (by omega) (by omega)) eX12_unseen_78 ?_
          refine j_istore_n eX12_unseen_79 (Nat.le_of_ble_eq_true rfl) ?_
          refine j_iinc eX12_unseen_80 rfl (Nat.le_of_ble_eq_true rfl) ?_
          refine j_goto eX12_unseen_83 ?_
          rw [unF_1 (by omega), if_pos (FTb_t hF)] at hG
          refine jv_lv ?_ (ih (p + 1) _ (by omega) (by omega) (by omega) hG)
          exact lvC rfl (lvC rfl (lvC rfl (lv0)))
        · refine j_iload_n eX12_unseen_66 rfl ?_
          refine j_iload_n eX12_unseen_67 rfl ?_
          refine j_if_eq eX12_unseen_68 (by omega) (fun h68 => ?_) (fun h68 => absurd h68 (by omega))
          refine j_iconst 0 eX12_unseen_77 ?_
          refine j_ior (v := u) (ior_0 u) eX12_unseen_78 ?_
          refine j_istore_n eX12_unseen_79 (Nat.le_of_ble_eq_true rfl) ?_
          refine j_iinc eX12_unseen_80 rfl (Nat.le_of_ble_eq_true rfl) ?_
          refine j_goto eX12_unseen_83 ?_
          rw [unF_1 (by omega), if_neg (FTb_f hF)] at hG
          refine jv_lv ?_ (ih (p + 1) _ (by omega) (by omega) (by omega) hG)
          exact lvC rfl (lvC rfl (lvC rfl (lv0)))
theorem c_X12_unseen {g : Gl} {σ : Sg} (hM : TM σ) (hs : 0 ≤ σ 48 10 ∧ σ 48 10 ≤ 6) (hv : ∀ k, 0 ≤ k → k < σ 48 10 → (-5 ≤ σ 54 k ∧ σ 54 k ≤ 5) ∧ -1 ≤ σ 55 k ∧ σ 55 k ≤ 1) : Ct g mX12_unseen [vr g 48] σ (PE (unF (FTb (FtM σ)) (σ 49 0).toNat 0 0) σ) := by
  refine Ct.of (by decide +kernel) (Nat.le_of_ble_eq_true rfl) ?_
  show jv g _ _ σ [(0, vr g 48)] 0 []
  refine j_iconst 0 eX12_unseen_0 ?_
  refine j_istore_n eX12_unseen_1 (Nat.le_of_ble_eq_true rfl) ?_
  refine j_iconst 0 eX12_unseen_2 ?_
  refine j_istore_n eX12_unseen_3 (Nat.le_of_ble_eq_true rfl) ?_
  have m0 := hM.1
  refine jv_lv ?_ (l_X12_unseen hM hs hv 5 0 0 (by omega) (by omega) (by decide) (by rw [Int.sub_zero]))
  exact lvC rfl (lvC rfl (lvC rfl (lv0)))
