theorem c_X5_share {g : Gl} {σ : Sg} {a : Int} (ha : 0 ≤ a ∧ a ≤ 2) : Ct g mX5_share [vr g 46, vi a] σ (PE (σ 47 a) σ) := by
  refine Ct.of (by decide +kernel) (Nat.le_of_ble_eq_true rfl) ?_
  show jv g _ _ σ [(0, vr g 46), (1, vi a)] 0 []
  refine j_iload_n eX5_share_0 rfl ?_
  refine j_if_lt eX5_share_1 (by omega) (fun h1 => ?_) (fun h1 => ?_)
  · refine j_iconst 0 eX5_share_22 ?_
    refine r_iret rfl eX5_share_23 ?_
    first | exact ⟨rfl, rfl⟩ | (exfalso; omega)
  · refine j_iload_n eX5_share_4 rfl ?_
    refine j_aload_n eX5_share_5 rfl ?_
    refine j_getR flX5_11 ly46 rfl eX5_share_6 ?_
    refine j_alen (by decide) ly47 eX5_share_9 ?_
    refine j_icmp_ge eX5_share_10 (by omega) (fun h10 => ?_) (fun h10 => ?_)
    · refine j_iconst 0 eX5_share_22 ?_
      refine r_iret rfl eX5_share_23 ?_
      first | exact ⟨rfl, rfl⟩ | (exfalso; omega)
    · refine j_aload_n eX5_share_13 rfl ?_
      refine j_getR flX5_11 ly46 rfl eX5_share_14 ?_
      refine j_iload_n eX5_share_17 rfl ?_
      refine j_iald ly47 (by omega) eX5_share_18 ?_
      refine j_goto eX5_share_19 ?_
      refine r_iret rfl eX5_share_23 ?_
      first | exact ⟨rfl, rfl⟩ | (exfalso; omega)
theorem c_X5_add {g : Gl} {σ : Sg} {a b : Int} (ha : 0 ≤ a ∧ a ≤ 2) : Ct g mX5_add [vr g 46, vi a, vi b] σ (PV (fun σ' => σ' = up σ 47 a (σ 47 a + b))) := by
  refine Ct.of (by decide +kernel) (Nat.le_of_ble_eq_true rfl) ?_
  show jv g _ _ σ [(0, vr g 46), (1, vi a), (2, vi b)] 0 []
  refine j_iload_n eX5_add_0 rfl ?_
  refine j_if_lt eX5_add_1 (by omega) (fun h1 => ?_) (fun h1 => ?_)
  · refine r_vret rfl eX5_add_23 ?_
    first | exact rfl | (exfalso; omega)
  · refine j_iload_n eX5_add_4 rfl ?_
    refine j_aload_n eX5_add_5 rfl ?_
    refine j_getR flX5_11 ly46 rfl eX5_add_6 ?_
    refine j_alen (by decide) ly47 eX5_add_9 ?_
    refine j_icmp_ge eX5_add_10 (by omega) (fun h10 => ?_) (fun h10 => ?_)
    · refine r_vret rfl eX5_add_23 ?_
      first | exact rfl | (exfalso; omega)
    · refine j_aload_n eX5_add_13 rfl ?_
      refine j_getR flX5_11 ly46 rfl eX5_add_14 ?_
      refine j_iload_n eX5_add_17 rfl ?_
      refine j_dup2 rfl rfl eX5_add_18 ?_
      refine j_iald ly47 (by omega) eX5_add_19 ?_
      refine j_iload_n eX5_add_20 rfl ?_
      refine j_iadd eX5_add_21 ?_
      refine j_iast ly47 (by omega) eX5_add_22 ?_
      refine r_vret rfl eX5_add_23 ?_
      first | exact rfl | (exfalso; omega)
theorem l_X5_judge {g : Gl} {σ : Sg} {a : Int} (hX : TX σ) (tb : 0 ≤ σ 27 2 ∧ σ 27 2 < σ 0 1) (nd : 1 ≤ a ∧ a ≤ 127) : ∀ (t : Nat) (u : Int) (τ : Sg), (t : Int) ≤ σ 0 0 → (∀ k, k ≠ 35 → k ≠ 36 → τ k = σ k) → jv g mX5_judge (Fm g (PI (fun v σ' => (∀ k, k ≠ 35 → k ≠ 36 → σ' k = σ k) ∧ v = jdg (σ 3) (ABX σ a) t (σ 0 0 - (t : Int)) u))) τ [(0, vr g 27), (1, vr g 35), (2, vi a), (3, vr g 0), (4, vi u), (5, vi (σ 0 0 - (t : Int)))] 11 [] := by
  have hP := hX.1
  intro t
  induction t with
  | zero =>
    intro u τ h1 h3
    have c0 : τ 0 = σ 0 := h3 0 (by decide) (by decide)
    refine j_iload eX5_judge_11 rfl ?_
    refine j_aload_n eX5_judge_13 rfl ?_
    refine j_cV0 zX10_polynomials lkX5_42 ⟨Nat.le_of_ble_eq_true rfl, Nat.le_of_ble_eq_true rfl⟩ ly0 rfl rfl c_X10_polynomials_0 (Nat.le_of_ble_eq_true rfl) eX5_judge_14 (k_E ?_)
    refine j_icmp_ge eX5_judge_17 (by rw [c0]; omega) (fun h => ?_) (fun h => absurd (by rw [c0]; omega) h)
    refine j_iload eX5_judge_71 rfl ?_
    exact r_iret rfl eX5_judge_73 ⟨h3, rfl⟩
  | succ t ih =>
    intro u τ h1 h3
    have c0 : τ 0 = σ 0 := h3 0 (by decide) (by decide)
    have c1 : τ 1 = σ 1 := h3 1 (by decide) (by decide)
    have c2 : τ 2 = σ 2 := h3 2 (by decide) (by decide)
    have c3 : τ 3 = σ 3 := h3 3 (by decide) (by decide)
    have c27 : τ 27 = σ 27 := h3 27 (by decide) (by decide)
    have e27 : ∀ k, k ≤ 27 → τ k = σ k := fun k hk => h3 k (by omega) (by omega)
    have kX : TX τ := hX.mono (fun k hk => e27 k (by omega))
    refine j_iload eX5_judge_11 rfl ?_
    refine j_aload_n eX5_judge_13 rfl ?_
    refine j_cV0 zX10_polynomials lkX5_42 ⟨Nat.le_of_ble_eq_true rfl, Nat.le_of_ble_eq_true rfl⟩ ly0 rfl rfl (c_X10_polynomials_0) (Nat.le_of_ble_eq_true rfl) eX5_judge_14 (k_E ?_)
    refine j_icmp_ge eX5_judge_17 (by rw [c0]; omega) (fun h17 => absurd h17 (by rw [c0]; omega)) (fun h17 => ?_)
    have vp : 0 ≤ (σ 0 0 - ((t + 1 : Nat) : Int)) ∧ (σ 0 0 - ((t + 1 : Nat) : Int)) < σ 0 0 := by omega
    have wb := hX.2.2.2.2.1 (σ 0 0 - ((t + 1 : Nat) : Int)) vp.1 vp.2
    refine j_aload_n eX5_judge_20 rfl ?_
    refine j_iload eX5_judge_21 rfl ?_
    refine j_cV1 zX10_wanted lkX5_48 ⟨Nat.le_of_ble_eq_true rfl, Nat.le_of_ble_eq_true rfl⟩ ly0 rfl rfl (c_X10_wanted_0 (by rw [c0]; exact vp) (by exact kX.1)) (Nat.le_of_ble_eq_true rfl) eX5_judge_23 (k_E ?_)
    rw [c3]
    refine j_istore eX5_judge_26 (Nat.le_of_ble_eq_true rfl) ?_
    refine j_iload eX5_judge_28 rfl ?_
    refine j_if_eq eX5_judge_30 (by omega) (fun h30 => ?_) (fun h30 => ?_)
    · refine j_iinc eX5_judge_65 rfl (Nat.le_of_ble_eq_true rfl) ?_
      refine j_goto eX5_judge_68 ?_
      have e1 : σ 0 0 - ((t + 1 : Nat) : Int) + 1 = σ 0 0 - (t : Int) := by omega
      first
      | (have eT : jdg (σ 3) (ABX σ a) (t + 1) (σ 0 0 - ((t + 1 : Nat) : Int)) u = jdg (σ 3) (ABX σ a) t ((σ 0 0 - ((t + 1 : Nat) : Int)) + 1) u := if_pos h30
         rw [eT, e1]
         refine jv_lv ?_ (ih u τ (by omega) h3)
         exact lvC rfl (lvC rfl (lvC rfl (lvC rfl (lvC rfl (lvC rfl (lv0)))))))
      | (have eT : jdg (σ 3) (ABX σ a) (t + 1) (σ 0 0 - ((t + 1 : Nat) : Int)) u = jdg (σ 3) (ABX σ a) t ((σ 0 0 - ((t + 1 : Nat) : Int)) + 1) u := (if_neg h30).trans ((if_neg (fun z => h45 (ai1.mpr z))).trans (if_pos (ai2.mp h56)))
         rw [eT, e1]
         refine jv_lv ?_ (ih u σ38 (by omega) fr)
         exact lvC rfl (lvC rfl (lvC rfl (lvC rfl (lvC rfl (lvC rfl (lv0)))))))
      | (have eT : jdg (σ 3) (ABX σ a) (t + 1) (σ 0 0 - ((t + 1 : Nat) : Int)) u = jdg (σ 3) (ABX σ a) t ((σ 0 0 - ((t + 1 : Nat) : Int)) + 1) 2 := (if_neg h30).trans ((if_neg (fun z => h45 (ai1.mpr z))).trans (if_neg (fun z => h56 (ai2.mpr z))))
         rw [eT, e1]
         refine jv_lv ?_ (ih 2 σ38 (by omega) fr)
         exact lvC rfl (lvC rfl (lvC rfl (lvC rfl (lvC rfl (lvC rfl (lv0)))))))
    · refine j_aload_n eX5_judge_33 rfl ?_
      refine j_aload_n eX5_judge_34 rfl ?_
      refine j_iload eX5_judge_35 rfl ?_
      refine j_iload_n eX5_judge_37 rfl ?_
      refine j_cV3 zX4_layOne lkX5_51 ⟨Nat.le_of_ble_eq_true rfl, Nat.le_of_ble_eq_true rfl⟩ ly35 rfl rfl (c_X4_layOne (by exact kX) (by rw [c0]; exact vp) (by exact nd) (by rw [c27, c0]; exact tb)) (Nat.le_of_ble_eq_true rfl) eX5_judge_38 (k_V (fun σ38 h38 => ?_))
      have h38b : RowIs τ σ38 (fX σ (σ 0 0 - ((t + 1 : Nat) : Int))) (σ 1 (σ 0 0 - ((t + 1 : Nat) : Int)) - 1) (loX σ a) (hiX σ a) 0 := by
        have := h38
        unfold fX at this
        rw [c1, c2, congrFun (loX_congr e27) a, congrFun (hiX_congr e27) a] at this
        exact this
      have fr : (∀ k, k ≠ 35 → k ≠ 36 → σ38 k = σ k) := fun k k1 k2 => (h38.1 k k1 k2).trans (h3 k k1 k2)
      have h38c : RowIs σ σ38 (fX σ (σ 0 0 - ((t + 1 : Nat) : Int))) (σ 1 (σ 0 0 - ((t + 1 : Nat) : Int)) - 1) (loX σ a) (hiX σ a) 0 := ⟨fr, h38b.2⟩
      have hN := h38c.N hX vp tb nd (by omega)
      have hT := h38c.T hX vp (by omega)
      have ai1 := h38c.AB_iff (s := -(σ 3 (σ 0 0 - ((t + 1 : Nat) : Int)))) hX vp
      have ai2 := h38c.AB_iff (s := σ 3 (σ 0 0 - ((t + 1 : Nat) : Int))) hX vp
      refine j_aload_n eX5_judge_41 rfl ?_
      refine j_iload eX5_judge_42 rfl ?_
      refine j_ineg eX5_judge_44 ?_
      refine j_cV1 zX4_allHave lkX5_57 ⟨Nat.le_of_ble_eq_true rfl, Nat.le_of_ble_eq_true rfl⟩ ly35 rfl rfl (c_X4_allHave (by exact hT) (by exact hN) (by omega)) (Nat.le_of_ble_eq_true rfl) eX5_judge_45 (k_B (fun h45 => ?_) (fun h45 => ?_))
      · refine j_ifeq_1 eX5_judge_48 ?_
        refine j_iconst 1 eX5_judge_51 ?_
        refine r_iret rfl eX5_judge_52 ?_
        refine ⟨fr, ?_⟩
        exact ((if_neg h30).trans (if_pos (ai1.mp h45))).symm
      · refine j_ifeq_0 eX5_judge_48 ?_
        refine j_aload_n eX5_judge_53 rfl ?_
        refine j_iload eX5_judge_54 rfl ?_
        refine j_cV1 zX4_allHave lkX5_57 ⟨Nat.le_of_ble_eq_true rfl, Nat.le_of_ble_eq_true rfl⟩ ly35 rfl rfl (c_X4_allHave (by exact hT) (by exact hN) (by omega)) (Nat.le_of_ble_eq_true rfl) eX5_judge_56 (k_B (fun h56 => ?_) (fun h56 => ?_))
        · refine j_ifne_1 eX5_judge_59 ?_
          refine j_iinc eX5_judge_65 rfl (Nat.le_of_ble_eq_true rfl) ?_
          refine j_goto eX5_judge_68 ?_
          have e1 : σ 0 0 - ((t + 1 : Nat) : Int) + 1 = σ 0 0 - (t : Int) := by omega
          first
          | (have eT : jdg (σ 3) (ABX σ a) (t + 1) (σ 0 0 - ((t + 1 : Nat) : Int)) u = jdg (σ 3) (ABX σ a) t ((σ 0 0 - ((t + 1 : Nat) : Int)) + 1) u := if_pos h30
             rw [eT, e1]
             refine jv_lv ?_ (ih u τ (by omega) h3)
             exact lvC rfl (lvC rfl (lvC rfl (lvC rfl (lvC rfl (lvC rfl (lv0)))))))
          | (have eT : jdg (σ 3) (ABX σ a) (t + 1) (σ 0 0 - ((t + 1 : Nat) : Int)) u = jdg (σ 3) (ABX σ a) t ((σ 0 0 - ((t + 1 : Nat) : Int)) + 1) u := (if_neg h30).trans ((if_neg (fun z => h45 (ai1.mpr z))).trans (if_pos (ai2.mp h56)))
             rw [eT, e1]
             refine jv_lv ?_ (ih u σ38 (by omega) fr)
             exact lvC rfl (lvC rfl (lvC rfl (lvC rfl (lvC rfl (lvC rfl (lv0)))))))
          | (have eT : jdg (σ 3) (ABX σ a) (t + 1) (σ 0 0 - ((t + 1 : Nat) : Int)) u = jdg (σ 3) (ABX σ a) t ((σ 0 0 - ((t + 1 : Nat) : Int)) + 1) 2 := (if_neg h30).trans ((if_neg (fun z => h45 (ai1.mpr z))).trans (if_neg (fun z => h56 (ai2.mpr z))))
             rw [eT, e1]
             refine jv_lv ?_ (ih 2 σ38 (by omega) fr)
             exact lvC rfl (lvC rfl (lvC rfl (lvC rfl (lvC rfl (lvC rfl (lv0)))))))
        · refine j_ifne_0 eX5_judge_59 ?_
          refine j_iconst 2 eX5_judge_62 ?_
          refine j_istore eX5_judge_63 (Nat.le_of_ble_eq_true rfl) ?_
          refine j_iinc eX5_judge_65 rfl (Nat.le_of_ble_eq_true rfl) ?_
          refine j_goto eX5_judge_68 ?_
          have e1 : σ 0 0 - ((t + 1 : Nat) : Int) + 1 = σ 0 0 - (t : Int) := by omega
          first
          | (have eT : jdg (σ 3) (ABX σ a) (t + 1) (σ 0 0 - ((t + 1 : Nat) : Int)) u = jdg (σ 3) (ABX σ a) t ((σ 0 0 - ((t + 1 : Nat) : Int)) + 1) u := if_pos h30
             rw [eT, e1]
             refine jv_lv ?_ (ih u τ (by omega) h3)
             exact lvC rfl (lvC rfl (lvC rfl (lvC rfl (lvC rfl (lvC rfl (lv0)))))))
          | (have eT : jdg (σ 3) (ABX σ a) (t + 1) (σ 0 0 - ((t + 1 : Nat) : Int)) u = jdg (σ 3) (ABX σ a) t ((σ 0 0 - ((t + 1 : Nat) : Int)) + 1) u := (if_neg h30).trans ((if_neg (fun z => h45 (ai1.mpr z))).trans (if_pos (ai2.mp h56)))
             rw [eT, e1]
             refine jv_lv ?_ (ih u σ38 (by omega) fr)
             exact lvC rfl (lvC rfl (lvC rfl (lvC rfl (lvC rfl (lvC rfl (lv0)))))))
          | (have eT : jdg (σ 3) (ABX σ a) (t + 1) (σ 0 0 - ((t + 1 : Nat) : Int)) u = jdg (σ 3) (ABX σ a) t ((σ 0 0 - ((t + 1 : Nat) : Int)) + 1) 2 := (if_neg h30).trans ((if_neg (fun z => h45 (ai1.mpr z))).trans (if_neg (fun z => h56 (ai2.mpr z))))
             rw [eT, e1]
             refine jv_lv ?_ (ih 2 σ38 (by omega) fr)
             exact lvC rfl (lvC rfl (lvC rfl (lvC rfl (lvC rfl (lvC rfl (lv0)))))))
theorem c_X5_judge {g : Gl} {σ : Sg} {a : Int} (hX : TX σ) (tb : 0 ≤ σ 27 2 ∧ σ 27 2 < σ 0 1) (nd : 1 ≤ a ∧ a ≤ 127) : Ct g mX5_judge [vr g 27, vr g 35, vi a] σ (PI (fun v σ' => (∀ k, k ≠ 35 → k ≠ 36 → σ' k = σ k) ∧ v = jdg (σ 3) (ABX σ a) (σ 0 0).toNat 0 0)) := by
  refine Ct.of (by decide +kernel) (Nat.le_of_ble_eq_true rfl) ?_
  show jv g _ _ σ [(0, vr g 27), (1, vr g 35), (2, vi a)] 0 []
  refine j_aload_n eX5_judge_0 rfl ?_
  refine j_cV0 zX7_told lkX5_36 ⟨Nat.le_of_ble_eq_true rfl, Nat.le_of_ble_eq_true rfl⟩ ly27 rfl rfl (c_X7_told) (Nat.le_of_ble_eq_true rfl) eX5_judge_1 (k_R ?_)
  refine j_astore_n eX5_judge_4 (Nat.le_of_ble_eq_true rfl) ?_
  refine j_iconst 0 eX5_judge_5 ?_
  refine j_istore eX5_judge_6 (Nat.le_of_ble_eq_true rfl) ?_
  refine j_iconst 0 eX5_judge_8 ?_
  refine j_istore eX5_judge_9 (Nat.le_of_ble_eq_true rfl) ?_
  have hP := hX.1
  have e0 : (0 : Int) = σ 0 0 - (((σ 0 0).toNat : Nat) : Int) := by omega
  have e1 := l_X5_judge (g := g) hX tb nd (σ 0 0).toNat 0 σ (by omega) (fun _ _ _ => rfl)
  rw [← e0] at e1
  refine jv_lv ?_ e1
  exact lvC rfl (lvC rfl (lvC rfl (lvC rfl (lvC rfl (lvC rfl (lv0))))))
theorem l_X5_firstHeld {g : Gl} {σ : Sg} (hX : TX σ) (tb : 0 ≤ σ 27 2 ∧ σ 27 2 < σ 0 1) : ∀ (t : Nat) (τ : Sg), t ≤ 127 → (∀ k, k ≠ 35 → k ≠ 36 → τ k = σ k) → jv g mX5_firstHeld (Fm g (PI (fun v σ' => (∀ k, k ≠ 35 → k ≠ 36 → σ' k = σ k) ∧ v = frs (JX σ) t (128 - (t : Int))))) τ [(0, vr g 46), (1, vr g 27), (2, vr g 35), (3, vi (128 - (t : Int)))] 2 [] := by
  intro t
  induction t with
  | zero =>
    intro τ h1 h3
    refine j_iload_n eX5_firstHeld_2 rfl ?_
    refine j_bipush 127 eX5_firstHeld_3 (by decide) ?_
    refine j_icmp_gt eX5_firstHeld_5 (by omega) (fun h => ?_) (fun h => absurd (by omega) h)
    refine j_bipush (-9) eX5_firstHeld_25 (by decide) ?_
    exact r_iret rfl eX5_firstHeld_27 ⟨h3, rfl⟩
  | succ t ih =>
    intro τ h1 h3
    refine j_iload_n eX5_firstHeld_2 rfl ?_
    refine j_bipush 127 eX5_firstHeld_3 (by decide) ?_
    refine j_icmp_gt eX5_firstHeld_5 (by omega) (fun h5 => absurd h5 (by omega)) (fun h5 => ?_)
    have e27 : ∀ k, k ≤ 27 → τ k = σ k := fun k hk => h3 k (by omega) (by omega)
    have kX : TX τ := hX.mono (fun k hk => e27 k (by omega))
    have c0 : τ 0 = σ 0 := h3 0 (by decide) (by decide)
    have c27 : τ 27 = σ 27 := h3 27 (by decide) (by decide)
    refine j_aload_n eX5_firstHeld_8 rfl ?_
    refine j_aload_n eX5_firstHeld_9 rfl ?_
    refine j_iload_n eX5_firstHeld_10 rfl ?_
    refine j_cS3 zX5_judge lkX5_21 ⟨Nat.le_of_ble_eq_true rfl, Nat.le_of_ble_eq_true rfl⟩ (c_X5_judge (by exact kX) (by rw [c27, c0]; exact tb) (by omega)) (Nat.le_of_ble_eq_true rfl) eX5_firstHeld_11 (k_I (fun v11 σ11 h11 => ?_))
    obtain ⟨z1, z2⟩ := h11
    have z3 : v11 = JX σ (128 - ((t + 1 : Nat) : Int)) := z2.trans (congrFun (JX_congr e27) (128 - ((t + 1 : Nat) : Int)))
    subst z3
    have jb : 0 ≤ JX σ (128 - ((t + 1 : Nat) : Int)) ∧ JX σ (128 - ((t + 1 : Nat) : Int)) ≤ 2 := jdg_b _ _ _ _ _ (by omega) (by omega)
    have fr : (∀ k, k ≠ 35 → k ≠ 36 → σ11 k = σ k) := fun k k1 k2 => (z1 k k1 k2).trans (h3 k k1 k2)
    refine j_if_ne eX5_firstHeld_14 (by omega) (fun h14 => ?_) (fun h14 => ?_)
    · refine j_iinc eX5_firstHeld_19 rfl (Nat.le_of_ble_eq_true rfl) ?_
      refine j_goto eX5_firstHeld_22 ?_
      have e1 : 128 - ((t + 1 : Nat) : Int) + 1 = 128 - (t : Int) := by omega
      have eT : frs (JX σ) (t + 1) (128 - ((t + 1 : Nat) : Int)) = frs (JX σ) t ((128 - ((t + 1 : Nat) : Int)) + 1) := if_neg h14
      rw [eT, e1]
      refine jv_lv ?_ (ih σ11 (by omega) fr)
      exact lvC rfl (lvC rfl (lvC rfl (lvC rfl (lv0))))
    · refine j_iload_n eX5_firstHeld_17 rfl ?_
      refine r_iret rfl eX5_firstHeld_18 ?_
      exact ⟨fr, (if_pos h14).symm⟩
theorem c_X5_firstHeld {g : Gl} {σ : Sg} (hX : TX σ) (tb : 0 ≤ σ 27 2 ∧ σ 27 2 < σ 0 1) : Ct g mX5_firstHeld [vr g 46, vr g 27, vr g 35] σ (PI (fun v σ' => (∀ k, k ≠ 35 → k ≠ 36 → σ' k = σ k) ∧ v = frs (JX σ) 127 1)) := by
  refine Ct.of (by decide +kernel) (Nat.le_of_ble_eq_true rfl) ?_
  show jv g _ _ σ [(0, vr g 46), (1, vr g 27), (2, vr g 35)] 0 []
  refine j_iconst 1 eX5_firstHeld_0 ?_
  refine j_istore_n eX5_firstHeld_1 (Nat.le_of_ble_eq_true rfl) ?_
  refine jv_lv ?_ (l_X5_firstHeld hX tb 127 σ (by omega) (fun _ _ _ => rfl))
  exact lvC rfl (lvC rfl (lvC rfl (lvC rfl (lv0))))
theorem jv_post {g : Gl} {y : Mt} {P Q : Option Value → Sg → Prop} {σ : Sg} {lv : List (Nat × Value)} {pc : Nat} {st : List Value} (h : ∀ r τ, P r τ → Q r τ) (k : jv g y (Fm g P) σ lv pc st) : jv g y (Fm g Q) σ lv pc st := by
  intro p e s m args below meth c H locs ls C hP hS hl
  intro T hT X
  obtain ⟨t, a1, o, b1, b2, b3, b4⟩ := k p e s m args below meth c H locs ls C hP hS hl T hT X
  obtain ⟨⟨r, σ', e1, e2, e3⟩, b5⟩ := b3
  exact ⟨t, a1, o, b1, b2, ⟨⟨r, σ', e1, h r σ' e2, e3⟩, b5⟩, b4⟩
theorem l_X5_measure {g : Gl} {σ : Sg} (hX : TX σ) (tb : 0 ≤ σ 27 2 ∧ σ 27 2 < σ 0 1) : ∀ (t : Nat) (a : Int) (f : Int → Int) (τ : Sg), t ≤ 127 → (a = 0 ∨ (1 ≤ a ∧ a ≤ 127 ∧ rk a ≤ t)) → (∀ k, k ≠ 35 → k ≠ 36 → k ≠ 47 → τ k = σ k) → τ 47 = f → jv g mX5_measure (Fm g (PV (fun σ' => (∀ k, k ≠ 35 → k ≠ 36 → k ≠ 47 → σ' k = σ k) ∧ σ' 47 = trS (JX σ) t a f))) τ [(0, vr g 46), (1, vr g 27), (2, vr g 35), (3, vi a), (4, vi (127 - (t : Int)))] 13 [] := by
  intro t
  induction t with
  | zero =>
    intro a f τ h1 h2 h3 h4
    refine j_iload eX5_measure_13 rfl ?_
    refine j_bipush 127 eX5_measure_15 (by decide) ?_
    refine j_icmp_ge eX5_measure_17 (by omega) (fun h => ?_) (fun h => absurd (by omega) h)
    exact r_vret rfl eX5_measure_72 ⟨h3, h4⟩
  | succ t ih =>
    intro a f τ h1 h2 h3 h4
    refine j_iload eX5_measure_13 rfl ?_
    refine j_bipush 127 eX5_measure_15 (by decide) ?_
    refine j_icmp_ge eX5_measure_17 (by omega) (fun h17 => absurd h17 (by omega)) (fun h17 => ?_)
    refine j_iload_n eX5_measure_20 rfl ?_
    refine j_if_eq eX5_measure_21 (by omega) (fun h21 => ?_) (fun h21 => ?_)
    · refine r_vret rfl eX5_measure_72 ?_
      have eT : trS (JX σ) (t + 1) a f = f := if_pos (by omega)
      rw [eT]
      exact ⟨h3, h4⟩
    · have na : 1 ≤ a ∧ a ≤ 127 := by omega
      have w := rk_of na
      have e27 : ∀ k, k ≤ 27 → τ k = σ k := fun k hk => h3 k (by omega) (by omega) (by omega)
      have kX : TX τ := hX.mono (fun k hk => e27 k (by omega))
      have c0 : τ 0 = σ 0 := e27 0 (by decide)
      have c27 : τ 27 = σ 27 := e27 27 (by decide)
      refine j_aload_n eX5_measure_24 rfl ?_
      refine j_aload_n eX5_measure_25 rfl ?_
      refine j_iload_n eX5_measure_26 rfl ?_
      refine j_cS3 zX5_judge lkX5_21 ⟨Nat.le_of_ble_eq_true rfl, Nat.le_of_ble_eq_true rfl⟩ (c_X5_judge (by exact kX) (by rw [c27, c0]; exact tb) (by exact na)) (Nat.le_of_ble_eq_true rfl) eX5_measure_27 (k_I (fun v27 σ27 h27 => ?_))
      obtain ⟨z1, z2⟩ := h27
      have z3 : v27 = JX σ a := z2.trans (congrFun (JX_congr e27) a)
      subst z3
      have jb : 0 ≤ JX σ a ∧ JX σ a ≤ 2 := jdg_b _ _ _ _ _ (by omega) (by omega)
      have fr : (∀ k, k ≠ 35 → k ≠ 36 → k ≠ 47 → σ27 k = σ k) := fun k k1 k2 k3 => (z1 k k1 k2).trans (h3 k k1 k2 k3)
      have f47 : σ27 47 = f := (z1 47 (by decide) (by decide)).trans h4
      refine j_istore eX5_measure_30 (Nat.le_of_ble_eq_true rfl) ?_
      refine j_iload eX5_measure_32 rfl ?_
      refine j_iconst 2 eX5_measure_34 ?_
      refine j_icmp_ne eX5_measure_35 (by omega) (fun h35 => ?_) (fun h35 => ?_)
      · refine j_aload_n eX5_measure_51 rfl ?_
        refine j_iload eX5_measure_52 rfl ?_
        refine j_iload_n eX5_measure_54 rfl ?_
        refine j_cSN1 zX11_partsOf lkX5_25 ⟨Nat.le_of_ble_eq_true rfl, Nat.le_of_ble_eq_true rfl⟩ (c_X11_partsOf (by exact na)) (Nat.le_of_ble_eq_true rfl) eX5_measure_55 (k_E ?_)
        refine j_cV2 zX5_add lkX5_29 ⟨Nat.le_of_ble_eq_true rfl, Nat.le_of_ble_eq_true rfl⟩ ly46 rfl rfl (c_X5_add (by exact jb)) (Nat.le_of_ble_eq_true rfl) eX5_measure_58 (k_VE ?_)
        refine j_iload_n eX5_measure_61 rfl ?_
        refine j_cSN1 zX11_behind lkX5_33 ⟨Nat.le_of_ble_eq_true rfl, Nat.le_of_ble_eq_true rfl⟩ (c_X11_behind (by exact na)) (Nat.le_of_ble_eq_true rfl) eX5_measure_62 (k_E ?_)
        refine j_istore_n eX5_measure_65 (Nat.le_of_ble_eq_true rfl) ?_
        refine j_iinc eX5_measure_66 rfl (Nat.le_of_ble_eq_true rfl) ?_
        refine j_goto eX5_measure_69 ?_
        have e1 : 127 - ((t + 1 : Nat) : Int) + 1 = 127 - (t : Int) := by omega
        rw [e1]
        first
        | (have c1 : JX σ a = 2 ∧ a < 64 := by omega
           have eT : trS (JX σ) (t + 1) a f = trS (JX σ) t (2 * a) f := (if_neg (by omega)).trans (if_pos c1)
           rw [eT]
           have w2 := w.2.1 (by omega)
           refine jv_lv ?_ (ih (2 * a) f σ27 (by omega) (Or.inr ⟨by omega, by omega, by omega⟩) fr f47)
           exact lvC rfl (lvC rfl (lvC rfl (lvC rfl (lvC rfl (lv0))))))
        | (have c1 : ¬ (JX σ a = 2 ∧ a < 64) := by omega
           have eT : trS (JX σ) (t + 1) a f = trS (JX σ) t (bhd a) (up1 f (JX σ a) (f (JX σ a) + pz a)) := (if_neg (by omega)).trans (if_neg c1)
           rw [eT]
           have w3 : bhd a = 0 ∨ (1 ≤ bhd a ∧ bhd a ≤ 127 ∧ rk (bhd a) ≤ t) := by
             by_cases z : bhd a = 0
             · exact Or.inl z
             · have w5 := w.2.2.2.2 z; exact Or.inr ⟨by omega, by omega, by omega⟩
           refine jv_lv ?_ (ih (bhd a) _ _ (by omega) w3 (fun k k1 k2 k3 => by rw [up_ne k3]; exact fr k k1 k2 k3) (by rw [up_same, f47]))
           exact lvC rfl (lvC rfl (lvC rfl (lvC rfl (lvC rfl (lv0))))))
      · refine j_iload_n eX5_measure_38 rfl ?_
        refine j_bipush 64 eX5_measure_39 (by decide) ?_
        refine j_icmp_ge eX5_measure_41 (by omega) (fun h41 => ?_) (fun h41 => ?_)
        · refine j_aload_n eX5_measure_51 rfl ?_
          refine j_iload eX5_measure_52 rfl ?_
          refine j_iload_n eX5_measure_54 rfl ?_
          refine j_cSN1 zX11_partsOf lkX5_25 ⟨Nat.le_of_ble_eq_true rfl, Nat.le_of_ble_eq_true rfl⟩ (c_X11_partsOf (by exact na)) (Nat.le_of_ble_eq_true rfl) eX5_measure_55 (k_E ?_)
          refine j_cV2 zX5_add lkX5_29 ⟨Nat.le_of_ble_eq_true rfl, Nat.le_of_ble_eq_true rfl⟩ ly46 rfl rfl (c_X5_add (by exact jb)) (Nat.le_of_ble_eq_true rfl) eX5_measure_58 (k_VE ?_)
          refine j_iload_n eX5_measure_61 rfl ?_
          refine j_cSN1 zX11_behind lkX5_33 ⟨Nat.le_of_ble_eq_true rfl, Nat.le_of_ble_eq_true rfl⟩ (c_X11_behind (by exact na)) (Nat.le_of_ble_eq_true rfl) eX5_measure_62 (k_E ?_)
          refine j_istore_n eX5_measure_65 (Nat.le_of_ble_eq_true rfl) ?_
          refine j_iinc eX5_measure_66 rfl (Nat.le_of_ble_eq_true rfl) ?_
          refine j_goto eX5_measure_69 ?_
          have e1 : 127 - ((t + 1 : Nat) : Int) + 1 = 127 - (t : Int) := by omega
          rw [e1]
          first
          | (have c1 : JX σ a = 2 ∧ a < 64 := by omega
             have eT : trS (JX σ) (t + 1) a f = trS (JX σ) t (2 * a) f := (if_neg (by omega)).trans (if_pos c1)
             rw [eT]
             have w2 := w.2.1 (by omega)
             refine jv_lv ?_ (ih (2 * a) f σ27 (by omega) (Or.inr ⟨by omega, by omega, by omega⟩) fr f47)
             exact lvC rfl (lvC rfl (lvC rfl (lvC rfl (lvC rfl (lv0))))))
          | (have c1 : ¬ (JX σ a = 2 ∧ a < 64) := by omega
             have eT : trS (JX σ) (t + 1) a f = trS (JX σ) t (bhd a) (up1 f (JX σ a) (f (JX σ a) + pz a)) := (if_neg (by omega)).trans (if_neg c1)
             rw [eT]
             have w3 : bhd a = 0 ∨ (1 ≤ bhd a ∧ bhd a ≤ 127 ∧ rk (bhd a) ≤ t) := by
               by_cases z : bhd a = 0
               · exact Or.inl z
               · have w5 := w.2.2.2.2 z; exact Or.inr ⟨by omega, by omega, by omega⟩
             refine jv_lv ?_ (ih (bhd a) _ _ (by omega) w3 (fun k k1 k2 k3 => by rw [up_ne k3]; exact fr k k1 k2 k3) (by rw [up_same, f47]))
             exact lvC rfl (lvC rfl (lvC rfl (lvC rfl (lvC rfl (lv0))))))
        · refine j_iconst 2 eX5_measure_44 ?_
          refine j_iload_n eX5_measure_45 rfl ?_
          refine j_imul eX5_measure_46 ?_
          refine j_istore_n eX5_measure_47 (Nat.le_of_ble_eq_true rfl) ?_
          refine j_goto eX5_measure_48 ?_
          refine j_iinc eX5_measure_66 rfl (Nat.le_of_ble_eq_true rfl) ?_
          refine j_goto eX5_measure_69 ?_
          have e1 : 127 - ((t + 1 : Nat) : Int) + 1 = 127 - (t : Int) := by omega
          rw [e1]
          first
          | (have c1 : JX σ a = 2 ∧ a < 64 := by omega
             have eT : trS (JX σ) (t + 1) a f = trS (JX σ) t (2 * a) f := (if_neg (by omega)).trans (if_pos c1)
             rw [eT]
             have w2 := w.2.1 (by omega)
             refine jv_lv ?_ (ih (2 * a) f σ27 (by omega) (Or.inr ⟨by omega, by omega, by omega⟩) fr f47)
             exact lvC rfl (lvC rfl (lvC rfl (lvC rfl (lvC rfl (lv0))))))
          | (have c1 : ¬ (JX σ a = 2 ∧ a < 64) := by omega
             have eT : trS (JX σ) (t + 1) a f = trS (JX σ) t (bhd a) (up1 f (JX σ a) (f (JX σ a) + pz a)) := (if_neg (by omega)).trans (if_neg c1)
             rw [eT]
             have w3 : bhd a = 0 ∨ (1 ≤ bhd a ∧ bhd a ≤ 127 ∧ rk (bhd a) ≤ t) := by
               by_cases z : bhd a = 0
               · exact Or.inl z
               · have w5 := w.2.2.2.2 z; exact Or.inr ⟨by omega, by omega, by omega⟩
             refine jv_lv ?_ (ih (bhd a) _ _ (by omega) w3 (fun k k1 k2 k3 => by rw [up_ne k3]; exact fr k k1 k2 k3) (by rw [up_same, f47]))
             exact lvC rfl (lvC rfl (lvC rfl (lvC rfl (lvC rfl (lv0))))))
theorem c_X5_measure {g : Gl} {σ : Sg} (hX : TX σ) (tb : 0 ≤ σ 27 2 ∧ σ 27 2 < σ 0 1) : Ct g mX5_measure [vr g 46, vr g 27, vr g 35] σ (PV (fun σ' => (∀ k, k ≠ 35 → k ≠ 36 → k ≠ 47 → σ' k = σ k) ∧ ∃ f : Int → Int, (∀ i, 0 ≤ i → i < 3 → f i = 0) ∧ σ' 47 = trS (JX σ) 127 1 f)) := by
  refine Ct.of (by decide +kernel) (Nat.le_of_ble_eq_true rfl) ?_
  show jv g _ _ σ [(0, vr g 46), (1, vr g 27), (2, vr g 35)] 0 []
  refine j_aload_n eX5_measure_0 rfl ?_
  refine j_getR flX5_11 ly46 rfl eX5_measure_1 ?_
  refine j_iconst 0 eX5_measure_4 ?_
  refine j_cS2 zJ7_fill_53178 lkX5_15 ⟨Nat.le_of_ble_eq_true rfl, Nat.le_of_ble_eq_true rfl⟩ (c_J7_fill_53178_47) (Nat.le_of_ble_eq_true rfl) eX5_measure_5 (k_V (fun σ5 h5 => ?_))
  refine j_iconst 1 eX5_measure_8 ?_
  refine j_istore_n eX5_measure_9 (Nat.le_of_ble_eq_true rfl) ?_
  refine j_iconst 0 eX5_measure_10 ?_
  refine j_istore eX5_measure_11 (Nat.le_of_ble_eq_true rfl) ?_
  obtain ⟨g1, g2⟩ := h5
  have e1 := l_X5_measure (g := g) hX tb 127 1 (σ5 47) σ5 (by omega) (Or.inr ⟨by omega, by omega, by decide +kernel⟩) (fun k k1 k2 k3 => g1 k k3) rfl
  refine jv_lv ?_ (jv_post (fun r τ z => ?_) e1)
  · exact lvC rfl (lvC rfl (lvC rfl (lvC rfl (lvC rfl (lv0)))))
  · exact ⟨z.1, z.2.1, σ5 47, fun i a b => g2 i a b, z.2.2⟩
