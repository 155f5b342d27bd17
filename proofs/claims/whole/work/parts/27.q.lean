def RWv (σ : Sg) (p a r i : Int) : Int := rwS (lcf (σ 49 (2 + p) + r) (σ 49 (2 + p))) (σ 49 (2 + p) + r) i (ow (fM σ p) (σ 49 (2 + p)) (loM σ a) (wdM σ a)) ((if i ≤ σ 49 (2 + p) then i else σ 49 (2 + p)) + 1).toNat 0 0
theorem lc_of {n r : Int} (hn : 0 ≤ n ∧ n ≤ 5) (hr : 0 ≤ r ∧ r ≤ 2) : lcok (n + r) (n + 1).toNat 0 1 = true := by
  have w := lc_tab ⟨n.toNat, by omega⟩ ⟨r.toNat, by omega⟩
  simp only at w
  rw [show ((n.toNat : Nat) : Int) = n from by omega, show ((r.toNat : Nat) : Int) = r from by omega, show n.toNat + 1 = (n + 1).toNat from by omega] at w
  exact w
theorem lcok_1 {N : Int} {t : Nat} {j a : Int} (h : lcok N t j a = true) : 1 ≤ a ∧ a ≤ 420 := by
  cases t with
  | zero =>
    have h2 : (decide (1 ≤ a) && decide (a ≤ 420)) = true := h
    rw [Bool.and_eq_true, decide_eq_true_iff, decide_eq_true_iff] at h2
    exact h2
  | succ t =>
    have h2 : (decide (1 ≤ a) && decide (a ≤ 420) && lcok N t (j + 1) (Int.tdiv a (Int.gcd a (bnZ N j)) * bnZ N j)) = true := h
    rw [Bool.and_eq_true, Bool.and_eq_true, decide_eq_true_iff, decide_eq_true_iff] at h2
    exact h2.1
theorem lcok_s {N : Int} {t : Nat} {j a : Int} (h : lcok N (t + 1) j a = true) : lcok N t (j + 1) (Int.tdiv a (Int.gcd a (bnZ N j)) * bnZ N j) = true := by
  have h2 : (decide (1 ≤ a) && decide (a ≤ 420) && lcok N t (j + 1) (Int.tdiv a (Int.gcd a (bnZ N j)) * bnZ N j)) = true := h
  rw [Bool.and_eq_true] at h2
  exact h2.2
theorem lcf_b {n r : Int} (hn : 0 ≤ n ∧ n ≤ 5) (hr : 0 ≤ r ∧ r ≤ 2) : 1 ≤ lcf (n + r) n ∧ lcf (n + r) n ≤ 420 := by
  have key : ∀ (t : Nat) (j a : Int), lcok (n + r) t j a = true → 1 ≤ lcS (n + r) t j a ∧ lcS (n + r) t j a ≤ 420 := by
    intro t
    induction t with
    | zero => intro j a h; exact lcok_1 h
    | succ t ih => intro j a h; exact ih (j + 1) _ (lcok_s h)
  exact key _ _ _ (lc_of hn hr)
theorem i_X12_lays {g : Gl} {σ : Sg} {p a r : Int} (hM : TM σ) (vp : 0 ≤ p ∧ p < σ 49 0) (nd : 1 ≤ a ∧ a ≤ 127) (tb : 0 ≤ σ 48 7 ∧ σ 48 7 < σ 49 1) (hr : 0 ≤ r ∧ r ≤ 2) {F : Ex} {τ : Sg} {i : Int} (h3 : ∀ k, k ≠ 48 → k ≠ 60 → k ≠ 61 → τ k = σ k) (h4 : ∀ j, j ≠ 20 → j ≠ 21 → τ 48 j = σ 48 j) (h5 : τ 48 20 = σ 49 (2 + p) + r) (h6 : ∀ j, 0 ≤ j → j ≤ σ 49 (2 + p) → τ 61 j = ow (fM σ p) (σ 49 (2 + p)) (loM σ a) (wdM σ a) j) (hi : 0 ≤ i ∧ i ≤ (σ 49 (2 + p) + r)) (kk : jv g mX12_lays F τ [(0, vr g 48), (1, vi p), (2, vi a), (3, vi r), (4, vi (σ 49 (2 + p))), (5, vl (lcf (σ 49 (2 + p) + r) (σ 49 (2 + p)))), (7, vi i), (8, vl (RWv σ p a r i))] 140 []) : ∀ (u : Nat) (s : Int), (u : Int) ≤ (if i ≤ σ 49 (2 + p) then i else σ 49 (2 + p)) + 1 → rwS (lcf (σ 49 (2 + p) + r) (σ 49 (2 + p))) (σ 49 (2 + p) + r) i (ow (fM σ p) (σ 49 (2 + p)) (loM σ a) (wdM σ a)) u ((if i ≤ σ 49 (2 + p) then i else σ 49 (2 + p)) + 1 - (u : Int)) s = RWv σ p a r i → jv g mX12_lays F τ [(0, vr g 48), (1, vi p), (2, vi a), (3, vi r), (4, vi (σ 49 (2 + p))), (5, vl (lcf (σ 49 (2 + p) + r) (σ 49 (2 + p)))), (7, vi i), (8, vl s), (10, vi ((if i ≤ σ 49 (2 + p) then i else σ 49 (2 + p)) + 1 - (u : Int)))] 87 [] := by
  have qn := hM.2.2.1 p (by omega) (by omega)
  have lb := lcf_b qn hr
  have mi : 0 ≤ (if i ≤ σ 49 (2 + p) then i else σ 49 (2 + p)) ∧ (if i ≤ σ 49 (2 + p) then i else σ 49 (2 + p)) ≤ i ∧ (if i ≤ σ 49 (2 + p) then i else σ 49 (2 + p)) ≤ σ 49 (2 + p) ∧ ((if i ≤ σ 49 (2 + p) then i else σ 49 (2 + p)) = i ∨ ((if i ≤ σ 49 (2 + p) then i else σ 49 (2 + p)) = σ 49 (2 + p) ∧ σ 49 (2 + p) < i)) := by split <;> omega
  intro u
  induction u with
  | zero =>
    intro s h1 h2
    have h2 : s = RWv σ p a r i := h2
    rw [h2]
    refine j_iload eX12_lays_87 rfl ?_
    refine j_iload eX12_lays_89 rfl ?_
    refine j_icmp_gt eX12_lays_91 (by omega) (fun h91 => ?_) (fun h91 => ?_)
    · refine jv_lv ?_ kk
      exact lvC rfl (lvC rfl (lvC rfl (lvC rfl (lvC rfl (lvC rfl (lvC rfl (lvC rfl (lv0))))))))
    · refine j_iload eX12_lays_94 rfl ?_
      refine j_iload eX12_lays_96 rfl ?_
      refine j_icmp_gt eX12_lays_98 (by omega) (fun h98 => ?_) (fun h98 => absurd (by omega) h98)
      refine jv_lv ?_ kk
      exact lvC rfl (lvC rfl (lvC rfl (lvC rfl (lvC rfl (lvC rfl (lvC rfl (lvC rfl (lv0))))))))
  | succ u ih =>
    intro s h1 h2
    have b1 := bnZ_b (t := (σ 49 (2 + p) + r)) (i := ((if i ≤ σ 49 (2 + p) then i else σ 49 (2 + p)) + 1 - ((u + 1 : Nat) : Int))) (by omega) (by omega)
    refine j_iload eX12_lays_87 rfl ?_
    refine j_iload eX12_lays_89 rfl ?_
    refine j_icmp_gt eX12_lays_91 (by omega) (fun h91 => absurd h91 (by omega)) (fun h91 => ?_)
    refine j_iload eX12_lays_94 rfl ?_
    refine j_iload eX12_lays_96 rfl ?_
    refine j_icmp_gt eX12_lays_98 (by omega) (fun h98 => absurd h98 (by omega)) (fun h98 => ?_)
    refine j_lload eX12_lays_101 rfl ?_
    refine j_lload eX12_lays_103 rfl ?_
    refine j_aload_n eX12_lays_105 rfl ?_
    refine j_getI flX12_161 ly48 rfl eX12_lays_106 ?_
    refine j_iload eX12_lays_109 rfl ?_
    refine j_cS2 zX12_choose lkX12_154 ⟨Nat.le_of_ble_eq_true rfl, Nat.le_of_ble_eq_true rfl⟩ (c_X12_choose (by rw [h5]; omega)) (Nat.le_of_ble_eq_true rfl) eX12_lays_111 (k_EL ?_)
    rw [h5]
    refine j_ldiv (by omega) eX12_lays_114 ?_
    refine j_iload eX12_lays_115 rfl ?_
    refine j_iload eX12_lays_117 rfl ?_
    refine j_cS2 zX12_choose lkX12_154 ⟨Nat.le_of_ble_eq_true rfl, Nat.le_of_ble_eq_true rfl⟩ (c_X12_choose (by omega)) (Nat.le_of_ble_eq_true rfl) eX12_lays_119 (k_EL ?_)
    refine j_lmul eX12_lays_122 ?_
    refine j_aload_n eX12_lays_123 rfl ?_
    refine j_getR flX12_48 ly48 rfl eX12_lays_124 ?_
    refine j_iload eX12_lays_127 rfl ?_
    refine j_lald ly61 (by omega) eX12_lays_129 ?_
    refine j_lmul eX12_lays_130 ?_
    refine j_ladd eX12_lays_131 ?_
    refine j_lstore eX12_lays_132 (Nat.le_of_ble_eq_true rfl) ?_
    refine j_iinc eX12_lays_134 rfl (Nat.le_of_ble_eq_true rfl) ?_
    refine j_goto eX12_lays_137 ?_
    have e1 : ((if i ≤ σ 49 (2 + p) then i else σ 49 (2 + p)) + 1 - ((u + 1 : Nat) : Int)) + 1 = (if i ≤ σ 49 (2 + p) then i else σ 49 (2 + p)) + 1 - (u : Int) := by omega
    have h9 : rwS (lcf (σ 49 (2 + p) + r) (σ 49 (2 + p))) (σ 49 (2 + p) + r) i (ow (fM σ p) (σ 49 (2 + p)) (loM σ a) (wdM σ a)) u (((if i ≤ σ 49 (2 + p) then i else σ 49 (2 + p)) + 1 - ((u + 1 : Nat) : Int)) + 1) (s + Int.tdiv (lcf (σ 49 (2 + p) + r) (σ 49 (2 + p))) (bnZ (σ 49 (2 + p) + r) ((if i ≤ σ 49 (2 + p) then i else σ 49 (2 + p)) + 1 - ((u + 1 : Nat) : Int))) * bnZ i ((if i ≤ σ 49 (2 + p) then i else σ 49 (2 + p)) + 1 - ((u + 1 : Nat) : Int)) * ow (fM σ p) (σ 49 (2 + p)) (loM σ a) (wdM σ a) ((if i ≤ σ 49 (2 + p) then i else σ 49 (2 + p)) + 1 - ((u + 1 : Nat) : Int))) = RWv σ p a r i := h2
    rw [e1] at h9 ⊢
    rw [h6 ((if i ≤ σ 49 (2 + p) then i else σ 49 (2 + p)) + 1 - ((u + 1 : Nat) : Int)) (by omega) (by omega)]
    refine jv_lv ?_ (ih _ (by omega) h9)
    exact lvC rfl (lvC rfl (lvC rfl (lvC rfl (lvC rfl (lvC rfl (lvC rfl (lvC rfl (lvC rfl (lv0)))))))))
theorem l_X12_lays {g : Gl} {σ : Sg} {p a r : Int} (hM : TM σ) (vp : 0 ≤ p ∧ p < σ 49 0) (nd : 1 ≤ a ∧ a ≤ 127) (tb : 0 ≤ σ 48 7 ∧ σ 48 7 < σ 49 1) (hr : 0 ≤ r ∧ r ≤ 2) : ∀ (t : Nat) (τ : Sg), (t : Int) ≤ (σ 49 (2 + p) + r) + 1 → (∀ k, k ≠ 48 → k ≠ 60 → k ≠ 61 → τ k = σ k) → (∀ j, j ≠ 20 → j ≠ 21 → τ 48 j = σ 48 j) → τ 48 20 = σ 49 (2 + p) + r → (∀ j, 0 ≤ j → j ≤ σ 49 (2 + p) → τ 61 j = ow (fM σ p) (σ 49 (2 + p)) (loM σ a) (wdM σ a) j) → (∀ i, 0 ≤ i → i < (σ 49 (2 + p) + r) + 1 - (t : Int) → τ 60 i = RWv σ p a r i) → jv g mX12_lays (Fm g (PV (fun σ' => RowM σ σ' p a r))) τ [(0, vr g 48), (1, vi p), (2, vi a), (3, vi r), (4, vi (σ 49 (2 + p))), (5, vl (lcf (σ 49 (2 + p) + r) (σ 49 (2 + p)))), (7, vi ((σ 49 (2 + p) + r) + 1 - (t : Int)))] 72 [] := by
  have qn := hM.2.2.1 p (by omega) (by omega)
  have lb := lcf_b qn hr
  intro t
  induction t with
  | zero =>
    intro τ h1 h3 h4 h5 h6 h7
    refine j_iload eX12_lays_72 rfl ?_
    refine j_aload_n eX12_lays_74 rfl ?_
    refine j_getI flX12_161 ly48 rfl eX12_lays_75 ?_
    refine j_icmp_gt eX12_lays_78 (by rw [h5]; omega) (fun h => ?_) (fun h => absurd (by rw [h5]; omega) h)
    refine j_aload_n eX12_lays_155 rfl ?_
    refine j_lload eX12_lays_156 rfl ?_
    refine j_ldc2 (64) cnX12_148 eX12_lays_158 ?_
    refine j_iload eX12_lays_161 rfl ?_
    refine j_cS2 zX12_power lkX12_150 ⟨Nat.le_of_ble_eq_true rfl, Nat.le_of_ble_eq_true rfl⟩ (c_X12_power (by omega)) (Nat.le_of_ble_eq_true rfl) eX12_lays_163 (k_EL ?_)
    refine j_lmul eX12_lays_166 ?_
    refine j_putL fpX12_168 ly48 rfl eX12_lays_167 ?_
    refine r_vret rfl eX12_lays_170 ?_
    refine ⟨fun k k1 k2 k3 => by rw [up_ne k1]; exact h3 k k1 k2 k3, fun j j1 j2 => ?_, ?_, ?_, fun i x z => ?_⟩
    · rw [up_same, up1_ne j2]; exact h4 j j1 j2
    · rw [up_same, up1_ne (by decide)]; exact h5
    · rw [up_same, up1_same]
    · exact h7 i x (by omega)
  | succ t ih =>
    intro τ h1 h3 h4 h5 h6 h7
    refine j_iload eX12_lays_72 rfl ?_
    refine j_aload_n eX12_lays_74 rfl ?_
    refine j_getI flX12_161 ly48 rfl eX12_lays_75 ?_
    refine j_icmp_gt eX12_lays_78 (by rw [h5]; omega) (fun h78 => absurd h78 (by rw [h5]; omega)) (fun h78 => ?_)
    refine j_lconst0 eX12_lays_81 ?_
    refine j_lstore eX12_lays_82 (Nat.le_of_ble_eq_true rfl) ?_
    refine j_iconst 0 eX12_lays_84 ?_
    refine j_istore eX12_lays_85 (Nat.le_of_ble_eq_true rfl) ?_
    have mi : 0 ≤ (if ((σ 49 (2 + p) + r) + 1 - ((t + 1 : Nat) : Int)) ≤ σ 49 (2 + p) then ((σ 49 (2 + p) + r) + 1 - ((t + 1 : Nat) : Int)) else σ 49 (2 + p)) := by split <;> omega
    refine jv_lv ?_ (i_X12_lays (i := ((σ 49 (2 + p) + r) + 1 - ((t + 1 : Nat) : Int))) hM vp nd tb hr h3 h4 h5 h6 (by omega) ?_ ((if ((σ 49 (2 + p) + r) + 1 - ((t + 1 : Nat) : Int)) ≤ σ 49 (2 + p) then ((σ 49 (2 + p) + r) + 1 - ((t + 1 : Nat) : Int)) else σ 49 (2 + p)) + 1).toNat 0 (by omega) ?_)
    · rw [show (if ((σ 49 (2 + p) + r) + 1 - ((t + 1 : Nat) : Int)) ≤ σ 49 (2 + p) then ((σ 49 (2 + p) + r) + 1 - ((t + 1 : Nat) : Int)) else σ 49 (2 + p)) + 1 - ((((if ((σ 49 (2 + p) + r) + 1 - ((t + 1 : Nat) : Int)) ≤ σ 49 (2 + p) then ((σ 49 (2 + p) + r) + 1 - ((t + 1 : Nat) : Int)) else σ 49 (2 + p)) + 1).toNat : Nat) : Int) = 0 from by omega]
      exact lvC rfl (lvC rfl (lvC rfl (lvC rfl (lvC rfl (lvC rfl (lvC rfl (lvC rfl (lvC rfl (lv0)))))))))
    · refine j_aload_n eX12_lays_140 rfl ?_
      refine j_getR flX12_44 ly48 rfl eX12_lays_141 ?_
      refine j_iload eX12_lays_144 rfl ?_
      refine j_lload eX12_lays_146 rfl ?_
      refine j_last ly60 (by omega) eX12_lays_148 ?_
      refine j_iinc eX12_lays_149 rfl (Nat.le_of_ble_eq_true rfl) ?_
      refine j_goto eX12_lays_152 ?_
      have e1 : ((σ 49 (2 + p) + r) + 1 - ((t + 1 : Nat) : Int)) + 1 = (σ 49 (2 + p) + r) + 1 - (t : Int) := by omega
      rw [e1]
      refine jv_lv ?_ (ih _ (by omega) (fun k k1 k2 k3 => by rw [up_ne k2]; exact h3 k k1 k2 k3) h4 h5 h6 (fun i x z => ?_))
      · exact lvC rfl (lvC rfl (lvC rfl (lvC rfl (lvC rfl (lvC rfl (lvC rfl (lv0)))))))
      · rw [up_same]
        by_cases w : i = ((σ 49 (2 + p) + r) + 1 - ((t + 1 : Nat) : Int))
        · rw [w, up1_same]
        · rw [up1_ne w]; exact h7 i x (by omega)
    · rw [show (if ((σ 49 (2 + p) + r) + 1 - ((t + 1 : Nat) : Int)) ≤ σ 49 (2 + p) then ((σ 49 (2 + p) + r) + 1 - ((t + 1 : Nat) : Int)) else σ 49 (2 + p)) + 1 - ((((if ((σ 49 (2 + p) + r) + 1 - ((t + 1 : Nat) : Int)) ≤ σ 49 (2 + p) then ((σ 49 (2 + p) + r) + 1 - ((t + 1 : Nat) : Int)) else σ 49 (2 + p)) + 1).toNat : Nat) : Int) = 0 from by omega]
      rfl
theorem a_X12_lays {g : Gl} {σ : Sg} {p a r : Int} (hM : TM σ) (vp : 0 ≤ p ∧ p < σ 49 0) (nd : 1 ≤ a ∧ a ≤ 127) (tb : 0 ≤ σ 48 7 ∧ σ 48 7 < σ 49 1) (hr : 0 ≤ r ∧ r ≤ 2) {F : Ex} {τ : Sg} (h5 : τ 48 20 = σ 49 (2 + p) + r) (kk : jv g mX12_lays F τ [(0, vr g 48), (1, vi p), (2, vi a), (3, vi r), (4, vi (σ 49 (2 + p))), (5, vl (lcf (σ 49 (2 + p) + r) (σ 49 (2 + p))))] 69 []) : ∀ (t : Nat) (x : Int), (t : Int) ≤ σ 49 (2 + p) + 1 → lcok (σ 49 (2 + p) + r) t (σ 49 (2 + p) + 1 - (t : Int)) x = true → lcS (σ 49 (2 + p) + r) t (σ 49 (2 + p) + 1 - (t : Int)) x = (lcf (σ 49 (2 + p) + r) (σ 49 (2 + p))) → jv g mX12_lays F τ [(0, vr g 48), (1, vi p), (2, vi a), (3, vi r), (4, vi (σ 49 (2 + p))), (5, vl x), (7, vi (σ 49 (2 + p) + 1 - (t : Int)))] 30 [] := by
  have qn := hM.2.2.1 p (by omega) (by omega)
  intro t
  induction t with
  | zero =>
    intro x h1 h2 h7
    refine j_iload eX12_lays_30 rfl ?_
    refine j_iload eX12_lays_32 rfl ?_
    refine j_icmp_gt eX12_lays_34 (by omega) (fun h => ?_) (fun h => absurd (by omega) h)
    have h7 : x = (lcf (σ 49 (2 + p) + r) (σ 49 (2 + p))) := h7
    rw [h7]
    refine jv_lv ?_ kk
    exact lvC rfl (lvC rfl (lvC rfl (lvC rfl (lvC rfl (lvC rfl (lv0))))))
  | succ t ih =>
    intro x h1 h2 h7
    have xb := lcok_1 h2
    have bb := bnZ_b (t := (σ 49 (2 + p) + r)) (i := (σ 49 (2 + p) + 1 - ((t + 1 : Nat) : Int))) (by omega) (by omega)
    refine j_iload eX12_lays_30 rfl ?_
    refine j_iload eX12_lays_32 rfl ?_
    refine j_icmp_gt eX12_lays_34 (by omega) (fun h34 => absurd h34 (by omega)) (fun h34 => ?_)
    refine j_aload_n eX12_lays_37 rfl ?_
    refine j_getI flX12_161 ly48 rfl eX12_lays_38 ?_
    refine j_iload eX12_lays_41 rfl ?_
    refine j_cS2 zX12_choose lkX12_154 ⟨Nat.le_of_ble_eq_true rfl, Nat.le_of_ble_eq_true rfl⟩ (c_X12_choose (by rw [h5]; omega)) (Nat.le_of_ble_eq_true rfl) eX12_lays_43 (k_EL ?_)
    rw [h5]
    refine j_lstore eX12_lays_46 (Nat.le_of_ble_eq_true rfl) ?_
    refine j_lload eX12_lays_48 rfl ?_
    refine j_lload eX12_lays_50 rfl ?_
    refine j_lload eX12_lays_52 rfl ?_
    refine j_cS2 zX12_common lkX12_164 ⟨Nat.le_of_ble_eq_true rfl, Nat.le_of_ble_eq_true rfl⟩ (c_X12_common (by omega)) (Nat.le_of_ble_eq_true rfl) eX12_lays_54 (k_EL ?_)
    have gp : 0 < Int.gcd x (bnZ (σ 49 (2 + p) + r) (σ 49 (2 + p) + 1 - ((t + 1 : Nat) : Int))) := Int.gcd_pos_of_ne_zero_right x (by omega)
    have gl : (Int.gcd x (bnZ (σ 49 (2 + p) + r) (σ 49 (2 + p) + 1 - ((t + 1 : Nat) : Int))) : Int) ≤ bnZ (σ 49 (2 + p) + r) (σ 49 (2 + p) + 1 - ((t + 1 : Nat) : Int)) := Int.le_of_dvd (by omega) (Int.gcd_dvd_right _ _)
    refine j_ldiv (by omega) eX12_lays_57 ?_
    refine j_lload eX12_lays_58 rfl ?_
    refine j_lmul eX12_lays_60 ?_
    refine j_lstore eX12_lays_61 (Nat.le_of_ble_eq_true rfl) ?_
    refine j_iinc eX12_lays_63 rfl (Nat.le_of_ble_eq_true rfl) ?_
    refine j_goto eX12_lays_66 ?_
    have e1 : (σ 49 (2 + p) + 1 - ((t + 1 : Nat) : Int)) + 1 = σ 49 (2 + p) + 1 - (t : Int) := by omega
    have h8 := lcok_s h2
    have h9 : lcS (σ 49 (2 + p) + r) t ((σ 49 (2 + p) + 1 - ((t + 1 : Nat) : Int)) + 1) (Int.tdiv x (Int.gcd x (bnZ (σ 49 (2 + p) + r) (σ 49 (2 + p) + 1 - ((t + 1 : Nat) : Int)))) * bnZ (σ 49 (2 + p) + r) (σ 49 (2 + p) + 1 - ((t + 1 : Nat) : Int))) = (lcf (σ 49 (2 + p) + r) (σ 49 (2 + p))) := h7
    rw [e1] at h8 h9 ⊢
    refine jv_lv ?_ (ih _ (by omega) h8 h9)
    exact lvC rfl (lvC rfl (lvC rfl (lvC rfl (lvC rfl (lvC rfl (lvC rfl (lv0)))))))
theorem c_X12_lays {g : Gl} {σ : Sg} {p a r : Int} (hM : TM σ) (vp : 0 ≤ p ∧ p < σ 49 0) (nd : 1 ≤ a ∧ a ≤ 127) (tb : 0 ≤ σ 48 7 ∧ σ 48 7 < σ 49 1) (hr : 0 ≤ r ∧ r ≤ 2) : Ct g mX12_lays [vr g 48, vi p, vi a, vi r] σ (PV (fun σ' => RowM σ σ' p a r)) := by
  refine Ct.of (by decide +kernel) (Nat.le_of_ble_eq_true rfl) ?_
  show jv g _ _ σ [(0, vr g 48), (1, vi p), (2, vi a), (3, vi r)] 0 []
  have mP := hM.1
  have mB := hM.2.1
  have mS := hM.2.2.1
  have qn := mS p (by omega) (by omega)
  refine j_aload_n eX12_lays_0 rfl ?_
  refine j_iload_n eX12_lays_1 rfl ?_
  refine j_iload_n eX12_lays_2 rfl ?_
  refine j_cV2 zX12_laysOwn lkX12_158 ⟨Nat.le_of_ble_eq_true rfl, Nat.le_of_ble_eq_true rfl⟩ ly48 rfl rfl (c_X12_laysOwn (by exact hM) (by exact vp) (by exact nd) (by exact tb)) (Nat.le_of_ble_eq_true rfl) eX12_lays_3 (k_V (fun σ3 h3 => ?_))
  obtain ⟨o1, o2⟩ := h3
  have s49 : ∀ i, σ3 49 i = σ 49 i := fun i => by rw [o1 49 (by decide)]
  refine j_aload_n eX12_lays_6 rfl ?_
  refine j_getR flX12_7 ly48 rfl eX12_lays_7 ?_
  refine j_iconst 2 eX12_lays_10 ?_
  refine j_iload_n eX12_lays_11 rfl ?_
  refine j_iadd eX12_lays_12 ?_
  refine j_iald ly49 (by omega) eX12_lays_13 ?_
  rw [s49]
  refine j_istore eX12_lays_14 (Nat.le_of_ble_eq_true rfl) ?_
  refine j_aload_n eX12_lays_16 rfl ?_
  refine j_iload eX12_lays_17 rfl ?_
  refine j_iload_n eX12_lays_19 rfl ?_
  refine j_iadd eX12_lays_20 ?_
  refine j_putI fpX12_161 ly48 rfl eX12_lays_21 ?_
  refine j_lconst1 eX12_lays_24 ?_
  refine j_lstore eX12_lays_25 (Nat.le_of_ble_eq_true rfl) ?_
  refine j_iconst 0 eX12_lays_27 ?_
  refine j_istore eX12_lays_28 (Nat.le_of_ble_eq_true rfl) ?_
  have lk := lc_of (n := σ 49 (2 + p)) (r := r) qn hr
  refine jv_lv ?_ (a_X12_lays (τ := up σ3 48 20 (σ 49 (2 + p) + r)) hM vp nd tb hr rfl ?_ (σ 49 (2 + p) + 1).toNat 1 (by omega) ?_ ?_)
  · rw [show σ 49 (2 + p) + 1 - (((σ 49 (2 + p) + 1).toNat : Nat) : Int) = 0 from by omega]
    exact lvC rfl (lvC rfl (lvC rfl (lvC rfl (lvC rfl (lvC rfl (lvC rfl (lv0)))))))
  · refine j_iconst 0 eX12_lays_69 ?_
    refine j_istore eX12_lays_70 (Nat.le_of_ble_eq_true rfl) ?_
    have e0 : (0 : Int) = (σ 49 (2 + p) + r) + 1 - ((((σ 49 (2 + p) + r) + 1).toNat : Nat) : Int) := by omega
    have e1 := l_X12_lays (g := g) hM vp nd tb hr ((σ 49 (2 + p) + r) + 1).toNat (up σ3 48 20 (σ 49 (2 + p) + r)) (by omega) (fun k k1 k2 k3 => by rw [up_ne k1]; exact o1 k k3) (fun j j1 j2 => by rw [up_same, up1_ne j1, o1 48 (by decide)]) rfl o2 (fun i x z => by omega)
    rw [← e0] at e1
    refine jv_lv ?_ e1
    exact lvC rfl (lvC rfl (lvC rfl (lvC rfl (lvC rfl (lvC rfl (lvC rfl (lv0)))))))
  · rw [show σ 49 (2 + p) + 1 - (((σ 49 (2 + p) + 1).toNat : Nat) : Int) = 0 from by omega]
    exact lk
  · rw [show σ 49 (2 + p) + 1 - (((σ 49 (2 + p) + 1).toNat : Nat) : Int) = 0 from by omega]
    rfl
