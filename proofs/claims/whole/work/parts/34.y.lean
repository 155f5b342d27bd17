/-! the reference reads a paper -/
def AMm (σ : Sg) (a : Int) (r : Nat) : Bool := ABM σ (σ 48 6) a (r : Int) 1
theorem trR_e {A : Int → Nat → Bool} {T : Int → Int} {len k : Int} {pr : Bool} (h : k ≤ len) : trR A T len (len - k).toNat k 0 pr = if k < len then -10 - k else if pr = true then 1 else 0 := by
  by_cases c : k < len
  · rw [if_pos c, show (len - k).toNat = (len - (k + 1)).toNat + 1 from by omega]
    exact (if_neg (fun z => z.1 rfl)).trans (if_neg (fun z => z.1 rfl))
  · rw [if_neg c, show (len - k).toNat = 0 from by omega]
    exact if_neg (fun z => z rfl)
theorem trR_x {A : Int → Nat → Bool} {T : Int → Int} {len k nd : Int} {pr : Bool} (h : k ≤ len) (hn : nd ≠ 0) (hc : ¬ (k < len ∧ ((48 ≤ T k ∧ T k ≤ 50) ∨ (nd < 64 ∧ T k = 115)))) : trR A T len (len - k).toNat k nd pr = -10 - k := by
  by_cases c : k < len
  · rw [show (len - k).toNat = (len - (k + 1)).toNat + 1 from by omega]
    exact (if_neg (fun z => by omega)).trans (if_neg (fun z => by omega))
  · rw [show (len - k).toNat = 0 from by omega, show k = len from by omega]
    exact if_pos hn
theorem trR_d {A : Int → Nat → Bool} {T : Int → Int} {len k nd : Int} {pr : Bool} (h : k < len) (hn : nd ≠ 0) (hc : 48 ≤ T k ∧ T k ≤ 50) : trR A T len (len - k).toNat k nd pr = trR A T len (len - (k + 1)).toNat (k + 1) (bhd nd) (pr && A nd (T k - 48).toNat) := by
  rw [show (len - k).toNat = (len - (k + 1)).toNat + 1 from by omega]
  exact if_pos ⟨hn, hc⟩
theorem trR_s {A : Int → Nat → Bool} {T : Int → Int} {len k nd : Int} {pr : Bool} (h : k < len) (hn : nd ≠ 0) (hc : nd < 64 ∧ T k = 115) : trR A T len (len - k).toNat k nd pr = trR A T len (len - (k + 1)).toNat (k + 1) (2 * nd) pr := by
  rw [show (len - k).toNat = (len - (k + 1)).toNat + 1 from by omega]
  exact (if_neg (by omega)).trans (if_pos ⟨hn, hc⟩)
def PT (a : Int) : List Int := if a = 0 then [] else PN_ a ++ [a]
theorem PT_b {a : Int} (h : 1 ≤ a ∧ a ≤ 127) : PN_ a = PT (bhd a) ∧ (bhd a = 0 ∨ (1 ≤ bhd a ∧ bhd a ≤ 127)) := by
  have p := PN_of h
  have w := rk_of h
  by_cases z : bhd a = 0
  · exact ⟨by rw [p.1 z, z]; rfl, Or.inl z⟩
  · have w2 := w.2.2.2.2 z
    refine ⟨?_, Or.inr (by omega)⟩
    rw [p.2.1 z]
    exact (if_neg z).symm
theorem PT_2 {a : Int} (h : 1 ≤ a ∧ a < 64) : (PN_ a ++ [2 * a + 1]) ++ [2 * a] = PT (2 * a) := by
  rw [← (PN_of (a := a) (by omega)).2.2.1 h.2]
  exact (if_neg (by omega)).symm
theorem PT_n {a : Int} (h : a ≠ 0) : PT a = PN_ a ++ [a] := if_neg h
def HLD (σ : Sg) (a : Int) : Prop := ∀ p, 0 ≤ p → p < σ 49 0 → σ 49 (29 + p) = 0 ∨ ABM σ p a 0 (σ 49 (29 + p)) = true
def BRK (σ : Sg) (a : Int) : Prop := ∃ p, 0 ≤ p ∧ p < σ 49 0 ∧ σ 49 (29 + p) ≠ 0 ∧ ABM σ p a 0 (-(σ 49 (29 + p))) = true
noncomputable def JM (σ : Sg) (a : Int) : Int := @ite _ (HLD σ a) (Classical.propDecidable _) 0 (@ite _ (BRK σ a) (Classical.propDecidable _) 1 2)
theorem JM_0 {σ : Sg} {a : Int} (h : HLD σ a) : JM σ a = 0 := if_pos h
theorem JM_1 {σ : Sg} {a : Int} (h : ¬ HLD σ a) (h2 : BRK σ a) : JM σ a = 1 := (if_neg h).trans (if_pos h2)
theorem JM_2 {σ : Sg} {a : Int} (h : ¬ HLD σ a) (h2 : ¬ BRK σ a) : JM σ a = 2 := (if_neg h).trans (if_neg h2)
theorem frM.H {σ τ : Sg} (h : frM σ τ) (a : Int) : HLD τ a ↔ HLD σ a := by
  unfold HLD
  simp only [h.A, h.1 49 (by omega) (by omega)]
theorem frM.B {σ τ : Sg} (h : frM σ τ) (a : Int) : BRK τ a ↔ BRK σ a := by
  unfold BRK
  simp only [h.A, h.1 49 (by omega) (by omega)]
theorem frL.M {σ τ : Sg} (h : frL σ τ) : frM σ τ := (frM.rf σ).L h
theorem c_X12_makes {g : Gl} {σ : Sg} (hM : TM σ) (hk : (0 ≤ σ 48 6 ∧ σ 48 6 ≤ 2) ∧ 0 ≤ σ 48 7 ∧ σ 48 7 ≤ 2) : Ct g mX12_makes [vr g 48] σ (PI (fun v σ' => frM σ σ' ∧ ((¬ ((0 ≤ σ 48 6 ∧ σ 48 6 < σ 49 0) ∧ 0 ≤ σ 48 7 ∧ σ 48 7 < σ 49 1) ∧ v = -2) ∨ (((0 ≤ σ 48 6 ∧ σ 48 6 < σ 49 0) ∧ 0 ≤ σ 48 7 ∧ σ 48 7 < σ 49 1) ∧ v = (trP (FGm σ) (SLm σ) (SHm σ) (loM σ) (hiM σ) 127 1 []).1)))) := by
  refine Ct.of (by decide +kernel) (Nat.le_of_ble_eq_true rfl) ?_
  show jv g _ _ σ [(0, vr g 48)] 0 []
  refine j_aload_n eX12_makes_0 rfl ?_
  refine j_cV0 zX12_isTaken lkX12_175 ⟨Nat.le_of_ble_eq_true rfl, Nat.le_of_ble_eq_true rfl⟩ ly48 rfl rfl (c_X12_isTaken (by exact hM) (by exact hk)) (Nat.le_of_ble_eq_true rfl) eX12_makes_1 (k_B (fun h1 => ?_) (fun h1 => ?_))
  · refine j_ifeq_1 eX12_makes_4 ?_
    refine j_aload_n eX12_makes_7 rfl ?_
    refine j_cV0 zX12_writes lkX12_219 ⟨Nat.le_of_ble_eq_true rfl, Nat.le_of_ble_eq_true rfl⟩ ly48 rfl rfl (c_X12_writes (by exact hM) (by exact h1)) (Nat.le_of_ble_eq_true rfl) eX12_makes_8 (k_I (fun v8 σ8 h8 => ?_))
    refine j_goto eX12_makes_11 ?_
    refine r_iret rfl eX12_makes_16 ?_
    first | exact ⟨frM.rf σ, Or.inl ⟨h1, rfl⟩⟩ | exact ⟨h8.1, Or.inr ⟨h1, h8.2.1⟩⟩
  · refine j_ifeq_0 eX12_makes_4 ?_
    refine j_bipush (-2) eX12_makes_14 (by decide) ?_
    refine r_iret rfl eX12_makes_16 ?_
    first | exact ⟨frM.rf σ, Or.inl ⟨h1, rfl⟩⟩ | exact ⟨h8.1, Or.inr ⟨h1, h8.2.1⟩⟩
theorem c_X12_paper {g : Gl} {σ : Sg} {a : Int} (h : -2147483648 ≤ a ∧ a ≤ 2147483647) (hM : TM σ) (hk : (0 ≤ σ 48 6 ∧ σ 48 6 ≤ 2) ∧ 0 ≤ σ 48 7 ∧ σ 48 7 ≤ 2) : Ct g mX12_paper [vr g 48, vi a] σ (PI (fun v σ' => frM σ σ' ∧ ((¬ 0 ≤ a ∧ v = -1) ∨ ((0 ≤ a ∧ ¬ ((0 ≤ σ 48 6 ∧ σ 48 6 < σ 49 0) ∧ 0 ≤ σ 48 7 ∧ σ 48 7 < σ 49 1)) ∧ v = -2) ∨ ((0 ≤ a ∧ ((0 ≤ σ 48 6 ∧ σ 48 6 < σ 49 0) ∧ 0 ≤ σ 48 7 ∧ σ 48 7 < σ 49 1)) ∧ (((trP (FGm σ) (SLm σ) (SHm σ) (loM σ) (hiM σ) 127 1 []).1 ≤ a ∧ v = -9) ∨ (a < (trP (FGm σ) (SLm σ) (SHm σ) (loM σ) (hiM σ) 127 1 []).1 ∧ ∃ q, (trP (FGm σ) (SLm σ) (SHm σ) (loM σ) (hiM σ) 127 1 []).2.2[a.toNat]? = some q ∧ v = q)))))) := by
  refine Ct.of (by decide +kernel) (Nat.le_of_ble_eq_true rfl) ?_
  show jv g _ _ σ [(0, vr g 48), (1, vi a)] 0 []
  refine j_iload_n eX12_paper_0 rfl ?_
  refine j_if_ge eX12_paper_1 (by omega) (fun h1 => ?_) (fun h1 => ?_)
  · refine j_aload_n eX12_paper_6 rfl ?_
    refine j_cV0 zX12_isTaken lkX12_175 ⟨Nat.le_of_ble_eq_true rfl, Nat.le_of_ble_eq_true rfl⟩ ly48 rfl rfl (c_X12_isTaken (by exact hM) (by exact hk)) (Nat.le_of_ble_eq_true rfl) eX12_paper_7 (k_B (fun h7 => ?_) (fun h7 => ?_))
    · refine j_ifne_1 eX12_paper_10 ?_
      refine j_iload_n eX12_paper_16 rfl ?_
      refine j_aload_n eX12_paper_17 rfl ?_
      refine j_cV0 zX12_writes lkX12_219 ⟨Nat.le_of_ble_eq_true rfl, Nat.le_of_ble_eq_true rfl⟩ ly48 rfl rfl (c_X12_writes (by exact hM) (by exact h7)) (Nat.le_of_ble_eq_true rfl) eX12_paper_18 (k_I (fun v18 σ18 h18 => ?_))
      have tb := trP_b (FGm σ) (SLm σ) (SHm σ) (loM σ) (hiM σ) 127 1 [] (by decide)
      obtain ⟨z1, z2, z3, z4⟩ := h18
      rw [← z2] at tb
      have z6 := z4.1
      refine j_icmp_ge eX12_paper_21 (by omega) (fun h21 => ?_) (fun h21 => ?_)
      · refine j_bipush (-9) eX12_paper_33 (by decide) ?_
        refine r_iret rfl eX12_paper_35 ?_
        first | exact ⟨z1, Or.inr (Or.inr ⟨by omega, Or.inl ⟨by omega, rfl⟩⟩)⟩ | exact ⟨z1, Or.inr (Or.inr ⟨by omega, Or.inr ⟨by omega, q, hq, rq⟩⟩)⟩
      · have tl := tb.2.2 (by omega) (by omega)
        obtain ⟨q, hq⟩ : ∃ q, (trP (FGm σ) (SLm σ) (SHm σ) (loM σ) (hiM σ) 127 1 []).2.2[a.toNat]? = some q := ⟨_, List.getElem?_eq_getElem (by omega)⟩
        have rq := z4.2 a.toNat q hq
        rw [show ((a.toNat : Nat) : Int) = a from by omega] at rq
        refine j_aload_n eX12_paper_24 rfl ?_
        refine j_getR flX12_60 ly48 rfl eX12_paper_25 ?_
        refine j_iload_n eX12_paper_28 rfl ?_
        refine j_iald ly65 (by omega) eX12_paper_29 ?_
        refine j_goto eX12_paper_30 ?_
        refine r_iret rfl eX12_paper_35 ?_
        first | exact ⟨z1, Or.inr (Or.inr ⟨by omega, Or.inl ⟨by omega, rfl⟩⟩)⟩ | exact ⟨z1, Or.inr (Or.inr ⟨by omega, Or.inr ⟨by omega, q, hq, rq⟩⟩)⟩
    · refine j_ifne_0 eX12_paper_10 ?_
      refine j_bipush (-2) eX12_paper_13 (by decide) ?_
      refine r_iret rfl eX12_paper_15 ?_
      exact ⟨frM.rf σ, Or.inr (Or.inl ⟨by omega, rfl⟩)⟩
  · refine j_iconst (-1) eX12_paper_4 ?_
    refine r_iret rfl eX12_paper_5 ?_
    exact ⟨frM.rf σ, Or.inl ⟨by omega, rfl⟩⟩
theorem c_X12_witness {g : Gl} {σ : Sg} {w : Int} (h : -2147483648 ≤ w ∧ w ≤ 2147483647) (hM : TM σ) (hk : (0 ≤ σ 48 6 ∧ σ 48 6 ≤ 2) ∧ 0 ≤ σ 48 7 ∧ σ 48 7 ≤ 2) : Ct g mX12_witness [vr g 48, vi w] σ (PL (fun v σ' => frM σ σ' ∧ ((((0 ≤ w ∧ w ≤ 1) ∧ ((0 ≤ σ 48 6 ∧ σ 48 6 < σ 49 0) ∧ 0 ≤ σ 48 7 ∧ σ 48 7 < σ 49 1) ∧ (trP (FGm σ) (SLm σ) (SHm σ) (loM σ) (hiM σ) 127 1 []).1 = -7) ∧ v = FR (trP (FGm σ) (SLm σ) (SHm σ) (loM σ) (hiM σ) 127 1 []).2.1 64 w) ∨ (¬ ((0 ≤ w ∧ w ≤ 1) ∧ ((0 ≤ σ 48 6 ∧ σ 48 6 < σ 49 0) ∧ 0 ≤ σ 48 7 ∧ σ 48 7 < σ 49 1) ∧ (trP (FGm σ) (SLm σ) (SHm σ) (loM σ) (hiM σ) 127 1 []).1 = -7) ∧ v = -4611686018427387904)))) := by
  refine Ct.of (by decide +kernel) (Nat.le_of_ble_eq_true rfl) ?_
  show jv g _ _ σ [(0, vr g 48), (1, vi w)] 0 []
  refine j_iload_n eX12_witness_0 rfl ?_
  refine j_iconst 0 eX12_witness_1 ?_
  refine j_iconst 1 eX12_witness_2 ?_
  refine j_cS3 zX12_in lkX12_85 ⟨Nat.le_of_ble_eq_true rfl, Nat.le_of_ble_eq_true rfl⟩ (c_X12_in (by omega)) (Nat.le_of_ble_eq_true rfl) eX12_witness_3 (k_B (fun h3 => ?_) (fun h3 => ?_))
  · refine j_ifeq_1 eX12_witness_6 ?_
    refine j_aload_n eX12_witness_9 rfl ?_
    refine j_cV0 zX12_isTaken lkX12_175 ⟨Nat.le_of_ble_eq_true rfl, Nat.le_of_ble_eq_true rfl⟩ ly48 rfl rfl (c_X12_isTaken (by exact hM) (by exact hk)) (Nat.le_of_ble_eq_true rfl) eX12_witness_10 (k_B (fun h10 => ?_) (fun h10 => ?_))
    · refine j_ifeq_1 eX12_witness_13 ?_
      refine j_aload_n eX12_witness_16 rfl ?_
      refine j_cV0 zX12_writes lkX12_219 ⟨Nat.le_of_ble_eq_true rfl, Nat.le_of_ble_eq_true rfl⟩ ly48 rfl rfl (c_X12_writes (by exact hM) (by exact h10)) (Nat.le_of_ble_eq_true rfl) eX12_witness_17 (k_I (fun v17 σ17 h17 => ?_))
      have tb := trP_b (FGm σ) (SLm σ) (SHm σ) (loM σ) (hiM σ) 127 1 [] (by decide)
      have vt : VTm σ := h10
      have tw := trP_w (fg := FGm σ) (sl := SLm σ) (sh := SHm σ) (fun a h => (wdM_b hM h vt.2).1) (fun a h => show -320 ≤ hiM σ a ∧ hiM σ a ≤ 320 from hiM_b hM h vt.2) 127 1 [] (Or.inr (by omega))
      obtain ⟨z1, z2, z3, z4⟩ := h17
      rw [← z2] at tb
      refine j_bipush (-7) eX12_witness_20 (by decide) ?_
      refine j_icmp_eq eX12_witness_22 (by omega) (fun h22 => ?_) (fun h22 => ?_)
      · refine j_aload_n eX12_witness_29 rfl ?_
        refine j_getI flX12_216 ly48 rfl eX12_witness_30 ?_
        rw [z3 (by omega)]
        refine j_i2l (by omega) eX12_witness_33 ?_
        refine j_ldc2 (64) cnX12_148 eX12_witness_34 ?_
        refine j_iload_n eX12_witness_37 rfl ?_
        refine j_cS3 zX12_fraction lkX12_182 ⟨Nat.le_of_ble_eq_true rfl, Nat.le_of_ble_eq_true rfl⟩ (c_X12_fraction (by omega) (by omega)) (Nat.le_of_ble_eq_true rfl) eX12_witness_38 (k_EL ?_)
        refine r_lret rfl eX12_witness_41 ?_
        exact ⟨z1, Or.inl ⟨⟨by omega, by omega, by omega⟩, rfl⟩⟩
      · refine j_ldc2 (-4611686018427387904) cnX12_132 eX12_witness_25 ?_
        refine r_lret rfl eX12_witness_28 ?_
        first | exact ⟨frM.rf σ, Or.inr ⟨fun z => by omega, rfl⟩⟩ | exact ⟨z1, Or.inr ⟨fun z => by omega, rfl⟩⟩
    · refine j_ifeq_0 eX12_witness_13 ?_
      refine j_ldc2 (-4611686018427387904) cnX12_132 eX12_witness_25 ?_
      refine r_lret rfl eX12_witness_28 ?_
      first | exact ⟨frM.rf σ, Or.inr ⟨fun z => by omega, rfl⟩⟩ | exact ⟨z1, Or.inr ⟨fun z => by omega, rfl⟩⟩
  · refine j_ifeq_0 eX12_witness_6 ?_
    refine j_ldc2 (-4611686018427387904) cnX12_132 eX12_witness_25 ?_
    refine r_lret rfl eX12_witness_28 ?_
    first | exact ⟨frM.rf σ, Or.inr ⟨fun z => by omega, rfl⟩⟩ | exact ⟨z1, Or.inr ⟨fun z => by omega, rfl⟩⟩
theorem l_X12_proves {g : Gl} {σ : Sg} (hM : TM σ) (hk : (0 ≤ σ 48 6 ∧ σ 48 6 ≤ 2) ∧ 0 ≤ σ 48 7 ∧ σ 48 7 ≤ 2) (hT : 0 ≤ σ 48 12 ∧ σ 48 12 ≤ 120) (hL : ∀ i, 0 ≤ i → i < σ 48 12 → 0 ≤ σ 56 i ∧ σ 56 i ≤ 255) (vt : VTm σ) : ∀ (t : Nat) (k a b : Int) (pr : Bool) (τ : Sg), σ 48 12 - k < t → (0 ≤ k ∧ k ≤ σ 48 12) → (a = 0 ∨ (1 ≤ a ∧ a ≤ 127)) → (b = 0 ∨ b = 1) → (b = 1 ↔ pr = true) → frM σ τ → RL1 τ 48 62 24 (PT a) → jv g mX12_proves (Fm g (PI (fun v σ' => frM σ σ' ∧ ((¬ ((0 ≤ σ 48 6 ∧ σ 48 6 < σ 49 0) ∧ 0 ≤ σ 48 7 ∧ σ 48 7 < σ 49 1) ∧ v = -2) ∨ (((0 ≤ σ 48 6 ∧ σ 48 6 < σ 49 0) ∧ 0 ≤ σ 48 7 ∧ σ 48 7 < σ 49 1) ∧ v = trR (AMm σ) (σ 56) (σ 48 12) (σ 48 12 - k).toNat k a pr))))) τ [(0, vr g 48), (1, vi k), (2, vi b)] 24 [] := by
  intro t
  induction t with
  | zero =>
    intro k a b pr τ h1 h2
    exfalso
    omega
  | succ t ih =>
    intro k a b pr τ h1 h2 ha h0 hb hf hp
    have e12 := hf.2 12 (by decide)
    have e56 := hf.1 56 (by decide) (by decide)
    have hz : (a = 0 ∧ τ 48 24 = 0) ∨ (a ≠ 0 ∧ 1 ≤ τ 48 24 ∧ τ 48 24 ≤ 8) := by
      by_cases z : a = 0
      · rw [z] at hp
        exact Or.inl ⟨z, hp.1⟩
      · rw [PT_n z] at hp
        have q := (PN_of (a := a) (by omega)).2.2.2
        have q2 := hp.pop.2.2.2
        exact Or.inr ⟨z, by omega, by omega⟩
    refine j_aload_n eX12_proves_24 rfl ?_
    refine j_getI flX12_193 ly48 rfl eX12_proves_25 ?_
    refine j_if_le eX12_proves_28 (by omega) (fun h28 => ?_) (fun h28 => ?_)
    · refine j_iload_n eX12_proves_164 rfl ?_
      refine j_aload_n eX12_proves_165 rfl ?_
      refine j_getI flX12_89 ly48 rfl eX12_proves_166 ?_
      rw [e12]
      refine j_icmp_ge eX12_proves_169 (by omega) (fun h169 => ?_) (fun h169 => ?_)
      · refine j_iload_n eX12_proves_179 rfl ?_
        refine j_if_eq eX12_proves_180 (by omega) (fun h180 => ?_) (fun h180 => ?_)
        · refine j_iconst 0 eX12_proves_187 ?_
          refine r_iret rfl eX12_proves_188 ?_
          have a0 : a = 0 := by omega
          rw [a0, trR_e (by omega)]
          refine ⟨hf, Or.inr ⟨vt, ?_⟩⟩
          first
          | (rw [if_pos (by omega)])
          | (rw [if_neg (by omega), if_pos (hb.mp (by omega))])
          | (rw [if_neg (by omega), if_neg (fun z => absurd (hb.mpr z) (by omega))])
        · refine j_iconst 1 eX12_proves_183 ?_
          refine j_goto eX12_proves_184 ?_
          refine r_iret rfl eX12_proves_188 ?_
          have a0 : a = 0 := by omega
          rw [a0, trR_e (by omega)]
          refine ⟨hf, Or.inr ⟨vt, ?_⟩⟩
          first
          | (rw [if_pos (by omega)])
          | (rw [if_neg (by omega), if_pos (hb.mp (by omega))])
          | (rw [if_neg (by omega), if_neg (fun z => absurd (hb.mpr z) (by omega))])
      · refine j_bipush (-10) eX12_proves_172 (by decide) ?_
        refine j_iload_n eX12_proves_174 rfl ?_
        refine j_isub eX12_proves_175 ?_
        refine j_goto eX12_proves_176 ?_
        refine r_iret rfl eX12_proves_188 ?_
        have a0 : a = 0 := by omega
        rw [a0, trR_e (by omega)]
        refine ⟨hf, Or.inr ⟨vt, ?_⟩⟩
        first
        | (rw [if_pos (by omega)])
        | (rw [if_neg (by omega), if_pos (hb.mp (by omega))])
        | (rw [if_neg (by omega), if_neg (fun z => absurd (hb.mpr z) (by omega))])
    · have na : 1 ≤ a ∧ a ≤ 127 := by omega
      rw [PT_n (by omega)] at hp
      have p2 : τ 62 (τ 48 24 - 1) = a := hp.pop.2.1
      have p4 := hp.pop.2.2.2
      have pb := PN_of na
      refine j_aload_n eX12_proves_31 rfl ?_
      refine j_getR flX12_51 ly48 rfl eX12_proves_32 ?_
      refine j_aload_n eX12_proves_35 rfl ?_
      refine j_getI flX12_193 ly48 rfl eX12_proves_36 ?_
      refine j_iconst 1 eX12_proves_39 ?_
      refine j_isub eX12_proves_40 ?_
      refine j_iald ly62 (by omega) eX12_proves_41 ?_
      rw [p2]
      refine j_istore_n eX12_proves_42 (Nat.le_of_ble_eq_true rfl) ?_
      refine j_iload_n eX12_proves_43 rfl ?_
      refine j_aload_n eX12_proves_44 rfl ?_
      refine j_getI flX12_89 ly48 rfl eX12_proves_45 ?_
      rw [e12]
      refine j_icmp_ge eX12_proves_48 (by omega) (fun h48 => ?_) (fun h48 => ?_)
      · refine j_bipush (-9) eX12_proves_60 (by decide) ?_
        refine j_istore eX12_proves_62 (Nat.le_of_ble_eq_true rfl) ?_
        refine j_iload eX12_proves_64 rfl ?_
        refine j_bipush 48 eX12_proves_66 (by decide) ?_
        refine j_bipush 50 eX12_proves_68 (by decide) ?_
        refine j_cS3 zX12_in lkX12_85 ⟨Nat.le_of_ble_eq_true rfl, Nat.le_of_ble_eq_true rfl⟩ (c_X12_in (by omega)) (Nat.le_of_ble_eq_true rfl) eX12_proves_70 (k_B (fun h70 => ?_) (fun h70 => ?_))
        · refine j_ifne_1 eX12_proves_73 ?_
          refine j_aload_n eX12_proves_94 rfl ?_
          refine j_dup rfl eX12_proves_95 ?_
          refine j_getI flX12_193 ly48 rfl eX12_proves_96 ?_
          refine j_iconst 1 eX12_proves_99 ?_
          refine j_isub eX12_proves_100 ?_
          refine j_putI fpX12_193 ly48 rfl eX12_proves_101 ?_
          have p1 := hp.pop.1
          generalize hτ1 : up τ 48 24 (τ 48 24 - 1) = τ1 at *
          have f1 : frM σ τ1 := hτ1 ▸ hf.U (by decide)
          have p3 := p1.1
          refine j_iinc eX12_proves_104 rfl (Nat.le_of_ble_eq_true rfl) ?_
          refine j_iload eX12_proves_107 rfl ?_
          refine j_bipush 115 eX12_proves_109 (by decide) ?_
          refine j_icmp_ne eX12_proves_111 (by omega) (fun h111 => ?_) (fun h111 => ?_)
          · have M1 := f1.TM hM
            have V1 := f1.VT vt
            refine j_aload_n eX12_proves_133 rfl ?_
            refine j_aload_n eX12_proves_134 rfl ?_
            refine j_getI flX12_79 ly48 rfl eX12_proves_135 ?_
            refine j_iload_n eX12_proves_138 rfl ?_
            refine j_iload eX12_proves_139 rfl ?_
            refine j_bipush 48 eX12_proves_141 (by decide) ?_
            refine j_isub eX12_proves_143 ?_
            refine j_iconst 1 eX12_proves_144 ?_
            refine j_cV4 zX12_isAbove lkX12_212 ⟨Nat.le_of_ble_eq_true rfl, Nat.le_of_ble_eq_true rfl⟩ ly48 rfl rfl (c_X12_isAbove (by exact M1) (by exact V1.1) (by exact na) (by exact V1.2) (by omega) (by omega)) (Nat.le_of_ble_eq_true rfl) eX12_proves_145 (k_I (fun v145 σ145 h145 => ?_))
            rw [f1.A, f1.2 6 (by decide)] at h145
            have fr := f1.L h145.1
            have r1 := p1.L h145.1
            have pt := PT_b na
            rw [pt.1] at r1
            have eA : AMm σ a (σ 56 k - 48).toNat = ABM σ (σ 48 6) a (σ 56 k - 48) 1 := by unfold AMm; rw [show (((σ 56 k - 48).toNat : Nat) : Int) = σ 56 k - 48 from by omega]
            refine j_if_eq eX12_proves_148 (by omega) (fun h148 => ?_) (fun h148 => ?_)
            · refine j_iconst 0 eX12_proves_159 ?_
              refine j_istore_n eX12_proves_160 (Nat.le_of_ble_eq_true rfl) ?_
              refine j_goto eX12_proves_161 ?_
              first
              | (exfalso; omega)
              | (have eT := trR_s (A := AMm σ) (T := σ 56) (len := σ 48 12) (k := k) (nd := a) (pr := pr) (by omega) (by omega) (by omega)
                 rw [eT]
                 refine jv_lv ?_ (ih (k + 1) (2 * a) b pr ρ2 (by omega) (by omega) (by omega) h0 hb fr2 s2)
                 exact lvC rfl (lvC rfl (lvC rfl (lv0))))
              | (have eT := trR_d (A := AMm σ) (T := σ 56) (len := σ 48 12) (k := k) (nd := a) (pr := pr) (by omega) (by omega) (by omega)
                 rw [eT]
                 first
                 | (refine jv_lv ?_ (ih (k + 1) (bhd a) 1 _ σ145 (by omega) (by omega) pt.2 (by omega) ⟨fun _ => by rw [hb.mp (by omega), eA, (h145.2.resolve_right (by omega)).1]; rfl, fun _ => rfl⟩ fr r1)
                    exact lvC rfl (lvC rfl (lvC rfl (lv0))))
                 | (refine jv_lv ?_ (ih (k + 1) (bhd a) 0 _ σ145 (by omega) (by omega) pt.2 (by omega) ⟨fun z => absurd z (by decide), fun z => ?_⟩ fr r1)
                    · exact lvC rfl (lvC rfl (lvC rfl (lv0)))
                    · rw [Bool.and_eq_true, eA] at z
                      exact absurd z.2 (h145.2.resolve_left (by omega)).1)
                 | (refine jv_lv ?_ (ih (k + 1) (bhd a) 0 _ σ145 (by omega) (by omega) pt.2 (by omega) ⟨fun z => absurd z (by decide), fun z => ?_⟩ fr r1)
                    · exact lvC rfl (lvC rfl (lvC rfl (lv0)))
                    · rw [Bool.and_eq_true] at z
                      have z4 := hb.mpr z.1
                      exfalso
                      omega))
            · refine j_iload_n eX12_proves_151 rfl ?_
              refine j_if_eq eX12_proves_152 (by omega) (fun h152 => ?_) (fun h152 => ?_)
              · refine j_iconst 0 eX12_proves_159 ?_
                refine j_istore_n eX12_proves_160 (Nat.le_of_ble_eq_true rfl) ?_
                refine j_goto eX12_proves_161 ?_
                first
                | (exfalso; omega)
                | (have eT := trR_s (A := AMm σ) (T := σ 56) (len := σ 48 12) (k := k) (nd := a) (pr := pr) (by omega) (by omega) (by omega)
                   rw [eT]
                   refine jv_lv ?_ (ih (k + 1) (2 * a) b pr ρ2 (by omega) (by omega) (by omega) h0 hb fr2 s2)
                   exact lvC rfl (lvC rfl (lvC rfl (lv0))))
                | (have eT := trR_d (A := AMm σ) (T := σ 56) (len := σ 48 12) (k := k) (nd := a) (pr := pr) (by omega) (by omega) (by omega)
                   rw [eT]
                   first
                   | (refine jv_lv ?_ (ih (k + 1) (bhd a) 1 _ σ145 (by omega) (by omega) pt.2 (by omega) ⟨fun _ => by rw [hb.mp (by omega), eA, (h145.2.resolve_right (by omega)).1]; rfl, fun _ => rfl⟩ fr r1)
                      exact lvC rfl (lvC rfl (lvC rfl (lv0))))
                   | (refine jv_lv ?_ (ih (k + 1) (bhd a) 0 _ σ145 (by omega) (by omega) pt.2 (by omega) ⟨fun z => absurd z (by decide), fun z => ?_⟩ fr r1)
                      · exact lvC rfl (lvC rfl (lvC rfl (lv0)))
                      · rw [Bool.and_eq_true, eA] at z
                        exact absurd z.2 (h145.2.resolve_left (by omega)).1)
                   | (refine jv_lv ?_ (ih (k + 1) (bhd a) 0 _ σ145 (by omega) (by omega) pt.2 (by omega) ⟨fun z => absurd z (by decide), fun z => ?_⟩ fr r1)
                      · exact lvC rfl (lvC rfl (lvC rfl (lv0)))
                      · rw [Bool.and_eq_true] at z
                        have z4 := hb.mpr z.1
                        exfalso
                        omega))
              · refine j_iconst 1 eX12_proves_155 ?_
                refine j_goto eX12_proves_156 ?_
                refine j_istore_n eX12_proves_160 (Nat.le_of_ble_eq_true rfl) ?_
                refine j_goto eX12_proves_161 ?_
                first
                | (exfalso; omega)
                | (have eT := trR_s (A := AMm σ) (T := σ 56) (len := σ 48 12) (k := k) (nd := a) (pr := pr) (by omega) (by omega) (by omega)
                   rw [eT]
                   refine jv_lv ?_ (ih (k + 1) (2 * a) b pr ρ2 (by omega) (by omega) (by omega) h0 hb fr2 s2)
                   exact lvC rfl (lvC rfl (lvC rfl (lv0))))
                | (have eT := trR_d (A := AMm σ) (T := σ 56) (len := σ 48 12) (k := k) (nd := a) (pr := pr) (by omega) (by omega) (by omega)
                   rw [eT]
                   first
                   | (refine jv_lv ?_ (ih (k + 1) (bhd a) 1 _ σ145 (by omega) (by omega) pt.2 (by omega) ⟨fun _ => by rw [hb.mp (by omega), eA, (h145.2.resolve_right (by omega)).1]; rfl, fun _ => rfl⟩ fr r1)
                      exact lvC rfl (lvC rfl (lvC rfl (lv0))))
                   | (refine jv_lv ?_ (ih (k + 1) (bhd a) 0 _ σ145 (by omega) (by omega) pt.2 (by omega) ⟨fun z => absurd z (by decide), fun z => ?_⟩ fr r1)
                      · exact lvC rfl (lvC rfl (lvC rfl (lv0)))
                      · rw [Bool.and_eq_true, eA] at z
                        exact absurd z.2 (h145.2.resolve_left (by omega)).1)
                   | (refine jv_lv ?_ (ih (k + 1) (bhd a) 0 _ σ145 (by omega) (by omega) pt.2 (by omega) ⟨fun z => absurd z (by decide), fun z => ?_⟩ fr r1)
                      · exact lvC rfl (lvC rfl (lvC rfl (lv0)))
                      · rw [Bool.and_eq_true] at z
                        have z4 := hb.mpr z.1
                        exfalso
                        omega))
          · refine j_aload_n eX12_proves_114 rfl ?_
            refine j_iconst 2 eX12_proves_115 ?_
            refine j_iload_n eX12_proves_116 rfl ?_
            refine j_imul eX12_proves_117 ?_
            refine j_iconst 1 eX12_proves_118 ?_
            refine j_iadd eX12_proves_119 ?_
            refine j_cV1 zX12_puts lkX12_199 ⟨Nat.le_of_ble_eq_true rfl, Nat.le_of_ble_eq_true rfl⟩ ly48 rfl rfl (c_X12_puts (by omega)) (Nat.le_of_ble_eq_true rfl) eX12_proves_120 (k_VE ?_)
            generalize hρ1 : up (up τ1 62 (τ1 48 24) (2 * a + 1)) 48 24 (τ1 48 24 + 1) = ρ1
            have s1 : RL1 ρ1 48 62 24 (PN_ a ++ [2 * a + 1]) := hρ1 ▸ p1.put
            have e1 := s1.1
            rw [List.length_append] at e1
            have e1 : ρ1 48 24 = ((PN_ a).length + 1 : Nat) := e1
            have fr1 : frM σ ρ1 := hρ1 ▸ (f1.C (by decide)).U (by decide)
            refine j_aload_n eX12_proves_123 rfl ?_
            refine j_iconst 2 eX12_proves_124 ?_
            refine j_iload_n eX12_proves_125 rfl ?_
            refine j_imul eX12_proves_126 ?_
            refine j_cV1 zX12_puts lkX12_199 ⟨Nat.le_of_ble_eq_true rfl, Nat.le_of_ble_eq_true rfl⟩ ly48 rfl rfl (c_X12_puts (by omega)) (Nat.le_of_ble_eq_true rfl) eX12_proves_127 (k_VE ?_)
            generalize hρ2 : up (up ρ1 62 (ρ1 48 24) (2 * a)) 48 24 (ρ1 48 24 + 1) = ρ2
            have s2 : RL1 ρ2 48 62 24 ((PN_ a ++ [2 * a + 1]) ++ [2 * a]) := hρ2 ▸ s1.put
            rw [PT_2 (by omega)] at s2
            have fr2 : frM σ ρ2 := hρ2 ▸ (fr1.C (by decide)).U (by decide)
            refine j_goto eX12_proves_130 ?_
            refine j_goto eX12_proves_161 ?_
            first
            | (exfalso; omega)
            | (have eT := trR_s (A := AMm σ) (T := σ 56) (len := σ 48 12) (k := k) (nd := a) (pr := pr) (by omega) (by omega) (by omega)
               rw [eT]
               refine jv_lv ?_ (ih (k + 1) (2 * a) b pr ρ2 (by omega) (by omega) (by omega) h0 hb fr2 s2)
               exact lvC rfl (lvC rfl (lvC rfl (lv0))))
            | (have eT := trR_d (A := AMm σ) (T := σ 56) (len := σ 48 12) (k := k) (nd := a) (pr := pr) (by omega) (by omega) (by omega)
               rw [eT]
               first
               | (refine jv_lv ?_ (ih (k + 1) (bhd a) 1 _ σ145 (by omega) (by omega) pt.2 (by omega) ⟨fun _ => by rw [hb.mp (by omega), eA, (h145.2.resolve_right (by omega)).1]; rfl, fun _ => rfl⟩ fr r1)
                  exact lvC rfl (lvC rfl (lvC rfl (lv0))))
               | (refine jv_lv ?_ (ih (k + 1) (bhd a) 0 _ σ145 (by omega) (by omega) pt.2 (by omega) ⟨fun z => absurd z (by decide), fun z => ?_⟩ fr r1)
                  · exact lvC rfl (lvC rfl (lvC rfl (lv0)))
                  · rw [Bool.and_eq_true, eA] at z
                    exact absurd z.2 (h145.2.resolve_left (by omega)).1)
               | (refine jv_lv ?_ (ih (k + 1) (bhd a) 0 _ σ145 (by omega) (by omega) pt.2 (by omega) ⟨fun z => absurd z (by decide), fun z => ?_⟩ fr r1)
                  · exact lvC rfl (lvC rfl (lvC rfl (lv0)))
                  · rw [Bool.and_eq_true] at z
                    have z4 := hb.mpr z.1
                    exfalso
                    omega))
        · refine j_ifne_0 eX12_proves_73 ?_
          refine j_iload eX12_proves_76 rfl ?_
          refine j_bipush 115 eX12_proves_78 (by decide) ?_
          refine j_icmp_ne eX12_proves_80 (by omega) (fun h80 => ?_) (fun h80 => ?_)
          · refine j_bipush (-10) eX12_proves_89 (by decide) ?_
            refine j_iload_n eX12_proves_91 rfl ?_
            refine j_isub eX12_proves_92 ?_
            refine r_iret rfl eX12_proves_93 ?_
            exact ⟨hf, Or.inr ⟨vt, (trR_x (by omega) (by omega) (by omega)).symm⟩⟩
          · refine j_iload_n eX12_proves_83 rfl ?_
            refine j_bipush 64 eX12_proves_84 (by decide) ?_
            refine j_icmp_lt eX12_proves_86 (by omega) (fun h86 => ?_) (fun h86 => ?_)
            · refine j_aload_n eX12_proves_94 rfl ?_
              refine j_dup rfl eX12_proves_95 ?_
              refine j_getI flX12_193 ly48 rfl eX12_proves_96 ?_
              refine j_iconst 1 eX12_proves_99 ?_
              refine j_isub eX12_proves_100 ?_
              refine j_putI fpX12_193 ly48 rfl eX12_proves_101 ?_
              have p1 := hp.pop.1
              generalize hτ1 : up τ 48 24 (τ 48 24 - 1) = τ1 at *
              have f1 : frM σ τ1 := hτ1 ▸ hf.U (by decide)
              have p3 := p1.1
              refine j_iinc eX12_proves_104 rfl (Nat.le_of_ble_eq_true rfl) ?_
              refine j_iload eX12_proves_107 rfl ?_
              refine j_bipush 115 eX12_proves_109 (by decide) ?_
              refine j_icmp_ne eX12_proves_111 (by omega) (fun h111 => ?_) (fun h111 => ?_)
              · have M1 := f1.TM hM
                have V1 := f1.VT vt
                refine j_aload_n eX12_proves_133 rfl ?_
                refine j_aload_n eX12_proves_134 rfl ?_
                refine j_getI flX12_79 ly48 rfl eX12_proves_135 ?_
                refine j_iload_n eX12_proves_138 rfl ?_
                refine j_iload eX12_proves_139 rfl ?_
                refine j_bipush 48 eX12_proves_141 (by decide) ?_
                refine j_isub eX12_proves_143 ?_
                refine j_iconst 1 eX12_proves_144 ?_
                refine j_cV4 zX12_isAbove lkX12_212 ⟨Nat.le_of_ble_eq_true rfl, Nat.le_of_ble_eq_true rfl⟩ ly48 rfl rfl (c_X12_isAbove (by exact M1) (by exact V1.1) (by exact na) (by exact V1.2) (by omega) (by omega)) (Nat.le_of_ble_eq_true rfl) eX12_proves_145 (k_I (fun v145 σ145 h145 => ?_))
                rw [f1.A, f1.2 6 (by decide)] at h145
                have fr := f1.L h145.1
                have r1 := p1.L h145.1
                have pt := PT_b na
                rw [pt.1] at r1
                have eA : AMm σ a (σ 56 k - 48).toNat = ABM σ (σ 48 6) a (σ 56 k - 48) 1 := by unfold AMm; rw [show (((σ 56 k - 48).toNat : Nat) : Int) = σ 56 k - 48 from by omega]
                refine j_if_eq eX12_proves_148 (by omega) (fun h148 => ?_) (fun h148 => ?_)
                · refine j_iconst 0 eX12_proves_159 ?_
                  refine j_istore_n eX12_proves_160 (Nat.le_of_ble_eq_true rfl) ?_
                  refine j_goto eX12_proves_161 ?_
                  first
                  | (exfalso; omega)
                  | (have eT := trR_s (A := AMm σ) (T := σ 56) (len := σ 48 12) (k := k) (nd := a) (pr := pr) (by omega) (by omega) (by omega)
                     rw [eT]
                     refine jv_lv ?_ (ih (k + 1) (2 * a) b pr ρ2 (by omega) (by omega) (by omega) h0 hb fr2 s2)
                     exact lvC rfl (lvC rfl (lvC rfl (lv0))))
                  | (have eT := trR_d (A := AMm σ) (T := σ 56) (len := σ 48 12) (k := k) (nd := a) (pr := pr) (by omega) (by omega) (by omega)
                     rw [eT]
                     first
                     | (refine jv_lv ?_ (ih (k + 1) (bhd a) 1 _ σ145 (by omega) (by omega) pt.2 (by omega) ⟨fun _ => by rw [hb.mp (by omega), eA, (h145.2.resolve_right (by omega)).1]; rfl, fun _ => rfl⟩ fr r1)
                        exact lvC rfl (lvC rfl (lvC rfl (lv0))))
                     | (refine jv_lv ?_ (ih (k + 1) (bhd a) 0 _ σ145 (by omega) (by omega) pt.2 (by omega) ⟨fun z => absurd z (by decide), fun z => ?_⟩ fr r1)
                        · exact lvC rfl (lvC rfl (lvC rfl (lv0)))
                        · rw [Bool.and_eq_true, eA] at z
                          exact absurd z.2 (h145.2.resolve_left (by omega)).1)
                     | (refine jv_lv ?_ (ih (k + 1) (bhd a) 0 _ σ145 (by omega) (by omega) pt.2 (by omega) ⟨fun z => absurd z (by decide), fun z => ?_⟩ fr r1)
                        · exact lvC rfl (lvC rfl (lvC rfl (lv0)))
                        · rw [Bool.and_eq_true] at z
                          have z4 := hb.mpr z.1
                          exfalso
                          omega))
                · refine j_iload_n eX12_proves_151 rfl ?_
                  refine j_if_eq eX12_proves_152 (by omega) (fun h152 => ?_) (fun h152 => ?_)
                  · refine j_iconst 0 eX12_proves_159 ?_
                    refine j_istore_n eX12_proves_160 (Nat.le_of_ble_eq_true rfl) ?_
                    refine j_goto eX12_proves_161 ?_
                    first
                    | (exfalso; omega)
                    | (have eT := trR_s (A := AMm σ) (T := σ 56) (len := σ 48 12) (k := k) (nd := a) (pr := pr) (by omega) (by omega) (by omega)
                       rw [eT]
                       refine jv_lv ?_ (ih (k + 1) (2 * a) b pr ρ2 (by omega) (by omega) (by omega) h0 hb fr2 s2)
                       exact lvC rfl (lvC rfl (lvC rfl (lv0))))
                    | (have eT := trR_d (A := AMm σ) (T := σ 56) (len := σ 48 12) (k := k) (nd := a) (pr := pr) (by omega) (by omega) (by omega)
                       rw [eT]
                       first
                       | (refine jv_lv ?_ (ih (k + 1) (bhd a) 1 _ σ145 (by omega) (by omega) pt.2 (by omega) ⟨fun _ => by rw [hb.mp (by omega), eA, (h145.2.resolve_right (by omega)).1]; rfl, fun _ => rfl⟩ fr r1)
                          exact lvC rfl (lvC rfl (lvC rfl (lv0))))
                       | (refine jv_lv ?_ (ih (k + 1) (bhd a) 0 _ σ145 (by omega) (by omega) pt.2 (by omega) ⟨fun z => absurd z (by decide), fun z => ?_⟩ fr r1)
                          · exact lvC rfl (lvC rfl (lvC rfl (lv0)))
                          · rw [Bool.and_eq_true, eA] at z
                            exact absurd z.2 (h145.2.resolve_left (by omega)).1)
                       | (refine jv_lv ?_ (ih (k + 1) (bhd a) 0 _ σ145 (by omega) (by omega) pt.2 (by omega) ⟨fun z => absurd z (by decide), fun z => ?_⟩ fr r1)
                          · exact lvC rfl (lvC rfl (lvC rfl (lv0)))
                          · rw [Bool.and_eq_true] at z
                            have z4 := hb.mpr z.1
                            exfalso
                            omega))
                  · refine j_iconst 1 eX12_proves_155 ?_
                    refine j_goto eX12_proves_156 ?_
                    refine j_istore_n eX12_proves_160 (Nat.le_of_ble_eq_true rfl) ?_
                    refine j_goto eX12_proves_161 ?_
                    first
                    | (exfalso; omega)
                    | (have eT := trR_s (A := AMm σ) (T := σ 56) (len := σ 48 12) (k := k) (nd := a) (pr := pr) (by omega) (by omega) (by omega)
                       rw [eT]
                       refine jv_lv ?_ (ih (k + 1) (2 * a) b pr ρ2 (by omega) (by omega) (by omega) h0 hb fr2 s2)
                       exact lvC rfl (lvC rfl (lvC rfl (lv0))))
                    | (have eT := trR_d (A := AMm σ) (T := σ 56) (len := σ 48 12) (k := k) (nd := a) (pr := pr) (by omega) (by omega) (by omega)
                       rw [eT]
                       first
                       | (refine jv_lv ?_ (ih (k + 1) (bhd a) 1 _ σ145 (by omega) (by omega) pt.2 (by omega) ⟨fun _ => by rw [hb.mp (by omega), eA, (h145.2.resolve_right (by omega)).1]; rfl, fun _ => rfl⟩ fr r1)
                          exact lvC rfl (lvC rfl (lvC rfl (lv0))))
                       | (refine jv_lv ?_ (ih (k + 1) (bhd a) 0 _ σ145 (by omega) (by omega) pt.2 (by omega) ⟨fun z => absurd z (by decide), fun z => ?_⟩ fr r1)
                          · exact lvC rfl (lvC rfl (lvC rfl (lv0)))
                          · rw [Bool.and_eq_true, eA] at z
                            exact absurd z.2 (h145.2.resolve_left (by omega)).1)
                       | (refine jv_lv ?_ (ih (k + 1) (bhd a) 0 _ σ145 (by omega) (by omega) pt.2 (by omega) ⟨fun z => absurd z (by decide), fun z => ?_⟩ fr r1)
                          · exact lvC rfl (lvC rfl (lvC rfl (lv0)))
                          · rw [Bool.and_eq_true] at z
                            have z4 := hb.mpr z.1
                            exfalso
                            omega))
              · refine j_aload_n eX12_proves_114 rfl ?_
                refine j_iconst 2 eX12_proves_115 ?_
                refine j_iload_n eX12_proves_116 rfl ?_
                refine j_imul eX12_proves_117 ?_
                refine j_iconst 1 eX12_proves_118 ?_
                refine j_iadd eX12_proves_119 ?_
                refine j_cV1 zX12_puts lkX12_199 ⟨Nat.le_of_ble_eq_true rfl, Nat.le_of_ble_eq_true rfl⟩ ly48 rfl rfl (c_X12_puts (by omega)) (Nat.le_of_ble_eq_true rfl) eX12_proves_120 (k_VE ?_)
                generalize hρ1 : up (up τ1 62 (τ1 48 24) (2 * a + 1)) 48 24 (τ1 48 24 + 1) = ρ1
                have s1 : RL1 ρ1 48 62 24 (PN_ a ++ [2 * a + 1]) := hρ1 ▸ p1.put
                have e1 := s1.1
                rw [List.length_append] at e1
                have e1 : ρ1 48 24 = ((PN_ a).length + 1 : Nat) := e1
                have fr1 : frM σ ρ1 := hρ1 ▸ (f1.C (by decide)).U (by decide)
                refine j_aload_n eX12_proves_123 rfl ?_
                refine j_iconst 2 eX12_proves_124 ?_
                refine j_iload_n eX12_proves_125 rfl ?_
                refine j_imul eX12_proves_126 ?_
                refine j_cV1 zX12_puts lkX12_199 ⟨Nat.le_of_ble_eq_true rfl, Nat.le_of_ble_eq_true rfl⟩ ly48 rfl rfl (c_X12_puts (by omega)) (Nat.le_of_ble_eq_true rfl) eX12_proves_127 (k_VE ?_)
                generalize hρ2 : up (up ρ1 62 (ρ1 48 24) (2 * a)) 48 24 (ρ1 48 24 + 1) = ρ2
                have s2 : RL1 ρ2 48 62 24 ((PN_ a ++ [2 * a + 1]) ++ [2 * a]) := hρ2 ▸ s1.put
                rw [PT_2 (by omega)] at s2
                have fr2 : frM σ ρ2 := hρ2 ▸ (fr1.C (by decide)).U (by decide)
                refine j_goto eX12_proves_130 ?_
                refine j_goto eX12_proves_161 ?_
                first
                | (exfalso; omega)
                | (have eT := trR_s (A := AMm σ) (T := σ 56) (len := σ 48 12) (k := k) (nd := a) (pr := pr) (by omega) (by omega) (by omega)
                   rw [eT]
                   refine jv_lv ?_ (ih (k + 1) (2 * a) b pr ρ2 (by omega) (by omega) (by omega) h0 hb fr2 s2)
                   exact lvC rfl (lvC rfl (lvC rfl (lv0))))
                | (have eT := trR_d (A := AMm σ) (T := σ 56) (len := σ 48 12) (k := k) (nd := a) (pr := pr) (by omega) (by omega) (by omega)
                   rw [eT]
                   first
                   | (refine jv_lv ?_ (ih (k + 1) (bhd a) 1 _ σ145 (by omega) (by omega) pt.2 (by omega) ⟨fun _ => by rw [hb.mp (by omega), eA, (h145.2.resolve_right (by omega)).1]; rfl, fun _ => rfl⟩ fr r1)
                      exact lvC rfl (lvC rfl (lvC rfl (lv0))))
                   | (refine jv_lv ?_ (ih (k + 1) (bhd a) 0 _ σ145 (by omega) (by omega) pt.2 (by omega) ⟨fun z => absurd z (by decide), fun z => ?_⟩ fr r1)
                      · exact lvC rfl (lvC rfl (lvC rfl (lv0)))
                      · rw [Bool.and_eq_true, eA] at z
                        exact absurd z.2 (h145.2.resolve_left (by omega)).1)
                   | (refine jv_lv ?_ (ih (k + 1) (bhd a) 0 _ σ145 (by omega) (by omega) pt.2 (by omega) ⟨fun z => absurd z (by decide), fun z => ?_⟩ fr r1)
                      · exact lvC rfl (lvC rfl (lvC rfl (lv0)))
                      · rw [Bool.and_eq_true] at z
                        have z4 := hb.mpr z.1
                        exfalso
                        omega))
            · refine j_bipush (-10) eX12_proves_89 (by decide) ?_
              refine j_iload_n eX12_proves_91 rfl ?_
              refine j_isub eX12_proves_92 ?_
              refine r_iret rfl eX12_proves_93 ?_
              exact ⟨hf, Or.inr ⟨vt, (trR_x (by omega) (by omega) (by omega)).symm⟩⟩
      · have lb := hL k (by omega) (by omega)
        refine j_aload_n eX12_proves_51 rfl ?_
        refine j_getR flX12_32 ly48 rfl eX12_proves_52 ?_
        refine j_iload_n eX12_proves_55 rfl ?_
        refine j_iald ly56 (by omega) eX12_proves_56 ?_
        rw [e56]
        refine j_goto eX12_proves_57 ?_
        refine j_istore eX12_proves_62 (Nat.le_of_ble_eq_true rfl) ?_
        refine j_iload eX12_proves_64 rfl ?_
        refine j_bipush 48 eX12_proves_66 (by decide) ?_
        refine j_bipush 50 eX12_proves_68 (by decide) ?_
        refine j_cS3 zX12_in lkX12_85 ⟨Nat.le_of_ble_eq_true rfl, Nat.le_of_ble_eq_true rfl⟩ (c_X12_in (by omega)) (Nat.le_of_ble_eq_true rfl) eX12_proves_70 (k_B (fun h70 => ?_) (fun h70 => ?_))
        · refine j_ifne_1 eX12_proves_73 ?_
          refine j_aload_n eX12_proves_94 rfl ?_
          refine j_dup rfl eX12_proves_95 ?_
          refine j_getI flX12_193 ly48 rfl eX12_proves_96 ?_
          refine j_iconst 1 eX12_proves_99 ?_
          refine j_isub eX12_proves_100 ?_
          refine j_putI fpX12_193 ly48 rfl eX12_proves_101 ?_
          have p1 := hp.pop.1
          generalize hτ1 : up τ 48 24 (τ 48 24 - 1) = τ1 at *
          have f1 : frM σ τ1 := hτ1 ▸ hf.U (by decide)
          have p3 := p1.1
          refine j_iinc eX12_proves_104 rfl (Nat.le_of_ble_eq_true rfl) ?_
          refine j_iload eX12_proves_107 rfl ?_
          refine j_bipush 115 eX12_proves_109 (by decide) ?_
          refine j_icmp_ne eX12_proves_111 (by omega) (fun h111 => ?_) (fun h111 => ?_)
          · have M1 := f1.TM hM
            have V1 := f1.VT vt
            refine j_aload_n eX12_proves_133 rfl ?_
            refine j_aload_n eX12_proves_134 rfl ?_
            refine j_getI flX12_79 ly48 rfl eX12_proves_135 ?_
            refine j_iload_n eX12_proves_138 rfl ?_
            refine j_iload eX12_proves_139 rfl ?_
            refine j_bipush 48 eX12_proves_141 (by decide) ?_
            refine j_isub eX12_proves_143 ?_
            refine j_iconst 1 eX12_proves_144 ?_
            refine j_cV4 zX12_isAbove lkX12_212 ⟨Nat.le_of_ble_eq_true rfl, Nat.le_of_ble_eq_true rfl⟩ ly48 rfl rfl (c_X12_isAbove (by exact M1) (by exact V1.1) (by exact na) (by exact V1.2) (by omega) (by omega)) (Nat.le_of_ble_eq_true rfl) eX12_proves_145 (k_I (fun v145 σ145 h145 => ?_))
            rw [f1.A, f1.2 6 (by decide)] at h145
            have fr := f1.L h145.1
            have r1 := p1.L h145.1
            have pt := PT_b na
            rw [pt.1] at r1
            have eA : AMm σ a (σ 56 k - 48).toNat = ABM σ (σ 48 6) a (σ 56 k - 48) 1 := by unfold AMm; rw [show (((σ 56 k - 48).toNat : Nat) : Int) = σ 56 k - 48 from by omega]
            refine j_if_eq eX12_proves_148 (by omega) (fun h148 => ?_) (fun h148 => ?_)
            · refine j_iconst 0 eX12_proves_159 ?_
              refine j_istore_n eX12_proves_160 (Nat.le_of_ble_eq_true rfl) ?_
              refine j_goto eX12_proves_161 ?_
              first
              | (exfalso; omega)
              | (have eT := trR_s (A := AMm σ) (T := σ 56) (len := σ 48 12) (k := k) (nd := a) (pr := pr) (by omega) (by omega) (by omega)
                 rw [eT]
                 refine jv_lv ?_ (ih (k + 1) (2 * a) b pr ρ2 (by omega) (by omega) (by omega) h0 hb fr2 s2)
                 exact lvC rfl (lvC rfl (lvC rfl (lv0))))
              | (have eT := trR_d (A := AMm σ) (T := σ 56) (len := σ 48 12) (k := k) (nd := a) (pr := pr) (by omega) (by omega) (by omega)
                 rw [eT]
                 first
                 | (refine jv_lv ?_ (ih (k + 1) (bhd a) 1 _ σ145 (by omega) (by omega) pt.2 (by omega) ⟨fun _ => by rw [hb.mp (by omega), eA, (h145.2.resolve_right (by omega)).1]; rfl, fun _ => rfl⟩ fr r1)
                    exact lvC rfl (lvC rfl (lvC rfl (lv0))))
                 | (refine jv_lv ?_ (ih (k + 1) (bhd a) 0 _ σ145 (by omega) (by omega) pt.2 (by omega) ⟨fun z => absurd z (by decide), fun z => ?_⟩ fr r1)
                    · exact lvC rfl (lvC rfl (lvC rfl (lv0)))
                    · rw [Bool.and_eq_true, eA] at z
                      exact absurd z.2 (h145.2.resolve_left (by omega)).1)
                 | (refine jv_lv ?_ (ih (k + 1) (bhd a) 0 _ σ145 (by omega) (by omega) pt.2 (by omega) ⟨fun z => absurd z (by decide), fun z => ?_⟩ fr r1)
                    · exact lvC rfl (lvC rfl (lvC rfl (lv0)))
                    · rw [Bool.and_eq_true] at z
                      have z4 := hb.mpr z.1
                      exfalso
                      omega))
            · refine j_iload_n eX12_proves_151 rfl ?_
              refine j_if_eq eX12_proves_152 (by omega) (fun h152 => ?_) (fun h152 => ?_)
              · refine j_iconst 0 eX12_proves_159 ?_
                refine j_istore_n eX12_proves_160 (Nat.le_of_ble_eq_true rfl) ?_
                refine j_goto eX12_proves_161 ?_
                first
                | (exfalso; omega)
                | (have eT := trR_s (A := AMm σ) (T := σ 56) (len := σ 48 12) (k := k) (nd := a) (pr := pr) (by omega) (by omega) (by omega)
                   rw [eT]
                   refine jv_lv ?_ (ih (k + 1) (2 * a) b pr ρ2 (by omega) (by omega) (by omega) h0 hb fr2 s2)
                   exact lvC rfl (lvC rfl (lvC rfl (lv0))))
                | (have eT := trR_d (A := AMm σ) (T := σ 56) (len := σ 48 12) (k := k) (nd := a) (pr := pr) (by omega) (by omega) (by omega)
                   rw [eT]
                   first
                   | (refine jv_lv ?_ (ih (k + 1) (bhd a) 1 _ σ145 (by omega) (by omega) pt.2 (by omega) ⟨fun _ => by rw [hb.mp (by omega), eA, (h145.2.resolve_right (by omega)).1]; rfl, fun _ => rfl⟩ fr r1)
                      exact lvC rfl (lvC rfl (lvC rfl (lv0))))
                   | (refine jv_lv ?_ (ih (k + 1) (bhd a) 0 _ σ145 (by omega) (by omega) pt.2 (by omega) ⟨fun z => absurd z (by decide), fun z => ?_⟩ fr r1)
                      · exact lvC rfl (lvC rfl (lvC rfl (lv0)))
                      · rw [Bool.and_eq_true, eA] at z
                        exact absurd z.2 (h145.2.resolve_left (by omega)).1)
                   | (refine jv_lv ?_ (ih (k + 1) (bhd a) 0 _ σ145 (by omega) (by omega) pt.2 (by omega) ⟨fun z => absurd z (by decide), fun z => ?_⟩ fr r1)
                      · exact lvC rfl (lvC rfl (lvC rfl (lv0)))
                      · rw [Bool.and_eq_true] at z
                        have z4 := hb.mpr z.1
                        exfalso
                        omega))
              · refine j_iconst 1 eX12_proves_155 ?_
                refine j_goto eX12_proves_156 ?_
                refine j_istore_n eX12_proves_160 (Nat.le_of_ble_eq_true rfl) ?_
                refine j_goto eX12_proves_161 ?_
                first
                | (exfalso; omega)
                | (have eT := trR_s (A := AMm σ) (T := σ 56) (len := σ 48 12) (k := k) (nd := a) (pr := pr) (by omega) (by omega) (by omega)
                   rw [eT]
                   refine jv_lv ?_ (ih (k + 1) (2 * a) b pr ρ2 (by omega) (by omega) (by omega) h0 hb fr2 s2)
                   exact lvC rfl (lvC rfl (lvC rfl (lv0))))
                | (have eT := trR_d (A := AMm σ) (T := σ 56) (len := σ 48 12) (k := k) (nd := a) (pr := pr) (by omega) (by omega) (by omega)
                   rw [eT]
                   first
                   | (refine jv_lv ?_ (ih (k + 1) (bhd a) 1 _ σ145 (by omega) (by omega) pt.2 (by omega) ⟨fun _ => by rw [hb.mp (by omega), eA, (h145.2.resolve_right (by omega)).1]; rfl, fun _ => rfl⟩ fr r1)
                      exact lvC rfl (lvC rfl (lvC rfl (lv0))))
                   | (refine jv_lv ?_ (ih (k + 1) (bhd a) 0 _ σ145 (by omega) (by omega) pt.2 (by omega) ⟨fun z => absurd z (by decide), fun z => ?_⟩ fr r1)
                      · exact lvC rfl (lvC rfl (lvC rfl (lv0)))
                      · rw [Bool.and_eq_true, eA] at z
                        exact absurd z.2 (h145.2.resolve_left (by omega)).1)
                   | (refine jv_lv ?_ (ih (k + 1) (bhd a) 0 _ σ145 (by omega) (by omega) pt.2 (by omega) ⟨fun z => absurd z (by decide), fun z => ?_⟩ fr r1)
                      · exact lvC rfl (lvC rfl (lvC rfl (lv0)))
                      · rw [Bool.and_eq_true] at z
                        have z4 := hb.mpr z.1
                        exfalso
                        omega))
          · refine j_aload_n eX12_proves_114 rfl ?_
            refine j_iconst 2 eX12_proves_115 ?_
            refine j_iload_n eX12_proves_116 rfl ?_
            refine j_imul eX12_proves_117 ?_
            refine j_iconst 1 eX12_proves_118 ?_
            refine j_iadd eX12_proves_119 ?_
            refine j_cV1 zX12_puts lkX12_199 ⟨Nat.le_of_ble_eq_true rfl, Nat.le_of_ble_eq_true rfl⟩ ly48 rfl rfl (c_X12_puts (by omega)) (Nat.le_of_ble_eq_true rfl) eX12_proves_120 (k_VE ?_)
            generalize hρ1 : up (up τ1 62 (τ1 48 24) (2 * a + 1)) 48 24 (τ1 48 24 + 1) = ρ1
            have s1 : RL1 ρ1 48 62 24 (PN_ a ++ [2 * a + 1]) := hρ1 ▸ p1.put
            have e1 := s1.1
            rw [List.length_append] at e1
            have e1 : ρ1 48 24 = ((PN_ a).length + 1 : Nat) := e1
            have fr1 : frM σ ρ1 := hρ1 ▸ (f1.C (by decide)).U (by decide)
            refine j_aload_n eX12_proves_123 rfl ?_
            refine j_iconst 2 eX12_proves_124 ?_
            refine j_iload_n eX12_proves_125 rfl ?_
            refine j_imul eX12_proves_126 ?_
            refine j_cV1 zX12_puts lkX12_199 ⟨Nat.le_of_ble_eq_true rfl, Nat.le_of_ble_eq_true rfl⟩ ly48 rfl rfl (c_X12_puts (by omega)) (Nat.le_of_ble_eq_true rfl) eX12_proves_127 (k_VE ?_)
            generalize hρ2 : up (up ρ1 62 (ρ1 48 24) (2 * a)) 48 24 (ρ1 48 24 + 1) = ρ2
            have s2 : RL1 ρ2 48 62 24 ((PN_ a ++ [2 * a + 1]) ++ [2 * a]) := hρ2 ▸ s1.put
            rw [PT_2 (by omega)] at s2
            have fr2 : frM σ ρ2 := hρ2 ▸ (fr1.C (by decide)).U (by decide)
            refine j_goto eX12_proves_130 ?_
            refine j_goto eX12_proves_161 ?_
            first
            | (exfalso; omega)
            | (have eT := trR_s (A := AMm σ) (T := σ 56) (len := σ 48 12) (k := k) (nd := a) (pr := pr) (by omega) (by omega) (by omega)
               rw [eT]
               refine jv_lv ?_ (ih (k + 1) (2 * a) b pr ρ2 (by omega) (by omega) (by omega) h0 hb fr2 s2)
               exact lvC rfl (lvC rfl (lvC rfl (lv0))))
            | (have eT := trR_d (A := AMm σ) (T := σ 56) (len := σ 48 12) (k := k) (nd := a) (pr := pr) (by omega) (by omega) (by omega)
               rw [eT]
               first
               | (refine jv_lv ?_ (ih (k + 1) (bhd a) 1 _ σ145 (by omega) (by omega) pt.2 (by omega) ⟨fun _ => by rw [hb.mp (by omega), eA, (h145.2.resolve_right (by omega)).1]; rfl, fun _ => rfl⟩ fr r1)
                  exact lvC rfl (lvC rfl (lvC rfl (lv0))))
               | (refine jv_lv ?_ (ih (k + 1) (bhd a) 0 _ σ145 (by omega) (by omega) pt.2 (by omega) ⟨fun z => absurd z (by decide), fun z => ?_⟩ fr r1)
                  · exact lvC rfl (lvC rfl (lvC rfl (lv0)))
                  · rw [Bool.and_eq_true, eA] at z
                    exact absurd z.2 (h145.2.resolve_left (by omega)).1)
               | (refine jv_lv ?_ (ih (k + 1) (bhd a) 0 _ σ145 (by omega) (by omega) pt.2 (by omega) ⟨fun z => absurd z (by decide), fun z => ?_⟩ fr r1)
                  · exact lvC rfl (lvC rfl (lvC rfl (lv0)))
                  · rw [Bool.and_eq_true] at z
                    have z4 := hb.mpr z.1
                    exfalso
                    omega))
        · refine j_ifne_0 eX12_proves_73 ?_
          refine j_iload eX12_proves_76 rfl ?_
          refine j_bipush 115 eX12_proves_78 (by decide) ?_
          refine j_icmp_ne eX12_proves_80 (by omega) (fun h80 => ?_) (fun h80 => ?_)
          · refine j_bipush (-10) eX12_proves_89 (by decide) ?_
            refine j_iload_n eX12_proves_91 rfl ?_
            refine j_isub eX12_proves_92 ?_
            refine r_iret rfl eX12_proves_93 ?_
            exact ⟨hf, Or.inr ⟨vt, (trR_x (by omega) (by omega) (by omega)).symm⟩⟩
          · refine j_iload_n eX12_proves_83 rfl ?_
            refine j_bipush 64 eX12_proves_84 (by decide) ?_
            refine j_icmp_lt eX12_proves_86 (by omega) (fun h86 => ?_) (fun h86 => ?_)
            · refine j_aload_n eX12_proves_94 rfl ?_
              refine j_dup rfl eX12_proves_95 ?_
              refine j_getI flX12_193 ly48 rfl eX12_proves_96 ?_
              refine j_iconst 1 eX12_proves_99 ?_
              refine j_isub eX12_proves_100 ?_
              refine j_putI fpX12_193 ly48 rfl eX12_proves_101 ?_
              have p1 := hp.pop.1
              generalize hτ1 : up τ 48 24 (τ 48 24 - 1) = τ1 at *
              have f1 : frM σ τ1 := hτ1 ▸ hf.U (by decide)
              have p3 := p1.1
              refine j_iinc eX12_proves_104 rfl (Nat.le_of_ble_eq_true rfl) ?_
              refine j_iload eX12_proves_107 rfl ?_
              refine j_bipush 115 eX12_proves_109 (by decide) ?_
              refine j_icmp_ne eX12_proves_111 (by omega) (fun h111 => ?_) (fun h111 => ?_)
              · have M1 := f1.TM hM
                have V1 := f1.VT vt
                refine j_aload_n eX12_proves_133 rfl ?_
                refine j_aload_n eX12_proves_134 rfl ?_
                refine j_getI flX12_79 ly48 rfl eX12_proves_135 ?_
                refine j_iload_n eX12_proves_138 rfl ?_
                refine j_iload eX12_proves_139 rfl ?_
                refine j_bipush 48 eX12_proves_141 (by decide) ?_
                refine j_isub eX12_proves_143 ?_
                refine j_iconst 1 eX12_proves_144 ?_
                refine j_cV4 zX12_isAbove lkX12_212 ⟨Nat.le_of_ble_eq_true rfl, Nat.le_of_ble_eq_true rfl⟩ ly48 rfl rfl (c_X12_isAbove (by exact M1) (by exact V1.1) (by exact na) (by exact V1.2) (by omega) (by omega)) (Nat.le_of_ble_eq_true rfl) eX12_proves_145 (k_I (fun v145 σ145 h145 => ?_))
                rw [f1.A, f1.2 6 (by decide)] at h145
                have fr := f1.L h145.1
                have r1 := p1.L h145.1
                have pt := PT_b na
                rw [pt.1] at r1
                have eA : AMm σ a (σ 56 k - 48).toNat = ABM σ (σ 48 6) a (σ 56 k - 48) 1 := by unfold AMm; rw [show (((σ 56 k - 48).toNat : Nat) : Int) = σ 56 k - 48 from by omega]
                refine j_if_eq eX12_proves_148 (by omega) (fun h148 => ?_) (fun h148 => ?_)
                · refine j_iconst 0 eX12_proves_159 ?_
                  refine j_istore_n eX12_proves_160 (Nat.le_of_ble_eq_true rfl) ?_
                  refine j_goto eX12_proves_161 ?_
                  first
                  | (exfalso; omega)
                  | (have eT := trR_s (A := AMm σ) (T := σ 56) (len := σ 48 12) (k := k) (nd := a) (pr := pr) (by omega) (by omega) (by omega)
                     rw [eT]
                     refine jv_lv ?_ (ih (k + 1) (2 * a) b pr ρ2 (by omega) (by omega) (by omega) h0 hb fr2 s2)
                     exact lvC rfl (lvC rfl (lvC rfl (lv0))))
                  | (have eT := trR_d (A := AMm σ) (T := σ 56) (len := σ 48 12) (k := k) (nd := a) (pr := pr) (by omega) (by omega) (by omega)
                     rw [eT]
                     first
                     | (refine jv_lv ?_ (ih (k + 1) (bhd a) 1 _ σ145 (by omega) (by omega) pt.2 (by omega) ⟨fun _ => by rw [hb.mp (by omega), eA, (h145.2.resolve_right (by omega)).1]; rfl, fun _ => rfl⟩ fr r1)
                        exact lvC rfl (lvC rfl (lvC rfl (lv0))))
                     | (refine jv_lv ?_ (ih (k + 1) (bhd a) 0 _ σ145 (by omega) (by omega) pt.2 (by omega) ⟨fun z => absurd z (by decide), fun z => ?_⟩ fr r1)
                        · exact lvC rfl (lvC rfl (lvC rfl (lv0)))
                        · rw [Bool.and_eq_true, eA] at z
                          exact absurd z.2 (h145.2.resolve_left (by omega)).1)
                     | (refine jv_lv ?_ (ih (k + 1) (bhd a) 0 _ σ145 (by omega) (by omega) pt.2 (by omega) ⟨fun z => absurd z (by decide), fun z => ?_⟩ fr r1)
                        · exact lvC rfl (lvC rfl (lvC rfl (lv0)))
                        · rw [Bool.and_eq_true] at z
                          have z4 := hb.mpr z.1
                          exfalso
                          omega))
                · refine j_iload_n eX12_proves_151 rfl ?_
                  refine j_if_eq eX12_proves_152 (by omega) (fun h152 => ?_) (fun h152 => ?_)
                  · refine j_iconst 0 eX12_proves_159 ?_
                    refine j_istore_n eX12_proves_160 (Nat.le_of_ble_eq_true rfl) ?_
                    refine j_goto eX12_proves_161 ?_
                    first
                    | (exfalso; omega)
                    | (have eT := trR_s (A := AMm σ) (T := σ 56) (len := σ 48 12) (k := k) (nd := a) (pr := pr) (by omega) (by omega) (by omega)
                       rw [eT]
                       refine jv_lv ?_ (ih (k + 1) (2 * a) b pr ρ2 (by omega) (by omega) (by omega) h0 hb fr2 s2)
                       exact lvC rfl (lvC rfl (lvC rfl (lv0))))
                    | (have eT := trR_d (A := AMm σ) (T := σ 56) (len := σ 48 12) (k := k) (nd := a) (pr := pr) (by omega) (by omega) (by omega)
                       rw [eT]
                       first
                       | (refine jv_lv ?_ (ih (k + 1) (bhd a) 1 _ σ145 (by omega) (by omega) pt.2 (by omega) ⟨fun _ => by rw [hb.mp (by omega), eA, (h145.2.resolve_right (by omega)).1]; rfl, fun _ => rfl⟩ fr r1)
                          exact lvC rfl (lvC rfl (lvC rfl (lv0))))
                       | (refine jv_lv ?_ (ih (k + 1) (bhd a) 0 _ σ145 (by omega) (by omega) pt.2 (by omega) ⟨fun z => absurd z (by decide), fun z => ?_⟩ fr r1)
                          · exact lvC rfl (lvC rfl (lvC rfl (lv0)))
                          · rw [Bool.and_eq_true, eA] at z
                            exact absurd z.2 (h145.2.resolve_left (by omega)).1)
                       | (refine jv_lv ?_ (ih (k + 1) (bhd a) 0 _ σ145 (by omega) (by omega) pt.2 (by omega) ⟨fun z => absurd z (by decide), fun z => ?_⟩ fr r1)
                          · exact lvC rfl (lvC rfl (lvC rfl (lv0)))
                          · rw [Bool.and_eq_true] at z
                            have z4 := hb.mpr z.1
                            exfalso
                            omega))
                  · refine j_iconst 1 eX12_proves_155 ?_
                    refine j_goto eX12_proves_156 ?_
                    refine j_istore_n eX12_proves_160 (Nat.le_of_ble_eq_true rfl) ?_
                    refine j_goto eX12_proves_161 ?_
                    first
                    | (exfalso; omega)
                    | (have eT := trR_s (A := AMm σ) (T := σ 56) (len := σ 48 12) (k := k) (nd := a) (pr := pr) (by omega) (by omega) (by omega)
                       rw [eT]
                       refine jv_lv ?_ (ih (k + 1) (2 * a) b pr ρ2 (by omega) (by omega) (by omega) h0 hb fr2 s2)
                       exact lvC rfl (lvC rfl (lvC rfl (lv0))))
                    | (have eT := trR_d (A := AMm σ) (T := σ 56) (len := σ 48 12) (k := k) (nd := a) (pr := pr) (by omega) (by omega) (by omega)
                       rw [eT]
                       first
                       | (refine jv_lv ?_ (ih (k + 1) (bhd a) 1 _ σ145 (by omega) (by omega) pt.2 (by omega) ⟨fun _ => by rw [hb.mp (by omega), eA, (h145.2.resolve_right (by omega)).1]; rfl, fun _ => rfl⟩ fr r1)
                          exact lvC rfl (lvC rfl (lvC rfl (lv0))))
                       | (refine jv_lv ?_ (ih (k + 1) (bhd a) 0 _ σ145 (by omega) (by omega) pt.2 (by omega) ⟨fun z => absurd z (by decide), fun z => ?_⟩ fr r1)
                          · exact lvC rfl (lvC rfl (lvC rfl (lv0)))
                          · rw [Bool.and_eq_true, eA] at z
                            exact absurd z.2 (h145.2.resolve_left (by omega)).1)
                       | (refine jv_lv ?_ (ih (k + 1) (bhd a) 0 _ σ145 (by omega) (by omega) pt.2 (by omega) ⟨fun z => absurd z (by decide), fun z => ?_⟩ fr r1)
                          · exact lvC rfl (lvC rfl (lvC rfl (lv0)))
                          · rw [Bool.and_eq_true] at z
                            have z4 := hb.mpr z.1
                            exfalso
                            omega))
              · refine j_aload_n eX12_proves_114 rfl ?_
                refine j_iconst 2 eX12_proves_115 ?_
                refine j_iload_n eX12_proves_116 rfl ?_
                refine j_imul eX12_proves_117 ?_
                refine j_iconst 1 eX12_proves_118 ?_
                refine j_iadd eX12_proves_119 ?_
                refine j_cV1 zX12_puts lkX12_199 ⟨Nat.le_of_ble_eq_true rfl, Nat.le_of_ble_eq_true rfl⟩ ly48 rfl rfl (c_X12_puts (by omega)) (Nat.le_of_ble_eq_true rfl) eX12_proves_120 (k_VE ?_)
                generalize hρ1 : up (up τ1 62 (τ1 48 24) (2 * a + 1)) 48 24 (τ1 48 24 + 1) = ρ1
                have s1 : RL1 ρ1 48 62 24 (PN_ a ++ [2 * a + 1]) := hρ1 ▸ p1.put
                have e1 := s1.1
                rw [List.length_append] at e1
                have e1 : ρ1 48 24 = ((PN_ a).length + 1 : Nat) := e1
                have fr1 : frM σ ρ1 := hρ1 ▸ (f1.C (by decide)).U (by decide)
                refine j_aload_n eX12_proves_123 rfl ?_
                refine j_iconst 2 eX12_proves_124 ?_
                refine j_iload_n eX12_proves_125 rfl ?_
                refine j_imul eX12_proves_126 ?_
                refine j_cV1 zX12_puts lkX12_199 ⟨Nat.le_of_ble_eq_true rfl, Nat.le_of_ble_eq_true rfl⟩ ly48 rfl rfl (c_X12_puts (by omega)) (Nat.le_of_ble_eq_true rfl) eX12_proves_127 (k_VE ?_)
                generalize hρ2 : up (up ρ1 62 (ρ1 48 24) (2 * a)) 48 24 (ρ1 48 24 + 1) = ρ2
                have s2 : RL1 ρ2 48 62 24 ((PN_ a ++ [2 * a + 1]) ++ [2 * a]) := hρ2 ▸ s1.put
                rw [PT_2 (by omega)] at s2
                have fr2 : frM σ ρ2 := hρ2 ▸ (fr1.C (by decide)).U (by decide)
                refine j_goto eX12_proves_130 ?_
                refine j_goto eX12_proves_161 ?_
                first
                | (exfalso; omega)
                | (have eT := trR_s (A := AMm σ) (T := σ 56) (len := σ 48 12) (k := k) (nd := a) (pr := pr) (by omega) (by omega) (by omega)
                   rw [eT]
                   refine jv_lv ?_ (ih (k + 1) (2 * a) b pr ρ2 (by omega) (by omega) (by omega) h0 hb fr2 s2)
                   exact lvC rfl (lvC rfl (lvC rfl (lv0))))
                | (have eT := trR_d (A := AMm σ) (T := σ 56) (len := σ 48 12) (k := k) (nd := a) (pr := pr) (by omega) (by omega) (by omega)
                   rw [eT]
                   first
                   | (refine jv_lv ?_ (ih (k + 1) (bhd a) 1 _ σ145 (by omega) (by omega) pt.2 (by omega) ⟨fun _ => by rw [hb.mp (by omega), eA, (h145.2.resolve_right (by omega)).1]; rfl, fun _ => rfl⟩ fr r1)
                      exact lvC rfl (lvC rfl (lvC rfl (lv0))))
                   | (refine jv_lv ?_ (ih (k + 1) (bhd a) 0 _ σ145 (by omega) (by omega) pt.2 (by omega) ⟨fun z => absurd z (by decide), fun z => ?_⟩ fr r1)
                      · exact lvC rfl (lvC rfl (lvC rfl (lv0)))
                      · rw [Bool.and_eq_true, eA] at z
                        exact absurd z.2 (h145.2.resolve_left (by omega)).1)
                   | (refine jv_lv ?_ (ih (k + 1) (bhd a) 0 _ σ145 (by omega) (by omega) pt.2 (by omega) ⟨fun z => absurd z (by decide), fun z => ?_⟩ fr r1)
                      · exact lvC rfl (lvC rfl (lvC rfl (lv0)))
                      · rw [Bool.and_eq_true] at z
                        have z4 := hb.mpr z.1
                        exfalso
                        omega))
            · refine j_bipush (-10) eX12_proves_89 (by decide) ?_
              refine j_iload_n eX12_proves_91 rfl ?_
              refine j_isub eX12_proves_92 ?_
              refine r_iret rfl eX12_proves_93 ?_
              exact ⟨hf, Or.inr ⟨vt, (trR_x (by omega) (by omega) (by omega)).symm⟩⟩
theorem c_X12_proves {g : Gl} {σ : Sg} (hM : TM σ) (hk : (0 ≤ σ 48 6 ∧ σ 48 6 ≤ 2) ∧ 0 ≤ σ 48 7 ∧ σ 48 7 ≤ 2) (hT : 0 ≤ σ 48 12 ∧ σ 48 12 ≤ 120) (hL : ∀ i, 0 ≤ i → i < σ 48 12 → 0 ≤ σ 56 i ∧ σ 56 i ≤ 255) : Ct g mX12_proves [vr g 48] σ (PI (fun v σ' => frM σ σ' ∧ ((¬ ((0 ≤ σ 48 6 ∧ σ 48 6 < σ 49 0) ∧ 0 ≤ σ 48 7 ∧ σ 48 7 < σ 49 1) ∧ v = -2) ∨ (((0 ≤ σ 48 6 ∧ σ 48 6 < σ 49 0) ∧ 0 ≤ σ 48 7 ∧ σ 48 7 < σ 49 1) ∧ v = trR (AMm σ) (σ 56) (σ 48 12) (σ 48 12).toNat 0 1 true)))) := by
  refine Ct.of (by decide +kernel) (Nat.le_of_ble_eq_true rfl) ?_
  show jv g _ _ σ [(0, vr g 48)] 0 []
  refine j_aload_n eX12_proves_0 rfl ?_
  refine j_cV0 zX12_isTaken lkX12_175 ⟨Nat.le_of_ble_eq_true rfl, Nat.le_of_ble_eq_true rfl⟩ ly48 rfl rfl (c_X12_isTaken (by exact hM) (by exact hk)) (Nat.le_of_ble_eq_true rfl) eX12_proves_1 (k_B (fun h1 => ?_) (fun h1 => ?_))
  · refine j_ifne_1 eX12_proves_4 ?_
    refine j_aload_n eX12_proves_10 rfl ?_
    refine j_iconst 0 eX12_proves_11 ?_
    refine j_putI fpX12_193 ly48 rfl eX12_proves_12 ?_
    refine j_aload_n eX12_proves_15 rfl ?_
    refine j_iconst 1 eX12_proves_16 ?_
    refine j_cV1 zX12_puts lkX12_199 ⟨Nat.le_of_ble_eq_true rfl, Nat.le_of_ble_eq_true rfl⟩ ly48 rfl rfl (c_X12_puts (by exact (show (0 : Int) ≤ 0 ∧ (0 : Int) < 400 by decide))) (Nat.le_of_ble_eq_true rfl) eX12_proves_17 (k_VE ?_)
    refine j_iconst 0 eX12_proves_20 ?_
    refine j_istore_n eX12_proves_21 (Nat.le_of_ble_eq_true rfl) ?_
    refine j_iconst 1 eX12_proves_22 ?_
    refine j_istore_n eX12_proves_23 (Nat.le_of_ble_eq_true rfl) ?_
    have vt : VTm σ := h1
    generalize hρ1 : up (up (up σ 48 24 0) 62 ((up σ 48 24 0) 48 24) 1) 48 24 ((up σ 48 24 0) 48 24 + 1) = ρ1
    have e := l_X12_proves (g := g) hM hk hT hL vt 122 0 1 1 true ρ1 (by omega) (by omega) (by omega) (by omega) (by decide) (hρ1 ▸ (((frM.rf σ).U (by decide)).C (by decide)).U (by decide)) (by rw [← hρ1, show PT 1 = [] ++ [1] from by decide]; exact RL1.put (P := []) (τ := up σ 48 24 0) (RL1_0 rfl))
    rw [Int.sub_zero] at e
    refine jv_lv ?_ e
    exact lvC rfl (lvC rfl (lvC rfl (lv0)))
  · refine j_ifne_0 eX12_proves_4 ?_
    refine j_bipush (-2) eX12_proves_7 (by decide) ?_
    refine r_iret rfl eX12_proves_9 ?_
    exact ⟨frM.rf σ, Or.inl ⟨h1, rfl⟩⟩
