/-! the class's public face: words for its answers -/
def FR (u l w : Int) : Int := Int.tdiv (if w = 0 then u else l) (Int.gcd u l)
def scX (σ σ' : Sg) : Prop := ∀ k, (k < 35 ∨ 47 < k) → σ' k = σ k
def pw2 (p : Int) : Int := 2 ^ p.toNat
theorem ishl_1 {p : Int} (h : 0 ≤ p ∧ p ≤ 2) : kI 1 <<< (kI p &&& 31) = kI (pw2 p) := by
  rcases (show p = 0 ∨ p = 1 ∨ p = 2 by omega) with rfl | rfl | rfl <;> decide
theorem ior_tab : ∀ (p : Fin 3) (a : Fin 8), a.1 < 2 ^ p.1 → kI (a.1 : Int) ||| kI (pw2 (p.1 : Int)) = kI ((a.1 : Int) + pw2 (p.1 : Int)) := by decide +kernel
theorem pw2_b {p : Int} (h : 0 ≤ p ∧ p ≤ 2) : 1 ≤ pw2 p ∧ pw2 p ≤ 4 ∧ pw2 (p + 1) = 2 * pw2 p := by
  rcases (show p = 0 ∨ p = 1 ∨ p = 2 by omega) with rfl | rfl | rfl <;> decide
theorem ior_b {p a : Int} (h : 0 ≤ p ∧ p ≤ 2) (ha : 0 ≤ a ∧ a < pw2 p) : kI a ||| kI (pw2 p) = kI (a + pw2 p) := by
  have q := pw2_b h
  have e : pw2 p = ((2 ^ p.toNat : Nat) : Int) := by unfold pw2; rw [Int.natCast_pow]; rfl
  have w := ior_tab ⟨p.toNat, by omega⟩ ⟨a.toNat, by omega⟩ (by simp only; omega)
  simp only at w
  rw [show ((p.toNat : Nat) : Int) = p from by omega, show ((a.toNat : Nat) : Int) = a from by omega] at w
  exact w
def unF (F : Int → Bool) : Nat → Int → Int → Int
  | 0, _, a => a
  | t + 1, p, a => unF F t (p + 1) (if F p = true then a + pw2 p else a)
noncomputable def FTb (P : Int → Prop) : Int → Bool := fun p => @decide (P p) (Classical.propDecidable _)
theorem FTb_t {P : Int → Prop} {p : Int} (h : P p) : FTb P p = true := @decide_eq_true _ (Classical.propDecidable _) h
theorem FTb_f {P : Int → Prop} {p : Int} (h : ¬ P p) : ¬ FTb P p = true := fun z => h (@of_decide_eq_true _ (Classical.propDecidable _) z)
def FtX (σ : Sg) (p : Int) : Prop := ∀ k, 0 ≤ k → k < σ 31 2 → sgn (hn (fX σ p) (σ 32 k) (σ 1 p).toNat 0) = σ 33 k
def kset (a i : Int) : Int := if i = 0 then a / 2 * 2 + 1 else a % 2 + 2
def kbit (a i : Int) : Int := if i = 0 then a % 2 else a / 2
theorem kset_tab : ∀ (a : Fin 4), kI (a.1 : Int) ||| kI 1 = kI (kset (a.1 : Int) 0) ∧ kI (a.1 : Int) ||| kI 2 = kI (kset (a.1 : Int) 1) ∧ kI (a.1 : Int) >>> (kI 0 &&& 31) = kI (a.1 : Int) ∧ kI (a.1 : Int) >>> (kI 1 &&& 31) = kI ((a.1 : Int) / 2) ∧ kI (a.1 : Int) &&& kI 1 = kI (kbit (a.1 : Int) 0) ∧ kI ((a.1 : Int) / 2) &&& kI 1 = kI (kbit (a.1 : Int) 1) := by decide +kernel
theorem kset_o {a : Int} (h : 0 ≤ a ∧ a ≤ 3) : kI a ||| kI 1 = kI (kset a 0) ∧ kI a ||| kI 2 = kI (kset a 1) ∧ kI a >>> (kI 0 &&& 31) = kI a ∧ kI a >>> (kI 1 &&& 31) = kI (a / 2) ∧ kI a &&& kI 1 = kI (kbit a 0) ∧ kI (a / 2) &&& kI 1 = kI (kbit a 1) := by
  have w := kset_tab ⟨a.toNat, by omega⟩
  simp only at w
  rw [show ((a.toNat : Nat) : Int) = a from by omega] at w
  exact w
theorem kbit_b {a i : Int} (h : 0 ≤ a ∧ a ≤ 3) : 0 ≤ kbit a i ∧ kbit a i ≤ 1 := by
  unfold kbit
  split <;> omega
/-- what house() leaves, where it read well -/
def HsX (σ σ' : Sg) (S : Rst) : Prop := (σ' 0 0 = S.2.2.2.1.length ∧ σ' 0 1 = S.2.2.2.2.length ∧ (∀ (q : Nat) (l : List Int), S.2.2.2.1[q]? = some l → σ' 1 q = l.length ∧ σ' 3 q = 0 ∧ ∀ (k : Nat) (x : Int), l[k]? = some x → σ' 2 ((q : Int) * 6 + k) = x) ∧ (∀ (i : Nat) (q : Int × Int), S.2.2.2.2[i]? = some q → σ' 4 i = q.1 ∧ σ' 5 i = q.2)) ∧ σ' 25 1 = 0 ∧ σ' 27 1 = 0 ∧ σ' 27 2 = 0 ∧ σ' 28 1 = 0 ∧ σ' 24 5 = 0 ∧ σ' 31 2 = 0 ∧ ((σ' 34 3 = 0 ∨ σ' 34 3 = 1) ∧ 0 ≤ σ' 34 2 ∧ σ' 34 2 ≤ 6) ∧ ∀ k, 34 < k → σ' k = σ k
theorem HsX_of {σ τ ρ : Sg} {S : Rst} (hf : fr18 σ τ) (hA : AR τ S) (hW : WF S) (h0 : S.1 = 0) (hB : Bec τ ρ 0 18) : HsX σ (up (up (up (up (up (up ρ 25 1 0) 27 1 0) 27 2 0) 28 1 0) 24 5 0) 31 2 0) S := by
  obtain ⟨it, ns, ng, ps, bs⟩ := S
  simp only at h0
  subst h0
  obtain ⟨a1, a2, a3, a4, a5, a6, a7, a8⟩ := hA
  obtain ⟨b0, b1, b2, b3, b4, b5, b6, b7⟩ := hB
  have e1 : aP (0, ns, ng, ps, bs) = ps := rfl
  have e3 : aB (0, ns, ng, ps, bs) = bs := rfl
  have w2 := hW.2.1
  have w3 := hW.2.2.1
  have w7 := hW.2.2.2.2.2.2.1
  rw [e1] at a5 a7 w2
  rw [e3] at a6 a8
  simp only at w3 w7
  refine ⟨⟨?_, ?_, ?_, ?_⟩, rfl, rfl, rfl, rfl, rfl, rfl, ?_, ?_⟩
  · show ρ 0 0 = _
    rw [b1, a5]
  · show ρ 0 1 = _
    rw [b2, a6]
  · intro q l z
    have hq := (List.getElem?_eq_some_iff.mp z).1
    simp only at hq
    have z1 := a7 q l z
    have wl := (w7 l (List.mem_of_getElem? z)).2
    show ρ 1 q = _ ∧ ρ 3 q = 0 ∧ ∀ (k : Nat) (x : Int), l[k]? = some x → ρ 2 ((q : Int) * 6 + k) = x
    rw [b3 q (by omega) (by omega), b5 q (by omega) (by omega)]
    refine ⟨z1.1, z1.2.1, fun k x hk => ?_⟩
    have hk2 := (List.getElem?_eq_some_iff.mp hk).1
    rw [b4 _ (by omega) (by omega)]
    exact z1.2.2 k x hk
  · intro i q z
    have hq := (List.getElem?_eq_some_iff.mp z).1
    simp only at hq
    have z1 := a8 i q z
    show ρ 4 i = _ ∧ ρ 5 i = _
    rw [b6 i (by omega) (by omega), b7 i (by omega) (by omega)]
    exact z1
  · show (ρ 34 3 = 0 ∨ ρ 34 3 = 1) ∧ 0 ≤ ρ 34 2 ∧ ρ 34 2 ≤ 6
    rw [b0 34 (by omega)]
    exact a2
  · intro k hk
    rw [up_ne (by omega), up_ne (by omega), up_ne (by omega), up_ne (by omega), up_ne (by omega), up_ne (by omega), b0 k (by omega)]
    exact hf k (by omega) (by omega)
theorem c_X11_type {g : Gl} {σ : Sg} {a : Int} (ha : -2147483648 ≤ a ∧ a ≤ 2147483647) (hT : 0 ≤ σ 25 1 ∧ σ 25 1 ≤ 120) : Ct g mX11_type [vr g 24, vi a] σ (PI (fun v σ' => (¬ (0 ≤ a ∧ a ≤ 255) ∧ v = -1 ∧ σ' = σ) ∨ (((0 ≤ a ∧ a ≤ 255) ∧ 120 ≤ σ 25 1) ∧ v = -3 ∧ σ' = σ) ∨ (((0 ≤ a ∧ a ≤ 255) ∧ σ 25 1 < 120) ∧ v = σ 25 1 + 1 ∧ σ' = up (up σ 26 (σ 25 1) a) 25 1 (σ 25 1 + 1)))) := by
  refine Ct.of (by decide +kernel) (Nat.le_of_ble_eq_true rfl) ?_
  show jv g _ _ σ [(0, vr g 24), (1, vi a)] 0 []
  refine j_iload_n eX11_type_0 rfl ?_
  refine j_iconst 0 eX11_type_1 ?_
  refine j_sipush 255 eX11_type_2 (by decide) ?_
  refine j_cS3 zX11_isWithin lkX11_92 ⟨Nat.le_of_ble_eq_true rfl, Nat.le_of_ble_eq_true rfl⟩ (c_X11_isWithin (by omega)) (Nat.le_of_ble_eq_true rfl) eX11_type_5 (k_B (fun h5 => ?_) (fun h5 => ?_))
  · refine j_ifne_1 eX11_type_8 ?_
    refine j_aload_n eX11_type_13 rfl ?_
    refine j_getR flX11_12 ly24 rfl eX11_type_14 ?_
    refine j_cV0 zX8_isFull lkX11_96 ⟨Nat.le_of_ble_eq_true rfl, Nat.le_of_ble_eq_true rfl⟩ ly25 rfl rfl (c_X8_isFull (by omega)) (Nat.le_of_ble_eq_true rfl) eX11_type_17 (k_B (fun h17 => ?_) (fun h17 => ?_))
    · refine j_ifeq_1 eX11_type_20 ?_
      refine j_bipush (-3) eX11_type_23 (by decide) ?_
      refine r_iret rfl eX11_type_25 ?_
      first | exact Or.inl ⟨by omega, rfl, rfl⟩ | exact Or.inr (Or.inl ⟨by omega, rfl, rfl⟩) | exact Or.inr (Or.inr (⟨by omega, rfl, rfl⟩))
    · refine j_ifeq_0 eX11_type_20 ?_
      refine j_aload_n eX11_type_26 rfl ?_
      refine j_getR flX11_12 ly24 rfl eX11_type_27 ?_
      refine j_iload_n eX11_type_30 rfl ?_
      refine j_cV1 zX8_add lkX11_100 ⟨Nat.le_of_ble_eq_true rfl, Nat.le_of_ble_eq_true rfl⟩ ly25 rfl rfl (c_X8_add (by omega)) (Nat.le_of_ble_eq_true rfl) eX11_type_31 (k_VE ?_)
      refine j_aload_n eX11_type_34 rfl ?_
      refine j_getR flX11_12 ly24 rfl eX11_type_35 ?_
      refine j_cV0 zX8_length lkX11_104 ⟨Nat.le_of_ble_eq_true rfl, Nat.le_of_ble_eq_true rfl⟩ ly25 rfl rfl (c_X8_length) (Nat.le_of_ble_eq_true rfl) eX11_type_38 (k_E ?_)
      refine r_iret rfl eX11_type_41 ?_
      first | exact Or.inl ⟨by omega, rfl, rfl⟩ | exact Or.inr (Or.inl ⟨by omega, rfl, rfl⟩) | exact Or.inr (Or.inr (⟨by omega, rfl, rfl⟩))
  · refine j_ifne_0 eX11_type_8 ?_
    refine j_iconst (-1) eX11_type_11 ?_
    refine r_iret rfl eX11_type_12 ?_
    first | exact Or.inl ⟨by omega, rfl, rfl⟩ | exact Or.inr (Or.inl ⟨by omega, rfl, rfl⟩) | exact Or.inr (Or.inr (⟨by omega, rfl, rfl⟩))
theorem c_X11_clear {g : Gl} {σ : Sg} : Ct g mX11_clear [vr g 24] σ (PI (fun v σ' => v = σ 25 1 ∧ σ' = up σ 25 1 0)) := by
  refine Ct.of (by decide +kernel) (Nat.le_of_ble_eq_true rfl) ?_
  show jv g _ _ σ [(0, vr g 24)] 0 []
  refine j_aload_n eX11_clear_0 rfl ?_
  refine j_getR flX11_12 ly24 rfl eX11_clear_1 ?_
  refine j_cV0 zX8_length lkX11_104 ⟨Nat.le_of_ble_eq_true rfl, Nat.le_of_ble_eq_true rfl⟩ ly25 rfl rfl (c_X8_length) (Nat.le_of_ble_eq_true rfl) eX11_clear_4 (k_E ?_)
  refine j_istore_n eX11_clear_7 (Nat.le_of_ble_eq_true rfl) ?_
  refine j_aload_n eX11_clear_8 rfl ?_
  refine j_getR flX11_12 ly24 rfl eX11_clear_9 ?_
  refine j_cV0 zX8_empty lkX11_108 ⟨Nat.le_of_ble_eq_true rfl, Nat.le_of_ble_eq_true rfl⟩ ly25 rfl rfl (c_X8_empty) (Nat.le_of_ble_eq_true rfl) eX11_clear_12 (k_VE ?_)
  refine j_iload_n eX11_clear_15 rfl ?_
  refine r_iret rfl eX11_clear_16 ?_
  first | exact ⟨rfl, rfl⟩ | (exfalso; omega)
theorem rdC_b {T : Int → Int} {len : Int} (h : 0 ≤ len) (h2 : len ≤ 120) {S : Rst} : -1 ≤ (rdC T len len.toNat 0 S).1 ∧ (rdC T len len.toNat 0 S).1 ≤ 120 := by
  have key : ∀ (t : Nat) (i : Int) (S : Rst), 0 ≤ i → i + t = len → -1 ≤ (rdC T len t i S).1 ∧ (rdC T len t i S).1 ≤ 120 := by
    intro t
    induction t with
    | zero =>
      intro i S h3 h4
      show -1 ≤ (if S.1 = 0 then -1 else len) ∧ (if S.1 = 0 then -1 else len) ≤ 120
      split <;> omega
    | succ t ih =>
      intro i S h3 h4
      show -1 ≤ (match tokAt T len i with | none => rdC T len t (i + 1) S | some q => match stp S q.1 q.2 with | none => (i, S) | some S' => rdC T len t (i + 1) S').1 ∧ (match tokAt T len i with | none => rdC T len t (i + 1) S | some q => match stp S q.1 q.2 with | none => (i, S) | some S' => rdC T len t (i + 1) S').1 ≤ 120
      cases tokAt T len i with
      | none => exact ih (i + 1) S (by omega) (by omega)
      | some q =>
        simp only
        cases stp S q.1 q.2 with
        | none => exact ⟨by show -1 ≤ i; omega, by show i ≤ 120; omega⟩
        | some S' => exact ih (i + 1) S' (by omega) (by omega)
  exact key len.toNat 0 S (by omega) (by omega)
theorem c_X11_house {g : Gl} {σ : Sg} (hR : (σ 34 3 = 0 ∨ σ 34 3 = 1) ∧ 0 ≤ σ 34 2 ∧ σ 34 2 ≤ 6) (hT : 0 ≤ σ 25 1 ∧ σ 25 1 ≤ 120) (hL : ∀ j, 0 ≤ j → j < σ 25 1 → 0 ≤ σ 26 j ∧ σ 26 j ≤ 255) : Ct g mX11_house [vr g 24] σ (PI (fun v σ' => ((rdC (σ 26) (σ 25 1) (σ 25 1).toNat 0 (0, [], false, [], [])).1 ≠ -1 ∧ v = -10 - (rdC (σ 26) (σ 25 1) (σ 25 1).toNat 0 (0, [], false, [], [])).1 ∧ fr18 σ σ' ∧ ((σ' 34 3 = 0 ∨ σ' 34 3 = 1) ∧ 0 ≤ σ' 34 2 ∧ σ' 34 2 ≤ 6)) ∨ ((rdC (σ 26) (σ 25 1) (σ 25 1).toNat 0 (0, [], false, [], [])).1 = -1 ∧ v = ((rdC (σ 26) (σ 25 1) (σ 25 1).toNat 0 (0, [], false, [], [])).2.2.2.2.1.length : Int) + (rdC (σ 26) (σ 25 1) (σ 25 1).toNat 0 (0, [], false, [], [])).2.2.2.2.2.length ∧ HsX σ σ' (rdC (σ 26) (σ 25 1) (σ 25 1).toNat 0 (0, [], false, [], [])).2 ∧ WF (rdC (σ 26) (σ 25 1) (σ 25 1).toNat 0 (0, [], false, [], [])).2))) := by
  refine Ct.of (by decide +kernel) (Nat.le_of_ble_eq_true rfl) ?_
  show jv g _ _ σ [(0, vr g 24)] 0 []
  refine j_aload_n eX11_house_0 rfl ?_
  refine j_getR flX11_53 ly24 rfl eX11_house_1 ?_
  refine j_aload_n eX11_house_4 rfl ?_
  refine j_getR flX11_12 ly24 rfl eX11_house_5 ?_
  refine j_cV1 zX9_read lkX11_111 ⟨Nat.le_of_ble_eq_true rfl, Nat.le_of_ble_eq_true rfl⟩ ly34 rfl rfl (c_X9_read (by exact hR) (by exact hT) (by exact hL)) (Nat.le_of_ble_eq_true rfl) eX11_house_8 (k_I (fun v8 σ8 h8 => ?_))
  obtain ⟨z1, z2, z3, z4⟩ := h8
  have rb : -1 ≤ (rdC (σ 26) (σ 25 1) (σ 25 1).toNat 0 (0, [], false, [], [])).1 ∧ (rdC (σ 26) (σ 25 1) (σ 25 1).toNat 0 (0, [], false, [], [])).1 ≤ 120 := rdC_b (by omega) (by omega)
  rw [← z2] at rb
  refine j_istore_n eX11_house_11 (Nat.le_of_ble_eq_true rfl) ?_
  refine j_iload_n eX11_house_12 rfl ?_
  refine j_iconst (-1) eX11_house_13 ?_
  refine j_icmp_eq eX11_house_14 (by omega) (fun h14 => ?_) (fun h14 => ?_)
  · refine j_aload_n eX11_house_22 rfl ?_
    refine j_getR flX11_19 ly24 rfl eX11_house_23 ?_
    refine j_aload_n eX11_house_26 rfl ?_
    refine j_getR flX11_53 ly24 rfl eX11_house_27 ?_
    refine j_cV0 zX9_draft lkX11_115 ⟨Nat.le_of_ble_eq_true rfl, Nat.le_of_ble_eq_true rfl⟩ ly34 rfl rfl (c_X9_draft) (Nat.le_of_ble_eq_true rfl) eX11_house_30 (k_R ?_)
    refine j_cV1 zX10_become lkX11_119 ⟨Nat.le_of_ble_eq_true rfl, Nat.le_of_ble_eq_true rfl⟩ ly0 rfl rfl (c_X10_become_0_18) (Nat.le_of_ble_eq_true rfl) eX11_house_33 (k_V (fun σ33 h33 => ?_))
    refine j_aload_n eX11_house_36 rfl ?_
    refine j_getR flX11_12 ly24 rfl eX11_house_37 ?_
    refine j_cV0 zX8_empty lkX11_108 ⟨Nat.le_of_ble_eq_true rfl, Nat.le_of_ble_eq_true rfl⟩ ly25 rfl rfl (c_X8_empty) (Nat.le_of_ble_eq_true rfl) eX11_house_40 (k_VE ?_)
    refine j_aload_n eX11_house_43 rfl ?_
    refine j_getR flX11_28 ly24 rfl eX11_house_44 ?_
    refine j_iconst 0 eX11_house_47 ?_
    refine j_iconst 0 eX11_house_48 ?_
    refine j_cV2 zX7_take lkX11_122 ⟨Nat.le_of_ble_eq_true rfl, Nat.le_of_ble_eq_true rfl⟩ ly27 rfl rfl (c_X7_take) (Nat.le_of_ble_eq_true rfl) eX11_house_49 (k_VE ?_)
    refine j_aload_n eX11_house_52 rfl ?_
    refine j_getR flX11_35 ly24 rfl eX11_house_53 ?_
    refine j_cV0 zX1_empty lkX11_126 ⟨Nat.le_of_ble_eq_true rfl, Nat.le_of_ble_eq_true rfl⟩ ly28 rfl rfl (c_X1_empty) (Nat.le_of_ble_eq_true rfl) eX11_house_56 (k_VE ?_)
    refine j_aload_n eX11_house_59 rfl ?_
    refine j_iconst 0 eX11_house_60 ?_
    refine j_putI fpX11_127 ly24 rfl eX11_house_61 ?_
    refine j_aload_n eX11_house_64 rfl ?_
    refine j_getR flX11_46 ly24 rfl eX11_house_65 ?_
    refine j_cV0 zX6_empty lkX11_131 ⟨Nat.le_of_ble_eq_true rfl, Nat.le_of_ble_eq_true rfl⟩ ly31 rfl rfl (c_X6_empty) (Nat.le_of_ble_eq_true rfl) eX11_house_68 (k_VE ?_)
    refine j_aload_n eX11_house_71 rfl ?_
    refine j_getR flX11_19 ly24 rfl eX11_house_72 ?_
    refine j_cV0 zX10_polynomials lkX11_132 ⟨Nat.le_of_ble_eq_true rfl, Nat.le_of_ble_eq_true rfl⟩ ly0 rfl rfl (c_X10_polynomials_0) (Nat.le_of_ble_eq_true rfl) eX11_house_75 (k_E ?_)
    refine j_aload_n eX11_house_78 rfl ?_
    refine j_getR flX11_19 ly24 rfl eX11_house_79 ?_
    refine j_cV0 zX10_boxes lkX11_135 ⟨Nat.le_of_ble_eq_true rfl, Nat.le_of_ble_eq_true rfl⟩ ly0 rfl rfl (c_X10_boxes_0) (Nat.le_of_ble_eq_true rfl) eX11_house_82 (k_E ?_)
    refine j_iadd eX11_house_85 ?_
    refine r_iret rfl eX11_house_86 ?_
    have z5 := z3 (by omega)
    have QQ := HsX_of z1 z5.1 z5.2.1 z5.2.2 h33
    refine Or.inr ⟨by omega, ?_, QQ, z5.2.1⟩
    show σ33 0 0 + σ33 0 1 = _
    have q1 := QQ.1.1
    have q2 := QQ.1.2.1
    exact congr (congrArg HAdd.hAdd q1) q2
  · refine j_bipush (-10) eX11_house_17 (by decide) ?_
    refine j_iload_n eX11_house_19 rfl ?_
    refine j_isub eX11_house_20 ?_
    refine r_iret rfl eX11_house_21 ?_
    refine Or.inl ⟨?_, ?_, z1, z4⟩
    · rw [← z2]; omega
    · rw [← z2]
theorem c_X11_takes {g : Gl} {σ : Sg} {p b : Int} (h : -2147483648 ≤ p ∧ p ≤ 2147483647 ∧ -2147483648 ≤ b ∧ b ≤ 2147483647) (hX : TX σ) : Ct g mX11_takes [vr g 24, vi p, vi b] σ (PI (fun v σ' => (((0 ≤ p ∧ p < σ 0 0) ∧ (0 ≤ b ∧ b < σ 0 1)) ∧ v = 1 ∧ σ' = up (up σ 27 1 p) 27 2 b) ∨ (¬ ((0 ≤ p ∧ p < σ 0 0) ∧ (0 ≤ b ∧ b < σ 0 1)) ∧ v = -1 ∧ σ' = σ))) := by
  refine Ct.of (by decide +kernel) (Nat.le_of_ble_eq_true rfl) ?_
  show jv g _ _ σ [(0, vr g 24), (1, vi p), (2, vi b)] 0 []
  have hP := hX.1
  have hB := hX.2.1
  have hS := hX.2.2.1
  refine j_aload_n eX11_takes_0 rfl ?_
  refine j_getR flX11_19 ly24 rfl eX11_takes_1 ?_
  refine j_iload_n eX11_takes_4 rfl ?_
  refine j_cV1 zX10_hasPolynomial lkX11_138 ⟨Nat.le_of_ble_eq_true rfl, Nat.le_of_ble_eq_true rfl⟩ ly0 rfl rfl (c_X10_hasPolynomial_0 (by omega) (by omega)) (Nat.le_of_ble_eq_true rfl) eX11_takes_5 (k_B (fun h5 => ?_) (fun h5 => ?_))
  · refine j_ifeq_1 eX11_takes_8 ?_
    refine j_aload_n eX11_takes_11 rfl ?_
    refine j_getR flX11_19 ly24 rfl eX11_takes_12 ?_
    refine j_iload_n eX11_takes_15 rfl ?_
    refine j_cV1 zX10_hasBox lkX11_142 ⟨Nat.le_of_ble_eq_true rfl, Nat.le_of_ble_eq_true rfl⟩ ly0 rfl rfl (c_X10_hasBox_0 (by omega) (by omega)) (Nat.le_of_ble_eq_true rfl) eX11_takes_16 (k_B (fun h16 => ?_) (fun h16 => ?_))
    · refine j_ifne_1 eX11_takes_19 ?_
      refine j_aload_n eX11_takes_24 rfl ?_
      refine j_getR flX11_28 ly24 rfl eX11_takes_25 ?_
      refine j_iload_n eX11_takes_28 rfl ?_
      refine j_iload_n eX11_takes_29 rfl ?_
      refine j_cV2 zX7_take lkX11_122 ⟨Nat.le_of_ble_eq_true rfl, Nat.le_of_ble_eq_true rfl⟩ ly27 rfl rfl (c_X7_take) (Nat.le_of_ble_eq_true rfl) eX11_takes_30 (k_VE ?_)
      refine j_iconst 1 eX11_takes_33 ?_
      refine r_iret rfl eX11_takes_34 ?_
      first | exact Or.inl ⟨by omega, rfl, rfl⟩ | exact Or.inr (⟨by omega, rfl, rfl⟩)
    · refine j_ifne_0 eX11_takes_19 ?_
      refine j_iconst (-1) eX11_takes_22 ?_
      refine r_iret rfl eX11_takes_23 ?_
      first | exact Or.inl ⟨by omega, rfl, rfl⟩ | exact Or.inr (⟨by omega, rfl, rfl⟩)
  · refine j_ifeq_0 eX11_takes_8 ?_
    refine j_iconst (-1) eX11_takes_22 ?_
    refine r_iret rfl eX11_takes_23 ?_
    first | exact Or.inl ⟨by omega, rfl, rfl⟩ | exact Or.inr (⟨by omega, rfl, rfl⟩)
theorem c_X11_coef {g : Gl} {σ : Sg} {p k : Int} (h : -2147483648 ≤ p ∧ p ≤ 2147483647 ∧ -2147483648 ≤ k ∧ k ≤ 2147483647) (hX : TX σ) : Ct g mX11_coef [vr g 24, vi p, vi k] σ (PL (fun v σ' => ((0 ≤ p ∧ p < σ 0 0 ∧ 0 ≤ k ∧ k < σ 1 p) ∧ v = σ 2 (p * 6 + k) ∧ σ' = σ) ∨ (¬ (0 ≤ p ∧ p < σ 0 0 ∧ 0 ≤ k ∧ k < σ 1 p) ∧ v = -4611686018427387904 ∧ σ' = σ))) := by
  refine Ct.of (by decide +kernel) (Nat.le_of_ble_eq_true rfl) ?_
  show jv g _ _ σ [(0, vr g 24), (1, vi p), (2, vi k)] 0 []
  have hP := hX.1
  have hB := hX.2.1
  have hS := hX.2.2.1
  refine j_aload_n eX11_coef_0 rfl ?_
  refine j_getR flX11_19 ly24 rfl eX11_coef_1 ?_
  refine j_iload_n eX11_coef_4 rfl ?_
  refine j_iload_n eX11_coef_5 rfl ?_
  refine j_cV2 zX10_hasCoefficient lkX11_145 ⟨Nat.le_of_ble_eq_true rfl, Nat.le_of_ble_eq_true rfl⟩ ly0 rfl rfl (c_X10_hasCoefficient_0 (by omega) (by exact hP) (by exact hS)) (Nat.le_of_ble_eq_true rfl) eX11_coef_6 (k_B (fun h6 => ?_) (fun h6 => ?_))
  · refine j_ifeq_1 eX11_coef_9 ?_
    refine j_aload_n eX11_coef_12 rfl ?_
    refine j_getR flX11_19 ly24 rfl eX11_coef_13 ?_
    refine j_iload_n eX11_coef_16 rfl ?_
    refine j_iload_n eX11_coef_17 rfl ?_
    refine j_cV2 zX10_coefficient lkX11_149 ⟨Nat.le_of_ble_eq_true rfl, Nat.le_of_ble_eq_true rfl⟩ ly0 rfl rfl (c_X10_coefficient_0 (by omega) (by omega) (by exact hP) (by exact hS)) (Nat.le_of_ble_eq_true rfl) eX11_coef_18 (k_E ?_)
    have ck := hX.2.2.2.1 p k (by omega) (by omega) (by omega) (by omega)
    refine j_i2l (by omega) eX11_coef_21 ?_
    refine j_goto eX11_coef_22 ?_
    refine r_lret rfl eX11_coef_28 ?_
    first | exact Or.inl ⟨by omega, rfl, rfl⟩ | exact Or.inr (⟨by omega, rfl, rfl⟩)
  · refine j_ifeq_0 eX11_coef_9 ?_
    refine j_ldc2 (-4611686018427387904) cnX11_153 eX11_coef_25 ?_
    refine r_lret rfl eX11_coef_28 ?_
    first | exact Or.inl ⟨by omega, rfl, rfl⟩ | exact Or.inr (⟨by omega, rfl, rfl⟩)
theorem c_X11_box {g : Gl} {σ : Sg} {b w : Int} (h : -2147483648 ≤ b ∧ b ≤ 2147483647 ∧ -2147483648 ≤ w ∧ w ≤ 2147483647) (hX : TX σ) : Ct g mX11_box [vr g 24, vi b, vi w] σ (PL (fun v σ' => (((0 ≤ b ∧ b < σ 0 1) ∧ w = 0) ∧ v = σ 4 b ∧ σ' = σ) ∨ (((0 ≤ b ∧ b < σ 0 1) ∧ w = 1) ∧ v = σ 5 b ∧ σ' = σ) ∨ (¬ ((0 ≤ b ∧ b < σ 0 1) ∧ (0 ≤ w ∧ w ≤ 1)) ∧ v = -4611686018427387904 ∧ σ' = σ))) := by
  refine Ct.of (by decide +kernel) (Nat.le_of_ble_eq_true rfl) ?_
  show jv g _ _ σ [(0, vr g 24), (1, vi b), (2, vi w)] 0 []
  have hP := hX.1
  have hB := hX.2.1
  have hS := hX.2.2.1
  refine j_aload_n eX11_box_0 rfl ?_
  refine j_getR flX11_19 ly24 rfl eX11_box_1 ?_
  refine j_iload_n eX11_box_4 rfl ?_
  refine j_cV1 zX10_hasBox lkX11_142 ⟨Nat.le_of_ble_eq_true rfl, Nat.le_of_ble_eq_true rfl⟩ ly0 rfl rfl (c_X10_hasBox_0 (by omega) (by omega)) (Nat.le_of_ble_eq_true rfl) eX11_box_5 (k_B (fun h5 => ?_) (fun h5 => ?_))
  · refine j_ifeq_1 eX11_box_8 ?_
    refine j_iload_n eX11_box_11 rfl ?_
    refine j_iconst 0 eX11_box_12 ?_
    refine j_iconst 1 eX11_box_13 ?_
    refine j_cS3 zX11_isWithin lkX11_92 ⟨Nat.le_of_ble_eq_true rfl, Nat.le_of_ble_eq_true rfl⟩ (c_X11_isWithin (by omega)) (Nat.le_of_ble_eq_true rfl) eX11_box_14 (k_B (fun h14 => ?_) (fun h14 => ?_))
    · refine j_ifne_1 eX11_box_17 ?_
      have cb := hX.2.2.2.2.2 b (by omega) (by omega)
      refine j_iload_n eX11_box_24 rfl ?_
      refine j_if_ne eX11_box_25 (by omega) (fun h25 => ?_) (fun h25 => ?_)
      · refine j_aload_n eX11_box_40 rfl ?_
        refine j_getR flX11_19 ly24 rfl eX11_box_41 ?_
        refine j_iload_n eX11_box_44 rfl ?_
        refine j_cV1 zX10_upper lkX11_159 ⟨Nat.le_of_ble_eq_true rfl, Nat.le_of_ble_eq_true rfl⟩ ly0 rfl rfl (c_X10_upper_0 (by omega) (by omega)) (Nat.le_of_ble_eq_true rfl) eX11_box_45 (k_E ?_)
        refine j_i2l (by omega) eX11_box_48 ?_
        refine r_lret rfl eX11_box_49 ?_
        first | exact Or.inl ⟨by omega, rfl, rfl⟩ | exact Or.inr (Or.inl ⟨by omega, rfl, rfl⟩) | exact Or.inr (Or.inr (⟨by omega, rfl, rfl⟩))
      · refine j_aload_n eX11_box_28 rfl ?_
        refine j_getR flX11_19 ly24 rfl eX11_box_29 ?_
        refine j_iload_n eX11_box_32 rfl ?_
        refine j_cV1 zX10_lower lkX11_155 ⟨Nat.le_of_ble_eq_true rfl, Nat.le_of_ble_eq_true rfl⟩ ly0 rfl rfl (c_X10_lower_0 (by omega) (by omega)) (Nat.le_of_ble_eq_true rfl) eX11_box_33 (k_E ?_)
        refine j_i2l (by omega) eX11_box_36 ?_
        refine j_goto eX11_box_37 ?_
        refine r_lret rfl eX11_box_49 ?_
        first | exact Or.inl ⟨by omega, rfl, rfl⟩ | exact Or.inr (Or.inl ⟨by omega, rfl, rfl⟩) | exact Or.inr (Or.inr (⟨by omega, rfl, rfl⟩))
    · refine j_ifne_0 eX11_box_17 ?_
      refine j_ldc2 (-4611686018427387904) cnX11_153 eX11_box_20 ?_
      refine r_lret rfl eX11_box_23 ?_
      first | exact Or.inl ⟨by omega, rfl, rfl⟩ | exact Or.inr (Or.inl ⟨by omega, rfl, rfl⟩) | exact Or.inr (Or.inr (⟨by omega, rfl, rfl⟩))
  · refine j_ifeq_0 eX11_box_8 ?_
    refine j_ldc2 (-4611686018427387904) cnX11_153 eX11_box_20 ?_
    refine r_lret rfl eX11_box_23 ?_
    first | exact Or.inl ⟨by omega, rfl, rfl⟩ | exact Or.inr (Or.inl ⟨by omega, rfl, rfl⟩) | exact Or.inr (Or.inr (⟨by omega, rfl, rfl⟩))
theorem pushC_fr (σ : Sg) (kd wh k o o2 : Int) : ∀ c, c < 28 → pushC σ kd wh k o o2 c = σ c := by
  intro c hc
  unfold pushC push5
  split
  · rw [up_ne (by omega), up_ne (by omega), up_ne (by omega), up_ne (by omega), up_ne (by omega), up_ne (by omega)]
  · rw [up_ne (by omega), up_ne (by omega), up_ne (by omega), up_ne (by omega), up_ne (by omega), up_ne (by omega)]
    show cpy _ _ _ _ _ _ c = _
    unfold cpy
    rw [if_neg (by omega), up_ne (by omega)]
theorem c_X11_coefs {g : Gl} {σ : Sg} {p k x : Int} (h : -2147483648 ≤ p ∧ p ≤ 2147483647 ∧ -2147483648 ≤ k ∧ k ≤ 2147483647 ∧ -2147483648 ≤ x ∧ x ≤ 2147483647) (hX : TX σ) (hC : 0 ≤ σ 28 1 ∧ σ 28 1 ≤ 10) : Ct g mX11_coefs [vr g 24, vi p, vi k, vi x] σ (PI (fun v σ' => (¬ ((0 ≤ p ∧ p < σ 0 0 ∧ 0 ≤ k ∧ k < σ 1 p) ∧ (-50 ≤ x ∧ x ≤ 50)) ∧ v = -1 ∧ σ' = σ) ∨ ((((0 ≤ p ∧ p < σ 0 0 ∧ 0 ≤ k ∧ k < σ 1 p) ∧ (-50 ≤ x ∧ x ≤ 50)) ∧ σ 2 (p * 6 + k) = x) ∧ v = -2 ∧ σ' = σ) ∨ ((((0 ≤ p ∧ p < σ 0 0 ∧ 0 ≤ k ∧ k < σ 1 p) ∧ (-50 ≤ x ∧ x ≤ 50)) ∧ ¬ σ 2 (p * 6 + k) = x) ∧ v = 1 ∧ σ' = up (pushC σ 0 p k (σ 2 (p * 6 + k)) 0) 2 (p * 6 + k) x))) := by
  refine Ct.of (by decide +kernel) (Nat.le_of_ble_eq_true rfl) ?_
  show jv g _ _ σ [(0, vr g 24), (1, vi p), (2, vi k), (3, vi x)] 0 []
  have hP := hX.1
  have hB := hX.2.1
  have hS := hX.2.2.1
  refine j_aload_n eX11_coefs_0 rfl ?_
  refine j_getR flX11_19 ly24 rfl eX11_coefs_1 ?_
  refine j_iload_n eX11_coefs_4 rfl ?_
  refine j_iload_n eX11_coefs_5 rfl ?_
  refine j_cV2 zX10_hasCoefficient lkX11_145 ⟨Nat.le_of_ble_eq_true rfl, Nat.le_of_ble_eq_true rfl⟩ ly0 rfl rfl (c_X10_hasCoefficient_0 (by omega) (by exact hP) (by exact hS)) (Nat.le_of_ble_eq_true rfl) eX11_coefs_6 (k_B (fun h6 => ?_) (fun h6 => ?_))
  · refine j_ifeq_1 eX11_coefs_9 ?_
    refine j_iload_n eX11_coefs_12 rfl ?_
    refine j_cS1 zX11_isCoefficient lkX11_162 ⟨Nat.le_of_ble_eq_true rfl, Nat.le_of_ble_eq_true rfl⟩ (c_X11_isCoefficient (by omega)) (Nat.le_of_ble_eq_true rfl) eX11_coefs_13 (k_B (fun h13 => ?_) (fun h13 => ?_))
    · refine j_ifne_1 eX11_coefs_16 ?_
      refine j_aload_n eX11_coefs_21 rfl ?_
      refine j_getR flX11_19 ly24 rfl eX11_coefs_22 ?_
      refine j_iload_n eX11_coefs_25 rfl ?_
      refine j_iload_n eX11_coefs_26 rfl ?_
      refine j_cV2 zX10_coefficient lkX11_149 ⟨Nat.le_of_ble_eq_true rfl, Nat.le_of_ble_eq_true rfl⟩ ly0 rfl rfl (c_X10_coefficient_0 (by omega) (by omega) (by exact hP) (by exact hS)) (Nat.le_of_ble_eq_true rfl) eX11_coefs_27 (k_E ?_)
      have ck := hX.2.2.2.1 p k (by omega) (by omega) (by omega) (by omega)
      refine j_iload_n eX11_coefs_30 rfl ?_
      refine j_icmp_ne eX11_coefs_31 (by omega) (fun h31 => ?_) (fun h31 => ?_)
      · refine j_aload_n eX11_coefs_37 rfl ?_
        refine j_getR flX11_35 ly24 rfl eX11_coefs_38 ?_
        refine j_aload_n eX11_coefs_41 rfl ?_
        refine j_getR flX11_19 ly24 rfl eX11_coefs_42 ?_
        refine j_iload_n eX11_coefs_45 rfl ?_
        refine j_iload_n eX11_coefs_46 rfl ?_
        refine j_cV3 zX1_rememberCoefficient lkX11_165 ⟨Nat.le_of_ble_eq_true rfl, Nat.le_of_ble_eq_true rfl⟩ ly28 rfl rfl (c_X1_rememberCoefficient (by exact hC) (by omega) (by omega) (by exact hP) (by exact hS)) (Nat.le_of_ble_eq_true rfl) eX11_coefs_47 (k_VE ?_)
        refine j_aload_n eX11_coefs_50 rfl ?_
        refine j_getR flX11_19 ly24 rfl eX11_coefs_51 ?_
        refine j_iload_n eX11_coefs_54 rfl ?_
        refine j_iload_n eX11_coefs_55 rfl ?_
        refine j_iload_n eX11_coefs_56 rfl ?_
        have pf := pushC_fr σ 0 p k (σ 2 (p * 6 + k)) 0
        refine j_cV3 zX10_putCoefficient lkX11_169 ⟨Nat.le_of_ble_eq_true rfl, Nat.le_of_ble_eq_true rfl⟩ ly0 rfl rfl (c_X10_putCoefficient_0 (by rw [pf 0 (by decide)]; omega) (by rw [pf 1 (by decide)]; omega) (by rw [pf 0 (by decide)]; exact hP) (by rw [pf 0 (by decide), pf 1 (by decide)]; exact hS)) (Nat.le_of_ble_eq_true rfl) eX11_coefs_57 (k_VE ?_)
        refine j_iconst 1 eX11_coefs_60 ?_
        refine r_iret rfl eX11_coefs_61 ?_
        first | exact Or.inl ⟨by omega, rfl, rfl⟩ | exact Or.inr (Or.inl ⟨by omega, rfl, rfl⟩) | exact Or.inr (Or.inr (⟨by omega, rfl, rfl⟩))
      · refine j_bipush (-2) eX11_coefs_34 (by decide) ?_
        refine r_iret rfl eX11_coefs_36 ?_
        first | exact Or.inl ⟨by omega, rfl, rfl⟩ | exact Or.inr (Or.inl ⟨by omega, rfl, rfl⟩) | exact Or.inr (Or.inr (⟨by omega, rfl, rfl⟩))
    · refine j_ifne_0 eX11_coefs_16 ?_
      refine j_iconst (-1) eX11_coefs_19 ?_
      refine r_iret rfl eX11_coefs_20 ?_
      first | exact Or.inl ⟨by omega, rfl, rfl⟩ | exact Or.inr (Or.inl ⟨by omega, rfl, rfl⟩) | exact Or.inr (Or.inr (⟨by omega, rfl, rfl⟩))
  · refine j_ifeq_0 eX11_coefs_9 ?_
    refine j_iconst (-1) eX11_coefs_19 ?_
    refine r_iret rfl eX11_coefs_20 ?_
    first | exact Or.inl ⟨by omega, rfl, rfl⟩ | exact Or.inr (Or.inl ⟨by omega, rfl, rfl⟩) | exact Or.inr (Or.inr (⟨by omega, rfl, rfl⟩))
theorem c_X11_ends {g : Gl} {σ : Sg} {b x y : Int} (h : -2147483648 ≤ b ∧ b ≤ 2147483647 ∧ -2147483648 ≤ x ∧ x ≤ 2147483647 ∧ -2147483648 ≤ y ∧ y ≤ 2147483647) (hX : TX σ) (hC : 0 ≤ σ 28 1 ∧ σ 28 1 ≤ 10) : Ct g mX11_ends [vr g 24, vi b, vi x, vi y] σ (PI (fun v σ' => (¬ ((0 ≤ b ∧ b < σ 0 1) ∧ ((-5 ≤ x ∧ x ≤ 5) ∧ (-5 ≤ y ∧ y ≤ 5) ∧ x < y)) ∧ v = -1 ∧ σ' = σ) ∨ ((((0 ≤ b ∧ b < σ 0 1) ∧ ((-5 ≤ x ∧ x ≤ 5) ∧ (-5 ≤ y ∧ y ≤ 5) ∧ x < y)) ∧ (σ 4 b = x ∧ σ 5 b = y)) ∧ v = -2 ∧ σ' = σ) ∨ ((((0 ≤ b ∧ b < σ 0 1) ∧ ((-5 ≤ x ∧ x ≤ 5) ∧ (-5 ≤ y ∧ y ≤ 5) ∧ x < y)) ∧ ¬ (σ 4 b = x ∧ σ 5 b = y)) ∧ v = 1 ∧ σ' = up (up (pushC σ 1 b 0 (σ 4 b) (σ 5 b)) 4 b x) 5 b y))) := by
  refine Ct.of (by decide +kernel) (Nat.le_of_ble_eq_true rfl) ?_
  show jv g _ _ σ [(0, vr g 24), (1, vi b), (2, vi x), (3, vi y)] 0 []
  have hP := hX.1
  have hB := hX.2.1
  have hS := hX.2.2.1
  refine j_aload_n eX11_ends_0 rfl ?_
  refine j_getR flX11_19 ly24 rfl eX11_ends_1 ?_
  refine j_iload_n eX11_ends_4 rfl ?_
  refine j_cV1 zX10_hasBox lkX11_142 ⟨Nat.le_of_ble_eq_true rfl, Nat.le_of_ble_eq_true rfl⟩ ly0 rfl rfl (c_X10_hasBox_0 (by omega) (by omega)) (Nat.le_of_ble_eq_true rfl) eX11_ends_5 (k_B (fun h5 => ?_) (fun h5 => ?_))
  · refine j_ifeq_1 eX11_ends_8 ?_
    refine j_iload_n eX11_ends_11 rfl ?_
    refine j_cS1 zX11_isPlace lkX11_173 ⟨Nat.le_of_ble_eq_true rfl, Nat.le_of_ble_eq_true rfl⟩ (c_X11_isPlace (by omega)) (Nat.le_of_ble_eq_true rfl) eX11_ends_12 (k_B (fun h12 => ?_) (fun h12 => ?_))
    · refine j_ifeq_1 eX11_ends_15 ?_
      refine j_iload_n eX11_ends_18 rfl ?_
      refine j_cS1 zX11_isPlace lkX11_173 ⟨Nat.le_of_ble_eq_true rfl, Nat.le_of_ble_eq_true rfl⟩ (c_X11_isPlace (by omega)) (Nat.le_of_ble_eq_true rfl) eX11_ends_19 (k_B (fun h19 => ?_) (fun h19 => ?_))
      · refine j_ifeq_1 eX11_ends_22 ?_
        refine j_iload_n eX11_ends_25 rfl ?_
        refine j_iload_n eX11_ends_26 rfl ?_
        refine j_icmp_lt eX11_ends_27 (by omega) (fun h27 => ?_) (fun h27 => ?_)
        · have cb := hX.2.2.2.2.2 b (by omega) (by omega)
          refine j_aload_n eX11_ends_32 rfl ?_
          refine j_getR flX11_19 ly24 rfl eX11_ends_33 ?_
          refine j_iload_n eX11_ends_36 rfl ?_
          refine j_cV1 zX10_lower lkX11_155 ⟨Nat.le_of_ble_eq_true rfl, Nat.le_of_ble_eq_true rfl⟩ ly0 rfl rfl (c_X10_lower_0 (by omega) (by omega)) (Nat.le_of_ble_eq_true rfl) eX11_ends_37 (k_E ?_)
          refine j_iload_n eX11_ends_40 rfl ?_
          refine j_icmp_ne eX11_ends_41 (by omega) (fun h41 => ?_) (fun h41 => ?_)
          · refine j_aload_n eX11_ends_59 rfl ?_
            refine j_getR flX11_35 ly24 rfl eX11_ends_60 ?_
            refine j_aload_n eX11_ends_63 rfl ?_
            refine j_getR flX11_19 ly24 rfl eX11_ends_64 ?_
            refine j_iload_n eX11_ends_67 rfl ?_
            refine j_cV2 zX1_rememberBox lkX11_176 ⟨Nat.le_of_ble_eq_true rfl, Nat.le_of_ble_eq_true rfl⟩ ly28 rfl rfl (c_X1_rememberBox (by exact hC) (by omega) (by exact hB)) (Nat.le_of_ble_eq_true rfl) eX11_ends_68 (k_VE ?_)
            refine j_aload_n eX11_ends_71 rfl ?_
            refine j_getR flX11_19 ly24 rfl eX11_ends_72 ?_
            refine j_iload_n eX11_ends_75 rfl ?_
            refine j_iload_n eX11_ends_76 rfl ?_
            refine j_iload_n eX11_ends_77 rfl ?_
            have pf := pushC_fr σ 1 b 0 (σ 4 b) (σ 5 b)
            refine j_cV3 zX10_putBox lkX11_180 ⟨Nat.le_of_ble_eq_true rfl, Nat.le_of_ble_eq_true rfl⟩ ly0 rfl rfl (c_X10_putBox_0 (by rw [pf 0 (by decide)]; omega) (by rw [pf 0 (by decide)]; exact hB)) (Nat.le_of_ble_eq_true rfl) eX11_ends_78 (k_VE ?_)
            refine j_iconst 1 eX11_ends_81 ?_
            refine r_iret rfl eX11_ends_82 ?_
            first | exact Or.inl ⟨by omega, rfl, rfl⟩ | exact Or.inr (Or.inl ⟨by omega, rfl, rfl⟩) | exact Or.inr (Or.inr (⟨by omega, rfl, rfl⟩))
          · refine j_aload_n eX11_ends_44 rfl ?_
            refine j_getR flX11_19 ly24 rfl eX11_ends_45 ?_
            refine j_iload_n eX11_ends_48 rfl ?_
            refine j_cV1 zX10_upper lkX11_159 ⟨Nat.le_of_ble_eq_true rfl, Nat.le_of_ble_eq_true rfl⟩ ly0 rfl rfl (c_X10_upper_0 (by omega) (by omega)) (Nat.le_of_ble_eq_true rfl) eX11_ends_49 (k_E ?_)
            refine j_iload_n eX11_ends_52 rfl ?_
            refine j_icmp_ne eX11_ends_53 (by omega) (fun h53 => ?_) (fun h53 => ?_)
            · refine j_aload_n eX11_ends_59 rfl ?_
              refine j_getR flX11_35 ly24 rfl eX11_ends_60 ?_
              refine j_aload_n eX11_ends_63 rfl ?_
              refine j_getR flX11_19 ly24 rfl eX11_ends_64 ?_
              refine j_iload_n eX11_ends_67 rfl ?_
              refine j_cV2 zX1_rememberBox lkX11_176 ⟨Nat.le_of_ble_eq_true rfl, Nat.le_of_ble_eq_true rfl⟩ ly28 rfl rfl (c_X1_rememberBox (by exact hC) (by omega) (by exact hB)) (Nat.le_of_ble_eq_true rfl) eX11_ends_68 (k_VE ?_)
              refine j_aload_n eX11_ends_71 rfl ?_
              refine j_getR flX11_19 ly24 rfl eX11_ends_72 ?_
              refine j_iload_n eX11_ends_75 rfl ?_
              refine j_iload_n eX11_ends_76 rfl ?_
              refine j_iload_n eX11_ends_77 rfl ?_
              have pf := pushC_fr σ 1 b 0 (σ 4 b) (σ 5 b)
              refine j_cV3 zX10_putBox lkX11_180 ⟨Nat.le_of_ble_eq_true rfl, Nat.le_of_ble_eq_true rfl⟩ ly0 rfl rfl (c_X10_putBox_0 (by rw [pf 0 (by decide)]; omega) (by rw [pf 0 (by decide)]; exact hB)) (Nat.le_of_ble_eq_true rfl) eX11_ends_78 (k_VE ?_)
              refine j_iconst 1 eX11_ends_81 ?_
              refine r_iret rfl eX11_ends_82 ?_
              first | exact Or.inl ⟨by omega, rfl, rfl⟩ | exact Or.inr (Or.inl ⟨by omega, rfl, rfl⟩) | exact Or.inr (Or.inr (⟨by omega, rfl, rfl⟩))
            · refine j_bipush (-2) eX11_ends_56 (by decide) ?_
              refine r_iret rfl eX11_ends_58 ?_
              first | exact Or.inl ⟨by omega, rfl, rfl⟩ | exact Or.inr (Or.inl ⟨by omega, rfl, rfl⟩) | exact Or.inr (Or.inr (⟨by omega, rfl, rfl⟩))
        · refine j_iconst (-1) eX11_ends_30 ?_
          refine r_iret rfl eX11_ends_31 ?_
          first | exact Or.inl ⟨by omega, rfl, rfl⟩ | exact Or.inr (Or.inl ⟨by omega, rfl, rfl⟩) | exact Or.inr (Or.inr (⟨by omega, rfl, rfl⟩))
      · refine j_ifeq_0 eX11_ends_22 ?_
        refine j_iconst (-1) eX11_ends_30 ?_
        refine r_iret rfl eX11_ends_31 ?_
        first | exact Or.inl ⟨by omega, rfl, rfl⟩ | exact Or.inr (Or.inl ⟨by omega, rfl, rfl⟩) | exact Or.inr (Or.inr (⟨by omega, rfl, rfl⟩))
    · refine j_ifeq_0 eX11_ends_15 ?_
      refine j_iconst (-1) eX11_ends_30 ?_
      refine r_iret rfl eX11_ends_31 ?_
      first | exact Or.inl ⟨by omega, rfl, rfl⟩ | exact Or.inr (Or.inl ⟨by omega, rfl, rfl⟩) | exact Or.inr (Or.inr (⟨by omega, rfl, rfl⟩))
  · refine j_ifeq_0 eX11_ends_8 ?_
    refine j_iconst (-1) eX11_ends_30 ?_
    refine r_iret rfl eX11_ends_31 ?_
    first | exact Or.inl ⟨by omega, rfl, rfl⟩ | exact Or.inr (Or.inl ⟨by omega, rfl, rfl⟩) | exact Or.inr (Or.inr (⟨by omega, rfl, rfl⟩))
theorem c_X11_wishes {g : Gl} {σ : Sg} {p x : Int} (h : -2147483648 ≤ p ∧ p ≤ 2147483647 ∧ -2147483648 ≤ x ∧ x ≤ 2147483647) (hX : TX σ) (hC : 0 ≤ σ 28 1 ∧ σ 28 1 ≤ 10) : Ct g mX11_wishes [vr g 24, vi p, vi x] σ (PI (fun v σ' => (¬ ((0 ≤ p ∧ p < σ 0 0) ∧ (-1 ≤ x ∧ x ≤ 1)) ∧ v = -1 ∧ σ' = σ) ∨ ((((0 ≤ p ∧ p < σ 0 0) ∧ (-1 ≤ x ∧ x ≤ 1)) ∧ σ 3 p = x) ∧ v = -2 ∧ σ' = σ) ∨ ((((0 ≤ p ∧ p < σ 0 0) ∧ (-1 ≤ x ∧ x ≤ 1)) ∧ ¬ σ 3 p = x) ∧ v = 1 ∧ σ' = up (pushC σ 2 p 0 (σ 3 p) 0) 3 p x))) := by
  refine Ct.of (by decide +kernel) (Nat.le_of_ble_eq_true rfl) ?_
  show jv g _ _ σ [(0, vr g 24), (1, vi p), (2, vi x)] 0 []
  have hP := hX.1
  have hB := hX.2.1
  have hS := hX.2.2.1
  refine j_aload_n eX11_wishes_0 rfl ?_
  refine j_getR flX11_19 ly24 rfl eX11_wishes_1 ?_
  refine j_iload_n eX11_wishes_4 rfl ?_
  refine j_cV1 zX10_hasPolynomial lkX11_138 ⟨Nat.le_of_ble_eq_true rfl, Nat.le_of_ble_eq_true rfl⟩ ly0 rfl rfl (c_X10_hasPolynomial_0 (by omega) (by omega)) (Nat.le_of_ble_eq_true rfl) eX11_wishes_5 (k_B (fun h5 => ?_) (fun h5 => ?_))
  · refine j_ifeq_1 eX11_wishes_8 ?_
    refine j_iload_n eX11_wishes_11 rfl ?_
    refine j_iconst (-1) eX11_wishes_12 ?_
    refine j_iconst 1 eX11_wishes_13 ?_
    refine j_cS3 zX11_isWithin lkX11_92 ⟨Nat.le_of_ble_eq_true rfl, Nat.le_of_ble_eq_true rfl⟩ (c_X11_isWithin (by omega)) (Nat.le_of_ble_eq_true rfl) eX11_wishes_14 (k_B (fun h14 => ?_) (fun h14 => ?_))
    · refine j_ifne_1 eX11_wishes_17 ?_
      refine j_aload_n eX11_wishes_22 rfl ?_
      refine j_getR flX11_19 ly24 rfl eX11_wishes_23 ?_
      refine j_iload_n eX11_wishes_26 rfl ?_
      refine j_cV1 zX10_wanted lkX11_183 ⟨Nat.le_of_ble_eq_true rfl, Nat.le_of_ble_eq_true rfl⟩ ly0 rfl rfl (c_X10_wanted_0 (by omega) (by omega)) (Nat.le_of_ble_eq_true rfl) eX11_wishes_27 (k_E ?_)
      have ck := hX.2.2.2.2.1 p (by omega) (by omega)
      refine j_iload_n eX11_wishes_30 rfl ?_
      refine j_icmp_ne eX11_wishes_31 (by omega) (fun h31 => ?_) (fun h31 => ?_)
      · refine j_aload_n eX11_wishes_37 rfl ?_
        refine j_getR flX11_35 ly24 rfl eX11_wishes_38 ?_
        refine j_aload_n eX11_wishes_41 rfl ?_
        refine j_getR flX11_19 ly24 rfl eX11_wishes_42 ?_
        refine j_iload_n eX11_wishes_45 rfl ?_
        refine j_cV2 zX1_rememberWish lkX11_186 ⟨Nat.le_of_ble_eq_true rfl, Nat.le_of_ble_eq_true rfl⟩ ly28 rfl rfl (c_X1_rememberWish (by exact hC) (by omega) (by exact hP)) (Nat.le_of_ble_eq_true rfl) eX11_wishes_46 (k_VE ?_)
        refine j_aload_n eX11_wishes_49 rfl ?_
        refine j_getR flX11_19 ly24 rfl eX11_wishes_50 ?_
        refine j_iload_n eX11_wishes_53 rfl ?_
        refine j_iload_n eX11_wishes_54 rfl ?_
        have pf := pushC_fr σ 2 p 0 (σ 3 p) 0
        refine j_cV2 zX10_want lkX11_189 ⟨Nat.le_of_ble_eq_true rfl, Nat.le_of_ble_eq_true rfl⟩ ly0 rfl rfl (c_X10_want_0 (by rw [pf 0 (by decide)]; omega) (by rw [pf 0 (by decide)]; exact hP)) (Nat.le_of_ble_eq_true rfl) eX11_wishes_55 (k_VE ?_)
        refine j_iconst 1 eX11_wishes_58 ?_
        refine r_iret rfl eX11_wishes_59 ?_
        first | exact Or.inl ⟨by omega, rfl, rfl⟩ | exact Or.inr (Or.inl ⟨by omega, rfl, rfl⟩) | exact Or.inr (Or.inr (⟨by omega, rfl, rfl⟩))
      · refine j_bipush (-2) eX11_wishes_34 (by decide) ?_
        refine r_iret rfl eX11_wishes_36 ?_
        first | exact Or.inl ⟨by omega, rfl, rfl⟩ | exact Or.inr (Or.inl ⟨by omega, rfl, rfl⟩) | exact Or.inr (Or.inr (⟨by omega, rfl, rfl⟩))
    · refine j_ifne_0 eX11_wishes_17 ?_
      refine j_iconst (-1) eX11_wishes_20 ?_
      refine r_iret rfl eX11_wishes_21 ?_
      first | exact Or.inl ⟨by omega, rfl, rfl⟩ | exact Or.inr (Or.inl ⟨by omega, rfl, rfl⟩) | exact Or.inr (Or.inr (⟨by omega, rfl, rfl⟩))
  · refine j_ifeq_0 eX11_wishes_8 ?_
    refine j_iconst (-1) eX11_wishes_20 ?_
    refine r_iret rfl eX11_wishes_21 ?_
    first | exact Or.inl ⟨by omega, rfl, rfl⟩ | exact Or.inr (Or.inl ⟨by omega, rfl, rfl⟩) | exact Or.inr (Or.inr (⟨by omega, rfl, rfl⟩))
theorem popC_sz (σ : Sg) : popC σ 28 1 = σ 28 1 - 1 := by
  unfold popC
  split
  · rfl
  · split
    · rfl
    · rfl
theorem c_X11_undo {g : Gl} {σ : Sg} (hX : TX σ) (hC : 0 ≤ σ 28 1 ∧ σ 28 1 ≤ 10) (hU : 1 ≤ σ 28 1 → UE σ ((σ 28 1 - 1) * 5)) : Ct g mX11_undo [vr g 24] σ (PI (fun v σ' => (σ 28 1 = 0 ∧ v = -2 ∧ σ' = σ) ∨ (¬ σ 28 1 = 0 ∧ v = σ 28 1 - 1 ∧ σ' = popC σ))) := by
  refine Ct.of (by decide +kernel) (Nat.le_of_ble_eq_true rfl) ?_
  show jv g _ _ σ [(0, vr g 24)] 0 []
  have hP := hX.1
  have hB := hX.2.1
  have hS := hX.2.2.1
  refine j_aload_n eX11_undo_0 rfl ?_
  refine j_getR flX11_35 ly24 rfl eX11_undo_1 ?_
  refine j_cV0 zX1_size lkX11_192 ⟨Nat.le_of_ble_eq_true rfl, Nat.le_of_ble_eq_true rfl⟩ ly28 rfl rfl (c_X1_size) (Nat.le_of_ble_eq_true rfl) eX11_undo_4 (k_E ?_)
  refine j_if_ne eX11_undo_7 (by omega) (fun h7 => ?_) (fun h7 => ?_)
  · refine j_aload_n eX11_undo_13 rfl ?_
    refine j_getR flX11_35 ly24 rfl eX11_undo_14 ?_
    refine j_aload_n eX11_undo_17 rfl ?_
    refine j_getR flX11_19 ly24 rfl eX11_undo_18 ?_
    refine j_cV1 zX1_takeBack lkX11_195 ⟨Nat.le_of_ble_eq_true rfl, Nat.le_of_ble_eq_true rfl⟩ ly28 rfl rfl (c_X1_takeBack (by omega) (by exact hU (by omega)) (by exact hP) (by exact hB) (by exact hS)) (Nat.le_of_ble_eq_true rfl) eX11_undo_21 (k_VE ?_)
    refine j_aload_n eX11_undo_24 rfl ?_
    refine j_getR flX11_35 ly24 rfl eX11_undo_25 ?_
    refine j_cV0 zX1_size lkX11_192 ⟨Nat.le_of_ble_eq_true rfl, Nat.le_of_ble_eq_true rfl⟩ ly28 rfl rfl (c_X1_size) (Nat.le_of_ble_eq_true rfl) eX11_undo_28 (k_E ?_)
    refine r_iret rfl eX11_undo_31 ?_
    exact Or.inr ⟨by omega, popC_sz σ, rfl⟩
  · refine j_bipush (-2) eX11_undo_10 (by decide) ?_
    refine r_iret rfl eX11_undo_12 ?_
    exact Or.inl ⟨by omega, rfl, rfl⟩
theorem c_X11_wish {g : Gl} {σ : Sg} {p : Int} (h : -2147483648 ≤ p ∧ p ≤ 2147483647) (hX : TX σ) : Ct g mX11_wish [vr g 24, vi p] σ (PL (fun v σ' => ((0 ≤ p ∧ p < σ 0 0) ∧ v = σ 3 p ∧ σ' = σ) ∨ (¬ (0 ≤ p ∧ p < σ 0 0) ∧ v = -4611686018427387904 ∧ σ' = σ))) := by
  refine Ct.of (by decide +kernel) (Nat.le_of_ble_eq_true rfl) ?_
  show jv g _ _ σ [(0, vr g 24), (1, vi p)] 0 []
  have hP := hX.1
  have hB := hX.2.1
  have hS := hX.2.2.1
  refine j_aload_n eX11_wish_0 rfl ?_
  refine j_getR flX11_19 ly24 rfl eX11_wish_1 ?_
  refine j_iload_n eX11_wish_4 rfl ?_
  refine j_cV1 zX10_hasPolynomial lkX11_138 ⟨Nat.le_of_ble_eq_true rfl, Nat.le_of_ble_eq_true rfl⟩ ly0 rfl rfl (c_X10_hasPolynomial_0 (by omega) (by omega)) (Nat.le_of_ble_eq_true rfl) eX11_wish_5 (k_B (fun h5 => ?_) (fun h5 => ?_))
  · refine j_ifeq_1 eX11_wish_8 ?_
    refine j_aload_n eX11_wish_11 rfl ?_
    refine j_getR flX11_19 ly24 rfl eX11_wish_12 ?_
    refine j_iload_n eX11_wish_15 rfl ?_
    refine j_cV1 zX10_wanted lkX11_183 ⟨Nat.le_of_ble_eq_true rfl, Nat.le_of_ble_eq_true rfl⟩ ly0 rfl rfl (c_X10_wanted_0 (by omega) (by omega)) (Nat.le_of_ble_eq_true rfl) eX11_wish_16 (k_E ?_)
    have ck := hX.2.2.2.2.1 p (by omega) (by omega)
    refine j_i2l (by omega) eX11_wish_19 ?_
    refine j_goto eX11_wish_20 ?_
    refine r_lret rfl eX11_wish_26 ?_
    first | exact Or.inl ⟨by omega, rfl, rfl⟩ | exact Or.inr (⟨by omega, rfl, rfl⟩)
  · refine j_ifeq_0 eX11_wish_8 ?_
    refine j_ldc2 (-4611686018427387904) cnX11_153 eX11_wish_23 ?_
    refine r_lret rfl eX11_wish_26 ?_
    first | exact Or.inl ⟨by omega, rfl, rfl⟩ | exact Or.inr (⟨by omega, rfl, rfl⟩)
theorem c_X11_sees {g : Gl} {σ : Sg} {x y : Int} (h : -2147483648 ≤ x ∧ x ≤ 2147483647 ∧ -2147483648 ≤ y ∧ y ≤ 2147483647) (hs : 0 ≤ σ 31 2 ∧ σ 31 2 ≤ 6) : Ct g mX11_sees [vr g 24, vi x, vi y] σ (PI (fun v σ' => (¬ ((-5 ≤ x ∧ x ≤ 5) ∧ (-1 ≤ y ∧ y ≤ 1)) ∧ v = -1 ∧ σ' = σ) ∨ ((((-5 ≤ x ∧ x ≤ 5) ∧ (-1 ≤ y ∧ y ≤ 1)) ∧ 6 ≤ σ 31 2) ∧ v = -3 ∧ σ' = σ) ∨ ((((-5 ≤ x ∧ x ≤ 5) ∧ (-1 ≤ y ∧ y ≤ 1)) ∧ σ 31 2 < 6) ∧ v = σ 31 2 + 1 ∧ σ' = up (up (up σ 32 (σ 31 2) x) 33 (σ 31 2) y) 31 2 (σ 31 2 + 1)))) := by
  refine Ct.of (by decide +kernel) (Nat.le_of_ble_eq_true rfl) ?_
  show jv g _ _ σ [(0, vr g 24), (1, vi x), (2, vi y)] 0 []
  refine j_iload_n eX11_sees_0 rfl ?_
  refine j_cS1 zX11_isPlace lkX11_173 ⟨Nat.le_of_ble_eq_true rfl, Nat.le_of_ble_eq_true rfl⟩ (c_X11_isPlace (by omega)) (Nat.le_of_ble_eq_true rfl) eX11_sees_1 (k_B (fun h1 => ?_) (fun h1 => ?_))
  · refine j_ifeq_1 eX11_sees_4 ?_
    refine j_iload_n eX11_sees_7 rfl ?_
    refine j_iconst (-1) eX11_sees_8 ?_
    refine j_iconst 1 eX11_sees_9 ?_
    refine j_cS3 zX11_isWithin lkX11_92 ⟨Nat.le_of_ble_eq_true rfl, Nat.le_of_ble_eq_true rfl⟩ (c_X11_isWithin (by omega)) (Nat.le_of_ble_eq_true rfl) eX11_sees_10 (k_B (fun h10 => ?_) (fun h10 => ?_))
    · refine j_ifne_1 eX11_sees_13 ?_
      refine j_aload_n eX11_sees_18 rfl ?_
      refine j_getR flX11_46 ly24 rfl eX11_sees_19 ?_
      refine j_cV0 zX6_isFull lkX11_292 ⟨Nat.le_of_ble_eq_true rfl, Nat.le_of_ble_eq_true rfl⟩ ly31 rfl rfl (c_X6_isFull (by exact hs)) (Nat.le_of_ble_eq_true rfl) eX11_sees_22 (k_B (fun h22 => ?_) (fun h22 => ?_))
      · refine j_ifeq_1 eX11_sees_25 ?_
        refine j_bipush (-3) eX11_sees_28 (by decide) ?_
        refine r_iret rfl eX11_sees_30 ?_
        first | exact Or.inl ⟨by omega, rfl, rfl⟩ | exact Or.inr (Or.inl ⟨by omega, rfl, rfl⟩) | exact Or.inr (Or.inr (⟨by omega, rfl, rfl⟩))
      · refine j_ifeq_0 eX11_sees_25 ?_
        refine j_aload_n eX11_sees_31 rfl ?_
        refine j_getR flX11_46 ly24 rfl eX11_sees_32 ?_
        refine j_iload_n eX11_sees_35 rfl ?_
        refine j_iload_n eX11_sees_36 rfl ?_
        refine j_cV2 zX6_add lkX11_293 ⟨Nat.le_of_ble_eq_true rfl, Nat.le_of_ble_eq_true rfl⟩ ly31 rfl rfl (c_X6_add (by omega)) (Nat.le_of_ble_eq_true rfl) eX11_sees_37 (k_VE ?_)
        refine j_aload_n eX11_sees_40 rfl ?_
        refine j_getR flX11_46 ly24 rfl eX11_sees_41 ?_
        refine j_cV0 zX6_size lkX11_295 ⟨Nat.le_of_ble_eq_true rfl, Nat.le_of_ble_eq_true rfl⟩ ly31 rfl rfl (c_X6_size) (Nat.le_of_ble_eq_true rfl) eX11_sees_44 (k_E ?_)
        refine r_iret rfl eX11_sees_47 ?_
        first | exact Or.inl ⟨by omega, rfl, rfl⟩ | exact Or.inr (Or.inl ⟨by omega, rfl, rfl⟩) | exact Or.inr (Or.inr (⟨by omega, rfl, rfl⟩))
    · refine j_ifne_0 eX11_sees_13 ?_
      refine j_iconst (-1) eX11_sees_16 ?_
      refine r_iret rfl eX11_sees_17 ?_
      first | exact Or.inl ⟨by omega, rfl, rfl⟩ | exact Or.inr (Or.inl ⟨by omega, rfl, rfl⟩) | exact Or.inr (Or.inr (⟨by omega, rfl, rfl⟩))
  · refine j_ifeq_0 eX11_sees_4 ?_
    refine j_iconst (-1) eX11_sees_16 ?_
    refine r_iret rfl eX11_sees_17 ?_
    first | exact Or.inl ⟨by omega, rfl, rfl⟩ | exact Or.inr (Or.inl ⟨by omega, rfl, rfl⟩) | exact Or.inr (Or.inr (⟨by omega, rfl, rfl⟩))
theorem c_X11_forget {g : Gl} {σ : Sg} : Ct g mX11_forget [vr g 24] σ (PI (fun v σ' => v = σ 31 2 ∧ σ' = up σ 31 2 0)) := by
  refine Ct.of (by decide +kernel) (Nat.le_of_ble_eq_true rfl) ?_
  show jv g _ _ σ [(0, vr g 24)] 0 []
  refine j_aload_n eX11_forget_0 rfl ?_
  refine j_getR flX11_46 ly24 rfl eX11_forget_1 ?_
  refine j_cV0 zX6_size lkX11_295 ⟨Nat.le_of_ble_eq_true rfl, Nat.le_of_ble_eq_true rfl⟩ ly31 rfl rfl (c_X6_size) (Nat.le_of_ble_eq_true rfl) eX11_forget_4 (k_E ?_)
  refine j_istore_n eX11_forget_7 (Nat.le_of_ble_eq_true rfl) ?_
  refine j_aload_n eX11_forget_8 rfl ?_
  refine j_getR flX11_46 ly24 rfl eX11_forget_9 ?_
  refine j_cV0 zX6_empty lkX11_131 ⟨Nat.le_of_ble_eq_true rfl, Nat.le_of_ble_eq_true rfl⟩ ly31 rfl rfl (c_X6_empty) (Nat.le_of_ble_eq_true rfl) eX11_forget_12 (k_VE ?_)
  refine j_iload_n eX11_forget_15 rfl ?_
  refine r_iret rfl eX11_forget_16 ?_
  first | exact ⟨rfl, rfl⟩ | (exfalso; omega)
theorem l_X11_unseen {g : Gl} {σ : Sg} (hX : TX σ) (hs : (0 ≤ σ 31 2 ∧ σ 31 2 ≤ 6) ∧ ∀ k, 0 ≤ k → k < σ 31 2 → (-5 ≤ σ 32 k ∧ σ 32 k ≤ 5) ∧ -1 ≤ σ 33 k ∧ σ 33 k ≤ 1) : ∀ (t : Nat) (u : Int), (t : Int) ≤ σ 0 0 → 0 ≤ u → u < pw2 (σ 0 0 - (t : Int)) → jv g mX11_unseen (Fm g (PE (unF (FTb (FtX σ)) t (σ 0 0 - (t : Int)) u) σ)) σ [(0, vr g 24), (1, vi u), (2, vi (σ 0 0 - (t : Int)))] 4 [] := by
  have hP := hX.1
  intro t
  induction t with
  | zero =>
    intro u h1 h2 h3
    refine j_iload_n eX11_unseen_4 rfl ?_
    refine j_aload_n eX11_unseen_5 rfl ?_
    refine j_getR flX11_19 ly24 rfl eX11_unseen_6 ?_
    refine j_cV0 zX10_polynomials lkX11_132 ⟨Nat.le_of_ble_eq_true rfl, Nat.le_of_ble_eq_true rfl⟩ ly0 rfl rfl c_X10_polynomials_0 (Nat.le_of_ble_eq_true rfl) eX11_unseen_9 (k_E ?_)
    refine j_icmp_ge eX11_unseen_12 (by omega) (fun h => ?_) (fun h => absurd (by omega) h)
    refine j_iload_n eX11_unseen_42 rfl ?_
    exact r_iret rfl eX11_unseen_43 ⟨rfl, rfl⟩
  | succ t ih =>
    intro u h1 h2 h3
    refine j_iload_n eX11_unseen_4 rfl ?_
    refine j_aload_n eX11_unseen_5 rfl ?_
    refine j_getR flX11_19 ly24 rfl eX11_unseen_6 ?_
    refine j_cV0 zX10_polynomials lkX11_132 ⟨Nat.le_of_ble_eq_true rfl, Nat.le_of_ble_eq_true rfl⟩ ly0 rfl rfl (c_X10_polynomials_0) (Nat.le_of_ble_eq_true rfl) eX11_unseen_9 (k_E ?_)
    refine j_icmp_ge eX11_unseen_12 (by omega) (fun h12 => absurd h12 (by omega)) (fun h12 => ?_)
    have vp : 0 ≤ (σ 0 0 - ((t + 1 : Nat) : Int)) ∧ (σ 0 0 - ((t + 1 : Nat) : Int)) < σ 0 0 := by omega
    have pb := pw2_b (p := (σ 0 0 - ((t + 1 : Nat) : Int))) (by omega)
    refine j_aload_n eX11_unseen_15 rfl ?_
    refine j_getR flX11_46 ly24 rfl eX11_unseen_16 ?_
    refine j_aload_n eX11_unseen_19 rfl ?_
    refine j_getR flX11_19 ly24 rfl eX11_unseen_20 ?_
    refine j_iload_n eX11_unseen_23 rfl ?_
    refine j_cV2 zX6_fit lkX11_296 ⟨Nat.le_of_ble_eq_true rfl, Nat.le_of_ble_eq_true rfl⟩ ly31 rfl rfl (c_X6_fit (by exact hX) (by exact vp) (by exact hs)) (Nat.le_of_ble_eq_true rfl) eX11_unseen_24 (k_B (fun h24 => ?_) (fun h24 => ?_))
    · refine j_ifeq_1 eX11_unseen_27 ?_
      refine j_iload_n eX11_unseen_30 rfl ?_
      refine j_iconst 1 eX11_unseen_31 ?_
      refine j_iload_n eX11_unseen_32 rfl ?_
      refine j_ishl (v := pw2 (σ 0 0 - ((t + 1 : Nat) : Int))) (ishl_1 (by omega)) eX11_unseen_33 ?_
      refine j_ior (v := u + pw2 (σ 0 0 - ((t + 1 : Nat) : Int))) (ior_b (by omega) (by omega)) eX11_unseen_34 ?_
      refine j_istore_n eX11_unseen_35 (Nat.le_of_ble_eq_true rfl) ?_
      refine j_iinc eX11_unseen_36 rfl (Nat.le_of_ble_eq_true rfl) ?_
      refine j_goto eX11_unseen_39 ?_
      have e1 : (σ 0 0 - ((t + 1 : Nat) : Int)) + 1 = σ 0 0 - (t : Int) := by omega
      have eT : unF (FTb (FtX σ)) (t + 1) (σ 0 0 - ((t + 1 : Nat) : Int)) u = unF (FTb (FtX σ)) t ((σ 0 0 - ((t + 1 : Nat) : Int)) + 1) (if FTb (FtX σ) (σ 0 0 - ((t + 1 : Nat) : Int)) = true then u + pw2 (σ 0 0 - ((t + 1 : Nat) : Int)) else u) := rfl
      first
      | (have c0 : FTb (FtX σ) (σ 0 0 - ((t + 1 : Nat) : Int)) = true := FTb_t h24
         rw [eT, if_pos c0, e1]
         rw [e1] at pb
         refine jv_lv ?_ (ih (u + pw2 (σ 0 0 - ((t + 1 : Nat) : Int))) (by omega) (by omega) (by omega))
         exact lvC rfl (lvC rfl (lvC rfl (lv0))))
      | (have c0 : ¬ FTb (FtX σ) (σ 0 0 - ((t + 1 : Nat) : Int)) = true := FTb_f h24
         rw [eT, if_neg c0, e1]
         rw [e1] at pb
         refine jv_lv ?_ (ih u (by omega) (by omega) (by omega))
         exact lvC rfl (lvC rfl (lvC rfl (lv0))))
    · refine j_ifeq_0 eX11_unseen_27 ?_
      refine j_iinc eX11_unseen_36 rfl (Nat.le_of_ble_eq_true rfl) ?_
      refine j_goto eX11_unseen_39 ?_
      have e1 : (σ 0 0 - ((t + 1 : Nat) : Int)) + 1 = σ 0 0 - (t : Int) := by omega
      have eT : unF (FTb (FtX σ)) (t + 1) (σ 0 0 - ((t + 1 : Nat) : Int)) u = unF (FTb (FtX σ)) t ((σ 0 0 - ((t + 1 : Nat) : Int)) + 1) (if FTb (FtX σ) (σ 0 0 - ((t + 1 : Nat) : Int)) = true then u + pw2 (σ 0 0 - ((t + 1 : Nat) : Int)) else u) := rfl
      first
      | (have c0 : FTb (FtX σ) (σ 0 0 - ((t + 1 : Nat) : Int)) = true := FTb_t h24
         rw [eT, if_pos c0, e1]
         rw [e1] at pb
         refine jv_lv ?_ (ih (u + pw2 (σ 0 0 - ((t + 1 : Nat) : Int))) (by omega) (by omega) (by omega))
         exact lvC rfl (lvC rfl (lvC rfl (lv0))))
      | (have c0 : ¬ FTb (FtX σ) (σ 0 0 - ((t + 1 : Nat) : Int)) = true := FTb_f h24
         rw [eT, if_neg c0, e1]
         rw [e1] at pb
         refine jv_lv ?_ (ih u (by omega) (by omega) (by omega))
         exact lvC rfl (lvC rfl (lvC rfl (lv0))))
theorem c_X11_unseen {g : Gl} {σ : Sg} (hX : TX σ) (hs : (0 ≤ σ 31 2 ∧ σ 31 2 ≤ 6) ∧ ∀ k, 0 ≤ k → k < σ 31 2 → (-5 ≤ σ 32 k ∧ σ 32 k ≤ 5) ∧ -1 ≤ σ 33 k ∧ σ 33 k ≤ 1) : Ct g mX11_unseen [vr g 24] σ (PE (unF (FTb (FtX σ)) (σ 0 0).toNat 0 0) σ) := by
  refine Ct.of (by decide +kernel) (Nat.le_of_ble_eq_true rfl) ?_
  show jv g _ _ σ [(0, vr g 24)] 0 []
  refine j_iconst 0 eX11_unseen_0 ?_
  refine j_istore_n eX11_unseen_1 (Nat.le_of_ble_eq_true rfl) ?_
  refine j_iconst 0 eX11_unseen_2 ?_
  refine j_istore_n eX11_unseen_3 (Nat.le_of_ble_eq_true rfl) ?_
  have hP := hX.1
  have e0 : (0 : Int) = σ 0 0 - (((σ 0 0).toNat : Nat) : Int) := by omega
  have e1 := l_X11_unseen (g := g) hX hs (σ 0 0).toNat 0 (by omega) (by omega) (by rw [← e0]; decide)
  rw [← e0] at e1
  refine jv_lv ?_ e1
  exact lvC rfl (lvC rfl (lvC rfl (lv0)))
theorem c_X11_isImage {g : Gl} {σ : Sg} {a : Int} (h : -2147483648 ≤ a ∧ a ≤ 2147483647) : Ct g mX11_isImage [vr g 24, vi a] σ (PB (0 ≤ a ∧ a ≤ 1) σ) := by
  refine Ct.of (by decide +kernel) (Nat.le_of_ble_eq_true rfl) ?_
  show jv g _ _ σ [(0, vr g 24), (1, vi a)] 0 []
  refine j_iload_n eX11_isImage_0 rfl ?_
  refine j_if_lt eX11_isImage_1 (by omega) (fun h1 => ?_) (fun h1 => ?_)
  · refine j_iconst 0 eX11_isImage_17 ?_
    exact r_zret (by decide) rfl eX11_isImage_18 (PB_f (by have e2 : (([6, 12] : List Nat).length : Int) = 2 := rfl; omega))
  · refine j_iload_n eX11_isImage_4 rfl ?_
    refine j_aload_n eX11_isImage_5 rfl ?_
    refine j_getR flX11_39 ly24 rfl eX11_isImage_6 ?_
    refine j_alenR ly30 eX11_isImage_9 ?_
    refine j_icmp_ge eX11_isImage_10 (by have e2 : (([6, 12] : List Nat).length : Int) = 2 := rfl; omega) (fun h10 => ?_) (fun h10 => ?_)
    · refine j_iconst 0 eX11_isImage_17 ?_
      exact r_zret (by decide) rfl eX11_isImage_18 (PB_f (by have e2 : (([6, 12] : List Nat).length : Int) = 2 := rfl; omega))
    · refine j_iconst 1 eX11_isImage_13 ?_
      refine j_goto eX11_isImage_14 ?_
      exact r_zret (by decide) rfl eX11_isImage_18 (PB_t (by have e2 : (([6, 12] : List Nat).length : Int) = 2 := rfl; omega))
theorem c_X11_keep {g : Gl} {σ : Sg} {a : Int} (h : -2147483648 ≤ a ∧ a ≤ 2147483647) (hK : 0 ≤ σ 24 5 ∧ σ 24 5 ≤ 3) : Ct g mX11_keep [vr g 24, vi a] σ (PI (fun v σ' => (¬ (0 ≤ a ∧ a ≤ 1) ∧ v = -1 ∧ σ' = σ) ∨ (a = 0 ∧ v = σ 0 0 ∧ ∃ τ, Bec σ τ 6 0 ∧ σ' = up τ 24 5 (kset (σ 24 5) 0)) ∨ (a = 1 ∧ v = σ 0 0 ∧ ∃ τ, Bec σ τ 12 0 ∧ σ' = up τ 24 5 (kset (σ 24 5) 1)))) := by
  refine Ct.of (by decide +kernel) (Nat.le_of_ble_eq_true rfl) ?_
  show jv g _ _ σ [(0, vr g 24), (1, vi a)] 0 []
  refine j_aload_n eX11_keep_0 rfl ?_
  refine j_iload_n eX11_keep_1 rfl ?_
  refine j_cV1 zX11_isImage lkX11_300 ⟨Nat.le_of_ble_eq_true rfl, Nat.le_of_ble_eq_true rfl⟩ ly24 rfl rfl (c_X11_isImage (by omega)) (Nat.le_of_ble_eq_true rfl) eX11_keep_2 (k_B (fun h2 => ?_) (fun h2 => ?_))
  · refine j_ifne_1 eX11_keep_5 ?_
    rcases (show a = 0 ∨ a = 1 by omega) with rfl | rfl
    · refine j_aload_n eX11_keep_10 rfl ?_
      refine j_getR flX11_39 ly24 rfl eX11_keep_11 ?_
      refine j_iload_n eX11_keep_14 rfl ?_
      refine j_aald ly30 (by decide) rfl eX11_keep_15 ?_
      refine j_aload_n eX11_keep_16 rfl ?_
      refine j_getR flX11_19 ly24 rfl eX11_keep_17 ?_
      refine j_cV1 zX10_become lkX11_119 ⟨Nat.le_of_ble_eq_true rfl, Nat.le_of_ble_eq_true rfl⟩ ly6 rfl rfl (c_X10_become_6_0) (Nat.le_of_ble_eq_true rfl) eX11_keep_20 (k_V (fun σ20 h20 => ?_))
      have kt : σ20 24 5 = σ 24 5 := by rw [h20.1 24 (by omega)]
      have ko := kset_o hK
      refine j_aload_n eX11_keep_23 rfl ?_
      refine j_dup rfl eX11_keep_24 ?_
      refine j_getI flX11_127 ly24 rfl eX11_keep_25 ?_
      refine j_iconst 1 eX11_keep_28 ?_
      refine j_iload_n eX11_keep_29 rfl ?_
      refine j_ishl (v := 1) (by decide) eX11_keep_30 ?_
      refine j_ior (v := kset (σ 24 5) 0) (by rw [kt]; exact ko.1) eX11_keep_31 ?_
      refine j_putI fpX11_127 ly24 rfl eX11_keep_32 ?_
      refine j_aload_n eX11_keep_35 rfl ?_
      refine j_getR flX11_19 ly24 rfl eX11_keep_36 ?_
      refine j_cV0 zX10_polynomials lkX11_132 ⟨Nat.le_of_ble_eq_true rfl, Nat.le_of_ble_eq_true rfl⟩ ly0 rfl rfl (c_X10_polynomials_0) (Nat.le_of_ble_eq_true rfl) eX11_keep_39 (k_E ?_)
      refine r_iret rfl eX11_keep_42 ?_
      first | exact Or.inr (Or.inl ⟨rfl, by show σ20 0 0 = _; rw [h20.1 0 (by omega)], σ20, h20, rfl⟩) | exact Or.inr (Or.inr ⟨rfl, by show σ20 0 0 = _; rw [h20.1 0 (by omega)], σ20, h20, rfl⟩)
    · refine j_aload_n eX11_keep_10 rfl ?_
      refine j_getR flX11_39 ly24 rfl eX11_keep_11 ?_
      refine j_iload_n eX11_keep_14 rfl ?_
      refine j_aald ly30 (by decide) rfl eX11_keep_15 ?_
      refine j_aload_n eX11_keep_16 rfl ?_
      refine j_getR flX11_19 ly24 rfl eX11_keep_17 ?_
      refine j_cV1 zX10_become lkX11_119 ⟨Nat.le_of_ble_eq_true rfl, Nat.le_of_ble_eq_true rfl⟩ ly12 rfl rfl (c_X10_become_12_0) (Nat.le_of_ble_eq_true rfl) eX11_keep_20 (k_V (fun σ20 h20 => ?_))
      have kt : σ20 24 5 = σ 24 5 := by rw [h20.1 24 (by omega)]
      have ko := kset_o hK
      refine j_aload_n eX11_keep_23 rfl ?_
      refine j_dup rfl eX11_keep_24 ?_
      refine j_getI flX11_127 ly24 rfl eX11_keep_25 ?_
      refine j_iconst 1 eX11_keep_28 ?_
      refine j_iload_n eX11_keep_29 rfl ?_
      refine j_ishl (v := 2) (by decide) eX11_keep_30 ?_
      refine j_ior (v := kset (σ 24 5) 1) (by rw [kt]; exact ko.2.1) eX11_keep_31 ?_
      refine j_putI fpX11_127 ly24 rfl eX11_keep_32 ?_
      refine j_aload_n eX11_keep_35 rfl ?_
      refine j_getR flX11_19 ly24 rfl eX11_keep_36 ?_
      refine j_cV0 zX10_polynomials lkX11_132 ⟨Nat.le_of_ble_eq_true rfl, Nat.le_of_ble_eq_true rfl⟩ ly0 rfl rfl (c_X10_polynomials_0) (Nat.le_of_ble_eq_true rfl) eX11_keep_39 (k_E ?_)
      refine r_iret rfl eX11_keep_42 ?_
      first | exact Or.inr (Or.inl ⟨rfl, by show σ20 0 0 = _; rw [h20.1 0 (by omega)], σ20, h20, rfl⟩) | exact Or.inr (Or.inr ⟨rfl, by show σ20 0 0 = _; rw [h20.1 0 (by omega)], σ20, h20, rfl⟩)
  · refine j_ifne_0 eX11_keep_5 ?_
    refine j_iconst (-1) eX11_keep_8 ?_
    refine r_iret rfl eX11_keep_9 ?_
    exact Or.inl ⟨by omega, rfl, rfl⟩
theorem c_X11_back {g : Gl} {σ : Sg} {a : Int} (h : -2147483648 ≤ a ∧ a ≤ 2147483647) (hK : 0 ≤ σ 24 5 ∧ σ 24 5 ≤ 3) : Ct g mX11_back [vr g 24, vi a] σ (PI (fun v σ' => (¬ (0 ≤ a ∧ a ≤ 1) ∧ v = -1 ∧ σ' = σ) ∨ (((0 ≤ a ∧ a ≤ 1) ∧ kbit (σ 24 5) a = 0) ∧ v = -2 ∧ σ' = σ) ∨ ((a = 0 ∧ ¬ kbit (σ 24 5) 0 = 0) ∧ ∃ τ, Bec σ τ 0 6 ∧ v = τ 0 0 ∧ σ' = up τ 28 1 0) ∨ ((a = 1 ∧ ¬ kbit (σ 24 5) 1 = 0) ∧ ∃ τ, Bec σ τ 0 12 ∧ v = τ 0 0 ∧ σ' = up τ 28 1 0))) := by
  refine Ct.of (by decide +kernel) (Nat.le_of_ble_eq_true rfl) ?_
  show jv g _ _ σ [(0, vr g 24), (1, vi a)] 0 []
  refine j_aload_n eX11_back_0 rfl ?_
  refine j_iload_n eX11_back_1 rfl ?_
  refine j_cV1 zX11_isImage lkX11_300 ⟨Nat.le_of_ble_eq_true rfl, Nat.le_of_ble_eq_true rfl⟩ ly24 rfl rfl (c_X11_isImage (by omega)) (Nat.le_of_ble_eq_true rfl) eX11_back_2 (k_B (fun h2 => ?_) (fun h2 => ?_))
  · refine j_ifne_1 eX11_back_5 ?_
    have ko := kset_o hK
    have kb0 := kbit_b (i := 0) hK
    have kb1 := kbit_b (i := 1) hK
    rcases (show a = 0 ∨ a = 1 by omega) with rfl | rfl
    · have ko := kset_o hK
      have kb0 := kbit_b (i := 0) hK
      have kb1 := kbit_b (i := 1) hK
      refine j_aload_n eX11_back_10 rfl ?_
      refine j_getI flX11_127 ly24 rfl eX11_back_11 ?_
      refine j_iload_n eX11_back_14 rfl ?_
      refine j_ishr (v := σ 24 5) ko.2.2.1 eX11_back_15 ?_
      refine j_iconst 1 eX11_back_16 ?_
      refine j_iand (v := kbit (σ 24 5) 0) ko.2.2.2.2.1 eX11_back_17 ?_
      refine j_if_ne eX11_back_18 (by omega) (fun h18 => ?_) (fun h18 => ?_)
      · refine j_aload_n eX11_back_24 rfl ?_
        refine j_getR flX11_19 ly24 rfl eX11_back_25 ?_
        refine j_aload_n eX11_back_28 rfl ?_
        refine j_getR flX11_39 ly24 rfl eX11_back_29 ?_
        refine j_iload_n eX11_back_32 rfl ?_
        refine j_aald ly30 (by decide) rfl eX11_back_33 ?_
        refine j_cV1 zX10_become lkX11_119 ⟨Nat.le_of_ble_eq_true rfl, Nat.le_of_ble_eq_true rfl⟩ ly0 rfl rfl (c_X10_become_0_6) (Nat.le_of_ble_eq_true rfl) eX11_back_34 (k_V (fun σ34 h34 => ?_))
        refine j_aload_n eX11_back_37 rfl ?_
        refine j_getR flX11_35 ly24 rfl eX11_back_38 ?_
        refine j_cV0 zX1_empty lkX11_126 ⟨Nat.le_of_ble_eq_true rfl, Nat.le_of_ble_eq_true rfl⟩ ly28 rfl rfl (c_X1_empty) (Nat.le_of_ble_eq_true rfl) eX11_back_41 (k_VE ?_)
        refine j_aload_n eX11_back_44 rfl ?_
        refine j_getR flX11_19 ly24 rfl eX11_back_45 ?_
        refine j_cV0 zX10_polynomials lkX11_132 ⟨Nat.le_of_ble_eq_true rfl, Nat.le_of_ble_eq_true rfl⟩ ly0 rfl rfl (c_X10_polynomials_0) (Nat.le_of_ble_eq_true rfl) eX11_back_48 (k_E ?_)
        refine r_iret rfl eX11_back_51 ?_
        first | exact Or.inr (Or.inr (Or.inl ⟨⟨rfl, by omega⟩, σ34, h34, rfl, rfl⟩)) | exact Or.inr (Or.inr (Or.inr ⟨⟨rfl, by omega⟩, σ34, h34, rfl, rfl⟩))
      · refine j_bipush (-2) eX11_back_21 (by decide) ?_
        refine r_iret rfl eX11_back_23 ?_
        exact Or.inr (Or.inl ⟨⟨by omega, by omega⟩, rfl, rfl⟩)
    · have ko := kset_o hK
      have kb0 := kbit_b (i := 0) hK
      have kb1 := kbit_b (i := 1) hK
      refine j_aload_n eX11_back_10 rfl ?_
      refine j_getI flX11_127 ly24 rfl eX11_back_11 ?_
      refine j_iload_n eX11_back_14 rfl ?_
      refine j_ishr (v := σ 24 5 / 2) ko.2.2.2.1 eX11_back_15 ?_
      refine j_iconst 1 eX11_back_16 ?_
      refine j_iand (v := kbit (σ 24 5) 1) ko.2.2.2.2.2 eX11_back_17 ?_
      refine j_if_ne eX11_back_18 (by omega) (fun h18 => ?_) (fun h18 => ?_)
      · refine j_aload_n eX11_back_24 rfl ?_
        refine j_getR flX11_19 ly24 rfl eX11_back_25 ?_
        refine j_aload_n eX11_back_28 rfl ?_
        refine j_getR flX11_39 ly24 rfl eX11_back_29 ?_
        refine j_iload_n eX11_back_32 rfl ?_
        refine j_aald ly30 (by decide) rfl eX11_back_33 ?_
        refine j_cV1 zX10_become lkX11_119 ⟨Nat.le_of_ble_eq_true rfl, Nat.le_of_ble_eq_true rfl⟩ ly0 rfl rfl (c_X10_become_0_12) (Nat.le_of_ble_eq_true rfl) eX11_back_34 (k_V (fun σ34 h34 => ?_))
        refine j_aload_n eX11_back_37 rfl ?_
        refine j_getR flX11_35 ly24 rfl eX11_back_38 ?_
        refine j_cV0 zX1_empty lkX11_126 ⟨Nat.le_of_ble_eq_true rfl, Nat.le_of_ble_eq_true rfl⟩ ly28 rfl rfl (c_X1_empty) (Nat.le_of_ble_eq_true rfl) eX11_back_41 (k_VE ?_)
        refine j_aload_n eX11_back_44 rfl ?_
        refine j_getR flX11_19 ly24 rfl eX11_back_45 ?_
        refine j_cV0 zX10_polynomials lkX11_132 ⟨Nat.le_of_ble_eq_true rfl, Nat.le_of_ble_eq_true rfl⟩ ly0 rfl rfl (c_X10_polynomials_0) (Nat.le_of_ble_eq_true rfl) eX11_back_48 (k_E ?_)
        refine r_iret rfl eX11_back_51 ?_
        first | exact Or.inr (Or.inr (Or.inl ⟨⟨rfl, by omega⟩, σ34, h34, rfl, rfl⟩)) | exact Or.inr (Or.inr (Or.inr ⟨⟨rfl, by omega⟩, σ34, h34, rfl, rfl⟩))
      · refine j_bipush (-2) eX11_back_21 (by decide) ?_
        refine r_iret rfl eX11_back_23 ?_
        exact Or.inr (Or.inl ⟨⟨by omega, by omega⟩, rfl, rfl⟩)
  · refine j_ifne_0 eX11_back_5 ?_
    refine j_iconst (-1) eX11_back_8 ?_
    refine r_iret rfl eX11_back_9 ?_
    exact Or.inl ⟨by omega, rfl, rfl⟩
theorem c_X11_count {g : Gl} {σ : Sg} {a : Int} (h : -2147483648 ≤ a ∧ a ≤ 2147483647) (hX : TX σ) (hk : (0 ≤ σ 27 1 ∧ σ 27 1 ≤ 2) ∧ 0 ≤ σ 27 2 ∧ σ 27 2 ≤ 2) : Ct g mX11_count [vr g 24, vi a] σ (PI (fun v σ' => σ' = σ ∧ ((a = 0 ∧ v = σ 0 0) ∨ (a = 1 ∧ v = σ 0 1) ∨ (a = 2 ∧ v = σ 27 1) ∨ (a = 3 ∧ v = σ 27 2) ∨ ((a = 4 ∧ σ 27 1 < σ 0 0) ∧ v = σ 1 (σ 27 1) - 1) ∨ ((a = 4 ∧ ¬ σ 27 1 < σ 0 0) ∧ v = -9) ∨ (a = 5 ∧ v = σ 31 2) ∨ (a = 6 ∧ v = σ 25 1) ∨ (a = 7 ∧ v = σ 28 1) ∨ (¬ (0 ≤ a ∧ a ≤ 7) ∧ v = -1)))) := by
  refine Ct.of (by decide +kernel) (Nat.le_of_ble_eq_true rfl) ?_
  show jv g _ _ σ [(0, vr g 24), (1, vi a)] 0 []
  have hP := hX.1
  have hB := hX.2.1
  have hS := hX.2.2.1
  refine j_iload_n eX11_count_0 rfl ?_
  rcases (show a = 0 ∨ a = 1 ∨ a = 2 ∨ a = 3 ∨ a = 4 ∨ a = 5 ∨ a = 6 ∨ a = 7 ∨ (a < 0 ∨ 7 < a) by omega) with s1 | s1 | s1 | s1 | s1 | s1 | s1 | s1 | s1
  · refine j_tsIn eX11_count_1.1 (by omega) (by omega) (by omega) (off := 47) (tgt := 48) (by rw [s1]; rfl) (by decide) ?_
    refine j_aload_n eX11_count_48 rfl ?_
    refine j_getR flX11_19 ly24 rfl eX11_count_49 ?_
    refine j_cV0 zX10_polynomials lkX11_132 ⟨Nat.le_of_ble_eq_true rfl, Nat.le_of_ble_eq_true rfl⟩ ly0 rfl rfl (c_X10_polynomials_0) (Nat.le_of_ble_eq_true rfl) eX11_count_52 (k_E ?_)
    refine r_iret rfl eX11_count_55 ?_
    refine ⟨rfl, ?_⟩
    first | exact Or.inl ⟨by omega, rfl⟩ | exact Or.inr (Or.inl ⟨by omega, rfl⟩) | exact Or.inr (Or.inr (Or.inl ⟨by omega, rfl⟩)) | exact Or.inr (Or.inr (Or.inr (Or.inl ⟨by omega, rfl⟩))) | exact Or.inr (Or.inr (Or.inr (Or.inr (Or.inl ⟨by omega, rfl⟩)))) | exact Or.inr (Or.inr (Or.inr (Or.inr (Or.inr (Or.inl ⟨by omega, rfl⟩))))) | exact Or.inr (Or.inr (Or.inr (Or.inr (Or.inr (Or.inr (Or.inl ⟨by omega, rfl⟩)))))) | exact Or.inr (Or.inr (Or.inr (Or.inr (Or.inr (Or.inr (Or.inr (Or.inl ⟨by omega, rfl⟩))))))) | exact Or.inr (Or.inr (Or.inr (Or.inr (Or.inr (Or.inr (Or.inr (Or.inr (Or.inl ⟨by omega, rfl⟩)))))))) | exact Or.inr (Or.inr (Or.inr (Or.inr (Or.inr (Or.inr (Or.inr (Or.inr (Or.inr (⟨by omega, rfl⟩)))))))))
  · refine j_tsIn eX11_count_1.1 (by omega) (by omega) (by omega) (off := 55) (tgt := 56) (by rw [s1]; rfl) (by decide) ?_
    refine j_aload_n eX11_count_56 rfl ?_
    refine j_getR flX11_19 ly24 rfl eX11_count_57 ?_
    refine j_cV0 zX10_boxes lkX11_135 ⟨Nat.le_of_ble_eq_true rfl, Nat.le_of_ble_eq_true rfl⟩ ly0 rfl rfl (c_X10_boxes_0) (Nat.le_of_ble_eq_true rfl) eX11_count_60 (k_E ?_)
    refine r_iret rfl eX11_count_63 ?_
    refine ⟨rfl, ?_⟩
    first | exact Or.inl ⟨by omega, rfl⟩ | exact Or.inr (Or.inl ⟨by omega, rfl⟩) | exact Or.inr (Or.inr (Or.inl ⟨by omega, rfl⟩)) | exact Or.inr (Or.inr (Or.inr (Or.inl ⟨by omega, rfl⟩))) | exact Or.inr (Or.inr (Or.inr (Or.inr (Or.inl ⟨by omega, rfl⟩)))) | exact Or.inr (Or.inr (Or.inr (Or.inr (Or.inr (Or.inl ⟨by omega, rfl⟩))))) | exact Or.inr (Or.inr (Or.inr (Or.inr (Or.inr (Or.inr (Or.inl ⟨by omega, rfl⟩)))))) | exact Or.inr (Or.inr (Or.inr (Or.inr (Or.inr (Or.inr (Or.inr (Or.inl ⟨by omega, rfl⟩))))))) | exact Or.inr (Or.inr (Or.inr (Or.inr (Or.inr (Or.inr (Or.inr (Or.inr (Or.inl ⟨by omega, rfl⟩)))))))) | exact Or.inr (Or.inr (Or.inr (Or.inr (Or.inr (Or.inr (Or.inr (Or.inr (Or.inr (⟨by omega, rfl⟩)))))))))
  · refine j_tsIn eX11_count_1.1 (by omega) (by omega) (by omega) (off := 63) (tgt := 64) (by rw [s1]; rfl) (by decide) ?_
    refine j_aload_n eX11_count_64 rfl ?_
    refine j_getR flX11_28 ly24 rfl eX11_count_65 ?_
    refine j_cV0 zX7_takenPolynomial lkX11_204 ⟨Nat.le_of_ble_eq_true rfl, Nat.le_of_ble_eq_true rfl⟩ ly27 rfl rfl (c_X7_takenPolynomial) (Nat.le_of_ble_eq_true rfl) eX11_count_68 (k_E ?_)
    refine r_iret rfl eX11_count_71 ?_
    refine ⟨rfl, ?_⟩
    first | exact Or.inl ⟨by omega, rfl⟩ | exact Or.inr (Or.inl ⟨by omega, rfl⟩) | exact Or.inr (Or.inr (Or.inl ⟨by omega, rfl⟩)) | exact Or.inr (Or.inr (Or.inr (Or.inl ⟨by omega, rfl⟩))) | exact Or.inr (Or.inr (Or.inr (Or.inr (Or.inl ⟨by omega, rfl⟩)))) | exact Or.inr (Or.inr (Or.inr (Or.inr (Or.inr (Or.inl ⟨by omega, rfl⟩))))) | exact Or.inr (Or.inr (Or.inr (Or.inr (Or.inr (Or.inr (Or.inl ⟨by omega, rfl⟩)))))) | exact Or.inr (Or.inr (Or.inr (Or.inr (Or.inr (Or.inr (Or.inr (Or.inl ⟨by omega, rfl⟩))))))) | exact Or.inr (Or.inr (Or.inr (Or.inr (Or.inr (Or.inr (Or.inr (Or.inr (Or.inl ⟨by omega, rfl⟩)))))))) | exact Or.inr (Or.inr (Or.inr (Or.inr (Or.inr (Or.inr (Or.inr (Or.inr (Or.inr (⟨by omega, rfl⟩)))))))))
  · refine j_tsIn eX11_count_1.1 (by omega) (by omega) (by omega) (off := 71) (tgt := 72) (by rw [s1]; rfl) (by decide) ?_
    refine j_aload_n eX11_count_72 rfl ?_
    refine j_getR flX11_28 ly24 rfl eX11_count_73 ?_
    refine j_cV0 zX7_takenBox lkX11_303 ⟨Nat.le_of_ble_eq_true rfl, Nat.le_of_ble_eq_true rfl⟩ ly27 rfl rfl (c_X7_takenBox) (Nat.le_of_ble_eq_true rfl) eX11_count_76 (k_E ?_)
    refine r_iret rfl eX11_count_79 ?_
    refine ⟨rfl, ?_⟩
    first | exact Or.inl ⟨by omega, rfl⟩ | exact Or.inr (Or.inl ⟨by omega, rfl⟩) | exact Or.inr (Or.inr (Or.inl ⟨by omega, rfl⟩)) | exact Or.inr (Or.inr (Or.inr (Or.inl ⟨by omega, rfl⟩))) | exact Or.inr (Or.inr (Or.inr (Or.inr (Or.inl ⟨by omega, rfl⟩)))) | exact Or.inr (Or.inr (Or.inr (Or.inr (Or.inr (Or.inl ⟨by omega, rfl⟩))))) | exact Or.inr (Or.inr (Or.inr (Or.inr (Or.inr (Or.inr (Or.inl ⟨by omega, rfl⟩)))))) | exact Or.inr (Or.inr (Or.inr (Or.inr (Or.inr (Or.inr (Or.inr (Or.inl ⟨by omega, rfl⟩))))))) | exact Or.inr (Or.inr (Or.inr (Or.inr (Or.inr (Or.inr (Or.inr (Or.inr (Or.inl ⟨by omega, rfl⟩)))))))) | exact Or.inr (Or.inr (Or.inr (Or.inr (Or.inr (Or.inr (Or.inr (Or.inr (Or.inr (⟨by omega, rfl⟩)))))))))
  · refine j_tsIn eX11_count_1.1 (by omega) (by omega) (by omega) (off := 79) (tgt := 80) (by rw [s1]; rfl) (by decide) ?_
    refine j_aload_n eX11_count_80 rfl ?_
    refine j_getR flX11_19 ly24 rfl eX11_count_81 ?_
    refine j_aload_n eX11_count_84 rfl ?_
    refine j_getR flX11_28 ly24 rfl eX11_count_85 ?_
    refine j_cV0 zX7_takenPolynomial lkX11_204 ⟨Nat.le_of_ble_eq_true rfl, Nat.le_of_ble_eq_true rfl⟩ ly27 rfl rfl (c_X7_takenPolynomial) (Nat.le_of_ble_eq_true rfl) eX11_count_88 (k_E ?_)
    refine j_cV1 zX10_hasPolynomial lkX11_138 ⟨Nat.le_of_ble_eq_true rfl, Nat.le_of_ble_eq_true rfl⟩ ly0 rfl rfl (c_X10_hasPolynomial_0 (by omega) (by omega)) (Nat.le_of_ble_eq_true rfl) eX11_count_91 (k_B (fun h91 => ?_) (fun h91 => ?_))
    · refine j_ifeq_1 eX11_count_94 ?_
      refine j_aload_n eX11_count_97 rfl ?_
      refine j_getR flX11_19 ly24 rfl eX11_count_98 ?_
      refine j_aload_n eX11_count_101 rfl ?_
      refine j_getR flX11_28 ly24 rfl eX11_count_102 ?_
      refine j_cV0 zX7_takenPolynomial lkX11_204 ⟨Nat.le_of_ble_eq_true rfl, Nat.le_of_ble_eq_true rfl⟩ ly27 rfl rfl (c_X7_takenPolynomial) (Nat.le_of_ble_eq_true rfl) eX11_count_105 (k_E ?_)
      refine j_cV1 zX10_degree lkX11_207 ⟨Nat.le_of_ble_eq_true rfl, Nat.le_of_ble_eq_true rfl⟩ ly0 rfl rfl (c_X10_degree_0 (by omega) (by omega)) (Nat.le_of_ble_eq_true rfl) eX11_count_108 (k_E ?_)
      refine j_goto eX11_count_111 ?_
      refine r_iret rfl eX11_count_116 ?_
      refine ⟨rfl, ?_⟩
      first | exact Or.inl ⟨by omega, rfl⟩ | exact Or.inr (Or.inl ⟨by omega, rfl⟩) | exact Or.inr (Or.inr (Or.inl ⟨by omega, rfl⟩)) | exact Or.inr (Or.inr (Or.inr (Or.inl ⟨by omega, rfl⟩))) | exact Or.inr (Or.inr (Or.inr (Or.inr (Or.inl ⟨by omega, rfl⟩)))) | exact Or.inr (Or.inr (Or.inr (Or.inr (Or.inr (Or.inl ⟨by omega, rfl⟩))))) | exact Or.inr (Or.inr (Or.inr (Or.inr (Or.inr (Or.inr (Or.inl ⟨by omega, rfl⟩)))))) | exact Or.inr (Or.inr (Or.inr (Or.inr (Or.inr (Or.inr (Or.inr (Or.inl ⟨by omega, rfl⟩))))))) | exact Or.inr (Or.inr (Or.inr (Or.inr (Or.inr (Or.inr (Or.inr (Or.inr (Or.inl ⟨by omega, rfl⟩)))))))) | exact Or.inr (Or.inr (Or.inr (Or.inr (Or.inr (Or.inr (Or.inr (Or.inr (Or.inr (⟨by omega, rfl⟩)))))))))
    · refine j_ifeq_0 eX11_count_94 ?_
      refine j_bipush (-9) eX11_count_114 (by decide) ?_
      refine r_iret rfl eX11_count_116 ?_
      refine ⟨rfl, ?_⟩
      first | exact Or.inl ⟨by omega, rfl⟩ | exact Or.inr (Or.inl ⟨by omega, rfl⟩) | exact Or.inr (Or.inr (Or.inl ⟨by omega, rfl⟩)) | exact Or.inr (Or.inr (Or.inr (Or.inl ⟨by omega, rfl⟩))) | exact Or.inr (Or.inr (Or.inr (Or.inr (Or.inl ⟨by omega, rfl⟩)))) | exact Or.inr (Or.inr (Or.inr (Or.inr (Or.inr (Or.inl ⟨by omega, rfl⟩))))) | exact Or.inr (Or.inr (Or.inr (Or.inr (Or.inr (Or.inr (Or.inl ⟨by omega, rfl⟩)))))) | exact Or.inr (Or.inr (Or.inr (Or.inr (Or.inr (Or.inr (Or.inr (Or.inl ⟨by omega, rfl⟩))))))) | exact Or.inr (Or.inr (Or.inr (Or.inr (Or.inr (Or.inr (Or.inr (Or.inr (Or.inl ⟨by omega, rfl⟩)))))))) | exact Or.inr (Or.inr (Or.inr (Or.inr (Or.inr (Or.inr (Or.inr (Or.inr (Or.inr (⟨by omega, rfl⟩)))))))))
  · refine j_tsIn eX11_count_1.1 (by omega) (by omega) (by omega) (off := 116) (tgt := 117) (by rw [s1]; rfl) (by decide) ?_
    refine j_aload_n eX11_count_117 rfl ?_
    refine j_getR flX11_46 ly24 rfl eX11_count_118 ?_
    refine j_cV0 zX6_size lkX11_295 ⟨Nat.le_of_ble_eq_true rfl, Nat.le_of_ble_eq_true rfl⟩ ly31 rfl rfl (c_X6_size) (Nat.le_of_ble_eq_true rfl) eX11_count_121 (k_E ?_)
    refine r_iret rfl eX11_count_124 ?_
    refine ⟨rfl, ?_⟩
    first | exact Or.inl ⟨by omega, rfl⟩ | exact Or.inr (Or.inl ⟨by omega, rfl⟩) | exact Or.inr (Or.inr (Or.inl ⟨by omega, rfl⟩)) | exact Or.inr (Or.inr (Or.inr (Or.inl ⟨by omega, rfl⟩))) | exact Or.inr (Or.inr (Or.inr (Or.inr (Or.inl ⟨by omega, rfl⟩)))) | exact Or.inr (Or.inr (Or.inr (Or.inr (Or.inr (Or.inl ⟨by omega, rfl⟩))))) | exact Or.inr (Or.inr (Or.inr (Or.inr (Or.inr (Or.inr (Or.inl ⟨by omega, rfl⟩)))))) | exact Or.inr (Or.inr (Or.inr (Or.inr (Or.inr (Or.inr (Or.inr (Or.inl ⟨by omega, rfl⟩))))))) | exact Or.inr (Or.inr (Or.inr (Or.inr (Or.inr (Or.inr (Or.inr (Or.inr (Or.inl ⟨by omega, rfl⟩)))))))) | exact Or.inr (Or.inr (Or.inr (Or.inr (Or.inr (Or.inr (Or.inr (Or.inr (Or.inr (⟨by omega, rfl⟩)))))))))
  · refine j_tsIn eX11_count_1.1 (by omega) (by omega) (by omega) (off := 124) (tgt := 125) (by rw [s1]; rfl) (by decide) ?_
    refine j_aload_n eX11_count_125 rfl ?_
    refine j_getR flX11_12 ly24 rfl eX11_count_126 ?_
    refine j_cV0 zX8_length lkX11_104 ⟨Nat.le_of_ble_eq_true rfl, Nat.le_of_ble_eq_true rfl⟩ ly25 rfl rfl (c_X8_length) (Nat.le_of_ble_eq_true rfl) eX11_count_129 (k_E ?_)
    refine r_iret rfl eX11_count_132 ?_
    refine ⟨rfl, ?_⟩
    first | exact Or.inl ⟨by omega, rfl⟩ | exact Or.inr (Or.inl ⟨by omega, rfl⟩) | exact Or.inr (Or.inr (Or.inl ⟨by omega, rfl⟩)) | exact Or.inr (Or.inr (Or.inr (Or.inl ⟨by omega, rfl⟩))) | exact Or.inr (Or.inr (Or.inr (Or.inr (Or.inl ⟨by omega, rfl⟩)))) | exact Or.inr (Or.inr (Or.inr (Or.inr (Or.inr (Or.inl ⟨by omega, rfl⟩))))) | exact Or.inr (Or.inr (Or.inr (Or.inr (Or.inr (Or.inr (Or.inl ⟨by omega, rfl⟩)))))) | exact Or.inr (Or.inr (Or.inr (Or.inr (Or.inr (Or.inr (Or.inr (Or.inl ⟨by omega, rfl⟩))))))) | exact Or.inr (Or.inr (Or.inr (Or.inr (Or.inr (Or.inr (Or.inr (Or.inr (Or.inl ⟨by omega, rfl⟩)))))))) | exact Or.inr (Or.inr (Or.inr (Or.inr (Or.inr (Or.inr (Or.inr (Or.inr (Or.inr (⟨by omega, rfl⟩)))))))))
  · refine j_tsIn eX11_count_1.1 (by omega) (by omega) (by omega) (off := 132) (tgt := 133) (by rw [s1]; rfl) (by decide) ?_
    refine j_aload_n eX11_count_133 rfl ?_
    refine j_getR flX11_35 ly24 rfl eX11_count_134 ?_
    refine j_cV0 zX1_size lkX11_192 ⟨Nat.le_of_ble_eq_true rfl, Nat.le_of_ble_eq_true rfl⟩ ly28 rfl rfl (c_X1_size) (Nat.le_of_ble_eq_true rfl) eX11_count_137 (k_E ?_)
    refine r_iret rfl eX11_count_140 ?_
    refine ⟨rfl, ?_⟩
    first | exact Or.inl ⟨by omega, rfl⟩ | exact Or.inr (Or.inl ⟨by omega, rfl⟩) | exact Or.inr (Or.inr (Or.inl ⟨by omega, rfl⟩)) | exact Or.inr (Or.inr (Or.inr (Or.inl ⟨by omega, rfl⟩))) | exact Or.inr (Or.inr (Or.inr (Or.inr (Or.inl ⟨by omega, rfl⟩)))) | exact Or.inr (Or.inr (Or.inr (Or.inr (Or.inr (Or.inl ⟨by omega, rfl⟩))))) | exact Or.inr (Or.inr (Or.inr (Or.inr (Or.inr (Or.inr (Or.inl ⟨by omega, rfl⟩)))))) | exact Or.inr (Or.inr (Or.inr (Or.inr (Or.inr (Or.inr (Or.inr (Or.inl ⟨by omega, rfl⟩))))))) | exact Or.inr (Or.inr (Or.inr (Or.inr (Or.inr (Or.inr (Or.inr (Or.inr (Or.inl ⟨by omega, rfl⟩)))))))) | exact Or.inr (Or.inr (Or.inr (Or.inr (Or.inr (Or.inr (Or.inr (Or.inr (Or.inr (⟨by omega, rfl⟩)))))))))
  · refine j_tsOut eX11_count_1.1 (by omega) s1 (tgt := 141) (by decide) ?_
    refine j_iconst (-1) eX11_count_141 ?_
    refine r_iret rfl eX11_count_142 ?_
    refine ⟨rfl, ?_⟩
    first | exact Or.inl ⟨by omega, rfl⟩ | exact Or.inr (Or.inl ⟨by omega, rfl⟩) | exact Or.inr (Or.inr (Or.inl ⟨by omega, rfl⟩)) | exact Or.inr (Or.inr (Or.inr (Or.inl ⟨by omega, rfl⟩))) | exact Or.inr (Or.inr (Or.inr (Or.inr (Or.inl ⟨by omega, rfl⟩)))) | exact Or.inr (Or.inr (Or.inr (Or.inr (Or.inr (Or.inl ⟨by omega, rfl⟩))))) | exact Or.inr (Or.inr (Or.inr (Or.inr (Or.inr (Or.inr (Or.inl ⟨by omega, rfl⟩)))))) | exact Or.inr (Or.inr (Or.inr (Or.inr (Or.inr (Or.inr (Or.inr (Or.inl ⟨by omega, rfl⟩))))))) | exact Or.inr (Or.inr (Or.inr (Or.inr (Or.inr (Or.inr (Or.inr (Or.inr (Or.inl ⟨by omega, rfl⟩)))))))) | exact Or.inr (Or.inr (Or.inr (Or.inr (Or.inr (Or.inr (Or.inr (Or.inr (Or.inr (⟨by omega, rfl⟩)))))))))
