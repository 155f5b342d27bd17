/-! the reference's numbers -/
theorem ch_tab : ∀ (n j : Fin 8), j.1 < n.1 → Int.tdiv (bnZ (n.1 : Int) (j.1 : Int) * ((n.1 : Int) - (j.1 : Int))) ((j.1 : Int) + 1) = bnZ (n.1 : Int) ((j.1 : Int) + 1) := by decide +kernel
theorem ch_step {n j : Int} (hn : 0 ≤ n ∧ n ≤ 7) (hj : 0 ≤ j ∧ j < n) : Int.tdiv (bnZ n j * (n - j)) (j + 1) = bnZ n (j + 1) := by
  have w := ch_tab ⟨n.toNat, by omega⟩ ⟨j.toNat, by omega⟩ (by show j.toNat < n.toNat; omega)
  simp only at w
  rw [show ((n.toNat : Nat) : Int) = n from by omega, show ((j.toNat : Nat) : Int) = j from by omega] at w
  exact w
def loM (σ : Sg) (a : Int) : Int := σ 49 (23 + σ 48 7) * 64 + (σ 49 (26 + σ 48 7) - σ 49 (23 + σ 48 7)) * (a * pz a - 64)
def wdM (σ : Sg) (a : Int) : Int := (σ 49 (26 + σ 48 7) - σ 49 (23 + σ 48 7)) * pz a
theorem pz64_tab : ∀ x : Fin 127, pz ((x.1 : Int) + 1) * Int.tdiv 64 (pz ((x.1 : Int) + 1)) = 64 := by decide +kernel
theorem pz64 {a : Int} (h : 1 ≤ a ∧ a ≤ 127) : pz a * Int.tdiv 64 (pz a) = 64 := by
  have w := pz64_tab ⟨(a - 1).toNat, by omega⟩
  simp only at w
  rw [show (((a - 1).toNat : Nat) : Int) + 1 = a from by omega] at w
  exact w
theorem loM_eq {A L a : Int} (h : 1 ≤ a ∧ a ≤ 127) : 64 * A + L * pz a * (a - Int.tdiv 64 (pz a)) = A * 64 + L * (a * pz a - 64) := by
  have e := pz64 h
  rw [Int.mul_comm 64 A, Int.mul_assoc, Int.mul_sub, e, Int.mul_comm (pz a) a]
def owS (f : Int → Int) (n lo wd j : Int) : Nat → Int → Int → Int
  | 0, _, s => s
  | t + 1, k, s => owS f n lo wd j t (k + 1) (s + f k * 64 ^ (n - k).toNat * bnZ k j * lo ^ (k - j).toNat * wd ^ j.toNat)
def ow (f : Int → Int) (n lo wd j : Int) : Int := owS f n lo wd j (n + 1 - j).toNat j 0
def lcS (N : Int) : Nat → Int → Int → Int
  | 0, _, a => a
  | t + 1, j, a => lcS N t (j + 1) (Int.tdiv a (Int.gcd a (bnZ N j)) * bnZ N j)
def lcf (N n : Int) : Int := lcS N (n + 1).toNat 0 1
def rwS (al N i : Int) (o : Int → Int) : Nat → Int → Int → Int
  | 0, _, s => s
  | t + 1, j, s => rwS al N i o t (j + 1) (s + Int.tdiv al (bnZ N j) * bnZ i j * o j)
def fM (σ : Sg) (p : Int) : Int → Int := fun k => σ 49 (5 + 6 * p + k)
def lcok (N : Int) : Nat → Int → Int → Bool
  | 0, _, a => decide (1 ≤ a) && decide (a ≤ 420)
  | t + 1, j, a => decide (1 ≤ a) && decide (a ≤ 420) && lcok N t (j + 1) (Int.tdiv a (Int.gcd a (bnZ N j)) * bnZ N j)
theorem lc_tab : ∀ (n : Fin 6) (r : Fin 3), lcok ((n.1 : Int) + r.1) (n.1 + 1) 0 1 = true := by decide +kernel
def VTm (σ : Sg) : Prop := (0 ≤ σ 48 6 ∧ σ 48 6 < σ 49 0) ∧ 0 ≤ σ 48 7 ∧ σ 48 7 < σ 49 1
def RowM (σ σ' : Sg) (p a r : Int) : Prop := (∀ k, k ≠ 48 → k ≠ 60 → k ≠ 61 → σ' k = σ k) ∧ (∀ j, j ≠ 20 → j ≠ 21 → σ' 48 j = σ 48 j) ∧ σ' 48 20 = σ 49 (2 + p) + r ∧ σ' 48 21 = lcf (σ 49 (2 + p) + r) (σ 49 (2 + p)) * 64 ^ (σ 49 (2 + p)).toNat ∧ ∀ i, 0 ≤ i → i ≤ σ 49 (2 + p) + r → σ' 60 i = rwS (lcf (σ 49 (2 + p) + r) (σ 49 (2 + p))) (σ 49 (2 + p) + r) i (ow (fM σ p) (σ 49 (2 + p)) (loM σ a) (wdM σ a)) ((if i ≤ σ 49 (2 + p) then i else σ 49 (2 + p)) + 1).toNat 0 0
theorem wdM_b {σ : Sg} {a : Int} (hM : TM σ) (h : 1 ≤ a ∧ a ≤ 127) (hb : 0 ≤ σ 48 7 ∧ σ 48 7 < σ 49 1) : (-320 ≤ loM σ a ∧ loM σ a ≤ 320) ∧ 0 ≤ wdM σ a ∧ wdM σ a ≤ 640 := by
  have q := pz_b h
  have e : (a + 1) * pz a = a * pz a + pz a := by rw [Int.add_mul, Int.one_mul]
  have w := hM.2.2.2.2.2 (σ 48 7) hb.1 hb.2
  refine ⟨lohi_b w (by omega), ?_, ?_⟩
  · exact Int.mul_nonneg (by omega) (by omega)
  · have h1 : (σ 49 (26 + σ 48 7) - σ 49 (23 + σ 48 7)) * pz a ≤ 10 * pz a := Int.mul_le_mul_of_nonneg_right (by omega) (by omega)
    unfold wdM
    omega
theorem l_X12_power {g : Gl} {σ : Sg} {x n : Int} (hn : 0 ≤ n ∧ n ≤ 1000) : ∀ (t : Nat) (s : Int), (t : Int) ≤ n → jv g mX12_power (Fm g (PEL (s * x ^ t) σ)) σ [(0, vl x), (2, vi n), (3, vl s), (5, vi (n - (t : Int)))] 5 [] := by
  intro t
  induction t with
  | zero =>
    intro s h1
    refine j_iload eX12_power_5 rfl ?_
    refine j_iload_n eX12_power_7 rfl ?_
    refine j_icmp_ge eX12_power_8 (by omega) (fun h => ?_) (fun h => absurd (by omega) h)
    refine j_lload_n eX12_power_21 rfl ?_
    exact r_lret rfl eX12_power_22 ⟨by rw [Int.pow_zero, Int.mul_one], rfl⟩
  | succ t ih =>
    intro s h1
    refine j_iload eX12_power_5 rfl ?_
    refine j_iload_n eX12_power_7 rfl ?_
    refine j_icmp_ge eX12_power_8 (by omega) (fun h8 => absurd h8 (by omega)) (fun h8 => ?_)
    refine j_lload_n eX12_power_11 rfl ?_
    refine j_lload_n eX12_power_12 rfl ?_
    refine j_lmul eX12_power_13 ?_
    refine j_lstore_n eX12_power_14 (Nat.le_of_ble_eq_true rfl) ?_
    refine j_iinc eX12_power_15 rfl (Nat.le_of_ble_eq_true rfl) ?_
    refine j_goto eX12_power_18 ?_
    have e1 : n - ((t + 1 : Nat) : Int) + 1 = n - (t : Int) := by omega
    have e2 : s * x ^ (t + 1) = s * x * x ^ t := by rw [Int.pow_succ, Int.mul_comm (x ^ t) x, Int.mul_assoc]
    rw [e1, e2]
    refine jv_lv ?_ (ih (s * x) (by omega))
    exact lvC rfl (lvC rfl (lvC rfl (lvC rfl (lv0))))
theorem c_X12_power {g : Gl} {σ : Sg} {x n : Int} (hn : 0 ≤ n ∧ n ≤ 1000) : Ct g mX12_power [vl x, vi n] σ (PEL (x ^ n.toNat) σ) := by
  refine Ct.of (by decide +kernel) (Nat.le_of_ble_eq_true rfl) ?_
  show jv g _ _ σ [(0, vl x), (2, vi n)] 0 []
  refine j_lconst1 eX12_power_0 ?_
  refine j_lstore_n eX12_power_1 (Nat.le_of_ble_eq_true rfl) ?_
  refine j_iconst 0 eX12_power_2 ?_
  refine j_istore eX12_power_3 (Nat.le_of_ble_eq_true rfl) ?_
  have e0 : (0 : Int) = n - ((n.toNat : Nat) : Int) := by omega
  have e1 := l_X12_power (g := g) (σ := σ) (x := x) hn n.toNat 1 (by omega)
  rw [← e0, Int.one_mul] at e1
  refine jv_lv ?_ e1
  exact lvC rfl (lvC rfl (lvC rfl (lvC rfl (lv0))))
theorem l_X12_choose {g : Gl} {σ : Sg} {a b : Int} (h : 0 ≤ b ∧ b ≤ a ∧ a ≤ 7) : ∀ (t : Nat), (t : Int) ≤ b → jv g mX12_choose (Fm g (PEL (bnZ a b) σ)) σ [(0, vi a), (1, vi b), (2, vl (bnZ a (b - (t : Int)))), (4, vi (b - (t : Int)))] 5 [] := by
  intro t
  induction t with
  | zero =>
    intro h1
    refine j_iload eX12_choose_5 rfl ?_
    refine j_iload_n eX12_choose_7 rfl ?_
    refine j_icmp_ge eX12_choose_8 (by omega) (fun h => ?_) (fun h => absurd (by omega) h)
    refine j_iload_n eX12_choose_31 rfl ?_
    refine j_iload_n eX12_choose_32 rfl ?_
    refine j_icmp_le eX12_choose_33 (by omega) (fun h => ?_) (fun h => absurd (by omega) h)
    refine j_lload_n eX12_choose_40 rfl ?_
    exact r_lret rfl eX12_choose_41 ⟨by rw [show b - ((0 : Nat) : Int) = b from by omega], rfl⟩
  | succ t ih =>
    intro h1
    refine j_iload eX12_choose_5 rfl ?_
    refine j_iload_n eX12_choose_7 rfl ?_
    refine j_icmp_ge eX12_choose_8 (by omega) (fun h8 => absurd h8 (by omega)) (fun h8 => ?_)
    have bb := bnZ_b (t := a) (i := b - ((t + 1 : Nat) : Int)) (by omega) (by omega)
    have mb := mul_bd (x := bnZ a (b - ((t + 1 : Nat) : Int))) (y := a - (b - ((t + 1 : Nat) : Int))) (X := 35) (Y := 7) (by omega) (by omega) (by omega)
    refine j_lload_n eX12_choose_11 rfl ?_
    refine j_iload_n eX12_choose_12 rfl ?_
    refine j_iload eX12_choose_13 rfl ?_
    refine j_isub eX12_choose_15 ?_
    refine j_i2l (by omega) eX12_choose_16 ?_
    refine j_lmul eX12_choose_17 ?_
    refine j_iload eX12_choose_18 rfl ?_
    refine j_iconst 1 eX12_choose_20 ?_
    refine j_iadd eX12_choose_21 ?_
    refine j_i2l (by omega) eX12_choose_22 ?_
    refine j_ldiv (by omega) eX12_choose_23 ?_
    rw [ch_step (by omega) (by omega)]
    refine j_lstore_n eX12_choose_24 (Nat.le_of_ble_eq_true rfl) ?_
    refine j_iinc eX12_choose_25 rfl (Nat.le_of_ble_eq_true rfl) ?_
    refine j_goto eX12_choose_28 ?_
    have e1 : b - ((t + 1 : Nat) : Int) + 1 = b - (t : Int) := by omega
    rw [e1]
    refine jv_lv ?_ (ih (by omega))
    exact lvC rfl (lvC rfl (lvC rfl (lvC rfl (lv0))))
theorem c_X12_choose {g : Gl} {σ : Sg} {a b : Int} (h : 0 ≤ b ∧ b ≤ a ∧ a ≤ 7) : Ct g mX12_choose [vi a, vi b] σ (PEL (bnZ a b) σ) := by
  refine Ct.of (by decide +kernel) (Nat.le_of_ble_eq_true rfl) ?_
  show jv g _ _ σ [(0, vi a), (1, vi b)] 0 []
  refine j_lconst1 eX12_choose_0 ?_
  refine j_lstore_n eX12_choose_1 (Nat.le_of_ble_eq_true rfl) ?_
  refine j_iconst 0 eX12_choose_2 ?_
  refine j_istore eX12_choose_3 (Nat.le_of_ble_eq_true rfl) ?_
  have e0 : (0 : Int) = b - ((b.toNat : Nat) : Int) := by omega
  have e1 := l_X12_choose (g := g) (σ := σ) h b.toNat (by omega)
  rw [← e0, bnZ_0 (by omega)] at e1
  refine jv_lv ?_ e1
  exact lvC rfl (lvC rfl (lvC rfl (lvC rfl (lv0))))
theorem l_X12_common {g : Gl} {σ : Sg} {a b : Int} (h : -9223372036854775807 ≤ a ∧ a ≤ 9223372036854775807 ∧ -9223372036854775807 ≤ b ∧ b ≤ 9223372036854775807) : ∀ (t : Nat) (x z : Int), 0 ≤ x → x ≤ 9223372036854775807 → 0 ≤ z → z < t → z ≤ 9223372036854775807 → Int.gcd x z = Int.gcd a b → jv g mX12_common (Fm g (PEL (Int.gcd a b : Int) σ)) σ [(0, vl a), (2, vl b), (4, vl x), (6, vl z)] 28 [] := by
  intro t
  induction t with
  | zero =>
    intro x z h1 h2 h3 h5
    exfalso
    omega
  | succ t ih =>
    intro x z h1 h2 h3 h5 h6 h4
    refine j_lload eX12_common_28 rfl ?_
    refine j_lconst0 eX12_common_30 ?_
    refine j_lc_eq eX12_common_31 eX12_common_32 (by omega) (fun h31 => ?_) (fun h31 => ?_)
    · refine j_lload eX12_common_53 rfl ?_
      refine r_lret rfl eX12_common_55 ?_
      subst h31
      exact ⟨by rw [← h4, Int.gcd_zero_right]; omega, rfl⟩
    · refine j_lload eX12_common_35 rfl ?_
      refine j_lload eX12_common_37 rfl ?_
      refine j_lrem (by omega) eX12_common_39 ?_
      refine j_lstore eX12_common_40 (Nat.le_of_ble_eq_true rfl) ?_
      refine j_lload eX12_common_42 rfl ?_
      refine j_lstore eX12_common_44 (Nat.le_of_ble_eq_true rfl) ?_
      refine j_lload eX12_common_46 rfl ?_
      refine j_lstore eX12_common_48 (Nat.le_of_ble_eq_true rfl) ?_
      refine j_goto eX12_common_50 ?_
      have r := tmod_le_half (a := x) (b := z) (by omega) (by omega)
      refine jv_lv ?_ (ih z (Int.tmod x z) (by omega) (by omega) (by omega) (by omega) (by omega) ((gcd_step (by omega) (by omega)).trans h4))
      exact lvC rfl (lvC rfl (lvC rfl (lvC rfl (lv0))))
theorem c_X12_common {g : Gl} {σ : Sg} {a b : Int} (h : -9223372036854775807 ≤ a ∧ a ≤ 9223372036854775807 ∧ -9223372036854775807 ≤ b ∧ b ≤ 9223372036854775807) : Ct g mX12_common [vl a, vl b] σ (PEL (Int.gcd a b : Int) σ) := by
  refine Ct.of (by decide +kernel) (Nat.le_of_ble_eq_true rfl) ?_
  show jv g _ _ σ [(0, vl a), (2, vl b)] 0 []
  refine j_lload_n eX12_common_0 rfl ?_
  refine j_lconst0 eX12_common_1 ?_
  refine j_lc_ge eX12_common_2 eX12_common_3 (by omega) (fun h2 => ?_) (fun h2 => ?_)
  · refine j_lload_n eX12_common_11 rfl ?_
    refine j_lstore eX12_common_12 (Nat.le_of_ble_eq_true rfl) ?_
    refine j_lload_n eX12_common_14 rfl ?_
    refine j_lconst0 eX12_common_15 ?_
    refine j_lc_ge eX12_common_16 eX12_common_17 (by omega) (fun h16 => ?_) (fun h16 => ?_)
    · refine j_lload_n eX12_common_25 rfl ?_
      refine j_lstore eX12_common_26 (Nat.le_of_ble_eq_true rfl) ?_
      first
      | (have ea : a = ((a.natAbs : Nat) : Int) := by omega
         have eb : b = ((b.natAbs : Nat) : Int) := by omega
         refine jv_lv ?_ (l_X12_common h (b.natAbs + 1) a b (by omega) (by omega) (by omega) (by omega) (by omega) rfl)
         exact lvC rfl (lvC rfl (lvC rfl (lvC rfl (lv0)))))
      | (have eb : 0 ≤ b := by omega
         refine jv_lv ?_ (l_X12_common h (b.natAbs + 1) (-a) b (by omega) (by omega) (by omega) (by omega) (by omega) (Int.neg_gcd))
         exact lvC rfl (lvC rfl (lvC rfl (lvC rfl (lv0)))))
      | (have ea : 0 ≤ a := by omega
         refine jv_lv ?_ (l_X12_common h (b.natAbs + 1) a (-b) (by omega) (by omega) (by omega) (by omega) (by omega) (Int.gcd_neg))
         exact lvC rfl (lvC rfl (lvC rfl (lvC rfl (lv0)))))
      | (refine jv_lv ?_ (l_X12_common h (b.natAbs + 1) (-a) (-b) (by omega) (by omega) (by omega) (by omega) (by omega) (by rw [Int.neg_gcd, Int.gcd_neg]))
         exact lvC rfl (lvC rfl (lvC rfl (lvC rfl (lv0)))))
    · refine j_lload_n eX12_common_20 rfl ?_
      refine j_lneg eX12_common_21 ?_
      refine j_goto eX12_common_22 ?_
      refine j_lstore eX12_common_26 (Nat.le_of_ble_eq_true rfl) ?_
      first
      | (have ea : a = ((a.natAbs : Nat) : Int) := by omega
         have eb : b = ((b.natAbs : Nat) : Int) := by omega
         refine jv_lv ?_ (l_X12_common h (b.natAbs + 1) a b (by omega) (by omega) (by omega) (by omega) (by omega) rfl)
         exact lvC rfl (lvC rfl (lvC rfl (lvC rfl (lv0)))))
      | (have eb : 0 ≤ b := by omega
         refine jv_lv ?_ (l_X12_common h (b.natAbs + 1) (-a) b (by omega) (by omega) (by omega) (by omega) (by omega) (Int.neg_gcd))
         exact lvC rfl (lvC rfl (lvC rfl (lvC rfl (lv0)))))
      | (have ea : 0 ≤ a := by omega
         refine jv_lv ?_ (l_X12_common h (b.natAbs + 1) a (-b) (by omega) (by omega) (by omega) (by omega) (by omega) (Int.gcd_neg))
         exact lvC rfl (lvC rfl (lvC rfl (lvC rfl (lv0)))))
      | (refine jv_lv ?_ (l_X12_common h (b.natAbs + 1) (-a) (-b) (by omega) (by omega) (by omega) (by omega) (by omega) (by rw [Int.neg_gcd, Int.gcd_neg]))
         exact lvC rfl (lvC rfl (lvC rfl (lvC rfl (lv0)))))
  · refine j_lload_n eX12_common_6 rfl ?_
    refine j_lneg eX12_common_7 ?_
    refine j_goto eX12_common_8 ?_
    refine j_lstore eX12_common_12 (Nat.le_of_ble_eq_true rfl) ?_
    refine j_lload_n eX12_common_14 rfl ?_
    refine j_lconst0 eX12_common_15 ?_
    refine j_lc_ge eX12_common_16 eX12_common_17 (by omega) (fun h16 => ?_) (fun h16 => ?_)
    · refine j_lload_n eX12_common_25 rfl ?_
      refine j_lstore eX12_common_26 (Nat.le_of_ble_eq_true rfl) ?_
      first
      | (have ea : a = ((a.natAbs : Nat) : Int) := by omega
         have eb : b = ((b.natAbs : Nat) : Int) := by omega
         refine jv_lv ?_ (l_X12_common h (b.natAbs + 1) a b (by omega) (by omega) (by omega) (by omega) (by omega) rfl)
         exact lvC rfl (lvC rfl (lvC rfl (lvC rfl (lv0)))))
      | (have eb : 0 ≤ b := by omega
         refine jv_lv ?_ (l_X12_common h (b.natAbs + 1) (-a) b (by omega) (by omega) (by omega) (by omega) (by omega) (Int.neg_gcd))
         exact lvC rfl (lvC rfl (lvC rfl (lvC rfl (lv0)))))
      | (have ea : 0 ≤ a := by omega
         refine jv_lv ?_ (l_X12_common h (b.natAbs + 1) a (-b) (by omega) (by omega) (by omega) (by omega) (by omega) (Int.gcd_neg))
         exact lvC rfl (lvC rfl (lvC rfl (lvC rfl (lv0)))))
      | (refine jv_lv ?_ (l_X12_common h (b.natAbs + 1) (-a) (-b) (by omega) (by omega) (by omega) (by omega) (by omega) (by rw [Int.neg_gcd, Int.gcd_neg]))
         exact lvC rfl (lvC rfl (lvC rfl (lvC rfl (lv0)))))
    · refine j_lload_n eX12_common_20 rfl ?_
      refine j_lneg eX12_common_21 ?_
      refine j_goto eX12_common_22 ?_
      refine j_lstore eX12_common_26 (Nat.le_of_ble_eq_true rfl) ?_
      first
      | (have ea : a = ((a.natAbs : Nat) : Int) := by omega
         have eb : b = ((b.natAbs : Nat) : Int) := by omega
         refine jv_lv ?_ (l_X12_common h (b.natAbs + 1) a b (by omega) (by omega) (by omega) (by omega) (by omega) rfl)
         exact lvC rfl (lvC rfl (lvC rfl (lvC rfl (lv0)))))
      | (have eb : 0 ≤ b := by omega
         refine jv_lv ?_ (l_X12_common h (b.natAbs + 1) (-a) b (by omega) (by omega) (by omega) (by omega) (by omega) (Int.neg_gcd))
         exact lvC rfl (lvC rfl (lvC rfl (lvC rfl (lv0)))))
      | (have ea : 0 ≤ a := by omega
         refine jv_lv ?_ (l_X12_common h (b.natAbs + 1) a (-b) (by omega) (by omega) (by omega) (by omega) (by omega) (Int.gcd_neg))
         exact lvC rfl (lvC rfl (lvC rfl (lvC rfl (lv0)))))
      | (refine jv_lv ?_ (l_X12_common h (b.natAbs + 1) (-a) (-b) (by omega) (by omega) (by omega) (by omega) (by omega) (by rw [Int.neg_gcd, Int.gcd_neg]))
         exact lvC rfl (lvC rfl (lvC rfl (lvC rfl (lv0)))))
theorem c_X12_fraction {g : Gl} {σ : Sg} {u l w : Int} (h : -9223372036854775807 ≤ u ∧ u ≤ 9223372036854775807 ∧ 0 < l ∧ l ≤ 9223372036854775807) (hw : -2147483648 ≤ w ∧ w ≤ 2147483647) : Ct g mX12_fraction [vl u, vl l, vi w] σ (PEL (FR u l w) σ) := by
  refine Ct.of (by decide +kernel) (Nat.le_of_ble_eq_true rfl) ?_
  show jv g _ _ σ [(0, vl u), (2, vl l), (4, vi w)] 0 []
  refine j_lload_n eX12_fraction_0 rfl ?_
  refine j_lload_n eX12_fraction_1 rfl ?_
  refine j_cS2 zX12_common lkX12_164 ⟨Nat.le_of_ble_eq_true rfl, Nat.le_of_ble_eq_true rfl⟩ (c_X12_common (by omega)) (Nat.le_of_ble_eq_true rfl) eX12_fraction_2 (k_EL ?_)
  have gp : 0 < Int.gcd u l := Int.gcd_pos_of_ne_zero_right u (by omega)
  have gl : (Int.gcd u l : Int) ≤ l := Int.le_of_dvd (by omega) (Int.gcd_dvd_right u l)
  refine j_lstore eX12_fraction_5 (Nat.le_of_ble_eq_true rfl) ?_
  refine j_iload eX12_fraction_7 rfl ?_
  refine j_if_ne eX12_fraction_9 (by omega) (fun h9 => ?_) (fun h9 => ?_)
  · refine j_lload_n eX12_fraction_19 rfl ?_
    refine j_lload eX12_fraction_20 rfl ?_
    refine j_ldiv (by omega) eX12_fraction_22 ?_
    refine r_lret rfl eX12_fraction_23 ?_
    first | exact ⟨by unfold FR; rw [if_pos (by omega)], rfl⟩ | exact ⟨by unfold FR; rw [if_neg (by omega)], rfl⟩
  · refine j_lload_n eX12_fraction_12 rfl ?_
    refine j_lload eX12_fraction_13 rfl ?_
    refine j_ldiv (by omega) eX12_fraction_15 ?_
    refine j_goto eX12_fraction_16 ?_
    refine r_lret rfl eX12_fraction_23 ?_
    first | exact ⟨by unfold FR; rw [if_pos (by omega)], rfl⟩ | exact ⟨by unfold FR; rw [if_neg (by omega)], rfl⟩
theorem l_X12_sizeOf {g : Gl} {σ : Sg} {a : Int} (h : 1 ≤ a ∧ a ≤ 127) : ∀ (t : Nat) (m s : Int), 1 ≤ m → m ≤ 127 → m < 2 ^ t → 0 ≤ s → s ≤ 64 → jv g mX12_sizeOf (Fm g (PE (hv t m s) σ)) σ [(0, vi a), (1, vi s), (2, vi m)] 5 [] := by
  intro t
  induction t with
  | zero =>
    intro m s h1 h2 h3
    exfalso
    have h4 : (2 : Int) ^ 0 = 1 := rfl
    omega
  | succ t ih =>
    intro m s h1 h2 h3 h4 h5
    have e1 : (2 : Int) ^ (t + 1) = 2 ^ t * 2 := Int.pow_succ 2 t
    refine j_iload_n eX12_sizeOf_5 rfl ?_
    refine j_iconst 1 eX12_sizeOf_6 ?_
    refine j_icmp_le eX12_sizeOf_7 (by omega) (fun h7 => ?_) (fun h7 => ?_)
    · refine j_iload_n eX12_sizeOf_21 rfl ?_
      refine r_iret rfl eX12_sizeOf_22 ?_
      have e2 : hv (t + 1) m s = s := if_pos (by omega)
      exact ⟨e2.symm, rfl⟩
    · refine j_iload_n eX12_sizeOf_10 rfl ?_
      refine j_iconst 2 eX12_sizeOf_11 ?_
      refine j_idiv (by omega) eX12_sizeOf_12 ?_
      refine j_istore_n eX12_sizeOf_13 (Nat.le_of_ble_eq_true rfl) ?_
      refine j_iload_n eX12_sizeOf_14 rfl ?_
      refine j_iconst 2 eX12_sizeOf_15 ?_
      refine j_idiv (by omega) eX12_sizeOf_16 ?_
      refine j_istore_n eX12_sizeOf_17 (Nat.le_of_ble_eq_true rfl) ?_
      refine j_goto eX12_sizeOf_18 ?_
      have d1 : Int.tdiv m 2 = m / 2 := Int.tdiv_eq_ediv_of_nonneg (by omega)
      have d2 : Int.tdiv s 2 = s / 2 := Int.tdiv_eq_ediv_of_nonneg (by omega)
      have e2 : hv (t + 1) m s = hv t (Int.tdiv m 2) (Int.tdiv s 2) := if_neg (by omega)
      rw [e2]
      refine jv_lv ?_ (ih (Int.tdiv m 2) (Int.tdiv s 2) (by omega) (by omega) (by omega) (by omega) (by omega))
      exact lvC rfl (lvC rfl (lvC rfl lv0))
theorem c_X12_sizeOf {g : Gl} {σ : Sg} {a : Int} (h : 1 ≤ a ∧ a ≤ 127) : Ct g mX12_sizeOf [vi a] σ (PE (pz a) σ) := by
  refine Ct.of (by decide +kernel) (Nat.le_of_ble_eq_true rfl) ?_
  show jv g _ _ σ [(0, vi a)] 0 []
  refine j_bipush 64 eX12_sizeOf_0 (by decide) ?_
  refine j_istore_n eX12_sizeOf_2 (Nat.le_of_ble_eq_true rfl) ?_
  refine j_iload_n eX12_sizeOf_3 rfl ?_
  refine j_istore_n eX12_sizeOf_4 (Nat.le_of_ble_eq_true rfl) ?_
  refine jv_lv ?_ (l_X12_sizeOf h 7 a 64 (by omega) (by omega) (by omega) (by omega) (by omega))
  exact lvC rfl (lvC rfl (lvC rfl lv0))
theorem c_X12_lengthOf {g : Gl} {σ : Sg} (tb : 0 ≤ σ 48 7 ∧ σ 48 7 ≤ 2) : Ct g mX12_lengthOf [vr g 48] σ (PE (σ 49 (26 + σ 48 7) - σ 49 (23 + σ 48 7)) σ) := by
  refine Ct.of (by decide +kernel) (Nat.le_of_ble_eq_true rfl) ?_
  show jv g _ _ σ [(0, vr g 48)] 0 []
  refine j_aload_n eX12_lengthOf_0 rfl ?_
  refine j_getR flX12_7 ly48 rfl eX12_lengthOf_1 ?_
  refine j_bipush 26 eX12_lengthOf_4 (by decide) ?_
  refine j_aload_n eX12_lengthOf_6 rfl ?_
  refine j_getI flX12_82 ly48 rfl eX12_lengthOf_7 ?_
  refine j_iadd eX12_lengthOf_10 ?_
  refine j_iald ly49 (by omega) eX12_lengthOf_11 ?_
  refine j_aload_n eX12_lengthOf_12 rfl ?_
  refine j_getR flX12_7 ly48 rfl eX12_lengthOf_13 ?_
  refine j_bipush 23 eX12_lengthOf_16 (by decide) ?_
  refine j_aload_n eX12_lengthOf_18 rfl ?_
  refine j_getI flX12_82 ly48 rfl eX12_lengthOf_19 ?_
  refine j_iadd eX12_lengthOf_22 ?_
  refine j_iald ly49 (by omega) eX12_lengthOf_23 ?_
  refine j_isub eX12_lengthOf_24 ?_
  refine r_iret rfl eX12_lengthOf_25 ?_
  first | exact ⟨rfl, rfl⟩ | (exfalso; omega)
theorem c_X12_lowOf {g : Gl} {σ : Sg} {a : Int} (nd : 1 ≤ a ∧ a ≤ 127) (tb : 0 ≤ σ 48 7 ∧ σ 48 7 ≤ 2) : Ct g mX12_lowOf [vr g 48, vi a] σ (PE (loM σ a) σ) := by
  refine Ct.of (by decide +kernel) (Nat.le_of_ble_eq_true rfl) ?_
  show jv g _ _ σ [(0, vr g 48), (1, vi a)] 0 []
  have q := pz_b nd
  refine j_iload_n eX12_lowOf_0 rfl ?_
  refine j_cS1 zX12_sizeOf lkX12_138 ⟨Nat.le_of_ble_eq_true rfl, Nat.le_of_ble_eq_true rfl⟩ (c_X12_sizeOf (by omega)) (Nat.le_of_ble_eq_true rfl) eX12_lowOf_1 (k_E ?_)
  refine j_istore_n eX12_lowOf_4 (Nat.le_of_ble_eq_true rfl) ?_
  refine j_bipush 64 eX12_lowOf_5 (by decide) ?_
  refine j_aload_n eX12_lowOf_7 rfl ?_
  refine j_getR flX12_7 ly48 rfl eX12_lowOf_8 ?_
  refine j_bipush 23 eX12_lowOf_11 (by decide) ?_
  refine j_aload_n eX12_lowOf_13 rfl ?_
  refine j_getI flX12_82 ly48 rfl eX12_lowOf_14 ?_
  refine j_iadd eX12_lowOf_17 ?_
  refine j_iald ly49 (by omega) eX12_lowOf_18 ?_
  refine j_imul eX12_lowOf_19 ?_
  refine j_aload_n eX12_lowOf_20 rfl ?_
  refine j_cV0 zX12_lengthOf lkX12_141 ⟨Nat.le_of_ble_eq_true rfl, Nat.le_of_ble_eq_true rfl⟩ ly48 rfl rfl (c_X12_lengthOf (by omega)) (Nat.le_of_ble_eq_true rfl) eX12_lowOf_21 (k_E ?_)
  refine j_iload_n eX12_lowOf_24 rfl ?_
  refine j_imul eX12_lowOf_25 ?_
  refine j_iload_n eX12_lowOf_26 rfl ?_
  refine j_bipush 64 eX12_lowOf_27 (by decide) ?_
  refine j_iload_n eX12_lowOf_29 rfl ?_
  refine j_idiv (by omega) eX12_lowOf_30 ?_
  refine j_isub eX12_lowOf_31 ?_
  refine j_imul eX12_lowOf_32 ?_
  refine j_iadd eX12_lowOf_33 ?_
  refine r_iret rfl eX12_lowOf_34 ?_
  exact ⟨loM_eq nd, rfl⟩
theorem c_X12_highOf {g : Gl} {σ : Sg} {a : Int} (nd : 1 ≤ a ∧ a ≤ 127) (tb : 0 ≤ σ 48 7 ∧ σ 48 7 ≤ 2) : Ct g mX12_highOf [vr g 48, vi a] σ (PE (loM σ a + wdM σ a) σ) := by
  refine Ct.of (by decide +kernel) (Nat.le_of_ble_eq_true rfl) ?_
  show jv g _ _ σ [(0, vr g 48), (1, vi a)] 0 []
  refine j_aload_n eX12_highOf_0 rfl ?_
  refine j_iload_n eX12_highOf_1 rfl ?_
  refine j_cV1 zX12_lowOf lkX12_145 ⟨Nat.le_of_ble_eq_true rfl, Nat.le_of_ble_eq_true rfl⟩ ly48 rfl rfl (c_X12_lowOf (by omega) (by omega)) (Nat.le_of_ble_eq_true rfl) eX12_highOf_2 (k_E ?_)
  refine j_aload_n eX12_highOf_5 rfl ?_
  refine j_cV0 zX12_lengthOf lkX12_141 ⟨Nat.le_of_ble_eq_true rfl, Nat.le_of_ble_eq_true rfl⟩ ly48 rfl rfl (c_X12_lengthOf (by omega)) (Nat.le_of_ble_eq_true rfl) eX12_highOf_6 (k_E ?_)
  refine j_iload_n eX12_highOf_9 rfl ?_
  refine j_cS1 zX12_sizeOf lkX12_138 ⟨Nat.le_of_ble_eq_true rfl, Nat.le_of_ble_eq_true rfl⟩ (c_X12_sizeOf (by omega)) (Nat.le_of_ble_eq_true rfl) eX12_highOf_10 (k_E ?_)
  refine j_imul eX12_highOf_13 ?_
  refine j_iadd eX12_highOf_14 ?_
  refine r_iret rfl eX12_highOf_15 ?_
  first | exact ⟨rfl, rfl⟩ | (exfalso; omega)
theorem i_X12_laysOwn {g : Gl} {σ : Sg} {p a : Int} (hM : TM σ) (vp : 0 ≤ p ∧ p < σ 49 0) (nd : 1 ≤ a ∧ a ≤ 127) (tb : 0 ≤ σ 48 7 ∧ σ 48 7 < σ 49 1) {F : Ex} {τ : Sg} {j : Int} (h3 : ∀ k, k ≠ 61 → τ k = σ k) (hj : 0 ≤ j ∧ j ≤ σ 49 (2 + p)) (kk : jv g mX12_laysOwn F τ [(0, vr g 48), (1, vi p), (2, vi a), (3, vi (σ 49 (2 + p))), (4, vl (loM σ a)), (6, vl (wdM σ a)), (8, vi j), (9, vl (ow (fM σ p) (σ 49 (2 + p)) (loM σ a) (wdM σ a) j))] 115 []) : ∀ (u : Nat) (s : Int), (u : Int) ≤ σ 49 (2 + p) + 1 - j → owS (fM σ p) (σ 49 (2 + p)) (loM σ a) (wdM σ a) j u (σ 49 (2 + p) + 1 - (u : Int)) s = ow (fM σ p) (σ 49 (2 + p)) (loM σ a) (wdM σ a) j → jv g mX12_laysOwn F τ [(0, vr g 48), (1, vi p), (2, vi a), (3, vi (σ 49 (2 + p))), (4, vl (loM σ a)), (6, vl (wdM σ a)), (8, vi j), (9, vl s), (11, vi (σ 49 (2 + p) + 1 - (u : Int)))] 45 [] := by
  have qn := hM.2.2.1 p (by omega) (by omega)
  intro u
  induction u with
  | zero =>
    intro s h1 h2
    refine j_iload eX12_laysOwn_45 rfl ?_
    refine j_iload_n eX12_laysOwn_47 rfl ?_
    refine j_icmp_gt eX12_laysOwn_48 (by omega) (fun h => ?_) (fun h => absurd (by omega) h)
    have h2 : s = ow (fM σ p) (σ 49 (2 + p)) (loM σ a) (wdM σ a) j := h2
    rw [h2]
    refine jv_lv ?_ kk
    exact lvC rfl (lvC rfl (lvC rfl (lvC rfl (lvC rfl (lvC rfl (lvC rfl (lvC rfl (lv0))))))))
  | succ u ih =>
    intro s h1 h2
    refine j_iload eX12_laysOwn_45 rfl ?_
    refine j_iload_n eX12_laysOwn_47 rfl ?_
    refine j_icmp_gt eX12_laysOwn_48 (by omega) (fun h48 => absurd h48 (by omega)) (fun h48 => ?_)
    have mP := hM.1
    have ck := hM.2.2.2.1 p (σ 49 (2 + p) + 1 - ((u + 1 : Nat) : Int)) (by omega) (by omega) (by omega) (by omega)
    have f49 : ∀ i, τ 49 i = σ 49 i := fun i => by rw [h3 49 (by decide)]
    have qn := hM.2.2.1 p (by omega) (by omega)
    refine j_lload eX12_laysOwn_51 rfl ?_
    refine j_aload_n eX12_laysOwn_53 rfl ?_
    refine j_getR flX12_7 ly48 rfl eX12_laysOwn_54 ?_
    refine j_iconst 5 eX12_laysOwn_57 ?_
    refine j_bipush 6 eX12_laysOwn_58 (by decide) ?_
    refine j_iload_n eX12_laysOwn_60 rfl ?_
    refine j_imul eX12_laysOwn_61 ?_
    refine j_iadd eX12_laysOwn_62 ?_
    refine j_iload eX12_laysOwn_63 rfl ?_
    refine j_iadd eX12_laysOwn_65 ?_
    refine j_iald ly49 (by omega) eX12_laysOwn_66 ?_
    rw [f49]
    refine j_i2l (by omega) eX12_laysOwn_67 ?_
    refine j_ldc2 (64) cnX12_148 eX12_laysOwn_68 ?_
    refine j_iload_n eX12_laysOwn_71 rfl ?_
    refine j_iload eX12_laysOwn_72 rfl ?_
    refine j_isub eX12_laysOwn_74 ?_
    refine j_cS2 zX12_power lkX12_150 ⟨Nat.le_of_ble_eq_true rfl, Nat.le_of_ble_eq_true rfl⟩ (c_X12_power (by omega)) (Nat.le_of_ble_eq_true rfl) eX12_laysOwn_75 (k_EL ?_)
    refine j_lmul eX12_laysOwn_78 ?_
    refine j_iload eX12_laysOwn_79 rfl ?_
    refine j_iload eX12_laysOwn_81 rfl ?_
    refine j_cS2 zX12_choose lkX12_154 ⟨Nat.le_of_ble_eq_true rfl, Nat.le_of_ble_eq_true rfl⟩ (c_X12_choose (by omega)) (Nat.le_of_ble_eq_true rfl) eX12_laysOwn_83 (k_EL ?_)
    refine j_lmul eX12_laysOwn_86 ?_
    refine j_lload eX12_laysOwn_87 rfl ?_
    refine j_iload eX12_laysOwn_89 rfl ?_
    refine j_iload eX12_laysOwn_91 rfl ?_
    refine j_isub eX12_laysOwn_93 ?_
    refine j_cS2 zX12_power lkX12_150 ⟨Nat.le_of_ble_eq_true rfl, Nat.le_of_ble_eq_true rfl⟩ (c_X12_power (by omega)) (Nat.le_of_ble_eq_true rfl) eX12_laysOwn_94 (k_EL ?_)
    refine j_lmul eX12_laysOwn_97 ?_
    refine j_lload eX12_laysOwn_98 rfl ?_
    refine j_iload eX12_laysOwn_100 rfl ?_
    refine j_cS2 zX12_power lkX12_150 ⟨Nat.le_of_ble_eq_true rfl, Nat.le_of_ble_eq_true rfl⟩ (c_X12_power (by omega)) (Nat.le_of_ble_eq_true rfl) eX12_laysOwn_102 (k_EL ?_)
    refine j_lmul eX12_laysOwn_105 ?_
    refine j_ladd eX12_laysOwn_106 ?_
    refine j_lstore eX12_laysOwn_107 (Nat.le_of_ble_eq_true rfl) ?_
    refine j_iinc eX12_laysOwn_109 rfl (Nat.le_of_ble_eq_true rfl) ?_
    refine j_goto eX12_laysOwn_112 ?_
    have e1 : (σ 49 (2 + p) + 1 - ((u + 1 : Nat) : Int)) + 1 = σ 49 (2 + p) + 1 - (u : Int) := by omega
    have eT : owS (fM σ p) (σ 49 (2 + p)) (loM σ a) (wdM σ a) j (u + 1) (σ 49 (2 + p) + 1 - ((u + 1 : Nat) : Int)) s = owS (fM σ p) (σ 49 (2 + p)) (loM σ a) (wdM σ a) j u ((σ 49 (2 + p) + 1 - ((u + 1 : Nat) : Int)) + 1) (s + fM σ p (σ 49 (2 + p) + 1 - ((u + 1 : Nat) : Int)) * 64 ^ (σ 49 (2 + p) - (σ 49 (2 + p) + 1 - ((u + 1 : Nat) : Int))).toNat * bnZ (σ 49 (2 + p) + 1 - ((u + 1 : Nat) : Int)) j * loM σ a ^ ((σ 49 (2 + p) + 1 - ((u + 1 : Nat) : Int)) - j).toNat * wdM σ a ^ j.toNat) := rfl
    rw [eT, e1] at h2
    rw [e1]
    refine jv_lv ?_ (ih _ (by omega) h2)
    exact lvC rfl (lvC rfl (lvC rfl (lvC rfl (lvC rfl (lvC rfl (lvC rfl (lvC rfl (lvC rfl (lv0)))))))))
theorem l_X12_laysOwn {g : Gl} {σ : Sg} {p a : Int} (hM : TM σ) (vp : 0 ≤ p ∧ p < σ 49 0) (nd : 1 ≤ a ∧ a ≤ 127) (tb : 0 ≤ σ 48 7 ∧ σ 48 7 < σ 49 1) : ∀ (t : Nat) (τ : Sg), (t : Int) ≤ σ 49 (2 + p) + 1 → (∀ k, k ≠ 61 → τ k = σ k) → (∀ j, 0 ≤ j → j < σ 49 (2 + p) + 1 - (t : Int) → τ 61 j = ow (fM σ p) (σ 49 (2 + p)) (loM σ a) (wdM σ a) j) → jv g mX12_laysOwn (Fm g (PV (fun σ' => (∀ k, k ≠ 61 → σ' k = σ k) ∧ ∀ j, 0 ≤ j → j ≤ σ 49 (2 + p) → σ' 61 j = ow (fM σ p) (σ 49 (2 + p)) (loM σ a) (wdM σ a) j))) τ [(0, vr g 48), (1, vi p), (2, vi a), (3, vi (σ 49 (2 + p))), (4, vl (loM σ a)), (6, vl (wdM σ a)), (8, vi (σ 49 (2 + p) + 1 - (t : Int)))] 32 [] := by
  have qn := hM.2.2.1 p (by omega) (by omega)
  intro t
  induction t with
  | zero =>
    intro τ h1 h3 h4
    refine j_iload eX12_laysOwn_32 rfl ?_
    refine j_iload_n eX12_laysOwn_34 rfl ?_
    refine j_icmp_gt eX12_laysOwn_35 (by omega) (fun h => ?_) (fun h => absurd (by omega) h)
    exact r_vret rfl eX12_laysOwn_130 ⟨h3, fun j x z => h4 j x (by omega)⟩
  | succ t ih =>
    intro τ h1 h3 h4
    refine j_iload eX12_laysOwn_32 rfl ?_
    refine j_iload_n eX12_laysOwn_34 rfl ?_
    refine j_icmp_gt eX12_laysOwn_35 (by omega) (fun h35 => absurd h35 (by omega)) (fun h35 => ?_)
    refine j_lconst0 eX12_laysOwn_38 ?_
    refine j_lstore eX12_laysOwn_39 (Nat.le_of_ble_eq_true rfl) ?_
    refine j_iload eX12_laysOwn_41 rfl ?_
    refine j_istore eX12_laysOwn_43 (Nat.le_of_ble_eq_true rfl) ?_
    refine jv_lv ?_ (i_X12_laysOwn (j := (σ 49 (2 + p) + 1 - ((t + 1 : Nat) : Int))) hM vp nd tb h3 (by omega) ?_ (σ 49 (2 + p) + 1 - (σ 49 (2 + p) + 1 - ((t + 1 : Nat) : Int))).toNat 0 (by omega) ?_)
    · rw [show σ 49 (2 + p) + 1 - (((σ 49 (2 + p) + 1 - (σ 49 (2 + p) + 1 - ((t + 1 : Nat) : Int))).toNat : Nat) : Int) = (σ 49 (2 + p) + 1 - ((t + 1 : Nat) : Int)) from by omega]
      exact lvC rfl (lvC rfl (lvC rfl (lvC rfl (lvC rfl (lvC rfl (lvC rfl (lvC rfl (lvC rfl (lv0)))))))))
    · refine j_aload_n eX12_laysOwn_115 rfl ?_
      refine j_getR flX12_48 ly48 rfl eX12_laysOwn_116 ?_
      refine j_iload eX12_laysOwn_119 rfl ?_
      refine j_lload eX12_laysOwn_121 rfl ?_
      refine j_last ly61 (by omega) eX12_laysOwn_123 ?_
      refine j_iinc eX12_laysOwn_124 rfl (Nat.le_of_ble_eq_true rfl) ?_
      refine j_goto eX12_laysOwn_127 ?_
      have e1 : (σ 49 (2 + p) + 1 - ((t + 1 : Nat) : Int)) + 1 = σ 49 (2 + p) + 1 - (t : Int) := by omega
      rw [e1]
      refine jv_lv ?_ (ih _ (by omega) (fun k hk => by rw [up_ne hk]; exact h3 k hk) (fun j x z => ?_))
      · exact lvC rfl (lvC rfl (lvC rfl (lvC rfl (lvC rfl (lvC rfl (lvC rfl (lv0)))))))
      · rw [up_same]
        by_cases w : j = (σ 49 (2 + p) + 1 - ((t + 1 : Nat) : Int))
        · rw [w, up1_same]
        · rw [up1_ne w]; exact h4 j x (by omega)
    · rw [show σ 49 (2 + p) + 1 - (((σ 49 (2 + p) + 1 - (σ 49 (2 + p) + 1 - ((t + 1 : Nat) : Int))).toNat : Nat) : Int) = (σ 49 (2 + p) + 1 - ((t + 1 : Nat) : Int)) from by omega]
      rfl
theorem c_X12_laysOwn {g : Gl} {σ : Sg} {p a : Int} (hM : TM σ) (vp : 0 ≤ p ∧ p < σ 49 0) (nd : 1 ≤ a ∧ a ≤ 127) (tb : 0 ≤ σ 48 7 ∧ σ 48 7 < σ 49 1) : Ct g mX12_laysOwn [vr g 48, vi p, vi a] σ (PV (fun σ' => (∀ k, k ≠ 61 → σ' k = σ k) ∧ ∀ j, 0 ≤ j → j ≤ σ 49 (2 + p) → σ' 61 j = ow (fM σ p) (σ 49 (2 + p)) (loM σ a) (wdM σ a) j)) := by
  refine Ct.of (by decide +kernel) (Nat.le_of_ble_eq_true rfl) ?_
  show jv g _ _ σ [(0, vr g 48), (1, vi p), (2, vi a)] 0 []
  have mP := hM.1
  have mB := hM.2.1
  have mS := hM.2.2.1
  have qn := mS p (by omega) (by omega)
  have wb := wdM_b hM nd tb
  refine j_aload_n eX12_laysOwn_0 rfl ?_
  refine j_getR flX12_7 ly48 rfl eX12_laysOwn_1 ?_
  refine j_iconst 2 eX12_laysOwn_4 ?_
  refine j_iload_n eX12_laysOwn_5 rfl ?_
  refine j_iadd eX12_laysOwn_6 ?_
  refine j_iald ly49 (by omega) eX12_laysOwn_7 ?_
  refine j_istore_n eX12_laysOwn_8 (Nat.le_of_ble_eq_true rfl) ?_
  refine j_aload_n eX12_laysOwn_9 rfl ?_
  refine j_iload_n eX12_laysOwn_10 rfl ?_
  refine j_cV1 zX12_lowOf lkX12_145 ⟨Nat.le_of_ble_eq_true rfl, Nat.le_of_ble_eq_true rfl⟩ ly48 rfl rfl (c_X12_lowOf (by exact nd) (by omega)) (Nat.le_of_ble_eq_true rfl) eX12_laysOwn_11 (k_E ?_)
  have lb := wb.1
  refine j_i2l (by omega) eX12_laysOwn_14 ?_
  refine j_lstore eX12_laysOwn_15 (Nat.le_of_ble_eq_true rfl) ?_
  refine j_aload_n eX12_laysOwn_17 rfl ?_
  refine j_cV0 zX12_lengthOf lkX12_141 ⟨Nat.le_of_ble_eq_true rfl, Nat.le_of_ble_eq_true rfl⟩ ly48 rfl rfl (c_X12_lengthOf (by omega)) (Nat.le_of_ble_eq_true rfl) eX12_laysOwn_18 (k_E ?_)
  refine j_iload_n eX12_laysOwn_21 rfl ?_
  refine j_cS1 zX12_sizeOf lkX12_138 ⟨Nat.le_of_ble_eq_true rfl, Nat.le_of_ble_eq_true rfl⟩ (c_X12_sizeOf (by exact nd)) (Nat.le_of_ble_eq_true rfl) eX12_laysOwn_22 (k_E ?_)
  refine j_imul eX12_laysOwn_25 ?_
  show jv g _ _ σ _ _ (vi (wdM σ a) :: _)
  refine j_i2l (by omega) eX12_laysOwn_26 ?_
  refine j_lstore eX12_laysOwn_27 (Nat.le_of_ble_eq_true rfl) ?_
  refine j_iconst 0 eX12_laysOwn_29 ?_
  refine j_istore eX12_laysOwn_30 (Nat.le_of_ble_eq_true rfl) ?_
  have e0 : (0 : Int) = σ 49 (2 + p) + 1 - (((σ 49 (2 + p) + 1).toNat : Nat) : Int) := by omega
  have e1 := l_X12_laysOwn (g := g) hM vp nd tb (σ 49 (2 + p) + 1).toNat σ (by omega) (fun _ _ => rfl) (fun j x z => by omega)
  rw [← e0] at e1
  refine jv_lv ?_ e1
  exact lvC rfl (lvC rfl (lvC rfl (lvC rfl (lvC rfl (lvC rfl (lvC rfl (lv0)))))))
