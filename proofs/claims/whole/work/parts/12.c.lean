/-! rows of control numbers, as the class holds them -/
theorem jv_st {g : Gl} {y : Mt} {F : Ex} {σ τ : Sg} {lv : List (Nat × Value)} {pc : Nat} {st : List Value} (h : σ = τ) (k : jv g y F τ lv pc st) : jv g y F σ lv pc st := h ▸ k
def setc (σ : Sg) (k : Nat) (f : Int → Int) : Sg := fun k' => if k' = k then f else σ k'
theorem setc_same (σ : Sg) (k : Nat) (f : Int → Int) : setc σ k f k = f := if_pos rfl
theorem setc_ne {σ : Sg} {k k' : Nat} {f : Int → Int} (h : k' ≠ k) : setc σ k f k' = σ k' := if_neg h
theorem up_setc (σ : Sg) (k : Nat) (f : Int → Int) (j v : Int) : up (setc σ k f) k j v = setc σ k (up1 f j v) := by
  funext k'
  unfold up setc
  by_cases h : k' = k
  · rw [if_pos h, if_pos h, if_pos rfl]
  · rw [if_neg h, if_neg h, if_neg h]
theorem setc_self (σ : Sg) (k : Nat) {f : Int → Int} (h : f = σ k) : setc σ k f = σ := by
  funext k'
  unfold setc
  by_cases q : k' = k
  · rw [if_pos q, h, q]
  · rw [if_neg q]
def bnZ (t i : Int) : Int := waysL.getD (t * 8 + i).toNat 0
def mulP (f : Int → Int) (T l r : Int) (m : Nat) : Int → Int := fun j => if (m : Int) < j ∧ j ≤ T then f j * l + f (j - 1) * r else f j
def mulF (f : Int → Int) (T l r : Int) : Int → Int := fun j => if j = 0 then f 0 * l else if 0 < j ∧ j ≤ T then f j * l + f (j - 1) * r else f j
theorem mulP_top (f : Int → Int) {T l r : Int} {m : Nat} (h : (m : Int) = T) : mulP f T l r m = f := by
  funext j
  unfold mulP
  rw [if_neg (by omega)]
theorem mulP_step {τ : Sg} {f : Int → Int} {T l r : Int} {m : Nat} (h : ((m + 1 : Nat) : Int) ≤ T) : up (setc τ 36 (mulP f T l r (m + 1))) 36 ((m + 1 : Nat) : Int) (mulP f T l r (m + 1) ((m + 1 : Nat) : Int) * l + mulP f T l r (m + 1) (((m + 1 : Nat) : Int) - 1) * r) = setc τ 36 (mulP f T l r m) := by
  rw [up_setc]
  congr 1
  funext j
  unfold up1 mulP
  by_cases h1 : j = ((m + 1 : Nat) : Int)
  · rw [if_pos h1, if_neg (by omega), if_neg (by omega), if_pos (by omega), h1]
  · rw [if_neg h1]
    by_cases h2 : ((m : Nat) : Int) < j ∧ j ≤ T
    · rw [if_pos (by omega), if_pos h2]
    · rw [if_neg (by omega), if_neg h2]
theorem mulP_end {τ : Sg} {f : Int → Int} {T l r : Int} : up (setc τ 36 (mulP f T l r 0)) 36 0 (mulP f T l r 0 0 * l) = setc τ 36 (mulF f T l r) := by
  rw [up_setc]
  congr 1
def addP (f : Int → Int) (T w i : Int) : Int → Int := fun j => if 0 ≤ j ∧ j < i then f j + w * bnZ T j else f j
theorem addP_0 (f : Int → Int) (T w : Int) : addP f T w 0 = f := by
  funext j
  unfold addP
  rw [if_neg (by omega)]
theorem addP_step {τ : Sg} {f : Int → Int} {T w i : Int} (h : 0 ≤ i) : up (setc τ 36 (addP f T w i)) 36 i (addP f T w i i + w * bnZ T i) = setc τ 36 (addP f T w (i + 1)) := by
  rw [up_setc]
  congr 1
  funext j
  unfold up1 addP
  by_cases h1 : j = i
  · rw [if_pos h1, if_neg (by omega), if_pos (by omega), h1]
  · rw [if_neg h1]
    by_cases h2 : 0 ≤ j ∧ j < i
    · rw [if_pos h2, if_pos (by omega)]
    · rw [if_neg h2, if_neg (by omega)]
/-- the control numbers times (N over i) times 64^n, by Horner's way -/
def hb (f : Int → Int) (n lo hi : Int) : Nat → Int → Int
  | 0, i => if i = 0 then f n else 0
  | d + 1, i => if 0 ≤ i ∧ i ≤ (d : Int) + 1 then (if i = 0 then hb f n lo hi d 0 * lo else hb f n lo hi d i * lo + hb f n lo hi d (i - 1) * hi) + f (n - 1 - d) * 64 ^ (d + 1) * bnZ (d + 1) i else 0
/-- raised -/
def nb (f : Int → Int) (n lo hi : Int) : Nat → Int → Int
  | 0, i => hb f n lo hi n.toNat i
  | r + 1, i => if i = 0 then nb f n lo hi r 0 else nb f n lo hi r i + nb f n lo hi r (i - 1)
def RowIs (σ σ' : Sg) (f : Int → Int) (n lo hi : Int) (r : Nat) : Prop := (∀ k, k ≠ 35 → k ≠ 36 → σ' k = σ k) ∧ σ' 35 1 = n + r ∧ σ' 35 2 = 64 ^ n.toNat ∧ ∀ i, 0 ≤ i → i < 8 → σ' 36 i = nb f n lo hi r i
def RowAt (σ σ' : Sg) (f : Int → Int) (n lo hi : Int) (d : Nat) : Prop := (∀ k, k ≠ 35 → k ≠ 36 → σ' k = σ k) ∧ σ' 35 1 = d ∧ σ' 35 2 = 64 ^ d ∧ ∀ i, 0 ≤ i → i < 8 → σ' 36 i = hb f n lo hi d i
theorem hb_hi {f : Int → Int} {n lo hi : Int} {d : Nat} {i : Int} (h : (d : Int) < i) : hb f n lo hi d i = 0 := by
  cases d with
  | zero => exact if_neg (by omega)
  | succ d => exact if_neg (by omega)
theorem nb_hi {f : Int → Int} {n lo hi : Int} {r : Nat} {i : Int} (h0 : 0 ≤ n) (h : n + r < i) : nb f n lo hi r i = 0 := by
  induction r generalizing i with
  | zero => exact hb_hi (by omega)
  | succ r ih =>
    show (if i = 0 then nb f n lo hi r 0 else nb f n lo hi r i + nb f n lo hi r (i - 1)) = 0
    rw [if_neg (by omega), ih (by omega), ih (by omega)]
    rfl
theorem RowAt.step {σ τ : Sg} {f : Int → Int} {n lo hi : Int} {d : Nat} (h : RowAt σ τ f n lo hi d) (hd : (d : Int) + 1 ≤ 7) (c : Int) (hc : c = f (n - 1 - d)) :
    RowAt σ (setc (setc (up (up τ 35 2 (τ 35 2 * 64)) 35 1 (τ 35 1 + 1)) 36 (mulF (τ 36) (τ 35 1 + 1) lo hi)) 36 (addP (mulF (τ 36) (τ 35 1 + 1) lo hi) (τ 35 1 + 1) (c * (τ 35 2 * 64)) (τ 35 1 + 1 + 1))) f n lo hi (d + 1) := by
  obtain ⟨h1, h2, h3, h4⟩ := h
  refine ⟨fun k a b => ?_, ?_, ?_, fun i a b => ?_⟩
  · rw [setc_ne b, setc_ne b, up_ne a, up_ne a]
    exact h1 k a b
  · show τ 35 1 + 1 = _
    rw [h2]
    omega
  · show τ 35 2 * 64 = _
    rw [h3]
    exact (Int.pow_succ 64 d).symm
  · rw [setc_same, h2, h3, hc]
    unfold addP mulF
    show _ = if 0 ≤ i ∧ i ≤ (d : Int) + 1 then _ else _
    have e5 : (64 : Int) ^ d * 64 = 64 ^ (d + 1) := (Int.pow_succ 64 d).symm
    by_cases q : i ≤ (d : Int) + 1
    · rw [if_pos (show 0 ≤ i ∧ i < (d : Int) + 1 + 1 by omega), if_pos (show 0 ≤ i ∧ i ≤ (d : Int) + 1 by omega)]
      by_cases z : i = 0
      · rw [if_pos z, if_pos z, h4 0 (by omega) (by omega), e5]
      · rw [if_neg z, if_neg z, if_pos (show 0 < i ∧ i ≤ (d : Int) + 1 by omega), h4 i a b, h4 (i - 1) (by omega) (by omega), e5]
    · rw [if_neg (show ¬ (0 ≤ i ∧ i < (d : Int) + 1 + 1) by omega), if_neg (show ¬ (0 ≤ i ∧ i ≤ (d : Int) + 1) by omega), if_neg (show ¬ i = 0 by omega), if_neg (show ¬ (0 < i ∧ i ≤ (d : Int) + 1) by omega), h4 i a b, hb_hi (by omega)]
theorem RowIs.raise {σ τ : Sg} {f : Int → Int} {n lo hi : Int} {r : Nat} (h : RowIs σ τ f n lo hi r) (h0 : 0 ≤ n) (hr : n + r + 1 ≤ 7) : RowIs σ (setc (up τ 35 1 (τ 35 1 + 1)) 36 (mulF (τ 36) (τ 35 1 + 1) 1 1)) f n lo hi (r + 1) := by
  obtain ⟨h1, h2, h3, h4⟩ := h
  refine ⟨fun k a b => ?_, ?_, ?_, fun i a b => ?_⟩
  · rw [setc_ne b, up_ne a]
    exact h1 k a b
  · show τ 35 1 + 1 = _
    rw [h2]
    omega
  · exact h3
  · rw [setc_same, h2]
    unfold mulF
    show _ = if i = 0 then _ else _
    by_cases z : i = 0
    · rw [if_pos z, if_pos z, h4 0 (by omega) (by omega), Int.mul_one]
    · rw [if_neg z, if_neg z]
      by_cases q : i ≤ n + r + 1
      · rw [if_pos (by omega), h4 i a b, h4 (i - 1) (by omega) (by omega), Int.mul_one, Int.mul_one]
      · rw [if_neg (by omega), h4 i a b, nb_hi (i := i) h0 (by omega), nb_hi (i := i - 1) h0 (by omega)]
        rfl
theorem RowIs.trans {σ τ ρ : Sg} {f : Int → Int} {n lo hi : Int} {r : Nat} (h0 : ∀ k, k ≠ 35 → k ≠ 36 → τ k = σ k) (h : RowIs τ ρ f n lo hi r) : RowIs σ ρ f n lo hi r := ⟨fun k a b => (h.1 k a b).trans (h0 k a b), h.2⟩
/-- how often the signs change -/
def vch (f : Int → Int) : Nat → Int → Int → Int → Int
  | 0, _, _, c => c
  | t + 1, i, b, c => if sgn (f i) = 0 then vch f t (i + 1) b c else if b = 0 then vch f t (i + 1) (sgn (f i)) c else if sgn (f i) = b then vch f t (i + 1) (sgn (f i)) c else vch f t (i + 1) (sgn (f i)) (c + 1)
def mnf (f : Int → Int) : Nat → Int → Int → Int
  | 0, _, m => m
  | t + 1, i, m => mnf f t (i + 1) (if f i < m then f i else m)
def cmn (σ : Sg) (i : Int) : Int := σ 36 i * Int.tdiv 60 (bnZ (σ 35 1) i)
def TX (σ : Sg) : Prop := (0 ≤ σ 0 0 ∧ σ 0 0 ≤ 3) ∧ (0 ≤ σ 0 1 ∧ σ 0 1 ≤ 3) ∧ (∀ p, 0 ≤ p → p < σ 0 0 → 1 ≤ σ 1 p ∧ σ 1 p ≤ 6) ∧ (∀ p k, 0 ≤ p → p < σ 0 0 → 0 ≤ k → k < σ 1 p → -50 ≤ σ 2 (p * 6 + k) ∧ σ 2 (p * 6 + k) ≤ 50) ∧ (∀ p, 0 ≤ p → p < σ 0 0 → -1 ≤ σ 3 p ∧ σ 3 p ≤ 1) ∧ (∀ b, 0 ≤ b → b < σ 0 1 → -5 ≤ σ 4 b ∧ σ 4 b < σ 5 b ∧ σ 5 b ≤ 5)
theorem TX.mono {σ τ : Sg} (h : TX σ) (e : ∀ k, k < 6 → τ k = σ k) : TX τ := by
  unfold TX at h ⊢
  rw [e 0 (by omega), e 1 (by omega), e 2 (by omega), e 3 (by omega), e 4 (by omega), e 5 (by omega)]
  exact h
def fX (σ : Sg) (p : Int) : Int → Int := fun k => σ 2 (p * 6 + k)
def loX (σ : Sg) (a : Int) : Int := σ 4 (σ 27 2) * 64 + (σ 5 (σ 27 2) - σ 4 (σ 27 2)) * (a * pz a - 64)
def hiX (σ : Sg) (a : Int) : Int := σ 4 (σ 27 2) * 64 + (σ 5 (σ 27 2) - σ 4 (σ 27 2)) * ((a + 1) * pz a - 64)
theorem pz_tab : ∀ a : Fin 127, 0 ≤ ((a : Nat) + 1 : Int) * pz ((a : Nat) + 1) - 64 ∧ ((a : Nat) + 1 + 1 : Int) * pz ((a : Nat) + 1) - 64 ≤ 64 ∧ 1 ≤ pz ((a : Nat) + 1) ∧ pz ((a : Nat) + 1) ≤ 64 := by decide +kernel
theorem pz_b {a : Int} (h : 1 ≤ a ∧ a ≤ 127) : 0 ≤ a * pz a - 64 ∧ (a + 1) * pz a - 64 ≤ 64 ∧ 1 ≤ pz a ∧ pz a ≤ 64 := by
  have := pz_tab ⟨(a - 1).toNat, by omega⟩
  simp only at this
  rw [show (((a - 1).toNat : Nat) : Int) + 1 = a from by omega] at this
  exact this
theorem lohi_b {A B u : Int} (h : -5 ≤ A ∧ A < B ∧ B ≤ 5) (hu : 0 ≤ u ∧ u ≤ 64) : -320 ≤ A * 64 + (B - A) * u ∧ A * 64 + (B - A) * u ≤ 320 := by
  have h1 : 0 ≤ (B - A) * u := Int.mul_nonneg (by omega) hu.1
  have h2 : (B - A) * u ≤ (B - A) * 64 := Int.mul_le_mul_of_nonneg_left hu.2 (by omega)
  omega
theorem loX_b {σ : Sg} {a : Int} (hT : TX σ) (h : 1 ≤ a ∧ a ≤ 127) (hb : 0 ≤ σ 27 2 ∧ σ 27 2 < σ 0 1) : (-320 ≤ loX σ a ∧ loX σ a ≤ 320) ∧ -320 ≤ hiX σ a ∧ hiX σ a ≤ 320 := by
  have q := pz_b h
  have e : (a + 1) * pz a = a * pz a + pz a := by rw [Int.add_mul, Int.one_mul]
  have w := hT.2.2.2.2.2 (σ 27 2) hb.1 hb.2
  exact ⟨lohi_b w (by omega), lohi_b w (by omega)⟩
theorem c_X4_top {g : Gl} {σ : Sg} : Ct g mX4_top [vr g 35] σ (PE (σ 35 1) σ) := by
  refine Ct.of (by decide +kernel) (Nat.le_of_ble_eq_true rfl) ?_
  show jv g _ _ σ [(0, vr g 35)] 0 []
  refine j_aload_n eX4_top_0 rfl ?_
  refine j_getI flX4_15 ly35 rfl eX4_top_1 ?_
  refine r_iret rfl eX4_top_4 ?_
  first | exact ⟨rfl, rfl⟩ | (exfalso; omega)
theorem c_X4_ways {g : Gl} {σ : Sg} {i : Int} (hT : 0 ≤ σ 35 1 ∧ σ 35 1 ≤ 7) (hi : 0 ≤ i ∧ i ≤ σ 35 1) : Ct g mX4_ways [vr g 35, vi i] σ (PE (bnZ (σ 35 1) i) σ) := by
  refine Ct.of (by decide +kernel) (Nat.le_of_ble_eq_true rfl) ?_
  show jv g _ _ σ [(0, vr g 35), (1, vi i)] 0 []
  refine j_aload_n eX4_ways_0 rfl ?_
  refine j_getI flX4_15 ly35 rfl eX4_ways_1 ?_
  refine j_bipush 8 eX4_ways_4 (by decide) ?_
  refine j_imul eX4_ways_6 ?_
  refine j_iload_n eX4_ways_7 rfl ?_
  refine j_iadd eX4_ways_8 ?_
  refine j_istore_n eX4_ways_9 (Nat.le_of_ble_eq_true rfl) ?_
  refine j_iload_n eX4_ways_10 rfl ?_
  refine j_if_lt eX4_ways_11 (by omega) (fun h11 => ?_) (fun h11 => ?_)
  · refine j_iconst 0 eX4_ways_42 ?_
    refine r_iret rfl eX4_ways_43 ?_
    first | exact ⟨rfl, rfl⟩ | (exfalso; omega)
  · refine j_iload_n eX4_ways_14 rfl ?_
    refine j_aload_n eX4_ways_15 rfl ?_
    refine j_getI flX4_15 ly35 rfl eX4_ways_16 ?_
    refine j_icmp_gt eX4_ways_19 (by omega) (fun h19 => ?_) (fun h19 => ?_)
    · refine j_iconst 0 eX4_ways_42 ?_
      refine r_iret rfl eX4_ways_43 ?_
      first | exact ⟨rfl, rfl⟩ | (exfalso; omega)
    · refine j_iload_n eX4_ways_22 rfl ?_
      refine j_if_lt eX4_ways_23 (by omega) (fun h23 => ?_) (fun h23 => ?_)
      · refine j_iconst 0 eX4_ways_42 ?_
        refine r_iret rfl eX4_ways_43 ?_
        first | exact ⟨rfl, rfl⟩ | (exfalso; omega)
      · refine j_iload_n eX4_ways_26 rfl ?_
        refine j_ways rfl eX4_ways_27 ?_
        refine j_wlen eX4_ways_30 ?_
        refine j_icmp_ge eX4_ways_31 (by omega) (fun h31 => ?_) (fun h31 => ?_)
        · refine j_iconst 0 eX4_ways_42 ?_
          refine r_iret rfl eX4_ways_43 ?_
          first | exact ⟨rfl, rfl⟩ | (exfalso; omega)
        · refine j_ways rfl eX4_ways_34 ?_
          refine j_iload_n eX4_ways_37 rfl ?_
          refine j_wald (by omega) eX4_ways_38 ?_
          refine j_goto eX4_ways_39 ?_
          refine r_iret rfl eX4_ways_43 ?_
          first | exact ⟨rfl, rfl⟩ | (exfalso; omega)
theorem c_X4_number {g : Gl} {σ : Sg} {i : Int} (hi : 0 ≤ i ∧ i < 8) : Ct g mX4_number [vr g 35, vi i] σ (PEL (σ 36 i) σ) := by
  refine Ct.of (by decide +kernel) (Nat.le_of_ble_eq_true rfl) ?_
  show jv g _ _ σ [(0, vr g 35), (1, vi i)] 0 []
  refine j_iload_n eX4_number_0 rfl ?_
  refine j_if_lt eX4_number_1 (by omega) (fun h1 => ?_) (fun h1 => ?_)
  · refine j_lconst0 eX4_number_22 ?_
    refine r_lret rfl eX4_number_23 ?_
    first | exact ⟨rfl, rfl⟩ | (exfalso; omega)
  · refine j_iload_n eX4_number_4 rfl ?_
    refine j_aload_n eX4_number_5 rfl ?_
    refine j_getR flX4_9 ly35 rfl eX4_number_6 ?_
    refine j_alen (by decide) ly36 eX4_number_9 ?_
    refine j_icmp_ge eX4_number_10 (by omega) (fun h10 => ?_) (fun h10 => ?_)
    · refine j_lconst0 eX4_number_22 ?_
      refine r_lret rfl eX4_number_23 ?_
      first | exact ⟨rfl, rfl⟩ | (exfalso; omega)
    · refine j_aload_n eX4_number_13 rfl ?_
      refine j_getR flX4_9 ly35 rfl eX4_number_14 ?_
      refine j_iload_n eX4_number_17 rfl ?_
      refine j_lald ly36 (by omega) eX4_number_18 ?_
      refine j_goto eX4_number_19 ?_
      refine r_lret rfl eX4_number_23 ?_
      first | exact ⟨rfl, rfl⟩ | (exfalso; omega)
theorem bnZ_tab : ∀ (t i : Fin 8), i.1 ≤ t.1 → 1 ≤ bnZ (t.1 : Int) (i.1 : Int) ∧ bnZ (t.1 : Int) (i.1 : Int) ≤ 35 := by decide +kernel
theorem bnZ_b {t i : Int} (ht : 0 ≤ t ∧ t ≤ 7) (hi : 0 ≤ i ∧ i ≤ t) : 1 ≤ bnZ t i ∧ bnZ t i ≤ 35 := by
  have := bnZ_tab ⟨t.toNat, by omega⟩ ⟨i.toNat, by omega⟩ (by show i.toNat ≤ t.toNat; omega)
  simp only at this
  rw [show ((t.toNat : Nat) : Int) = t from by omega, show ((i.toNat : Nat) : Int) = i from by omega] at this
  exact this
theorem c_X4_below {g : Gl} {σ : Sg} {i : Int} (hT : 0 ≤ σ 35 1 ∧ σ 35 1 ≤ 7) (hi : 0 ≤ i ∧ i ≤ σ 35 1) : Ct g mX4_below [vr g 35, vi i] σ (PEL (bnZ (σ 35 1) i * σ 35 2) σ) := by
  refine Ct.of (by decide +kernel) (Nat.le_of_ble_eq_true rfl) ?_
  show jv g _ _ σ [(0, vr g 35), (1, vi i)] 0 []
  have w := bnZ_b hT hi
  refine j_aload_n eX4_below_0 rfl ?_
  refine j_iload_n eX4_below_1 rfl ?_
  refine j_cV1 zX4_ways lkX4_77 ⟨Nat.le_of_ble_eq_true rfl, Nat.le_of_ble_eq_true rfl⟩ ly35 rfl rfl (c_X4_ways (by omega) (by omega)) (Nat.le_of_ble_eq_true rfl) eX4_below_2 (k_E ?_)
  refine j_i2l (by omega) eX4_below_5 ?_
  refine j_aload_n eX4_below_6 rfl ?_
  refine j_getL flX4_60 ly35 rfl eX4_below_7 ?_
  refine j_lmul eX4_below_10 ?_
  refine r_lret rfl eX4_below_11 ?_
  first | exact ⟨rfl, rfl⟩ | (exfalso; omega)
theorem c_X4_commonNumber {g : Gl} {σ : Sg} {i : Int} (hT : 0 ≤ σ 35 1 ∧ σ 35 1 ≤ 7) (hi : 0 ≤ i ∧ i ≤ σ 35 1) : Ct g mX4_commonNumber [vr g 35, vi i] σ (PEL (cmn σ i) σ) := by
  refine Ct.of (by decide +kernel) (Nat.le_of_ble_eq_true rfl) ?_
  show jv g _ _ σ [(0, vr g 35), (1, vi i)] 0 []
  have w := bnZ_b hT hi
  refine j_aload_n eX4_commonNumber_0 rfl ?_
  refine j_iload_n eX4_commonNumber_1 rfl ?_
  refine j_cV1 zX4_ways lkX4_77 ⟨Nat.le_of_ble_eq_true rfl, Nat.le_of_ble_eq_true rfl⟩ ly35 rfl rfl (c_X4_ways (by omega) (by omega)) (Nat.le_of_ble_eq_true rfl) eX4_commonNumber_2 (k_E ?_)
  refine j_istore_n eX4_commonNumber_5 (Nat.le_of_ble_eq_true rfl) ?_
  refine j_iload_n eX4_commonNumber_6 rfl ?_
  refine j_if_le eX4_commonNumber_7 (by omega) (fun h7 => absurd h7 (by omega)) (fun h7 => ?_)
  refine j_aload_n eX4_commonNumber_10 rfl ?_
  refine j_iload_n eX4_commonNumber_11 rfl ?_
  refine j_cV1 zX4_number lkX4_84 ⟨Nat.le_of_ble_eq_true rfl, Nat.le_of_ble_eq_true rfl⟩ ly35 rfl rfl (c_X4_number (by omega)) (Nat.le_of_ble_eq_true rfl) eX4_commonNumber_12 (k_EL ?_)
  refine j_bipush 60 eX4_commonNumber_15 (by decide) ?_
  refine j_iload_n eX4_commonNumber_17 rfl ?_
  have d6 : Int.tdiv 60 (bnZ (σ 35 1) i) = 60 / bnZ (σ 35 1) i := Int.tdiv_eq_ediv_of_nonneg (by omega)
  have d7 : 60 / bnZ (σ 35 1) i ≤ 60 := Int.ediv_le_self _ (by omega)
  have d8 : 0 ≤ 60 / bnZ (σ 35 1) i := Int.ediv_nonneg (by omega) (by omega)
  refine j_idiv (by omega) eX4_commonNumber_18 ?_
  refine j_i2l (by omega) eX4_commonNumber_19 ?_
  refine j_lmul eX4_commonNumber_20 ?_
  refine j_goto eX4_commonNumber_21 ?_
  refine r_lret rfl eX4_commonNumber_25 ?_
  first | exact ⟨rfl, rfl⟩ | (exfalso; omega)
theorem c_X4_commonBelow {g : Gl} {σ : Sg} : Ct g mX4_commonBelow [vr g 35] σ (PEL (60 * σ 35 2) σ) := by
  refine Ct.of (by decide +kernel) (Nat.le_of_ble_eq_true rfl) ?_
  show jv g _ _ σ [(0, vr g 35)] 0 []
  refine j_ldc2 (60) cnX4_88 eX4_commonBelow_0 ?_
  refine j_aload_n eX4_commonBelow_3 rfl ?_
  refine j_getL flX4_60 ly35 rfl eX4_commonBelow_4 ?_
  refine j_lmul eX4_commonBelow_7 ?_
  refine r_lret rfl eX4_commonBelow_8 ?_
  first | exact ⟨rfl, rfl⟩ | (exfalso; omega)
theorem c_X4_signAtLow {g : Gl} {σ : Sg} (hN : ∀ i, 0 ≤ i → i < 8 → -4611686018427387904 ≤ σ 36 i ∧ σ 36 i ≤ 4611686018427387904) : Ct g mX4_signAtLow [vr g 35] σ (PE (sgn (σ 36 0)) σ) := by
  refine Ct.of (by decide +kernel) (Nat.le_of_ble_eq_true rfl) ?_
  show jv g _ _ σ [(0, vr g 35)] 0 []
  have q := hN 0 (by omega) (by omega)
  refine j_aload_n eX4_signAtLow_0 rfl ?_
  refine j_iconst 0 eX4_signAtLow_1 ?_
  refine j_cV1 zX4_number lkX4_84 ⟨Nat.le_of_ble_eq_true rfl, Nat.le_of_ble_eq_true rfl⟩ ly35 rfl rfl (c_X4_number (by omega)) (Nat.le_of_ble_eq_true rfl) eX4_signAtLow_2 (k_EL ?_)
  refine j_cSN1 zX11_signOf lkX4_96 ⟨Nat.le_of_ble_eq_true rfl, Nat.le_of_ble_eq_true rfl⟩ (c_X11_signOf (by omega)) (Nat.le_of_ble_eq_true rfl) eX4_signAtLow_5 (k_E ?_)
  refine r_iret rfl eX4_signAtLow_8 ?_
  first | exact ⟨rfl, rfl⟩ | (exfalso; omega)
theorem c_X4_signAtHigh {g : Gl} {σ : Sg} (hT : 0 ≤ σ 35 1 ∧ σ 35 1 ≤ 7) (hN : ∀ i, 0 ≤ i → i < 8 → -4611686018427387904 ≤ σ 36 i ∧ σ 36 i ≤ 4611686018427387904) : Ct g mX4_signAtHigh [vr g 35] σ (PE (sgn (σ 36 (σ 35 1))) σ) := by
  refine Ct.of (by decide +kernel) (Nat.le_of_ble_eq_true rfl) ?_
  show jv g _ _ σ [(0, vr g 35)] 0 []
  have q := hN (σ 35 1) (by omega) (by omega)
  refine j_aload_n eX4_signAtHigh_0 rfl ?_
  refine j_aload_n eX4_signAtHigh_1 rfl ?_
  refine j_getI flX4_15 ly35 rfl eX4_signAtHigh_2 ?_
  refine j_cV1 zX4_number lkX4_84 ⟨Nat.le_of_ble_eq_true rfl, Nat.le_of_ble_eq_true rfl⟩ ly35 rfl rfl (c_X4_number (by omega)) (Nat.le_of_ble_eq_true rfl) eX4_signAtHigh_5 (k_EL ?_)
  refine j_cSN1 zX11_signOf lkX4_96 ⟨Nat.le_of_ble_eq_true rfl, Nat.le_of_ble_eq_true rfl⟩ (c_X11_signOf (by omega)) (Nat.le_of_ble_eq_true rfl) eX4_signAtHigh_8 (k_E ?_)
  refine r_iret rfl eX4_signAtHigh_11 ?_
  first | exact ⟨rfl, rfl⟩ | (exfalso; omega)
theorem sgn_b (x : Int) : -1 ≤ sgn x ∧ sgn x ≤ 1 := by
  unfold sgn
  split <;> (try split) <;> omega
theorem l_X4_allHave {g : Gl} {σ : Sg} {w : Int} (hT : 0 ≤ σ 35 1 ∧ σ 35 1 ≤ 7) (hN : ∀ i, 0 ≤ i → i < 8 → -4611686018427387904 ≤ σ 36 i ∧ σ 36 i ≤ 4611686018427387904) (hw : -2147483648 ≤ w ∧ w ≤ 2147483647) : ∀ (t : Nat), (t : Int) ≤ σ 35 1 + 1 → (∀ i, 0 ≤ i → i < σ 35 1 + 1 - (t : Int) → sgn (σ 36 i) = w) → jv g mX4_allHave (Fm g (PB (∀ i, 0 ≤ i → i ≤ σ 35 1 → sgn (σ 36 i) = w) σ)) σ [(0, vr g 35), (1, vi w), (2, vi (σ 35 1 + 1 - (t : Int)))] 2 [] := by
  intro t
  induction t with
  | zero =>
    intro h1 h2
    refine j_iload_n eX4_allHave_2 rfl ?_
    refine j_aload_n eX4_allHave_3 rfl ?_
    refine j_getI flX4_15 ly35 rfl eX4_allHave_4 ?_
    refine j_icmp_gt eX4_allHave_7 (by omega) (fun h => ?_) (fun h => absurd (by omega) h)
    refine j_iconst 1 eX4_allHave_30 ?_
    exact r_zret (by decide) rfl eX4_allHave_31 (PB_t (fun i a b => h2 i a (by omega)))
  | succ t ih =>
    intro h1 h2
    refine j_iload_n eX4_allHave_2 rfl ?_
    refine j_aload_n eX4_allHave_3 rfl ?_
    refine j_getI flX4_15 ly35 rfl eX4_allHave_4 ?_
    refine j_icmp_gt eX4_allHave_7 (by omega) (fun h7 => absurd h7 (by omega)) (fun h7 => ?_)
    have q := hN (σ 35 1 + 1 - ((t + 1 : Nat) : Int)) (by omega) (by omega)
    refine j_aload_n eX4_allHave_10 rfl ?_
    refine j_iload_n eX4_allHave_11 rfl ?_
    refine j_cV1 zX4_number lkX4_84 ⟨Nat.le_of_ble_eq_true rfl, Nat.le_of_ble_eq_true rfl⟩ ly35 rfl rfl (c_X4_number (by omega)) (Nat.le_of_ble_eq_true rfl) eX4_allHave_12 (k_EL ?_)
    refine j_cSN1 zX11_signOf lkX4_96 ⟨Nat.le_of_ble_eq_true rfl, Nat.le_of_ble_eq_true rfl⟩ (c_X11_signOf (by omega)) (Nat.le_of_ble_eq_true rfl) eX4_allHave_15 (k_E ?_)
    have sb : -1 ≤ sgn (σ 36 (σ 35 1 + 1 - ((t + 1 : Nat) : Int))) ∧ sgn (σ 36 (σ 35 1 + 1 - ((t + 1 : Nat) : Int))) ≤ 1 := sgn_b _
    refine j_iload_n eX4_allHave_18 rfl ?_
    refine j_icmp_eq eX4_allHave_19 (by omega) (fun h19 => ?_) (fun h19 => ?_)
    · refine j_iinc eX4_allHave_24 rfl (Nat.le_of_ble_eq_true rfl) ?_
      refine j_goto eX4_allHave_27 ?_
      have e1 : σ 35 1 + 1 - ((t + 1 : Nat) : Int) + 1 = σ 35 1 + 1 - (t : Int) := by omega
      rw [e1]
      refine jv_lv ?_ (ih (by omega) (fun i a b => ?_))
      · exact lvC rfl (lvC rfl (lvC rfl (lv0)))
      · by_cases z : i = σ 35 1 + 1 - ((t + 1 : Nat) : Int)
        · rw [z]; exact h19
        · exact h2 i a (by omega)
    · refine j_iconst 0 eX4_allHave_22 ?_
      refine r_zret (by decide) rfl eX4_allHave_23 ?_
      exact PB_f (fun z => h19 (z _ (by omega) (by omega)))
theorem c_X4_allHave {g : Gl} {σ : Sg} {w : Int} (hT : 0 ≤ σ 35 1 ∧ σ 35 1 ≤ 7) (hN : ∀ i, 0 ≤ i → i < 8 → -4611686018427387904 ≤ σ 36 i ∧ σ 36 i ≤ 4611686018427387904) (hw : -2147483648 ≤ w ∧ w ≤ 2147483647) : Ct g mX4_allHave [vr g 35, vi w] σ (PB (∀ i, 0 ≤ i → i ≤ σ 35 1 → sgn (σ 36 i) = w) σ) := by
  refine Ct.of (by decide +kernel) (Nat.le_of_ble_eq_true rfl) ?_
  show jv g _ _ σ [(0, vr g 35), (1, vi w)] 0 []
  refine j_iconst 0 eX4_allHave_0 ?_
  refine j_istore_n eX4_allHave_1 (Nat.le_of_ble_eq_true rfl) ?_
  have e0 : (0 : Int) = σ 35 1 + 1 - (((σ 35 1 + 1).toNat : Nat) : Int) := by omega
  have e1 := l_X4_allHave (g := g) hT hN hw (σ 35 1 + 1).toNat (by omega) (fun i a b => by omega)
  rw [← e0] at e1
  refine jv_lv ?_ e1
  exact lvC rfl (lvC rfl (lvC rfl (lv0)))
theorem l_X4_signChanges {g : Gl} {σ : Sg} (hT : 0 ≤ σ 35 1 ∧ σ 35 1 ≤ 7) (hN : ∀ i, 0 ≤ i → i < 8 → -4611686018427387904 ≤ σ 36 i ∧ σ 36 i ≤ 4611686018427387904) : ∀ (t : Nat) (b c : Int), (t : Int) ≤ σ 35 1 + 1 → -1 ≤ b → b ≤ 1 → jv g mX4_signChanges (Fm g (PE (vch (σ 36) t (σ 35 1 + 1 - (t : Int)) b c) σ)) σ [(0, vr g 35), (1, vi c), (2, vi b), (3, vi (σ 35 1 + 1 - (t : Int)))] 6 [] := by
  intro t
  induction t with
  | zero =>
    intro b c h1 h2 h3
    refine j_iload_n eX4_signChanges_6 rfl ?_
    refine j_aload_n eX4_signChanges_7 rfl ?_
    refine j_getI flX4_15 ly35 rfl eX4_signChanges_8 ?_
    refine j_icmp_gt eX4_signChanges_11 (by omega) (fun h => ?_) (fun h => absurd (by omega) h)
    refine j_iload_n eX4_signChanges_51 rfl ?_
    exact r_iret rfl eX4_signChanges_52 ⟨rfl, rfl⟩
  | succ t ih =>
    intro b c h1 h2 h3
    refine j_iload_n eX4_signChanges_6 rfl ?_
    refine j_aload_n eX4_signChanges_7 rfl ?_
    refine j_getI flX4_15 ly35 rfl eX4_signChanges_8 ?_
    refine j_icmp_gt eX4_signChanges_11 (by omega) (fun h11 => absurd h11 (by omega)) (fun h11 => ?_)
    have q := hN (σ 35 1 + 1 - ((t + 1 : Nat) : Int)) (by omega) (by omega)
    refine j_aload_n eX4_signChanges_14 rfl ?_
    refine j_iload_n eX4_signChanges_15 rfl ?_
    refine j_cV1 zX4_number lkX4_84 ⟨Nat.le_of_ble_eq_true rfl, Nat.le_of_ble_eq_true rfl⟩ ly35 rfl rfl (c_X4_number (by omega)) (Nat.le_of_ble_eq_true rfl) eX4_signChanges_16 (k_EL ?_)
    refine j_cSN1 zX11_signOf lkX4_96 ⟨Nat.le_of_ble_eq_true rfl, Nat.le_of_ble_eq_true rfl⟩ (c_X11_signOf (by omega)) (Nat.le_of_ble_eq_true rfl) eX4_signChanges_19 (k_E ?_)
    refine j_istore eX4_signChanges_22 (Nat.le_of_ble_eq_true rfl) ?_
    have sb := sgn_b (σ 36 (σ 35 1 + 1 - ((t + 1 : Nat) : Int)))
    refine j_iload eX4_signChanges_24 rfl ?_
    refine j_if_eq eX4_signChanges_26 (by omega) (fun h26 => ?_) (fun h26 => ?_)
    · refine j_iinc eX4_signChanges_45 rfl (Nat.le_of_ble_eq_true rfl) ?_
      refine j_goto eX4_signChanges_48 ?_
      have e1 : σ 35 1 + 1 - ((t + 1 : Nat) : Int) + 1 = σ 35 1 + 1 - (t : Int) := by omega
      first
      | (have e2 : vch (σ 36) (t + 1) (σ 35 1 + 1 - ((t + 1 : Nat) : Int)) b c = vch (σ 36) t (σ 35 1 + 1 - ((t + 1 : Nat) : Int) + 1) b c := if_pos (by omega)
         rw [e2, e1]
         refine jv_lv ?_ (ih _ _ (by omega) (by omega) (by omega))
         exact lvC rfl (lvC rfl (lvC rfl (lvC rfl (lv0)))))
      | (have e2 : vch (σ 36) (t + 1) (σ 35 1 + 1 - ((t + 1 : Nat) : Int)) b c = vch (σ 36) t (σ 35 1 + 1 - ((t + 1 : Nat) : Int) + 1) (sgn (σ 36 (σ 35 1 + 1 - ((t + 1 : Nat) : Int)))) c := (if_neg (by omega)).trans (if_pos (by omega))
         rw [e2, e1]
         refine jv_lv ?_ (ih _ _ (by omega) (by omega) (by omega))
         exact lvC rfl (lvC rfl (lvC rfl (lvC rfl (lv0)))))
      | (have e2 : vch (σ 36) (t + 1) (σ 35 1 + 1 - ((t + 1 : Nat) : Int)) b c = vch (σ 36) t (σ 35 1 + 1 - ((t + 1 : Nat) : Int) + 1) (sgn (σ 36 (σ 35 1 + 1 - ((t + 1 : Nat) : Int)))) c := (if_neg (by omega)).trans ((if_neg (by omega)).trans (if_pos (by omega)))
         rw [e2, e1]
         refine jv_lv ?_ (ih _ _ (by omega) (by omega) (by omega))
         exact lvC rfl (lvC rfl (lvC rfl (lvC rfl (lv0)))))
      | (have e2 : vch (σ 36) (t + 1) (σ 35 1 + 1 - ((t + 1 : Nat) : Int)) b c = vch (σ 36) t (σ 35 1 + 1 - ((t + 1 : Nat) : Int) + 1) (sgn (σ 36 (σ 35 1 + 1 - ((t + 1 : Nat) : Int)))) (c + 1) := (if_neg (by omega)).trans ((if_neg (by omega)).trans (if_neg (by omega)))
         rw [e2, e1]
         refine jv_lv ?_ (ih _ _ (by omega) (by omega) (by omega))
         exact lvC rfl (lvC rfl (lvC rfl (lvC rfl (lv0)))))
    · refine j_iload_n eX4_signChanges_29 rfl ?_
      refine j_if_eq eX4_signChanges_30 (by omega) (fun h30 => ?_) (fun h30 => ?_)
      · refine j_iload eX4_signChanges_42 rfl ?_
        refine j_istore_n eX4_signChanges_44 (Nat.le_of_ble_eq_true rfl) ?_
        refine j_iinc eX4_signChanges_45 rfl (Nat.le_of_ble_eq_true rfl) ?_
        refine j_goto eX4_signChanges_48 ?_
        have e1 : σ 35 1 + 1 - ((t + 1 : Nat) : Int) + 1 = σ 35 1 + 1 - (t : Int) := by omega
        first
        | (have e2 : vch (σ 36) (t + 1) (σ 35 1 + 1 - ((t + 1 : Nat) : Int)) b c = vch (σ 36) t (σ 35 1 + 1 - ((t + 1 : Nat) : Int) + 1) b c := if_pos (by omega)
           rw [e2, e1]
           refine jv_lv ?_ (ih _ _ (by omega) (by omega) (by omega))
           exact lvC rfl (lvC rfl (lvC rfl (lvC rfl (lv0)))))
        | (have e2 : vch (σ 36) (t + 1) (σ 35 1 + 1 - ((t + 1 : Nat) : Int)) b c = vch (σ 36) t (σ 35 1 + 1 - ((t + 1 : Nat) : Int) + 1) (sgn (σ 36 (σ 35 1 + 1 - ((t + 1 : Nat) : Int)))) c := (if_neg (by omega)).trans (if_pos (by omega))
           rw [e2, e1]
           refine jv_lv ?_ (ih _ _ (by omega) (by omega) (by omega))
           exact lvC rfl (lvC rfl (lvC rfl (lvC rfl (lv0)))))
        | (have e2 : vch (σ 36) (t + 1) (σ 35 1 + 1 - ((t + 1 : Nat) : Int)) b c = vch (σ 36) t (σ 35 1 + 1 - ((t + 1 : Nat) : Int) + 1) (sgn (σ 36 (σ 35 1 + 1 - ((t + 1 : Nat) : Int)))) c := (if_neg (by omega)).trans ((if_neg (by omega)).trans (if_pos (by omega)))
           rw [e2, e1]
           refine jv_lv ?_ (ih _ _ (by omega) (by omega) (by omega))
           exact lvC rfl (lvC rfl (lvC rfl (lvC rfl (lv0)))))
        | (have e2 : vch (σ 36) (t + 1) (σ 35 1 + 1 - ((t + 1 : Nat) : Int)) b c = vch (σ 36) t (σ 35 1 + 1 - ((t + 1 : Nat) : Int) + 1) (sgn (σ 36 (σ 35 1 + 1 - ((t + 1 : Nat) : Int)))) (c + 1) := (if_neg (by omega)).trans ((if_neg (by omega)).trans (if_neg (by omega)))
           rw [e2, e1]
           refine jv_lv ?_ (ih _ _ (by omega) (by omega) (by omega))
           exact lvC rfl (lvC rfl (lvC rfl (lvC rfl (lv0)))))
      · refine j_iload eX4_signChanges_33 rfl ?_
        refine j_iload_n eX4_signChanges_35 rfl ?_
        refine j_icmp_eq eX4_signChanges_36 (by omega) (fun h36 => ?_) (fun h36 => ?_)
        · refine j_iload eX4_signChanges_42 rfl ?_
          refine j_istore_n eX4_signChanges_44 (Nat.le_of_ble_eq_true rfl) ?_
          refine j_iinc eX4_signChanges_45 rfl (Nat.le_of_ble_eq_true rfl) ?_
          refine j_goto eX4_signChanges_48 ?_
          have e1 : σ 35 1 + 1 - ((t + 1 : Nat) : Int) + 1 = σ 35 1 + 1 - (t : Int) := by omega
          first
          | (have e2 : vch (σ 36) (t + 1) (σ 35 1 + 1 - ((t + 1 : Nat) : Int)) b c = vch (σ 36) t (σ 35 1 + 1 - ((t + 1 : Nat) : Int) + 1) b c := if_pos (by omega)
             rw [e2, e1]
             refine jv_lv ?_ (ih _ _ (by omega) (by omega) (by omega))
             exact lvC rfl (lvC rfl (lvC rfl (lvC rfl (lv0)))))
          | (have e2 : vch (σ 36) (t + 1) (σ 35 1 + 1 - ((t + 1 : Nat) : Int)) b c = vch (σ 36) t (σ 35 1 + 1 - ((t + 1 : Nat) : Int) + 1) (sgn (σ 36 (σ 35 1 + 1 - ((t + 1 : Nat) : Int)))) c := (if_neg (by omega)).trans (if_pos (by omega))
             rw [e2, e1]
             refine jv_lv ?_ (ih _ _ (by omega) (by omega) (by omega))
             exact lvC rfl (lvC rfl (lvC rfl (lvC rfl (lv0)))))
          | (have e2 : vch (σ 36) (t + 1) (σ 35 1 + 1 - ((t + 1 : Nat) : Int)) b c = vch (σ 36) t (σ 35 1 + 1 - ((t + 1 : Nat) : Int) + 1) (sgn (σ 36 (σ 35 1 + 1 - ((t + 1 : Nat) : Int)))) c := (if_neg (by omega)).trans ((if_neg (by omega)).trans (if_pos (by omega)))
             rw [e2, e1]
             refine jv_lv ?_ (ih _ _ (by omega) (by omega) (by omega))
             exact lvC rfl (lvC rfl (lvC rfl (lvC rfl (lv0)))))
          | (have e2 : vch (σ 36) (t + 1) (σ 35 1 + 1 - ((t + 1 : Nat) : Int)) b c = vch (σ 36) t (σ 35 1 + 1 - ((t + 1 : Nat) : Int) + 1) (sgn (σ 36 (σ 35 1 + 1 - ((t + 1 : Nat) : Int)))) (c + 1) := (if_neg (by omega)).trans ((if_neg (by omega)).trans (if_neg (by omega)))
             rw [e2, e1]
             refine jv_lv ?_ (ih _ _ (by omega) (by omega) (by omega))
             exact lvC rfl (lvC rfl (lvC rfl (lvC rfl (lv0)))))
        · refine j_iinc eX4_signChanges_39 rfl (Nat.le_of_ble_eq_true rfl) ?_
          refine j_iload eX4_signChanges_42 rfl ?_
          refine j_istore_n eX4_signChanges_44 (Nat.le_of_ble_eq_true rfl) ?_
          refine j_iinc eX4_signChanges_45 rfl (Nat.le_of_ble_eq_true rfl) ?_
          refine j_goto eX4_signChanges_48 ?_
          have e1 : σ 35 1 + 1 - ((t + 1 : Nat) : Int) + 1 = σ 35 1 + 1 - (t : Int) := by omega
          first
          | (have e2 : vch (σ 36) (t + 1) (σ 35 1 + 1 - ((t + 1 : Nat) : Int)) b c = vch (σ 36) t (σ 35 1 + 1 - ((t + 1 : Nat) : Int) + 1) b c := if_pos (by omega)
             rw [e2, e1]
             refine jv_lv ?_ (ih _ _ (by omega) (by omega) (by omega))
             exact lvC rfl (lvC rfl (lvC rfl (lvC rfl (lv0)))))
          | (have e2 : vch (σ 36) (t + 1) (σ 35 1 + 1 - ((t + 1 : Nat) : Int)) b c = vch (σ 36) t (σ 35 1 + 1 - ((t + 1 : Nat) : Int) + 1) (sgn (σ 36 (σ 35 1 + 1 - ((t + 1 : Nat) : Int)))) c := (if_neg (by omega)).trans (if_pos (by omega))
             rw [e2, e1]
             refine jv_lv ?_ (ih _ _ (by omega) (by omega) (by omega))
             exact lvC rfl (lvC rfl (lvC rfl (lvC rfl (lv0)))))
          | (have e2 : vch (σ 36) (t + 1) (σ 35 1 + 1 - ((t + 1 : Nat) : Int)) b c = vch (σ 36) t (σ 35 1 + 1 - ((t + 1 : Nat) : Int) + 1) (sgn (σ 36 (σ 35 1 + 1 - ((t + 1 : Nat) : Int)))) c := (if_neg (by omega)).trans ((if_neg (by omega)).trans (if_pos (by omega)))
             rw [e2, e1]
             refine jv_lv ?_ (ih _ _ (by omega) (by omega) (by omega))
             exact lvC rfl (lvC rfl (lvC rfl (lvC rfl (lv0)))))
          | (have e2 : vch (σ 36) (t + 1) (σ 35 1 + 1 - ((t + 1 : Nat) : Int)) b c = vch (σ 36) t (σ 35 1 + 1 - ((t + 1 : Nat) : Int) + 1) (sgn (σ 36 (σ 35 1 + 1 - ((t + 1 : Nat) : Int)))) (c + 1) := (if_neg (by omega)).trans ((if_neg (by omega)).trans (if_neg (by omega)))
             rw [e2, e1]
             refine jv_lv ?_ (ih _ _ (by omega) (by omega) (by omega))
             exact lvC rfl (lvC rfl (lvC rfl (lvC rfl (lv0)))))
theorem c_X4_signChanges {g : Gl} {σ : Sg} (hT : 0 ≤ σ 35 1 ∧ σ 35 1 ≤ 7) (hN : ∀ i, 0 ≤ i → i < 8 → -4611686018427387904 ≤ σ 36 i ∧ σ 36 i ≤ 4611686018427387904) : Ct g mX4_signChanges [vr g 35] σ (PE (vch (σ 36) (σ 35 1 + 1).toNat 0 0 0) σ) := by
  refine Ct.of (by decide +kernel) (Nat.le_of_ble_eq_true rfl) ?_
  show jv g _ _ σ [(0, vr g 35)] 0 []
  refine j_iconst 0 eX4_signChanges_0 ?_
  refine j_istore_n eX4_signChanges_1 (Nat.le_of_ble_eq_true rfl) ?_
  refine j_iconst 0 eX4_signChanges_2 ?_
  refine j_istore_n eX4_signChanges_3 (Nat.le_of_ble_eq_true rfl) ?_
  refine j_iconst 0 eX4_signChanges_4 ?_
  refine j_istore_n eX4_signChanges_5 (Nat.le_of_ble_eq_true rfl) ?_
  have e0 : (0 : Int) = σ 35 1 + 1 - (((σ 35 1 + 1).toNat : Nat) : Int) := by omega
  have e1 := l_X4_signChanges (g := g) hT hN (σ 35 1 + 1).toNat 0 0 (by omega) (by omega) (by omega)
  rw [← e0] at e1
  refine jv_lv ?_ e1
  exact lvC rfl (lvC rfl (lvC rfl (lvC rfl (lv0))))
