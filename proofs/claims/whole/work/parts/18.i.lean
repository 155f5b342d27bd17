/-! bounds made narrower -/
def cmX (σ : Sg) (a i : Int) : Int := NX σ a 0 i * Int.tdiv 60 (bnZ (nX σ) i)
def mX (σ : Sg) (a : Int) : Int := mnf (cmX σ a) (nX σ).toNat 1 (cmX σ a 0)
def eX (σ : Sg) (a : Int) : Int := if cmX σ a (nX σ) < cmX σ a 0 then cmX σ a (nX σ) else cmX σ a 0
theorem mnf_congr {f h : Int → Int} : ∀ (t : Nat) (i m : Int), (∀ j, i ≤ j → j < i + t → f j = h j) → mnf f t i m = mnf h t i m := by
  intro t
  induction t with
  | zero => intro i m _; rfl
  | succ t ih =>
    intro i m e
    show mnf f t (i + 1) (if f i < m then f i else m) = mnf h t (i + 1) (if h i < m then h i else m)
    rw [e i (by omega) (by omega)]
    exact ih _ _ (fun j x z => e j (by omega) (by omega))
theorem mnf_b {f : Int → Int} {A B : Int} : ∀ (t : Nat) (i m : Int), (∀ j, i ≤ j → j < i + t → A ≤ f j ∧ f j ≤ B) → A ≤ m → m ≤ B → A ≤ mnf f t i m ∧ mnf f t i m ≤ B := by
  intro t
  induction t with
  | zero => intro i m _ h1 h2; exact ⟨h1, h2⟩
  | succ t ih =>
    intro i m e h1 h2
    have := e i (by omega) (by omega)
    exact ih (i + 1) (if f i < m then f i else m) (fun j x z => e j (by omega) (by omega)) (by split <;> omega) (by split <;> omega)
theorem td60 {b : Int} (h : 1 ≤ b ∧ b ≤ 35) : 0 ≤ Int.tdiv 60 b ∧ Int.tdiv 60 b ≤ 60 := by
  rw [Int.tdiv_eq_ediv_of_nonneg (by omega)]
  exact ⟨Int.ediv_nonneg (by omega) (by omega), Int.ediv_le_self _ (by omega)⟩
theorem mul_bd {x y X Y : Int} (hx : -X ≤ x ∧ x ≤ X) (hy : 0 ≤ y ∧ y ≤ Y) (hX : 0 ≤ X) : -(X * Y) ≤ x * y ∧ x * y ≤ X * Y := by
  have h1 : x * y ≤ X * y := Int.mul_le_mul_of_nonneg_right hx.2 hy.1
  have h2 : X * y ≤ X * Y := Int.mul_le_mul_of_nonneg_left hy.2 hX
  have h3 : -X * y ≤ x * y := Int.mul_le_mul_of_nonneg_right hx.1 hy.1
  rw [Int.neg_mul] at h3
  omega
theorem NX_bd {σ : Sg} {a : Int} (hX : TX σ) (hV : VT σ) (na : 1 ≤ a ∧ a ≤ 127) (i : Int) : -30000000000000000 ≤ NX σ a 0 i ∧ NX σ a 0 i ≤ 30000000000000000 := by
  have q := hX.2.2.1 (σ 27 1) hV.1.1 hV.1.2
  have lb := loX_b hX na hV.2
  have h := nb_b (n := σ 1 (σ 27 1) - 1) (by omega) (fX_b hX hV.1) (show (loX σ a).natAbs ≤ 320 by omega) (show (hiX σ a).natAbs ≤ 320 by omega) 0 i
  have e : 2 ^ 0 * MB = 30000000000000000 := rfl
  rw [e] at h
  unfold NX
  omega
theorem cmX_b {σ : Sg} {a : Int} (hX : TX σ) (hV : VT σ) (na : 1 ≤ a ∧ a ≤ 127) {i : Int} (hi : 0 ≤ i ∧ i ≤ nX σ) : -1800000000000000000 ≤ cmX σ a i ∧ cmX σ a i ≤ 1800000000000000000 := by
  have q := hX.2.2.1 (σ 27 1) hV.1.1 hV.1.2
  have en : nX σ = σ 1 (σ 27 1) - 1 := rfl
  have w := NX_bd hX hV na i
  have w2 := td60 (bnZ_b (t := nX σ) (by omega) hi)
  have := mul_bd w w2 (by omega)
  unfold cmX
  omega
theorem mX_b {σ : Sg} {a : Int} (hX : TX σ) (hV : VT σ) (na : 1 ≤ a ∧ a ≤ 127) : -1800000000000000000 ≤ mX σ a ∧ mX σ a ≤ 1800000000000000000 := by
  have q := hX.2.2.1 (σ 27 1) hV.1.1 hV.1.2
  have en : nX σ = σ 1 (σ 27 1) - 1 := rfl
  have w0 := cmX_b hX hV na (i := 0) (by omega)
  exact mnf_b _ _ _ (fun j x z => cmX_b hX hV na (by omega)) w0.1 w0.2
theorem eX_b {σ : Sg} {a : Int} (hX : TX σ) (hV : VT σ) (na : 1 ≤ a ∧ a ≤ 127) : -1800000000000000000 ≤ eX σ a ∧ eX σ a ≤ 1800000000000000000 := by
  have q := hX.2.2.1 (σ 27 1) hV.1.1 hV.1.2
  have en : nX σ = σ 1 (σ 27 1) - 1 := rfl
  have w0 := cmX_b hX hV na (i := 0) (by omega)
  have w1 := cmX_b hX hV na (i := nX σ) (by omega)
  unfold eX
  split <;> omega
theorem RXs.cm {σ ρ : Sg} {a : Int} (hX : TX σ) (hV : VT σ) (h : RXs σ ρ a 0) : ∀ i, 0 ≤ i → i ≤ ρ 35 1 → cmn ρ i = cmX σ a i := by
  intro i h0 h1
  have q := hX.2.2.1 (σ 27 1) hV.1.1 hV.1.2
  have w := h.of (σ := σ) (fun _ _ => rfl)
  have en : nX σ = σ 1 (σ 27 1) - 1 := rfl
  have t1 : ρ 35 1 = nX σ := by rw [w.2.1]; omega
  unfold cmn cmX
  rw [t1, w.2.2.2 i h0 (by omega)]
theorem mX_congr {σ τ : Sg} (e : ∀ k, k ≤ 27 → τ k = σ k) : mX τ = mX σ := by
  funext a
  have e1 : cmX τ a = cmX σ a := by
    funext i
    unfold cmX
    rw [nX_congr e, NX_congr e]
  unfold mX
  rw [e1, nX_congr e]
theorem eX_congr {σ τ : Sg} (e : ∀ k, k ≤ 27 → τ k = σ k) : eX τ = eX σ := by
  funext a
  have e1 : cmX τ a = cmX σ a := by
    funext i
    unfold cmX
    rw [nX_congr e, NX_congr e]
  unfold eX
  rw [e1, nX_congr e]
def lws (h : Int → Int) : Nat → Int → Int → Int
  | 0, _, b => b
  | t + 1, i, b => lws h t (i + 1) (if h i < h b then i else b)
theorem lws_b {h : Int → Int} : ∀ (t : Nat) (i b : Int), 0 ≤ b → b < i → 0 ≤ lws h t i b ∧ lws h t i b < i + t := by
  intro t
  induction t with
  | zero => intro i b h1 h2; exact ⟨h1, by show b < i + ((0 : Nat) : Int); omega⟩
  | succ t ih =>
    intro i b h1 h2
    have := ih (i + 1) (if h i < h b then i else b) (by split <;> omega) (by split <;> omega)
    show 0 ≤ lws h t (i + 1) _ ∧ lws h t (i + 1) _ < _
    omega
theorem lws_congr {f h : Int → Int} : ∀ (t : Nat) (i b : Int), 0 ≤ b → b < i → (∀ j, 0 ≤ j → j < i + t → f j = h j) → lws f t i b = lws h t i b := by
  intro t
  induction t with
  | zero => intro i b _ _ _; rfl
  | succ t ih =>
    intro i b h1 h2 e
    show lws f t (i + 1) (if f i < f b then i else b) = lws h t (i + 1) (if h i < h b then i else b)
    rw [e i (by omega) (by omega), e b (by omega) (by omega)]
    exact ih (i + 1) _ (by split <;> omega) (by split <;> omega) (fun j x z => e j x (by omega))
def insN (f : Int → Int) (b : Int) : Int → Int := fun j => if j < b then f j else if j = b then 2 * f b else if j = b + 1 then 2 * f b + 1 else f (j - 1)
def nrF (mx : Int → Int) : Nat → Int → (Int → Int) → Int × (Int → Int)
  | 0, sz, f => (sz, f)
  | t + 1, sz, f => if 64 ≤ f (lws (fun j => mx (f j)) (sz - 1).toNat 1 0) then (sz, f) else nrF mx t (sz + 1) (insN f (lws (fun j => mx (f j)) (sz - 1).toNat 1 0))
def MBd (σ τ : Sg) (sz : Int) (f : Int → Int) : Prop := (∀ k, k ≠ 35 → k ≠ 36 → k ≠ 42 → k ≠ 43 → k ≠ 44 → k ≠ 45 → τ k = σ k) ∧ τ 35 2 = 64 ^ (nX σ).toNat ∧ τ 42 3 = sz ∧ (1 ≤ sz ∧ sz ≤ 21) ∧ ∀ j, 0 ≤ j → j < sz → τ 43 j = f j ∧ τ 44 j = mX σ (f j) ∧ τ 45 j = eX σ (f j) ∧ 1 ≤ f j ∧ f j ≤ 127
theorem c_X0_put {g : Gl} {σ : Sg} {i a : Int} (hX : TX σ) (hV : VT σ) (nd : 1 ≤ a ∧ a ≤ 127) (hi : 0 ≤ i ∧ i < 21) : Ct g mX0_put [vr g 42, vr g 27, vr g 35, vi i, vi a] σ (PV (fun σ' => (∀ k, k ≠ 35 → k ≠ 36 → k ≠ 43 → k ≠ 44 → k ≠ 45 → σ' k = σ k) ∧ σ' 35 2 = 64 ^ (nX σ).toNat ∧ σ' 43 = up1 (σ 43) i a ∧ σ' 44 = up1 (σ 44) i (mX σ a) ∧ σ' 45 = up1 (σ 45) i (eX σ a))) := by
  refine Ct.of (by decide +kernel) (Nat.le_of_ble_eq_true rfl) ?_
  show jv g _ _ σ [(0, vr g 42), (1, vr g 27), (2, vr g 35), (3, vi i), (4, vi a)] 0 []
  refine j_iload_n eX0_put_0 rfl ?_
  refine j_if_lt eX0_put_1 (by omega) (fun h1 => absurd h1 (by omega)) (fun h1 => ?_)
  refine j_iload_n eX0_put_4 rfl ?_
  refine j_bipush 21 eX0_put_5 (by decide) ?_
  refine j_icmp_lt eX0_put_7 (by omega) (fun h7 => ?_) (fun h7 => absurd h7 (by omega))
  refine j_aload_n eX0_put_11 rfl ?_
  refine j_aload_n eX0_put_12 rfl ?_
  refine j_iload eX0_put_13 rfl ?_
  refine j_cV2 zX4_lay lkX0_44 ⟨Nat.le_of_ble_eq_true rfl, Nat.le_of_ble_eq_true rfl⟩ ly35 rfl rfl (c_X4_lay (by exact hX) (by exact hV) (by exact nd)) (Nat.le_of_ble_eq_true rfl) eX0_put_15 (k_V (fun σ15 h15 => ?_))
  have hT := h15.T hX hV.1 (by omega)
  have cm := RXs.cm hX hV h15
  have ww := h15.of (σ := σ) (fun _ _ => rfl)
  have t1 : σ15 35 1 = nX σ := by rw [ww.2.1]; omega
  have hQ : ∀ j, 0 ≤ j → j ≤ σ15 35 1 → -4611686018427387904 ≤ cmn σ15 j ∧ cmn σ15 j ≤ 4611686018427387904 := fun j x z => by
    have := cmX_b hX hV nd (i := j) (by omega)
    rw [cm j x z]
    omega
  refine j_aload_n eX0_put_18 rfl ?_
  refine j_getR flX0_11 ly42 rfl eX0_put_19 ?_
  refine j_iload_n eX0_put_22 rfl ?_
  refine j_iload eX0_put_23 rfl ?_
  refine j_iast ly43 (by omega) eX0_put_25 ?_
  refine j_aload_n eX0_put_26 rfl ?_
  refine j_getR flX0_15 ly42 rfl eX0_put_27 ?_
  refine j_iload_n eX0_put_30 rfl ?_
  refine j_aload_n eX0_put_31 rfl ?_
  refine j_cV0 zX4_least lkX0_50 ⟨Nat.le_of_ble_eq_true rfl, Nat.le_of_ble_eq_true rfl⟩ ly35 rfl rfl (c_X4_least (by exact hT) (by exact hQ)) (Nat.le_of_ble_eq_true rfl) eX0_put_32 (k_EL ?_)
  have em : mnf (cmn σ15) (σ15 35 1).toNat 1 (cmn σ15 0) = mX σ a := by
    rw [cm 0 (by omega) (by omega), t1]
    exact mnf_congr _ _ _ (fun j x z => cm j (by omega) (by omega))
  have em2 : mnf (cmn (up σ15 43 i a)) ((up σ15 43 i a) 35 1).toNat 1 (cmn (up σ15 43 i a) 0) = mX σ a := em
  rw [em2]
  refine j_last ly44 (by omega) eX0_put_35 ?_
  refine j_aload_n eX0_put_36 rfl ?_
  refine j_getR flX0_19 ly42 rfl eX0_put_37 ?_
  refine j_iload_n eX0_put_40 rfl ?_
  refine j_aload_n eX0_put_41 rfl ?_
  refine j_cV0 zX4_leastEnd lkX0_54 ⟨Nat.le_of_ble_eq_true rfl, Nat.le_of_ble_eq_true rfl⟩ ly35 rfl rfl (c_X4_leastEnd (by exact hT) (by exact hQ)) (Nat.le_of_ble_eq_true rfl) eX0_put_42 (k_EL ?_)
  have ee : (if cmn σ15 (σ15 35 1) < cmn σ15 0 then cmn σ15 (σ15 35 1) else cmn σ15 0) = eX σ a := by
    rw [cm 0 (by omega) (by omega), cm (σ15 35 1) (by omega) (by omega), t1]
    rfl
  have ee2 : (if cmn (up (up σ15 43 i a) 44 i (mX σ a)) ((up (up σ15 43 i a) 44 i (mX σ a)) 35 1) < cmn (up (up σ15 43 i a) 44 i (mX σ a)) 0 then cmn (up (up σ15 43 i a) 44 i (mX σ a)) ((up (up σ15 43 i a) 44 i (mX σ a)) 35 1) else cmn (up (up σ15 43 i a) 44 i (mX σ a)) 0) = eX σ a := ee
  rw [ee2]
  refine j_last ly45 (by omega) eX0_put_45 ?_
  refine r_vret rfl eX0_put_46 ?_
  refine ⟨fun k k1 k2 k3 k4 k5 => ?_, ww.2.2.1, ?_, ?_, ?_⟩
  · rw [up_ne k5, up_ne k4, up_ne k3]
    exact h15.1 k k1 k2
  · show up1 (σ15 43) i a = _
    rw [h15.1 43 (by decide) (by decide)]
  · show up1 (σ15 44) i (mX σ a) = _
    rw [h15.1 44 (by decide) (by decide)]
  · show up1 (σ15 45) i (eX σ a) = _
    rw [h15.1 45 (by decide) (by decide)]
theorem l_X0_lowest {g : Gl} {σ : Sg} (hs : 1 ≤ σ 42 3 ∧ σ 42 3 ≤ 21) (hq : ∀ j, 0 ≤ j → j < σ 42 3 → -4611686018427387904 ≤ σ 44 j ∧ σ 44 j ≤ 4611686018427387904) : ∀ (t : Nat) (b : Int), (t : Int) < σ 42 3 → 0 ≤ b → b < σ 42 3 - (t : Int) → jv g mX0_lowest (Fm g (PE (lws (σ 44) t (σ 42 3 - (t : Int)) b) σ)) σ [(0, vr g 42), (1, vi b), (2, vi (σ 42 3 - (t : Int)))] 4 [] := by
  intro t
  induction t with
  | zero =>
    intro b h1 h2 h3
    refine j_iload_n eX0_lowest_4 rfl ?_
    refine j_aload_n eX0_lowest_5 rfl ?_
    refine j_getI flX0_22 ly42 rfl eX0_lowest_6 ?_
    refine j_icmp_ge eX0_lowest_9 (by omega) (fun h => ?_) (fun h => absurd (by omega) h)
    refine j_iload_n eX0_lowest_45 rfl ?_
    exact r_iret rfl eX0_lowest_46 ⟨rfl, rfl⟩
  | succ t ih =>
    intro b h1 h2 h3
    refine j_iload_n eX0_lowest_4 rfl ?_
    refine j_aload_n eX0_lowest_5 rfl ?_
    refine j_getI flX0_22 ly42 rfl eX0_lowest_6 ?_
    refine j_icmp_ge eX0_lowest_9 (by omega) (fun h9 => absurd h9 (by omega)) (fun h9 => ?_)
    refine j_iload_n eX0_lowest_12 rfl ?_
    refine j_aload_n eX0_lowest_13 rfl ?_
    refine j_getR flX0_15 ly42 rfl eX0_lowest_14 ?_
    refine j_alen (by decide) ly44 eX0_lowest_17 ?_
    refine j_icmp_ge eX0_lowest_18 (by omega) (fun h18 => absurd h18 (by omega)) (fun h18 => ?_)
    have q1 := hq (σ 42 3 - ((t + 1 : Nat) : Int)) (by omega) (by omega)
    have q2 := hq b (by omega) (by omega)
    refine j_aload_n eX0_lowest_21 rfl ?_
    refine j_getR flX0_15 ly42 rfl eX0_lowest_22 ?_
    refine j_iload_n eX0_lowest_25 rfl ?_
    refine j_lald ly44 (by omega) eX0_lowest_26 ?_
    refine j_aload_n eX0_lowest_27 rfl ?_
    refine j_getR flX0_15 ly42 rfl eX0_lowest_28 ?_
    refine j_iload_n eX0_lowest_31 rfl ?_
    refine j_lald ly44 (by omega) eX0_lowest_32 ?_
    refine j_lc_ge eX0_lowest_33 eX0_lowest_34 (by omega) (fun h33 => ?_) (fun h33 => ?_)
    · refine j_iinc eX0_lowest_39 rfl (Nat.le_of_ble_eq_true rfl) ?_
      refine j_goto eX0_lowest_42 ?_
      have e1 : σ 42 3 - ((t + 1 : Nat) : Int) + 1 = σ 42 3 - (t : Int) := by omega
      have eT : lws (σ 44) (t + 1) (σ 42 3 - ((t + 1 : Nat) : Int)) b = lws (σ 44) t ((σ 42 3 - ((t + 1 : Nat) : Int)) + 1) (if σ 44 (σ 42 3 - ((t + 1 : Nat) : Int)) < σ 44 b then (σ 42 3 - ((t + 1 : Nat) : Int)) else b) := rfl
      first
      | (have c0 : σ 44 (σ 42 3 - ((t + 1 : Nat) : Int)) < σ 44 b := by omega
         rw [eT, if_pos c0, e1]
         refine jv_lv ?_ (ih (σ 42 3 - ((t + 1 : Nat) : Int)) (by omega) (by omega) (by omega))
         exact lvC rfl (lvC rfl (lvC rfl (lv0))))
      | (have c0 : ¬ σ 44 (σ 42 3 - ((t + 1 : Nat) : Int)) < σ 44 b := by omega
         rw [eT, if_neg c0, e1]
         refine jv_lv ?_ (ih b (by omega) (by omega) (by omega))
         exact lvC rfl (lvC rfl (lvC rfl (lv0))))
    · refine j_iload_n eX0_lowest_37 rfl ?_
      refine j_istore_n eX0_lowest_38 (Nat.le_of_ble_eq_true rfl) ?_
      refine j_iinc eX0_lowest_39 rfl (Nat.le_of_ble_eq_true rfl) ?_
      refine j_goto eX0_lowest_42 ?_
      have e1 : σ 42 3 - ((t + 1 : Nat) : Int) + 1 = σ 42 3 - (t : Int) := by omega
      have eT : lws (σ 44) (t + 1) (σ 42 3 - ((t + 1 : Nat) : Int)) b = lws (σ 44) t ((σ 42 3 - ((t + 1 : Nat) : Int)) + 1) (if σ 44 (σ 42 3 - ((t + 1 : Nat) : Int)) < σ 44 b then (σ 42 3 - ((t + 1 : Nat) : Int)) else b) := rfl
      first
      | (have c0 : σ 44 (σ 42 3 - ((t + 1 : Nat) : Int)) < σ 44 b := by omega
         rw [eT, if_pos c0, e1]
         refine jv_lv ?_ (ih (σ 42 3 - ((t + 1 : Nat) : Int)) (by omega) (by omega) (by omega))
         exact lvC rfl (lvC rfl (lvC rfl (lv0))))
      | (have c0 : ¬ σ 44 (σ 42 3 - ((t + 1 : Nat) : Int)) < σ 44 b := by omega
         rw [eT, if_neg c0, e1]
         refine jv_lv ?_ (ih b (by omega) (by omega) (by omega))
         exact lvC rfl (lvC rfl (lvC rfl (lv0))))
theorem c_X0_lowest {g : Gl} {σ : Sg} (hs : 1 ≤ σ 42 3 ∧ σ 42 3 ≤ 21) (hq : ∀ j, 0 ≤ j → j < σ 42 3 → -4611686018427387904 ≤ σ 44 j ∧ σ 44 j ≤ 4611686018427387904) : Ct g mX0_lowest [vr g 42] σ (PE (lws (σ 44) (σ 42 3 - 1).toNat 1 0) σ) := by
  refine Ct.of (by decide +kernel) (Nat.le_of_ble_eq_true rfl) ?_
  show jv g _ _ σ [(0, vr g 42)] 0 []
  refine j_iconst 0 eX0_lowest_0 ?_
  refine j_istore_n eX0_lowest_1 (Nat.le_of_ble_eq_true rfl) ?_
  refine j_iconst 1 eX0_lowest_2 ?_
  refine j_istore_n eX0_lowest_3 (Nat.le_of_ble_eq_true rfl) ?_
  have e0 : (1 : Int) = σ 42 3 - (((σ 42 3 - 1).toNat : Nat) : Int) := by omega
  have e1 := l_X0_lowest (g := g) hs hq (σ 42 3 - 1).toNat 0 (by omega) (by omega) (by omega)
  rw [← e0] at e1
  refine jv_lv ?_ e1
  exact lvC rfl (lvC rfl (lvC rfl (lv0)))
theorem c_X0_makeRoom {g : Gl} {σ : Sg} {i : Int} (h : 0 ≤ i ∧ i < σ 42 3 ∧ σ 42 3 < 21) : Ct g mX0_makeRoom [vr g 42, vi i] σ (PV (fun σ' => σ' = up (cpy (cpy (cpy σ 43 (i + 1) 43 (i + 2) (σ 42 3 - i - 1)) 44 (i + 1) 44 (i + 2) (σ 42 3 - i - 1)) 45 (i + 1) 45 (i + 2) (σ 42 3 - i - 1)) 42 3 (σ 42 3 + 1))) := by
  refine Ct.of (by decide +kernel) (Nat.le_of_ble_eq_true rfl) ?_
  show jv g _ _ σ [(0, vr g 42), (1, vi i)] 0 []
  refine j_iload_n eX0_makeRoom_0 rfl ?_
  refine j_if_lt eX0_makeRoom_1 (by omega) (fun h1 => absurd h1 (by omega)) (fun h1 => ?_)
  refine j_iload_n eX0_makeRoom_4 rfl ?_
  refine j_aload_n eX0_makeRoom_5 rfl ?_
  refine j_getI flX0_22 ly42 rfl eX0_makeRoom_6 ?_
  refine j_icmp_ge eX0_makeRoom_9 (by omega) (fun h9 => absurd h9 (by omega)) (fun h9 => ?_)
  refine j_aload_n eX0_makeRoom_12 rfl ?_
  refine j_getI flX0_22 ly42 rfl eX0_makeRoom_13 ?_
  refine j_bipush 21 eX0_makeRoom_16 (by decide) ?_
  refine j_icmp_lt eX0_makeRoom_18 (by omega) (fun h18 => ?_) (fun h18 => absurd h18 (by omega))
  refine j_aload_n eX0_makeRoom_22 rfl ?_
  refine j_getI flX0_22 ly42 rfl eX0_makeRoom_23 ?_
  refine j_iload_n eX0_makeRoom_26 rfl ?_
  refine j_isub eX0_makeRoom_27 ?_
  refine j_iconst 1 eX0_makeRoom_28 ?_
  refine j_isub eX0_makeRoom_29 ?_
  refine j_istore_n eX0_makeRoom_30 (Nat.le_of_ble_eq_true rfl) ?_
  refine j_aload_n eX0_makeRoom_31 rfl ?_
  refine j_getR flX0_11 ly42 rfl eX0_makeRoom_32 ?_
  refine j_iload_n eX0_makeRoom_35 rfl ?_
  refine j_iconst 1 eX0_makeRoom_36 ?_
  refine j_iadd eX0_makeRoom_37 ?_
  refine j_aload_n eX0_makeRoom_38 rfl ?_
  refine j_getR flX0_11 ly42 rfl eX0_makeRoom_39 ?_
  refine j_iload_n eX0_makeRoom_42 rfl ?_
  refine j_iconst 2 eX0_makeRoom_43 ?_
  refine j_iadd eX0_makeRoom_44 ?_
  refine j_iload_n eX0_makeRoom_45 rfl ?_
  refine j_copyI ly43 ly43 (by omega) lkX0_38 (Nat.le_of_ble_eq_true rfl) (Nat.le_of_ble_eq_true rfl) eX0_makeRoom_46 ?_
  refine j_aload_n eX0_makeRoom_49 rfl ?_
  refine j_getR flX0_15 ly42 rfl eX0_makeRoom_50 ?_
  refine j_iload_n eX0_makeRoom_53 rfl ?_
  refine j_iconst 1 eX0_makeRoom_54 ?_
  refine j_iadd eX0_makeRoom_55 ?_
  refine j_aload_n eX0_makeRoom_56 rfl ?_
  refine j_getR flX0_15 ly42 rfl eX0_makeRoom_57 ?_
  refine j_iload_n eX0_makeRoom_60 rfl ?_
  refine j_iconst 2 eX0_makeRoom_61 ?_
  refine j_iadd eX0_makeRoom_62 ?_
  refine j_iload_n eX0_makeRoom_63 rfl ?_
  refine j_copyL ly44 ly44 (by omega) lkX0_38 (Nat.le_of_ble_eq_true rfl) (Nat.le_of_ble_eq_true rfl) eX0_makeRoom_64 ?_
  refine j_aload_n eX0_makeRoom_67 rfl ?_
  refine j_getR flX0_19 ly42 rfl eX0_makeRoom_68 ?_
  refine j_iload_n eX0_makeRoom_71 rfl ?_
  refine j_iconst 1 eX0_makeRoom_72 ?_
  refine j_iadd eX0_makeRoom_73 ?_
  refine j_aload_n eX0_makeRoom_74 rfl ?_
  refine j_getR flX0_19 ly42 rfl eX0_makeRoom_75 ?_
  refine j_iload_n eX0_makeRoom_78 rfl ?_
  refine j_iconst 2 eX0_makeRoom_79 ?_
  refine j_iadd eX0_makeRoom_80 ?_
  refine j_iload_n eX0_makeRoom_81 rfl ?_
  refine j_copyL ly45 ly45 (by omega) lkX0_38 (Nat.le_of_ble_eq_true rfl) (Nat.le_of_ble_eq_true rfl) eX0_makeRoom_82 ?_
  refine j_aload_n eX0_makeRoom_85 rfl ?_
  refine j_dup rfl eX0_makeRoom_86 ?_
  refine j_getI flX0_22 ly42 rfl eX0_makeRoom_87 ?_
  refine j_iconst 1 eX0_makeRoom_90 ?_
  refine j_iadd eX0_makeRoom_91 ?_
  refine j_putI fpX0_22 ly42 rfl eX0_makeRoom_92 ?_
  refine r_vret rfl eX0_makeRoom_95 ?_
  first | exact rfl | (exfalso; omega)
theorem l_X0_leastOf_44 {g : Gl} {σ : Sg} (hs : 1 ≤ σ 42 3 ∧ σ 42 3 ≤ 21) (hq : ∀ j, 0 ≤ j → j < σ 42 3 → -4611686018427387904 ≤ σ 44 j ∧ σ 44 j ≤ 4611686018427387904) : ∀ (t : Nat) (m : Int), (t : Int) < σ 42 3 → -4611686018427387904 ≤ m → m ≤ 4611686018427387904 → jv g mX0_leastOf (Fm g (PEL (mnf (σ 44) t (σ 42 3 - (t : Int)) m) σ)) σ [(0, vr g 42), (1, vr g 44), (2, vl m), (4, vi (σ 42 3 - (t : Int)))] 16 [] := by
  intro t
  induction t with
  | zero =>
    intro m h1 h2 h3
    refine j_iload eX0_leastOf_16 rfl ?_
    refine j_aload_n eX0_leastOf_18 rfl ?_
    refine j_getI flX0_22 ly42 rfl eX0_leastOf_19 ?_
    refine j_icmp_ge eX0_leastOf_22 (by omega) (fun h => ?_) (fun h => absurd (by omega) h)
    refine j_lload_n eX0_leastOf_47 rfl ?_
    exact r_lret rfl eX0_leastOf_48 ⟨rfl, rfl⟩
  | succ t ih =>
    intro m h1 h2 h3
    refine j_iload eX0_leastOf_16 rfl ?_
    refine j_aload_n eX0_leastOf_18 rfl ?_
    refine j_getI flX0_22 ly42 rfl eX0_leastOf_19 ?_
    refine j_icmp_ge eX0_leastOf_22 (by omega) (fun h22 => absurd h22 (by omega)) (fun h22 => ?_)
    refine j_iload eX0_leastOf_25 rfl ?_
    refine j_aload_n eX0_leastOf_27 rfl ?_
    refine j_alen (by decide) ly44 eX0_leastOf_28 ?_
    refine j_icmp_ge eX0_leastOf_29 (by omega) (fun h29 => absurd h29 (by omega)) (fun h29 => ?_)
    have q1 := hq (σ 42 3 - ((t + 1 : Nat) : Int)) (by omega) (by omega)
    refine j_lload_n eX0_leastOf_32 rfl ?_
    refine j_aload_n eX0_leastOf_33 rfl ?_
    refine j_iload eX0_leastOf_34 rfl ?_
    refine j_lald ly44 (by omega) eX0_leastOf_36 ?_
    refine j_minL (by omega) lkX0_61 (Nat.le_of_ble_eq_true rfl) (Nat.le_of_ble_eq_true rfl) eX0_leastOf_37 ?_
    refine j_lstore_n eX0_leastOf_40 (Nat.le_of_ble_eq_true rfl) ?_
    refine j_iinc eX0_leastOf_41 rfl (Nat.le_of_ble_eq_true rfl) ?_
    refine j_goto eX0_leastOf_44 ?_
    have e1 : σ 42 3 - ((t + 1 : Nat) : Int) + 1 = σ 42 3 - (t : Int) := by omega
    have eT : mnf (σ 44) (t + 1) (σ 42 3 - ((t + 1 : Nat) : Int)) m = mnf (σ 44) t ((σ 42 3 - ((t + 1 : Nat) : Int)) + 1) (if σ 44 (σ 42 3 - ((t + 1 : Nat) : Int)) < m then σ 44 (σ 42 3 - ((t + 1 : Nat) : Int)) else m) := rfl
    rw [eT, e1]
    refine jv_lv ?_ (ih _ (by omega) (by split <;> omega) (by split <;> omega))
    exact lvC rfl (lvC rfl (lvC rfl (lvC rfl (lv0))))
theorem c_X0_leastOf_42_44 {g : Gl} {σ : Sg} (hs : 1 ≤ σ 42 3 ∧ σ 42 3 ≤ 21) (hq : ∀ j, 0 ≤ j → j < σ 42 3 → -4611686018427387904 ≤ σ 44 j ∧ σ 44 j ≤ 4611686018427387904) : Ct g mX0_leastOf [vr g 42, vr g 44] σ (PEL (mnf (σ 44) (σ 42 3 - 1).toNat 1 (σ 44 0)) σ) := by
  refine Ct.of (by decide +kernel) (Nat.le_of_ble_eq_true rfl) ?_
  show jv g _ _ σ [(0, vr g 42), (1, vr g 44)] 0 []
  refine j_aload_n eX0_leastOf_0 rfl ?_
  refine j_alen (by decide) ly44 eX0_leastOf_1 ?_
  refine j_if_le eX0_leastOf_2 (by omega) (fun h2 => absurd h2 (by omega)) (fun h2 => ?_)
  refine j_aload_n eX0_leastOf_5 rfl ?_
  refine j_iconst 0 eX0_leastOf_6 ?_
  refine j_lald ly44 (by omega) eX0_leastOf_7 ?_
  refine j_goto eX0_leastOf_8 ?_
  refine j_lstore_n eX0_leastOf_12 (Nat.le_of_ble_eq_true rfl) ?_
  refine j_iconst 1 eX0_leastOf_13 ?_
  refine j_istore eX0_leastOf_14 (Nat.le_of_ble_eq_true rfl) ?_
  have q0 := hq 0 (by omega) (by omega)
  have e0 : (1 : Int) = σ 42 3 - (((σ 42 3 - 1).toNat : Nat) : Int) := by omega
  have e1 := l_X0_leastOf_44 (g := g) hs hq (σ 42 3 - 1).toNat (σ 44 0) (by omega) (by omega) (by omega)
  rw [← e0] at e1
  refine jv_lv ?_ e1
  exact lvC rfl (lvC rfl (lvC rfl (lvC rfl (lv0))))
theorem c_X0_leastNumber {g : Gl} {σ : Sg} (hs : 1 ≤ σ 42 3 ∧ σ 42 3 ≤ 21) (hq : ∀ j, 0 ≤ j → j < σ 42 3 → -4611686018427387904 ≤ σ 44 j ∧ σ 44 j ≤ 4611686018427387904) : Ct g mX0_leastNumber [vr g 42] σ (PEL (mnf (σ 44) (σ 42 3 - 1).toNat 1 (σ 44 0)) σ) := by
  refine Ct.of (by decide +kernel) (Nat.le_of_ble_eq_true rfl) ?_
  show jv g _ _ σ [(0, vr g 42)] 0 []
  refine j_aload_n eX0_leastNumber_0 rfl ?_
  refine j_aload_n eX0_leastNumber_1 rfl ?_
  refine j_getR flX0_15 ly42 rfl eX0_leastNumber_2 ?_
  refine j_cV1 zX0_leastOf lkX0_57 ⟨Nat.le_of_ble_eq_true rfl, Nat.le_of_ble_eq_true rfl⟩ ly42 rfl rfl (c_X0_leastOf_42_44 (by exact hs) (by exact hq)) (Nat.le_of_ble_eq_true rfl) eX0_leastNumber_5 (k_EL ?_)
  refine r_lret rfl eX0_leastNumber_8 ?_
  first | exact ⟨rfl, rfl⟩ | (exfalso; omega)
theorem l_X0_leastOf_45 {g : Gl} {σ : Sg} (hs : 1 ≤ σ 42 3 ∧ σ 42 3 ≤ 21) (hq : ∀ j, 0 ≤ j → j < σ 42 3 → -4611686018427387904 ≤ σ 45 j ∧ σ 45 j ≤ 4611686018427387904) : ∀ (t : Nat) (m : Int), (t : Int) < σ 42 3 → -4611686018427387904 ≤ m → m ≤ 4611686018427387904 → jv g mX0_leastOf (Fm g (PEL (mnf (σ 45) t (σ 42 3 - (t : Int)) m) σ)) σ [(0, vr g 42), (1, vr g 45), (2, vl m), (4, vi (σ 42 3 - (t : Int)))] 16 [] := by
  intro t
  induction t with
  | zero =>
    intro m h1 h2 h3
    refine j_iload eX0_leastOf_16 rfl ?_
    refine j_aload_n eX0_leastOf_18 rfl ?_
    refine j_getI flX0_22 ly42 rfl eX0_leastOf_19 ?_
    refine j_icmp_ge eX0_leastOf_22 (by omega) (fun h => ?_) (fun h => absurd (by omega) h)
    refine j_lload_n eX0_leastOf_47 rfl ?_
    exact r_lret rfl eX0_leastOf_48 ⟨rfl, rfl⟩
  | succ t ih =>
    intro m h1 h2 h3
    refine j_iload eX0_leastOf_16 rfl ?_
    refine j_aload_n eX0_leastOf_18 rfl ?_
    refine j_getI flX0_22 ly42 rfl eX0_leastOf_19 ?_
    refine j_icmp_ge eX0_leastOf_22 (by omega) (fun h22 => absurd h22 (by omega)) (fun h22 => ?_)
    refine j_iload eX0_leastOf_25 rfl ?_
    refine j_aload_n eX0_leastOf_27 rfl ?_
    refine j_alen (by decide) ly45 eX0_leastOf_28 ?_
    refine j_icmp_ge eX0_leastOf_29 (by omega) (fun h29 => absurd h29 (by omega)) (fun h29 => ?_)
    have q1 := hq (σ 42 3 - ((t + 1 : Nat) : Int)) (by omega) (by omega)
    refine j_lload_n eX0_leastOf_32 rfl ?_
    refine j_aload_n eX0_leastOf_33 rfl ?_
    refine j_iload eX0_leastOf_34 rfl ?_
    refine j_lald ly45 (by omega) eX0_leastOf_36 ?_
    refine j_minL (by omega) lkX0_61 (Nat.le_of_ble_eq_true rfl) (Nat.le_of_ble_eq_true rfl) eX0_leastOf_37 ?_
    refine j_lstore_n eX0_leastOf_40 (Nat.le_of_ble_eq_true rfl) ?_
    refine j_iinc eX0_leastOf_41 rfl (Nat.le_of_ble_eq_true rfl) ?_
    refine j_goto eX0_leastOf_44 ?_
    have e1 : σ 42 3 - ((t + 1 : Nat) : Int) + 1 = σ 42 3 - (t : Int) := by omega
    have eT : mnf (σ 45) (t + 1) (σ 42 3 - ((t + 1 : Nat) : Int)) m = mnf (σ 45) t ((σ 42 3 - ((t + 1 : Nat) : Int)) + 1) (if σ 45 (σ 42 3 - ((t + 1 : Nat) : Int)) < m then σ 45 (σ 42 3 - ((t + 1 : Nat) : Int)) else m) := rfl
    rw [eT, e1]
    refine jv_lv ?_ (ih _ (by omega) (by split <;> omega) (by split <;> omega))
    exact lvC rfl (lvC rfl (lvC rfl (lvC rfl (lv0))))
theorem c_X0_leastOf_42_45 {g : Gl} {σ : Sg} (hs : 1 ≤ σ 42 3 ∧ σ 42 3 ≤ 21) (hq : ∀ j, 0 ≤ j → j < σ 42 3 → -4611686018427387904 ≤ σ 45 j ∧ σ 45 j ≤ 4611686018427387904) : Ct g mX0_leastOf [vr g 42, vr g 45] σ (PEL (mnf (σ 45) (σ 42 3 - 1).toNat 1 (σ 45 0)) σ) := by
  refine Ct.of (by decide +kernel) (Nat.le_of_ble_eq_true rfl) ?_
  show jv g _ _ σ [(0, vr g 42), (1, vr g 45)] 0 []
  refine j_aload_n eX0_leastOf_0 rfl ?_
  refine j_alen (by decide) ly45 eX0_leastOf_1 ?_
  refine j_if_le eX0_leastOf_2 (by omega) (fun h2 => absurd h2 (by omega)) (fun h2 => ?_)
  refine j_aload_n eX0_leastOf_5 rfl ?_
  refine j_iconst 0 eX0_leastOf_6 ?_
  refine j_lald ly45 (by omega) eX0_leastOf_7 ?_
  refine j_goto eX0_leastOf_8 ?_
  refine j_lstore_n eX0_leastOf_12 (Nat.le_of_ble_eq_true rfl) ?_
  refine j_iconst 1 eX0_leastOf_13 ?_
  refine j_istore eX0_leastOf_14 (Nat.le_of_ble_eq_true rfl) ?_
  have q0 := hq 0 (by omega) (by omega)
  have e0 : (1 : Int) = σ 42 3 - (((σ 42 3 - 1).toNat : Nat) : Int) := by omega
  have e1 := l_X0_leastOf_45 (g := g) hs hq (σ 42 3 - 1).toNat (σ 45 0) (by omega) (by omega) (by omega)
  rw [← e0] at e1
  refine jv_lv ?_ e1
  exact lvC rfl (lvC rfl (lvC rfl (lvC rfl (lv0))))
theorem c_X0_leastEnd {g : Gl} {σ : Sg} (hs : 1 ≤ σ 42 3 ∧ σ 42 3 ≤ 21) (hq : ∀ j, 0 ≤ j → j < σ 42 3 → -4611686018427387904 ≤ σ 45 j ∧ σ 45 j ≤ 4611686018427387904) : Ct g mX0_leastEnd [vr g 42] σ (PEL (mnf (σ 45) (σ 42 3 - 1).toNat 1 (σ 45 0)) σ) := by
  refine Ct.of (by decide +kernel) (Nat.le_of_ble_eq_true rfl) ?_
  show jv g _ _ σ [(0, vr g 42)] 0 []
  refine j_aload_n eX0_leastEnd_0 rfl ?_
  refine j_aload_n eX0_leastEnd_1 rfl ?_
  refine j_getR flX0_19 ly42 rfl eX0_leastEnd_2 ?_
  refine j_cV1 zX0_leastOf lkX0_57 ⟨Nat.le_of_ble_eq_true rfl, Nat.le_of_ble_eq_true rfl⟩ ly42 rfl rfl (c_X0_leastOf_42_45 (by exact hs) (by exact hq)) (Nat.le_of_ble_eq_true rfl) eX0_leastEnd_5 (k_EL ?_)
  refine r_lret rfl eX0_leastEnd_8 ?_
  first | exact ⟨rfl, rfl⟩ | (exfalso; omega)
theorem l_X0_narrow {g : Gl} {σ : Sg} {n : Int} (hX : TX σ) (hV : VT σ) (hn : 0 ≤ n ∧ n ≤ 20) : ∀ (t : Nat) (sz : Int) (f : Int → Int) (τ : Sg), (t : Int) ≤ n → sz + t ≤ 21 → MBd σ τ sz f → jv g mX0_narrow (Fm g (PV (fun σ' => MBd σ σ' (nrF (mX σ) t sz f).1 (nrF (mX σ) t sz f).2))) τ [(0, vr g 42), (1, vr g 27), (2, vr g 35), (3, vi n), (4, vi (n - (t : Int)))] 16 [] := by
  intro t
  induction t with
  | zero =>
    intro sz f τ h1 h2 h3
    refine j_iload eX0_narrow_16 rfl ?_
    refine j_iload_n eX0_narrow_18 rfl ?_
    refine j_icmp_ge eX0_narrow_19 (by omega) (fun h => ?_) (fun h => absurd (by omega) h)
    exact r_vret rfl eX0_narrow_105 h3
  | succ t ih =>
    intro sz f τ h1 h2 h3
    refine j_iload eX0_narrow_16 rfl ?_
    refine j_iload_n eX0_narrow_18 rfl ?_
    refine j_icmp_ge eX0_narrow_19 (by omega) (fun h19 => absurd h19 (by omega)) (fun h19 => ?_)
    have hd := h3.1
    have hs := h3.2.2.1
    have hz := h3.2.2.2.1
    have hj := h3.2.2.2.2
    have e27 : ∀ k, k ≤ 27 → τ k = σ k := fun k hk => hd k (by omega) (by omega) (by omega) (by omega) (by omega) (by omega)
    have kX : TX τ := hX.mono (fun k hk => e27 k (by omega))
    have kV : VT τ := hV.mono e27
    refine j_aload_n eX0_narrow_22 rfl ?_
    refine j_cV0 zX0_lowest lkX0_30 ⟨Nat.le_of_ble_eq_true rfl, Nat.le_of_ble_eq_true rfl⟩ ly42 rfl rfl (c_X0_lowest (by rw [hs]; exact hz) (by intro j x z; rw [hs] at z; rw [(hj j x z).2.1]; have := mX_b hX hV (a := f j) (hj j x z).2.2.2; omega)) (Nat.le_of_ble_eq_true rfl) eX0_narrow_23 (k_E ?_)
    have el : lws (τ 44) (τ 42 3 - 1).toNat 1 0 = (lws (fun j => mX σ (f j)) (sz - 1).toNat 1 0) := by
      rw [hs]
      exact lws_congr _ _ _ (by omega) (by omega) (fun j x z => (hj j x (by omega)).2.1)
    rw [el]
    have lb := lws_b (h := fun j => mX σ (f j)) (sz - 1).toNat 1 0 (by omega) (by omega)
    generalize hb : (lws (fun j => mX σ (f j)) (sz - 1).toNat 1 0) = b at *
    have jb := hj b (by omega) (by omega)
    refine j_istore eX0_narrow_26 (Nat.le_of_ble_eq_true rfl) ?_
    refine j_iload eX0_narrow_28 rfl ?_
    refine j_if_lt eX0_narrow_30 (by omega) (fun h30 => absurd h30 (by omega)) (fun h30 => ?_)
    refine j_iload eX0_narrow_33 rfl ?_
    refine j_aload_n eX0_narrow_35 rfl ?_
    refine j_getR flX0_11 ly42 rfl eX0_narrow_36 ?_
    refine j_alen (by decide) ly43 eX0_narrow_39 ?_
    refine j_icmp_ge eX0_narrow_40 (by omega) (fun h40 => absurd h40 (by omega)) (fun h40 => ?_)
    refine j_aload_n eX0_narrow_43 rfl ?_
    refine j_getR flX0_11 ly42 rfl eX0_narrow_44 ?_
    refine j_iload eX0_narrow_47 rfl ?_
    refine j_iald ly43 (by omega) eX0_narrow_49 ?_
    rw [jb.1]
    refine j_bipush 64 eX0_narrow_50 (by decide) ?_
    refine j_icmp_lt eX0_narrow_52 (by omega) (fun h52 => ?_) (fun h52 => ?_)
    · refine j_aload_n eX0_narrow_56 rfl ?_
      refine j_getR flX0_11 ly42 rfl eX0_narrow_57 ?_
      refine j_iload eX0_narrow_60 rfl ?_
      refine j_iald ly43 (by omega) eX0_narrow_62 ?_
      rw [jb.1]
      refine j_istore eX0_narrow_63 (Nat.le_of_ble_eq_true rfl) ?_
      refine j_aload_n eX0_narrow_65 rfl ?_
      refine j_iload eX0_narrow_66 rfl ?_
      refine j_cV1 zX0_makeRoom lkX0_34 ⟨Nat.le_of_ble_eq_true rfl, Nat.le_of_ble_eq_true rfl⟩ ly42 rfl rfl (c_X0_makeRoom (by rw [hs]; omega)) (Nat.le_of_ble_eq_true rfl) eX0_narrow_68 (k_VE ?_)
      generalize hS1 : up (cpy (cpy (cpy τ 43 (b + 1) 43 (b + 2) (τ 42 3 - b - 1)) 44 (b + 1) 44 (b + 2) (τ 42 3 - b - 1)) 45 (b + 1) 45 (b + 2) (τ 42 3 - b - 1)) 42 3 (τ 42 3 + 1) = S1
      have s1d : ∀ k, k ≠ 42 → k ≠ 43 → k ≠ 44 → k ≠ 45 → S1 k = τ k := fun k x1 x2 x3 x4 => by rw [← hS1, up_ne x1]; show cpy _ _ _ _ _ _ k = _; unfold cpy; rw [if_neg x4, if_neg x3, if_neg x2]
      have s43 : S1 43 = cp1 (τ 43) (τ 43) (b + 1) (b + 2) (sz - b - 1) := by rw [← hS1, ← hs]; rfl
      have s44 : S1 44 = cp1 (τ 44) (τ 44) (b + 1) (b + 2) (sz - b - 1) := by rw [← hS1, ← hs]; rfl
      have s45 : S1 45 = cp1 (τ 45) (τ 45) (b + 1) (b + 2) (sz - b - 1) := by rw [← hS1, ← hs]; rfl
      have s42 : S1 42 3 = sz + 1 := by rw [← hS1, ← hs]; rfl
      have d27 : ∀ k, k ≤ 27 → S1 k = σ k := fun k hk => (s1d k (by omega) (by omega) (by omega) (by omega)).trans (e27 k hk)
      have lX : TX S1 := hX.mono (fun k hk => d27 k (by omega))
      have lV : VT S1 := hV.mono d27
      refine j_aload_n eX0_narrow_71 rfl ?_
      refine j_aload_n eX0_narrow_72 rfl ?_
      refine j_aload_n eX0_narrow_73 rfl ?_
      refine j_iload eX0_narrow_74 rfl ?_
      refine j_iconst 2 eX0_narrow_76 ?_
      refine j_iload eX0_narrow_77 rfl ?_
      refine j_imul eX0_narrow_79 ?_
      refine j_cV4 zX0_put lkX0_26 ⟨Nat.le_of_ble_eq_true rfl, Nat.le_of_ble_eq_true rfl⟩ ly42 rfl rfl (c_X0_put (by exact lX) (by exact lV) (by omega) (by omega)) (Nat.le_of_ble_eq_true rfl) eX0_narrow_80 (k_V (fun σ80 h80 => ?_))
      obtain ⟨p1, p2, p3, p4, p5⟩ := h80
      have f27 : ∀ k, k ≤ 27 → σ80 k = σ k := fun k hk => (p1 k (by omega) (by omega) (by omega) (by omega) (by omega)).trans (d27 k hk)
      have mX_ : TX σ80 := hX.mono (fun k hk => f27 k (by omega))
      have mV_ : VT σ80 := hV.mono f27
      refine j_aload_n eX0_narrow_83 rfl ?_
      refine j_aload_n eX0_narrow_84 rfl ?_
      refine j_aload_n eX0_narrow_85 rfl ?_
      refine j_iload eX0_narrow_86 rfl ?_
      refine j_iconst 1 eX0_narrow_88 ?_
      refine j_iadd eX0_narrow_89 ?_
      refine j_iconst 2 eX0_narrow_90 ?_
      refine j_iload eX0_narrow_91 rfl ?_
      refine j_imul eX0_narrow_93 ?_
      refine j_iconst 1 eX0_narrow_94 ?_
      refine j_iadd eX0_narrow_95 ?_
      refine j_cV4 zX0_put lkX0_26 ⟨Nat.le_of_ble_eq_true rfl, Nat.le_of_ble_eq_true rfl⟩ ly42 rfl rfl (c_X0_put (by exact mX_) (by exact mV_) (by omega) (by omega)) (Nat.le_of_ble_eq_true rfl) eX0_narrow_96 (k_V (fun σ96 h96 => ?_))
      refine j_iinc eX0_narrow_99 rfl (Nat.le_of_ble_eq_true rfl) ?_
      refine j_goto eX0_narrow_102 ?_
      obtain ⟨q1, q2, q3, q4, q5⟩ := h96
      have eT : nrF (mX σ) (t + 1) sz f = nrF (mX σ) t (sz + 1) (insN f b) := by
        show (if 64 ≤ f (lws (fun j => mX σ (f j)) (sz - 1).toNat 1 0) then _ else _) = _
        rw [hb, if_neg (by omega)]
      rw [eT]
      have e1 : n - ((t + 1 : Nat) : Int) + 1 = n - (t : Int) := by omega
      rw [e1]
      have MM : MBd σ σ96 (sz + 1) (insN f b) := by
        refine ⟨fun k k1 k2 k3 k4 k5 k6 => ?_, ?_, ?_, ⟨by omega, by omega⟩, fun j x z => ?_⟩
        · rw [q1 k k1 k2 k4 k5 k6, p1 k k1 k2 k4 k5 k6, s1d k k3 k4 k5 k6]; exact hd k k1 k2 k3 k4 k5 k6
        · rw [q2, nX_congr f27]
        · rw [q1 42 (by decide) (by decide) (by decide) (by decide) (by decide), p1 42 (by decide) (by decide) (by decide) (by decide) (by decide)]; exact s42
        · rw [q3, p3, s43, q4, p4, s44, q5, p5, s45, mX_congr f27, mX_congr d27, eX_congr f27, eX_congr d27]
          unfold up1 insN cp1
          by_cases c1 : j = b + 1
          · have d1 : ¬ j < b := by omega
            have d2 : ¬ j = b := by omega
            simp only [if_pos c1, if_neg d1, if_neg d2]
            exact ⟨trivial, trivial, trivial, by omega, by omega⟩
          · by_cases c2 : j = b
            · have d1 : ¬ j < b := by omega
              simp only [if_neg c1, if_pos c2, if_neg d1]
              exact ⟨trivial, trivial, trivial, by omega, by omega⟩
            · by_cases c3 : j < b
              · have d1 : ¬ (b + 2 ≤ j ∧ j < b + 2 + (sz - b - 1)) := by omega
                simp only [if_neg c1, if_neg c2, if_pos c3, if_neg d1]
                exact hj j x (by omega)
              · have d1 : b + 2 ≤ j ∧ j < b + 2 + (sz - b - 1) := by omega
                simp only [if_neg c1, if_neg c2, if_neg c3, if_pos d1]
                rw [show b + 1 + (j - (b + 2)) = j - 1 from by omega]
                exact hj (j - 1) (by omega) (by omega)
      refine jv_lv ?_ (ih (sz + 1) (insN f b) σ96 (by omega) (by omega) MM)
      exact lvC rfl (lvC rfl (lvC rfl (lvC rfl (lvC rfl (lv0)))))
    · refine r_vret rfl eX0_narrow_55 ?_
      have eT : nrF (mX σ) (t + 1) sz f = (sz, f) := if_pos (by rw [hb]; omega)
      rw [eT]
      exact h3
theorem c_X0_narrow {g : Gl} {σ : Sg} {n : Int} (hX : TX σ) (hV : VT σ) (hn : 0 ≤ n ∧ n ≤ 20) : Ct g mX0_narrow [vr g 42, vr g 27, vr g 35, vi n] σ (PV (fun σ' => MBd σ σ' (nrF (mX σ) n.toNat 1 (fun _ => 1)).1 (nrF (mX σ) n.toNat 1 (fun _ => 1)).2)) := by
  refine Ct.of (by decide +kernel) (Nat.le_of_ble_eq_true rfl) ?_
  show jv g _ _ σ [(0, vr g 42), (1, vr g 27), (2, vr g 35), (3, vi n)] 0 []
  refine j_aload_n eX0_narrow_0 rfl ?_
  refine j_iconst 1 eX0_narrow_1 ?_
  refine j_putI fpX0_22 ly42 rfl eX0_narrow_2 ?_
  refine j_aload_n eX0_narrow_5 rfl ?_
  refine j_aload_n eX0_narrow_6 rfl ?_
  refine j_aload_n eX0_narrow_7 rfl ?_
  refine j_iconst 0 eX0_narrow_8 ?_
  refine j_iconst 1 eX0_narrow_9 ?_
  refine j_cV4 zX0_put lkX0_26 ⟨Nat.le_of_ble_eq_true rfl, Nat.le_of_ble_eq_true rfl⟩ ly42 rfl rfl (c_X0_put (by exact hX) (by exact hV) (by omega) (by omega)) (Nat.le_of_ble_eq_true rfl) eX0_narrow_10 (k_V (fun σ10 h10 => ?_))
  refine j_iconst 0 eX0_narrow_13 ?_
  refine j_istore eX0_narrow_14 (Nat.le_of_ble_eq_true rfl) ?_
  have e0 : (0 : Int) = n - ((n.toNat : Nat) : Int) := by omega
  obtain ⟨p1, p2, p3, p4, p5⟩ := h10
  have MM : MBd σ σ10 1 (fun _ => 1) := by
    refine ⟨fun k k1 k2 k3 k4 k5 k6 => ?_, p2, ?_, ⟨by omega, by omega⟩, fun j x z => ?_⟩
    · rw [p1 k k1 k2 k4 k5 k6, up_ne k3]
    · rw [p1 42 (by decide) (by decide) (by decide) (by decide) (by decide)]; rfl
    · have ej : j = 0 := by omega
      subst ej
      rw [p3, p4, p5, up1_same, up1_same, up1_same]
      exact ⟨rfl, rfl, rfl, by decide, by decide⟩
  have e1 := l_X0_narrow (g := g) hX hV hn n.toNat 1 (fun _ => 1) σ10 (by omega) (by omega) MM
  rw [← e0] at e1
  refine jv_lv ?_ e1
  exact lvC rfl (lvC rfl (lvC rfl (lvC rfl (lvC rfl (lv0)))))
