/-! papers -/
def RL1 (σ : Sg) (cN cA : Nat) (j : Int) (L : List Int) : Prop := σ cN j = L.length ∧ ∀ (k : Nat) (q : Int), L[k]? = some q → σ cA k = q
theorem RL1_0 {σ : Sg} {cN cA : Nat} {j : Int} (h : σ cN j = 0) : RL1 σ cN cA j [] := ⟨h, fun k q z => by simp at z⟩
theorem RL1.push {σ τ : Sg} {cN cA : Nat} {j a : Int} {L : List Int} (h : RL1 σ cN cA j L) (h1 : τ cN j = σ cN j + 1) (h2 : τ cA = up1 (σ cA) (σ cN j) a) : RL1 τ cN cA j (L ++ [a]) := by
  obtain ⟨g1, g2⟩ := h
  refine ⟨by rw [h1, g1, List.length_append]; simp, fun k q z => ?_⟩
  rw [h2, g1]
  by_cases hk : k < L.length
  · rw [List.getElem?_append_left hk] at z
    rw [up1_ne (by omega)]
    exact g2 k q z
  · rw [List.getElem?_append_right (by omega)] at z
    have hz : k - L.length < 1 := (List.getElem?_eq_some_iff.mp z).1
    have e : k = L.length := by omega
    subst e
    rw [Nat.sub_self] at z
    cases z
    exact up1_same _ _ _
def trP (fg sl sh lo hi : Int → Int) : Nat → Int → List Int → Int × Int × List Int
  | 0, _, L => (L.length, 0, L)
  | t + 1, a, L => if a = 0 then (L.length, 0, L) else if fg a ≠ -9 then trP fg sl sh lo hi t (bhd a) (L ++ [48 + fg a]) else if sl a ≤ 0 then (-7, lo a, L) else if sh a ≤ 0 then (-7, hi a, L) else if 64 ≤ a then (-8, 0, L) else trP fg sl sh lo hi t (2 * a) (L ++ [115])
def FG (σ : Sg) (a : Int) : Int := LF (AX σ a)
def SL (σ : Sg) (a : Int) : Int := sgn (NX σ a 0 0)
def SH (σ : Sg) (a : Int) : Int := sgn (NX σ a 0 (nX σ))
theorem LF_b (A : Nat → Bool) : -9 ≤ LF A ∧ LF A ≤ 2 := by
  unfold LF
  split <;> (try split) <;> (try split) <;> omega
theorem RXs.sl {σ τ ρ : Sg} {a : Int} (e : ∀ k, k ≤ 27 → τ k = σ k) (h : RXs τ ρ a 2) : ρ 36 0 = NX σ a 0 0 := by
  rw [(h.of e).2.2.2 0 (by omega) (by omega)]
  exact nb_lo 2
theorem RXs.sh {σ τ ρ : Sg} {a : Int} (hX : TX σ) (hV : VT σ) (e : ∀ k, k ≤ 27 → τ k = σ k) (h : RXs τ ρ a 2) : ρ 36 (ρ 35 1) = NX σ a 0 (nX σ) := by
  have q := hX.2.2.1 (σ 27 1) hV.1.1 hV.1.2
  have w := h.of e
  have en : nX σ = σ 1 (σ 27 1) - 1 := rfl
  rw [w.2.1, w.2.2.2 _ (by omega) (by omega)]
  exact nb_top (by omega) 2
theorem FG_congr {σ τ : Sg} (e : ∀ k, k ≤ 27 → τ k = σ k) : FG τ = FG σ := by
  funext a
  unfold FG AX
  rw [nX_congr e, NX_congr e]
theorem AX_congr {σ τ : Sg} (e : ∀ k, k ≤ 27 → τ k = σ k) : AX τ = AX σ := by
  funext a r
  unfold AX
  rw [nX_congr e, NX_congr e]
theorem loX_congr {σ τ : Sg} (e : ∀ k, k ≤ 27 → τ k = σ k) : loX τ = loX σ := by
  funext a
  unfold loX
  rw [e 4 (by omega), e 5 (by omega), e 27 (by omega)]
theorem hiX_congr {σ τ : Sg} (e : ∀ k, k ≤ 27 → τ k = σ k) : hiX τ = hiX σ := by
  funext a
  unfold hiX
  rw [e 4 (by omega), e 5 (by omega), e 27 (by omega)]
def trR (A : Int → Nat → Bool) (T : Int → Int) (len : Int) : Nat → Int → Int → Bool → Int
  | 0, _, nd, pr => if nd ≠ 0 then -10 - len else if pr = true then 1 else 0
  | t + 1, i, nd, pr => if nd ≠ 0 ∧ 48 ≤ T i ∧ T i ≤ 50 then trR A T len t (i + 1) (bhd nd) (pr && A nd (T i - 48).toNat) else if nd ≠ 0 ∧ nd < 64 ∧ T i = 115 then trR A T len t (i + 1) (2 * nd) pr else -10 - i
/-! wishes -/
def ABX (σ : Sg) (a p s : Int) : Bool := abv (nb (fX σ p) (σ 1 p - 1) (loX σ a) (hiX σ a) 0) s (σ 1 p).toNat
def jdg (W : Int → Int) (AB : Int → Int → Bool) : Nat → Int → Int → Int
  | 0, _, v => v
  | t + 1, p, v => if W p = 0 then jdg W AB t (p + 1) v else if AB p (-(W p)) = true then 1 else if AB p (W p) = true then jdg W AB t (p + 1) v else jdg W AB t (p + 1) 2
def JX (σ : Sg) (a : Int) : Int := jdg (σ 3) (ABX σ a) (σ 0 0).toNat 0 0
theorem jdg_b (W : Int → Int) (AB : Int → Int → Bool) : ∀ (t : Nat) (p v : Int), 0 ≤ v → v ≤ 2 → 0 ≤ jdg W AB t p v ∧ jdg W AB t p v ≤ 2 := by
  intro t
  induction t with
  | zero => intro p v h1 h2; exact ⟨h1, h2⟩
  | succ t ih =>
    intro p v h1 h2
    show 0 ≤ (if W p = 0 then _ else _) ∧ (if W p = 0 then _ else _) ≤ _
    split
    · exact ih _ _ h1 h2
    · split
      · omega
      · split
        · exact ih _ _ h1 h2
        · exact ih _ _ (by omega) (by omega)
theorem RowIs.AB_iff {σ τ ρ : Sg} {a p s : Int} (hX : TX σ) (hp : 0 ≤ p ∧ p < σ 0 0) (h : RowIs τ ρ (fX σ p) (σ 1 p - 1) (loX σ a) (hiX σ a) 0) : (∀ i, 0 ≤ i → i ≤ ρ 35 1 → sgn (ρ 36 i) = s) ↔ ABX σ a p s = true := by
  have q := hX.2.2.1 p hp.1 hp.2
  have t1 := h.2.1
  unfold ABX
  rw [abv_iff]
  constructor
  · intro z i h0 h1
    have := z i h0 (by omega)
    rw [h.2.2.2 i h0 (by omega)] at this
    exact this
  · intro z i h0 h1
    rw [h.2.2.2 i h0 (by omega)]
    exact z i h0 (by omega)
theorem JX_congr {σ τ : Sg} (e : ∀ k, k ≤ 27 → τ k = σ k) : JX τ = JX σ := by
  funext a
  unfold JX
  have e1 : ABX τ a = ABX σ a := by
    funext p s
    unfold ABX fX
    rw [loX_congr e, hiX_congr e, e 1 (by omega), e 2 (by omega)]
  rw [e1, e 0 (by omega), e 3 (by omega)]
def trS (jd : Int → Int) : Nat → Int → (Int → Int) → (Int → Int)
  | 0, _, f => f
  | t + 1, a, f => if a = 0 then f else if jd a = 2 ∧ a < 64 then trS jd t (2 * a) f else trS jd t (bhd a) (up1 f (jd a) (f (jd a) + pz a))
def frs (jd : Int → Int) : Nat → Int → Int
  | 0, _ => -9
  | t + 1, a => if jd a = 0 then a else frs jd t (a + 1)
theorem c_X2_place {g : Gl} {σ : Sg} : Ct g mX2_place [vr g 40] σ (PE (σ 40 2) σ) := by
  refine Ct.of (by decide +kernel) (Nat.le_of_ble_eq_true rfl) ?_
  show jv g _ _ σ [(0, vr g 40)] 0 []
  refine j_aload_n eX2_place_0 rfl ?_
  refine j_getI flX2_19 ly40 rfl eX2_place_1 ?_
  refine r_iret rfl eX2_place_4 ?_
  first | exact ⟨rfl, rfl⟩ | (exfalso; omega)
theorem c_X2_letter {g : Gl} {σ : Sg} {a : Int} (h7 : 0 ≤ σ 40 1 ∧ σ 40 1 ≤ 127) (ha : 0 ≤ a ∧ a < σ 40 1) : Ct g mX2_letter [vr g 40, vi a] σ (PE (σ 41 a) σ) := by
  refine Ct.of (by decide +kernel) (Nat.le_of_ble_eq_true rfl) ?_
  show jv g _ _ σ [(0, vr g 40), (1, vi a)] 0 []
  refine j_iload_n eX2_letter_0 rfl ?_
  refine j_if_lt eX2_letter_1 (by omega) (fun h1 => ?_) (fun h1 => ?_)
  · refine j_bipush (-9) eX2_letter_30 (by decide) ?_
    refine r_iret rfl eX2_letter_32 ?_
    first | exact ⟨rfl, rfl⟩ | (exfalso; omega)
  · refine j_iload_n eX2_letter_4 rfl ?_
    refine j_aload_n eX2_letter_5 rfl ?_
    refine j_getI flX2_15 ly40 rfl eX2_letter_6 ?_
    refine j_icmp_ge eX2_letter_9 (by omega) (fun h9 => ?_) (fun h9 => ?_)
    · refine j_bipush (-9) eX2_letter_30 (by decide) ?_
      refine r_iret rfl eX2_letter_32 ?_
      first | exact ⟨rfl, rfl⟩ | (exfalso; omega)
    · refine j_iload_n eX2_letter_12 rfl ?_
      refine j_aload_n eX2_letter_13 rfl ?_
      refine j_getR flX2_9 ly40 rfl eX2_letter_14 ?_
      refine j_alen (by decide) ly41 eX2_letter_17 ?_
      refine j_icmp_ge eX2_letter_18 (by omega) (fun h18 => ?_) (fun h18 => ?_)
      · refine j_bipush (-9) eX2_letter_30 (by decide) ?_
        refine r_iret rfl eX2_letter_32 ?_
        first | exact ⟨rfl, rfl⟩ | (exfalso; omega)
      · refine j_aload_n eX2_letter_21 rfl ?_
        refine j_getR flX2_9 ly40 rfl eX2_letter_22 ?_
        refine j_iload_n eX2_letter_25 rfl ?_
        refine j_iald ly41 (by omega) eX2_letter_26 ?_
        refine j_goto eX2_letter_27 ?_
        refine r_iret rfl eX2_letter_32 ?_
        first | exact ⟨rfl, rfl⟩ | (exfalso; omega)
theorem c_X2_add {g : Gl} {σ : Sg} {a : Int} (h : 0 ≤ σ 40 1 ∧ σ 40 1 < 127) : Ct g mX2_add [vr g 40, vi a] σ (PV (fun σ' => σ' = up (up σ 41 (σ 40 1) a) 40 1 (σ 40 1 + 1))) := by
  refine Ct.of (by decide +kernel) (Nat.le_of_ble_eq_true rfl) ?_
  show jv g _ _ σ [(0, vr g 40), (1, vi a)] 0 []
  refine j_aload_n eX2_add_0 rfl ?_
  refine j_getI flX2_15 ly40 rfl eX2_add_1 ?_
  refine j_if_lt eX2_add_4 (by omega) (fun h4 => ?_) (fun h4 => ?_)
  · refine r_vret rfl eX2_add_39 ?_
    first | exact rfl | (exfalso; omega)
  · refine j_aload_n eX2_add_7 rfl ?_
    refine j_getI flX2_15 ly40 rfl eX2_add_8 ?_
    refine j_aload_n eX2_add_11 rfl ?_
    refine j_getR flX2_9 ly40 rfl eX2_add_12 ?_
    refine j_alen (by decide) ly41 eX2_add_15 ?_
    refine j_icmp_ge eX2_add_16 (by omega) (fun h16 => ?_) (fun h16 => ?_)
    · refine r_vret rfl eX2_add_39 ?_
      first | exact rfl | (exfalso; omega)
    · refine j_aload_n eX2_add_19 rfl ?_
      refine j_getR flX2_9 ly40 rfl eX2_add_20 ?_
      refine j_aload_n eX2_add_23 rfl ?_
      refine j_getI flX2_15 ly40 rfl eX2_add_24 ?_
      refine j_iload_n eX2_add_27 rfl ?_
      refine j_iast ly41 (by omega) eX2_add_28 ?_
      refine j_aload_n eX2_add_29 rfl ?_
      refine j_dup rfl eX2_add_30 ?_
      refine j_getI flX2_15 ly40 rfl eX2_add_31 ?_
      refine j_iconst 1 eX2_add_34 ?_
      refine j_iadd eX2_add_35 ?_
      refine j_putI fpX2_15 ly40 rfl eX2_add_36 ?_
      refine r_vret rfl eX2_add_39 ?_
      first | exact rfl | (exfalso; omega)
theorem l_X2_write {g : Gl} {σ : Sg} (hX : TX σ) (hV : VT σ) : ∀ (t : Nat) (a : Int) (L : List Int) (τ : Sg), L.length + t ≤ 127 → (a = 0 ∨ (1 ≤ a ∧ a ≤ 127 ∧ rk a ≤ t)) → (∀ k, k ≠ 35 → k ≠ 36 → k ≠ 40 → k ≠ 41 → τ k = σ k) → RL1 τ 40 41 1 L → jv g mX2_write (Fm g (PI (fun v σ' => (∀ k, k ≠ 35 → k ≠ 36 → k ≠ 40 → k ≠ 41 → σ' k = σ k) ∧ v = (trP (FG σ) (SL σ) (SH σ) (loX σ) (hiX σ) t a L).1 ∧ ((trP (FG σ) (SL σ) (SH σ) (loX σ) (hiX σ) t a L).1 = -7 → σ' 40 2 = (trP (FG σ) (SL σ) (SH σ) (loX σ) (hiX σ) t a L).2.1) ∧ RL1 σ' 40 41 1 (trP (FG σ) (SL σ) (SH σ) (loX σ) (hiX σ) t a L).2.2 ∧ (trP (FG σ) (SL σ) (SH σ) (loX σ) (hiX σ) t a L).2.2.length ≤ 127))) τ [(0, vr g 40), (1, vr g 27), (2, vr g 35), (3, vi a), (4, vi (127 - (t : Int)))] 10 [] := by
  intro t
  induction t with
  | zero =>
    intro a L τ h1 h2 h3 h4
    refine j_iload eX2_write_10 rfl ?_
    refine j_bipush 127 eX2_write_12 (by decide) ?_
    refine j_icmp_ge eX2_write_14 (by omega) (fun h => ?_) (fun h => absurd (by omega) h)
    refine j_aload_n eX2_write_116 rfl ?_
    refine j_getI flX2_15 ly40 rfl eX2_write_117 ?_
    exact r_iret rfl eX2_write_120 ⟨h3, h4.1, fun z => by have z2 : (L.length : Int) = -7 := z; omega, h4, by show L.length ≤ 127; omega⟩
  | succ t ih =>
    intro a L τ h1 h2 h3 h4
    refine j_iload eX2_write_10 rfl ?_
    refine j_bipush 127 eX2_write_12 (by decide) ?_
    refine j_icmp_ge eX2_write_14 (by omega) (fun h14 => absurd h14 (by omega)) (fun h14 => ?_)
    refine j_iload_n eX2_write_17 rfl ?_
    refine j_if_eq eX2_write_18 (by omega) (fun h18 => ?_) (fun h18 => ?_)
    · refine j_aload_n eX2_write_116 rfl ?_
      refine j_getI flX2_15 ly40 rfl eX2_write_117 ?_
      refine r_iret rfl eX2_write_120 ?_
      have eT : trP (FG σ) (SL σ) (SH σ) (loX σ) (hiX σ) (t + 1) a L = ((L.length : Int), 0, L) := if_pos (by omega)
      rw [eT]
      exact ⟨h3, h4.1, fun z => by have z2 : (L.length : Int) = -7 := z; omega, h4, by show L.length ≤ 127; omega⟩
    · have na : 1 ≤ a ∧ a ≤ 127 := by omega
      have w := rk_of na
      have e27 : ∀ k, k ≤ 27 → τ k = σ k := fun k hk => h3 k (by omega) (by omega) (by omega) (by omega)
      have kX : TX τ := hX.mono (fun k hk => e27 k (by omega))
      have kV : VT τ := hV.mono e27
      have lb := loX_b hX na hV.2
      refine j_aload_n eX2_write_21 rfl ?_
      refine j_aload_n eX2_write_22 rfl ?_
      refine j_iload_n eX2_write_23 rfl ?_
      refine j_cS3 zX2_leastFigure lkX2_22 ⟨Nat.le_of_ble_eq_true rfl, Nat.le_of_ble_eq_true rfl⟩ (c_X2_leastFigure (by exact kX) (by exact kV) (by exact na)) (Nat.le_of_ble_eq_true rfl) eX2_write_24 (k_I (fun v24 σ24 h24 => ?_))
      obtain ⟨hv, h24b, h24c⟩ := h24
      have efg : LF (AX τ a) = FG σ a := congrFun (FG_congr e27) a
      rw [efg] at hv
      subst hv
      have lfb : -9 ≤ FG σ a ∧ FG σ a ≤ 2 := LF_b _
      have f40 := h24c 40 (by decide) (by decide)
      have f41 := h24c 41 (by decide) (by decide)
      have g4 := h4.1
      have fr : (∀ k, k ≠ 35 → k ≠ 36 → k ≠ 40 → k ≠ 41 → σ24 k = σ k) := fun k k1 k2 k3 k4 => (h24c k k1 k2).trans (h3 k k1 k2 k3 k4)
      have r1 : RL1 σ24 40 41 1 L := ⟨by rw [f40]; exact g4, fun k q z => by rw [f41]; exact h4.2 k q z⟩
      have l27 : ∀ k, k ≤ 27 → σ24 k = σ k := fun k hk => fr k (by omega) (by omega) (by omega) (by omega)
      have lX : TX σ24 := hX.mono (fun k hk => l27 k (by omega))
      have lV : VT σ24 := hV.mono l27
      refine j_istore eX2_write_27 (Nat.le_of_ble_eq_true rfl) ?_
      refine j_iload eX2_write_29 rfl ?_
      refine j_bipush (-9) eX2_write_31 (by decide) ?_
      refine j_icmp_eq eX2_write_33 (by omega) (fun h33 => ?_) (fun h33 => ?_)
      · have h24d := h24b h33
        have hN := h24d.N kX kV.1 kV.2 na (by omega)
        have hT := h24d.T kX kV.1 (by omega)
        have esl := RXs.sl e27 h24d
        have esh := RXs.sh hX hV e27 h24d
        have sb1 : -1 ≤ SL σ a ∧ SL σ a ≤ 1 := sgn_b _
        have sb2 : -1 ≤ SH σ a ∧ SH σ a ≤ 1 := sgn_b _
        refine j_aload_n eX2_write_53 rfl ?_
        refine j_cV0 zX4_signAtLow lkX2_34 ⟨Nat.le_of_ble_eq_true rfl, Nat.le_of_ble_eq_true rfl⟩ ly35 rfl rfl (c_X4_signAtLow (by exact hN)) (Nat.le_of_ble_eq_true rfl) eX2_write_54 (k_E ?_)
        rw [esl]
        show jv g _ _ σ24 _ _ (vi (SL σ a) :: _)
        refine j_if_gt eX2_write_57 (by omega) (fun h57 => ?_) (fun h57 => ?_)
        · refine j_aload_n eX2_write_72 rfl ?_
          refine j_cV0 zX4_signAtHigh lkX2_45 ⟨Nat.le_of_ble_eq_true rfl, Nat.le_of_ble_eq_true rfl⟩ ly35 rfl rfl (c_X4_signAtHigh (by exact hT) (by exact hN)) (Nat.le_of_ble_eq_true rfl) eX2_write_73 (k_E ?_)
          rw [esh]
          show jv g _ _ σ24 _ _ (vi (SH σ a) :: _)
          refine j_if_gt eX2_write_76 (by omega) (fun h76 => ?_) (fun h76 => ?_)
          · refine j_iload_n eX2_write_91 rfl ?_
            refine j_bipush 64 eX2_write_92 (by decide) ?_
            refine j_icmp_lt eX2_write_94 (by omega) (fun h94 => ?_) (fun h94 => ?_)
            · refine j_aload_n eX2_write_100 rfl ?_
              refine j_bipush 115 eX2_write_101 (by decide) ?_
              refine j_cV1 zX2_add lkX2_26 ⟨Nat.le_of_ble_eq_true rfl, Nat.le_of_ble_eq_true rfl⟩ ly40 rfl rfl (c_X2_add (by rw [f40, g4]; omega)) (Nat.le_of_ble_eq_true rfl) eX2_write_103 (k_VE ?_)
              refine j_iconst 2 eX2_write_106 ?_
              refine j_iload_n eX2_write_107 rfl ?_
              refine j_imul eX2_write_108 ?_
              refine j_istore_n eX2_write_109 (Nat.le_of_ble_eq_true rfl) ?_
              refine j_iinc eX2_write_110 rfl (Nat.le_of_ble_eq_true rfl) ?_
              refine j_goto eX2_write_113 ?_
              have e1 : 127 - ((t + 1 : Nat) : Int) + 1 = 127 - (t : Int) := by omega
              rw [e1]
              first
              | (have c0 : FG σ a ≠ -9 := by omega
                 have eT : trP (FG σ) (SL σ) (SH σ) (loX σ) (hiX σ) (t + 1) a L = trP (FG σ) (SL σ) (SH σ) (loX σ) (hiX σ) t (bhd a) (L ++ [48 + FG σ a]) := (if_neg (by omega)).trans (if_pos c0)
                 rw [eT]
                 refine jv_lv ?_ (ih (bhd a) (L ++ [48 + FG σ a]) _ (by rw [List.length_append]; show L.length + 1 + t ≤ 127; omega) ?_ (fun k k1 k2 k3 k4 => by rw [up_ne k3, up_ne k4]; exact fr k k1 k2 k3 k4) (r1.push rfl rfl))
                 · exact lvC rfl (lvC rfl (lvC rfl (lvC rfl (lvC rfl (lv0)))))
                 · by_cases z : bhd a = 0
                   · exact Or.inl z
                   · have w5 := w.2.2.2.2 z; exact Or.inr ⟨by omega, by omega, by omega⟩)
              | (have eT : trP (FG σ) (SL σ) (SH σ) (loX σ) (hiX σ) (t + 1) a L = trP (FG σ) (SL σ) (SH σ) (loX σ) (hiX σ) t (2 * a) (L ++ [115]) := (if_neg (by omega)).trans ((if_neg (by omega)).trans ((if_neg (by omega)).trans ((if_neg (by omega)).trans (if_neg (by omega)))))
                 rw [eT]
                 have w2 := w.2.1 (by omega)
                 refine jv_lv ?_ (ih (2 * a) (L ++ [115]) _ (by rw [List.length_append]; show L.length + 1 + t ≤ 127; omega) (Or.inr ⟨by omega, by omega, by omega⟩) (fun k k1 k2 k3 k4 => by rw [up_ne k3, up_ne k4]; exact fr k k1 k2 k3 k4) (r1.push rfl rfl))
                 exact lvC rfl (lvC rfl (lvC rfl (lvC rfl (lvC rfl (lv0))))))
            · refine j_bipush (-8) eX2_write_97 (by decide) ?_
              refine r_iret rfl eX2_write_99 ?_
              have eT : trP (FG σ) (SL σ) (SH σ) (loX σ) (hiX σ) (t + 1) a L = (-8, 0, L) := (if_neg (by omega)).trans ((if_neg (by omega)).trans ((if_neg (by omega)).trans ((if_neg (by omega)).trans (if_pos (by omega)))))
              rw [eT]
              exact ⟨fr, rfl, fun z => absurd (show (-8 : Int) = -7 from z) (by decide), r1, by show L.length ≤ 127; omega⟩
          · refine j_aload_n eX2_write_79 rfl ?_
            refine j_aload_n eX2_write_80 rfl ?_
            refine j_iload_n eX2_write_81 rfl ?_
            refine j_cV1 zX7_high lkX2_48 ⟨Nat.le_of_ble_eq_true rfl, Nat.le_of_ble_eq_true rfl⟩ ly27 rfl rfl (c_X7_high (by exact na) (by exact lV.2) (by exact lX.2.1)) (Nat.le_of_ble_eq_true rfl) eX2_write_82 (k_E ?_)
            refine j_putI fpX2_19 ly40 rfl eX2_write_85 ?_
            refine j_bipush (-7) eX2_write_88 (by decide) ?_
            refine r_iret rfl eX2_write_90 ?_
            have eT : trP (FG σ) (SL σ) (SH σ) (loX σ) (hiX σ) (t + 1) a L = (-7, hiX σ a, L) := (if_neg (by omega)).trans ((if_neg (by omega)).trans ((if_neg (by omega)).trans (if_pos (by omega))))
            rw [eT]
            exact ⟨fun k k1 k2 k3 k4 => by rw [up_ne k3]; exact fr k k1 k2 k3 k4, rfl, fun _ => congrFun (hiX_congr l27) a, ⟨r1.1, r1.2⟩, by show L.length ≤ 127; omega⟩
        · refine j_aload_n eX2_write_60 rfl ?_
          refine j_aload_n eX2_write_61 rfl ?_
          refine j_iload_n eX2_write_62 rfl ?_
          refine j_cV1 zX7_low lkX2_40 ⟨Nat.le_of_ble_eq_true rfl, Nat.le_of_ble_eq_true rfl⟩ ly27 rfl rfl (c_X7_low (by exact na) (by exact lV.2) (by exact lX.2.1)) (Nat.le_of_ble_eq_true rfl) eX2_write_63 (k_E ?_)
          refine j_putI fpX2_19 ly40 rfl eX2_write_66 ?_
          refine j_bipush (-7) eX2_write_69 (by decide) ?_
          refine r_iret rfl eX2_write_71 ?_
          have eT : trP (FG σ) (SL σ) (SH σ) (loX σ) (hiX σ) (t + 1) a L = (-7, loX σ a, L) := (if_neg (by omega)).trans ((if_neg (by omega)).trans (if_pos (by omega)))
          rw [eT]
          exact ⟨fun k k1 k2 k3 k4 => by rw [up_ne k3]; exact fr k k1 k2 k3 k4, rfl, fun _ => congrFun (loX_congr l27) a, ⟨r1.1, r1.2⟩, by show L.length ≤ 127; omega⟩
      · refine j_aload_n eX2_write_36 rfl ?_
        refine j_bipush 48 eX2_write_37 (by decide) ?_
        refine j_iload eX2_write_39 rfl ?_
        refine j_iadd eX2_write_41 ?_
        refine j_cV1 zX2_add lkX2_26 ⟨Nat.le_of_ble_eq_true rfl, Nat.le_of_ble_eq_true rfl⟩ ly40 rfl rfl (c_X2_add (by rw [f40, g4]; omega)) (Nat.le_of_ble_eq_true rfl) eX2_write_42 (k_VE ?_)
        refine j_iload_n eX2_write_45 rfl ?_
        refine j_cSN1 zX11_behind lkX2_30 ⟨Nat.le_of_ble_eq_true rfl, Nat.le_of_ble_eq_true rfl⟩ (c_X11_behind (by exact na)) (Nat.le_of_ble_eq_true rfl) eX2_write_46 (k_E ?_)
        refine j_istore_n eX2_write_49 (Nat.le_of_ble_eq_true rfl) ?_
        refine j_goto eX2_write_50 ?_
        refine j_iinc eX2_write_110 rfl (Nat.le_of_ble_eq_true rfl) ?_
        refine j_goto eX2_write_113 ?_
        have e1 : 127 - ((t + 1 : Nat) : Int) + 1 = 127 - (t : Int) := by omega
        rw [e1]
        first
        | (have c0 : FG σ a ≠ -9 := by omega
           have eT : trP (FG σ) (SL σ) (SH σ) (loX σ) (hiX σ) (t + 1) a L = trP (FG σ) (SL σ) (SH σ) (loX σ) (hiX σ) t (bhd a) (L ++ [48 + FG σ a]) := (if_neg (by omega)).trans (if_pos c0)
           rw [eT]
           refine jv_lv ?_ (ih (bhd a) (L ++ [48 + FG σ a]) _ (by rw [List.length_append]; show L.length + 1 + t ≤ 127; omega) ?_ (fun k k1 k2 k3 k4 => by rw [up_ne k3, up_ne k4]; exact fr k k1 k2 k3 k4) (r1.push rfl rfl))
           · exact lvC rfl (lvC rfl (lvC rfl (lvC rfl (lvC rfl (lv0)))))
           · by_cases z : bhd a = 0
             · exact Or.inl z
             · have w5 := w.2.2.2.2 z; exact Or.inr ⟨by omega, by omega, by omega⟩)
        | (have eT : trP (FG σ) (SL σ) (SH σ) (loX σ) (hiX σ) (t + 1) a L = trP (FG σ) (SL σ) (SH σ) (loX σ) (hiX σ) t (2 * a) (L ++ [115]) := (if_neg (by omega)).trans ((if_neg (by omega)).trans ((if_neg (by omega)).trans ((if_neg (by omega)).trans (if_neg (by omega)))))
           rw [eT]
           have w2 := w.2.1 (by omega)
           refine jv_lv ?_ (ih (2 * a) (L ++ [115]) _ (by rw [List.length_append]; show L.length + 1 + t ≤ 127; omega) (Or.inr ⟨by omega, by omega, by omega⟩) (fun k k1 k2 k3 k4 => by rw [up_ne k3, up_ne k4]; exact fr k k1 k2 k3 k4) (r1.push rfl rfl))
           exact lvC rfl (lvC rfl (lvC rfl (lvC rfl (lvC rfl (lv0))))))
theorem c_X2_write {g : Gl} {σ : Sg} (hX : TX σ) (hV : VT σ) : Ct g mX2_write [vr g 40, vr g 27, vr g 35] σ (PI (fun v σ' => (∀ k, k ≠ 35 → k ≠ 36 → k ≠ 40 → k ≠ 41 → σ' k = σ k) ∧ v = (trP (FG σ) (SL σ) (SH σ) (loX σ) (hiX σ) 127 1 []).1 ∧ ((trP (FG σ) (SL σ) (SH σ) (loX σ) (hiX σ) 127 1 []).1 = -7 → σ' 40 2 = (trP (FG σ) (SL σ) (SH σ) (loX σ) (hiX σ) 127 1 []).2.1) ∧ RL1 σ' 40 41 1 (trP (FG σ) (SL σ) (SH σ) (loX σ) (hiX σ) 127 1 []).2.2 ∧ (trP (FG σ) (SL σ) (SH σ) (loX σ) (hiX σ) 127 1 []).2.2.length ≤ 127)) := by
  refine Ct.of (by decide +kernel) (Nat.le_of_ble_eq_true rfl) ?_
  show jv g _ _ σ [(0, vr g 40), (1, vr g 27), (2, vr g 35)] 0 []
  refine j_aload_n eX2_write_0 rfl ?_
  refine j_iconst 0 eX2_write_1 ?_
  refine j_putI fpX2_15 ly40 rfl eX2_write_2 ?_
  refine j_iconst 1 eX2_write_5 ?_
  refine j_istore_n eX2_write_6 (Nat.le_of_ble_eq_true rfl) ?_
  refine j_iconst 0 eX2_write_7 ?_
  refine j_istore eX2_write_8 (Nat.le_of_ble_eq_true rfl) ?_
  refine jv_lv ?_ (l_X2_write hX hV 127 1 [] _ (by decide) (Or.inr ⟨by omega, by omega, by decide +kernel⟩) (fun k k1 k2 k3 k4 => up_ne k3) (RL1_0 rfl))
  exact lvC rfl (lvC rfl (lvC rfl (lvC rfl (lvC rfl (lv0)))))
theorem l_X2_read {g : Gl} {σ : Sg} (hX : TX σ) (hV : VT σ) (hT : 0 ≤ σ 25 1 ∧ σ 25 1 ≤ 120) (hL : ∀ i, 0 ≤ i → i < σ 25 1 → 0 ≤ σ 26 i ∧ σ 26 i ≤ 255) : ∀ (t : Nat) (a b : Int) (pr : Bool) (τ : Sg), (t : Int) ≤ σ 25 1 → (a = 0 ∨ (1 ≤ a ∧ a ≤ 127)) → (b = 0 ∨ b = 1) → (b = 1 ↔ pr = true) → (∀ k, k ≠ 35 → k ≠ 36 → τ k = σ k) → jv g mX2_read (Fm g (PI (fun v σ' => (∀ k, k ≠ 35 → k ≠ 36 → σ' k = σ k) ∧ v = trR (AX σ) (σ 26) (σ 25 1) t (σ 25 1 - (t : Int)) a pr))) τ [(0, vr g 40), (1, vr g 27), (2, vr g 35), (3, vr g 25), (4, vi b), (5, vi a), (6, vi (σ 25 1 - (t : Int)))] 9 [] := by
  intro t
  induction t with
  | zero =>
    intro a b pr τ h1 h2 h5 h6 h3
    have q25 : τ 25 1 = σ 25 1 := by rw [h3 25 (by decide) (by decide)]
    refine j_iload eX2_read_9 rfl ?_
    refine j_aload_n eX2_read_11 rfl ?_
    refine j_cV0 zX8_length lkX2_62 ⟨Nat.le_of_ble_eq_true rfl, Nat.le_of_ble_eq_true rfl⟩ ly25 rfl rfl c_X8_length (Nat.le_of_ble_eq_true rfl) eX2_read_12 (k_E ?_)
    refine j_icmp_ge eX2_read_15 (by omega) (fun h => ?_) (fun h => absurd (by omega) h)
    refine j_iload eX2_read_122 rfl ?_
    refine j_if_eq eX2_read_124 (by omega) (fun h124 => ?_) (fun h124 => ?_)
    · refine j_iload eX2_read_135 rfl ?_
      refine j_if_eq eX2_read_137 (by omega) (fun h137 => ?_) (fun h137 => ?_)
      · refine j_iconst 0 eX2_read_144 ?_
        refine r_iret rfl eX2_read_145 ?_
        first | exact ⟨h3, ((if_neg (by omega)).trans (if_pos (h6.mp (by omega)))).symm⟩ | exact ⟨h3, ((if_neg (by omega)).trans (if_neg (fun z => by have := h6.mpr z; omega))).symm⟩
      · refine j_iconst 1 eX2_read_140 ?_
        refine j_goto eX2_read_141 ?_
        refine r_iret rfl eX2_read_145 ?_
        first | exact ⟨h3, ((if_neg (by omega)).trans (if_pos (h6.mp (by omega)))).symm⟩ | exact ⟨h3, ((if_neg (by omega)).trans (if_neg (fun z => by have := h6.mpr z; omega))).symm⟩
    · refine j_bipush (-10) eX2_read_127 (by decide) ?_
      refine j_aload_n eX2_read_129 rfl ?_
      refine j_cV0 zX8_length lkX2_62 ⟨Nat.le_of_ble_eq_true rfl, Nat.le_of_ble_eq_true rfl⟩ ly25 rfl rfl (c_X8_length) (Nat.le_of_ble_eq_true rfl) eX2_read_130 (k_E ?_)
      refine j_isub eX2_read_133 ?_
      refine r_iret rfl eX2_read_134 ?_
      exact ⟨h3, by rw [q25]; exact (if_pos (by omega)).symm⟩
  | succ t ih =>
    intro a b pr τ h1 h2 h5 h6 h3
    have q25 : τ 25 1 = σ 25 1 := by rw [h3 25 (by decide) (by decide)]
    have q26 : τ 26 = σ 26 := h3 26 (by decide) (by decide)
    have e27 : ∀ k, k ≤ 27 → τ k = σ k := fun k hk => h3 k (by omega) (by omega)
    have kX : TX τ := hX.mono (fun k hk => e27 k (by omega))
    have kV : VT τ := hV.mono e27
    refine j_iload eX2_read_9 rfl ?_
    refine j_aload_n eX2_read_11 rfl ?_
    refine j_cV0 zX8_length lkX2_62 ⟨Nat.le_of_ble_eq_true rfl, Nat.le_of_ble_eq_true rfl⟩ ly25 rfl rfl (c_X8_length) (Nat.le_of_ble_eq_true rfl) eX2_read_12 (k_E ?_)
    refine j_icmp_ge eX2_read_15 (by rw [q25]; omega) (fun h15 => absurd h15 (by rw [q25]; omega)) (fun h15 => ?_)
    have qt := hL (σ 25 1 - ((t + 1 : Nat) : Int)) (by omega) (by omega)
    refine j_aload_n eX2_read_18 rfl ?_
    refine j_iload eX2_read_19 rfl ?_
    refine j_cV1 zX8_at lkX2_67 ⟨Nat.le_of_ble_eq_true rfl, Nat.le_of_ble_eq_true rfl⟩ ly25 rfl rfl (c_X8_at (by omega) (by rw [q25]; exact hT)) (Nat.le_of_ble_eq_true rfl) eX2_read_21 (k_E ?_)
    rw [q25, q26, if_pos (by omega)]
    refine j_istore eX2_read_24 (Nat.le_of_ble_eq_true rfl) ?_
    refine j_iload eX2_read_26 rfl ?_
    refine j_bipush 48 eX2_read_28 (by decide) ?_
    refine j_isub eX2_read_30 ?_
    refine j_istore eX2_read_31 (Nat.le_of_ble_eq_true rfl) ?_
    refine j_iload eX2_read_33 rfl ?_
    refine j_if_eq eX2_read_35 (by omega) (fun h35 => ?_) (fun h35 => ?_)
    · refine j_iload eX2_read_82 rfl ?_
      refine j_if_eq eX2_read_84 (by omega) (fun h84 => ?_) (fun h84 => ?_)
      · refine j_bipush (-10) eX2_read_110 (by decide) ?_
        refine j_iload eX2_read_112 rfl ?_
        refine j_isub eX2_read_114 ?_
        refine r_iret rfl eX2_read_115 ?_
        refine ⟨h3, ?_⟩
        exact ((if_neg (by omega)).trans (if_neg (by omega))).symm
      · refine j_iload eX2_read_87 rfl ?_
        refine j_bipush 64 eX2_read_89 (by decide) ?_
        refine j_icmp_ge eX2_read_91 (by omega) (fun h91 => ?_) (fun h91 => ?_)
        · refine j_bipush (-10) eX2_read_110 (by decide) ?_
          refine j_iload eX2_read_112 rfl ?_
          refine j_isub eX2_read_114 ?_
          refine r_iret rfl eX2_read_115 ?_
          refine ⟨h3, ?_⟩
          exact ((if_neg (by omega)).trans (if_neg (by omega))).symm
        · refine j_iload eX2_read_94 rfl ?_
          refine j_bipush 115 eX2_read_96 (by decide) ?_
          refine j_icmp_ne eX2_read_98 (by omega) (fun h98 => ?_) (fun h98 => ?_)
          · refine j_bipush (-10) eX2_read_110 (by decide) ?_
            refine j_iload eX2_read_112 rfl ?_
            refine j_isub eX2_read_114 ?_
            refine r_iret rfl eX2_read_115 ?_
            refine ⟨h3, ?_⟩
            exact ((if_neg (by omega)).trans (if_neg (by omega))).symm
          · refine j_iconst 2 eX2_read_101 ?_
            refine j_iload eX2_read_102 rfl ?_
            refine j_imul eX2_read_104 ?_
            refine j_istore eX2_read_105 (Nat.le_of_ble_eq_true rfl) ?_
            refine j_goto eX2_read_107 ?_
            refine j_iinc eX2_read_116 rfl (Nat.le_of_ble_eq_true rfl) ?_
            refine j_goto eX2_read_119 ?_
            have e1 : σ 25 1 - ((t + 1 : Nat) : Int) + 1 = σ 25 1 - (t : Int) := by omega
            first
            | (have c0 : a ≠ 0 ∧ 48 ≤ σ 26 (σ 25 1 - ((t + 1 : Nat) : Int)) ∧ σ 26 (σ 25 1 - ((t + 1 : Nat) : Int)) ≤ 50 := by omega
               have eT : trR (AX σ) (σ 26) (σ 25 1) (t + 1) (σ 25 1 - ((t + 1 : Nat) : Int)) a pr = trR (AX σ) (σ 26) (σ 25 1) t ((σ 25 1 - ((t + 1 : Nat) : Int)) + 1) (bhd a) (pr && AX σ a (σ 26 (σ 25 1 - ((t + 1 : Nat) : Int)) - 48).toNat) := if_pos c0
               rw [eT, e1]
               have cb : bhd a = 0 ∨ (1 ≤ bhd a ∧ bhd a ≤ 127) := by omega
               first
               | (refine jv_lv ?_ (ih (bhd a) 1 (pr && AX σ a (σ 26 (σ 25 1 - ((t + 1 : Nat) : Int)) - 48).toNat) σ59 (by omega) cb (Or.inr rfl) ⟨fun _ => by rw [h6.mp (by omega), z2.mp (by omega)]; rfl, fun _ => rfl⟩ (fun k k1 k2 => (z3 k k1 k2).trans (h3 k k1 k2)))
                  exact lvC rfl (lvC rfl (lvC rfl (lvC rfl (lvC rfl (lvC rfl (lvC rfl (lv0))))))))
               | (refine jv_lv ?_ (ih (bhd a) 0 (pr && AX σ a (σ 26 (σ 25 1 - ((t + 1 : Nat) : Int)) - 48).toNat) σ59 (by omega) cb (Or.inl rfl) ⟨fun z => absurd z (by decide), fun z => by rw [Bool.and_eq_true] at z; have z4 := z2.mpr z.2; omega⟩ (fun k k1 k2 => (z3 k k1 k2).trans (h3 k k1 k2)))
                  exact lvC rfl (lvC rfl (lvC rfl (lvC rfl (lvC rfl (lvC rfl (lvC rfl (lv0))))))))
               | (refine jv_lv ?_ (ih (bhd a) 0 (pr && AX σ a (σ 26 (σ 25 1 - ((t + 1 : Nat) : Int)) - 48).toNat) τ (by omega) cb (Or.inl rfl) ⟨fun z => absurd z (by decide), fun z => by rw [Bool.and_eq_true] at z; have z4 := h6.mpr z.1; omega⟩ h3)
                  exact lvC rfl (lvC rfl (lvC rfl (lvC rfl (lvC rfl (lvC rfl (lvC rfl (lv0)))))))))
            | (have eT : trR (AX σ) (σ 26) (σ 25 1) (t + 1) (σ 25 1 - ((t + 1 : Nat) : Int)) a pr = trR (AX σ) (σ 26) (σ 25 1) t ((σ 25 1 - ((t + 1 : Nat) : Int)) + 1) (2 * a) pr := (if_neg (by omega)).trans (if_pos (by omega))
               rw [eT, e1]
               refine jv_lv ?_ (ih (2 * a) b pr τ (by omega) (Or.inr (by omega)) h5 h6 h3)
               exact lvC rfl (lvC rfl (lvC rfl (lvC rfl (lvC rfl (lvC rfl (lvC rfl (lv0))))))))
    · refine j_iload eX2_read_38 rfl ?_
      refine j_iconst 0 eX2_read_40 ?_
      refine j_iconst 2 eX2_read_41 ?_
      refine j_cSN3 zX11_isWithin lkX2_70 ⟨Nat.le_of_ble_eq_true rfl, Nat.le_of_ble_eq_true rfl⟩ (c_X11_isWithin (by omega)) (Nat.le_of_ble_eq_true rfl) eX2_read_42 (k_B (fun h42 => ?_) (fun h42 => ?_))
      · refine j_ifeq_1 eX2_read_45 ?_
        refine j_iload eX2_read_48 rfl ?_
        refine j_if_eq eX2_read_50 (by omega) (fun h50 => ?_) (fun h50 => ?_)
        · refine j_iconst 0 eX2_read_69 ?_
          refine j_istore eX2_read_70 (Nat.le_of_ble_eq_true rfl) ?_
          have na : 1 ≤ a ∧ a ≤ 127 := by omega
          have w := rk_of na
          refine j_iload eX2_read_72 rfl ?_
          refine j_cSN1 zX11_behind lkX2_30 ⟨Nat.le_of_ble_eq_true rfl, Nat.le_of_ble_eq_true rfl⟩ (c_X11_behind (by exact na)) (Nat.le_of_ble_eq_true rfl) eX2_read_74 (k_E ?_)
          refine j_istore eX2_read_77 (Nat.le_of_ble_eq_true rfl) ?_
          refine j_goto eX2_read_79 ?_
          refine j_iinc eX2_read_116 rfl (Nat.le_of_ble_eq_true rfl) ?_
          refine j_goto eX2_read_119 ?_
          have e1 : σ 25 1 - ((t + 1 : Nat) : Int) + 1 = σ 25 1 - (t : Int) := by omega
          first
          | (have c0 : a ≠ 0 ∧ 48 ≤ σ 26 (σ 25 1 - ((t + 1 : Nat) : Int)) ∧ σ 26 (σ 25 1 - ((t + 1 : Nat) : Int)) ≤ 50 := by omega
             have eT : trR (AX σ) (σ 26) (σ 25 1) (t + 1) (σ 25 1 - ((t + 1 : Nat) : Int)) a pr = trR (AX σ) (σ 26) (σ 25 1) t ((σ 25 1 - ((t + 1 : Nat) : Int)) + 1) (bhd a) (pr && AX σ a (σ 26 (σ 25 1 - ((t + 1 : Nat) : Int)) - 48).toNat) := if_pos c0
             rw [eT, e1]
             have cb : bhd a = 0 ∨ (1 ≤ bhd a ∧ bhd a ≤ 127) := by omega
             first
             | (refine jv_lv ?_ (ih (bhd a) 1 (pr && AX σ a (σ 26 (σ 25 1 - ((t + 1 : Nat) : Int)) - 48).toNat) σ59 (by omega) cb (Or.inr rfl) ⟨fun _ => by rw [h6.mp (by omega), z2.mp (by omega)]; rfl, fun _ => rfl⟩ (fun k k1 k2 => (z3 k k1 k2).trans (h3 k k1 k2)))
                exact lvC rfl (lvC rfl (lvC rfl (lvC rfl (lvC rfl (lvC rfl (lvC rfl (lv0))))))))
             | (refine jv_lv ?_ (ih (bhd a) 0 (pr && AX σ a (σ 26 (σ 25 1 - ((t + 1 : Nat) : Int)) - 48).toNat) σ59 (by omega) cb (Or.inl rfl) ⟨fun z => absurd z (by decide), fun z => by rw [Bool.and_eq_true] at z; have z4 := z2.mpr z.2; omega⟩ (fun k k1 k2 => (z3 k k1 k2).trans (h3 k k1 k2)))
                exact lvC rfl (lvC rfl (lvC rfl (lvC rfl (lvC rfl (lvC rfl (lvC rfl (lv0))))))))
             | (refine jv_lv ?_ (ih (bhd a) 0 (pr && AX σ a (σ 26 (σ 25 1 - ((t + 1 : Nat) : Int)) - 48).toNat) τ (by omega) cb (Or.inl rfl) ⟨fun z => absurd z (by decide), fun z => by rw [Bool.and_eq_true] at z; have z4 := h6.mpr z.1; omega⟩ h3)
                exact lvC rfl (lvC rfl (lvC rfl (lvC rfl (lvC rfl (lvC rfl (lvC rfl (lv0)))))))))
          | (have eT : trR (AX σ) (σ 26) (σ 25 1) (t + 1) (σ 25 1 - ((t + 1 : Nat) : Int)) a pr = trR (AX σ) (σ 26) (σ 25 1) t ((σ 25 1 - ((t + 1 : Nat) : Int)) + 1) (2 * a) pr := (if_neg (by omega)).trans (if_pos (by omega))
             rw [eT, e1]
             refine jv_lv ?_ (ih (2 * a) b pr τ (by omega) (Or.inr (by omega)) h5 h6 h3)
             exact lvC rfl (lvC rfl (lvC rfl (lvC rfl (lvC rfl (lvC rfl (lvC rfl (lv0))))))))
        · have na : 1 ≤ a ∧ a ≤ 127 := by omega
          refine j_aload_n eX2_read_53 rfl ?_
          refine j_aload_n eX2_read_54 rfl ?_
          refine j_iload eX2_read_55 rfl ?_
          refine j_iload eX2_read_57 rfl ?_
          refine j_cS4 zX2_isRight lkX2_74 ⟨Nat.le_of_ble_eq_true rfl, Nat.le_of_ble_eq_true rfl⟩ (c_X2_isRight (by exact kX) (by exact kV) (by exact na) (by omega)) (Nat.le_of_ble_eq_true rfl) eX2_read_59 (k_I (fun v59 σ59 h59 => ?_))
          obtain ⟨z1, z2, z3⟩ := h59
          rw [AX_congr e27] at z2
          refine j_if_eq eX2_read_62 (by omega) (fun h62 => ?_) (fun h62 => ?_)
          · refine j_iconst 0 eX2_read_69 ?_
            refine j_istore eX2_read_70 (Nat.le_of_ble_eq_true rfl) ?_
            have na : 1 ≤ a ∧ a ≤ 127 := by omega
            have w := rk_of na
            refine j_iload eX2_read_72 rfl ?_
            refine j_cSN1 zX11_behind lkX2_30 ⟨Nat.le_of_ble_eq_true rfl, Nat.le_of_ble_eq_true rfl⟩ (c_X11_behind (by exact na)) (Nat.le_of_ble_eq_true rfl) eX2_read_74 (k_E ?_)
            refine j_istore eX2_read_77 (Nat.le_of_ble_eq_true rfl) ?_
            refine j_goto eX2_read_79 ?_
            refine j_iinc eX2_read_116 rfl (Nat.le_of_ble_eq_true rfl) ?_
            refine j_goto eX2_read_119 ?_
            have e1 : σ 25 1 - ((t + 1 : Nat) : Int) + 1 = σ 25 1 - (t : Int) := by omega
            first
            | (have c0 : a ≠ 0 ∧ 48 ≤ σ 26 (σ 25 1 - ((t + 1 : Nat) : Int)) ∧ σ 26 (σ 25 1 - ((t + 1 : Nat) : Int)) ≤ 50 := by omega
               have eT : trR (AX σ) (σ 26) (σ 25 1) (t + 1) (σ 25 1 - ((t + 1 : Nat) : Int)) a pr = trR (AX σ) (σ 26) (σ 25 1) t ((σ 25 1 - ((t + 1 : Nat) : Int)) + 1) (bhd a) (pr && AX σ a (σ 26 (σ 25 1 - ((t + 1 : Nat) : Int)) - 48).toNat) := if_pos c0
               rw [eT, e1]
               have cb : bhd a = 0 ∨ (1 ≤ bhd a ∧ bhd a ≤ 127) := by omega
               first
               | (refine jv_lv ?_ (ih (bhd a) 1 (pr && AX σ a (σ 26 (σ 25 1 - ((t + 1 : Nat) : Int)) - 48).toNat) σ59 (by omega) cb (Or.inr rfl) ⟨fun _ => by rw [h6.mp (by omega), z2.mp (by omega)]; rfl, fun _ => rfl⟩ (fun k k1 k2 => (z3 k k1 k2).trans (h3 k k1 k2)))
                  exact lvC rfl (lvC rfl (lvC rfl (lvC rfl (lvC rfl (lvC rfl (lvC rfl (lv0))))))))
               | (refine jv_lv ?_ (ih (bhd a) 0 (pr && AX σ a (σ 26 (σ 25 1 - ((t + 1 : Nat) : Int)) - 48).toNat) σ59 (by omega) cb (Or.inl rfl) ⟨fun z => absurd z (by decide), fun z => by rw [Bool.and_eq_true] at z; have z4 := z2.mpr z.2; omega⟩ (fun k k1 k2 => (z3 k k1 k2).trans (h3 k k1 k2)))
                  exact lvC rfl (lvC rfl (lvC rfl (lvC rfl (lvC rfl (lvC rfl (lvC rfl (lv0))))))))
               | (refine jv_lv ?_ (ih (bhd a) 0 (pr && AX σ a (σ 26 (σ 25 1 - ((t + 1 : Nat) : Int)) - 48).toNat) τ (by omega) cb (Or.inl rfl) ⟨fun z => absurd z (by decide), fun z => by rw [Bool.and_eq_true] at z; have z4 := h6.mpr z.1; omega⟩ h3)
                  exact lvC rfl (lvC rfl (lvC rfl (lvC rfl (lvC rfl (lvC rfl (lvC rfl (lv0)))))))))
            | (have eT : trR (AX σ) (σ 26) (σ 25 1) (t + 1) (σ 25 1 - ((t + 1 : Nat) : Int)) a pr = trR (AX σ) (σ 26) (σ 25 1) t ((σ 25 1 - ((t + 1 : Nat) : Int)) + 1) (2 * a) pr := (if_neg (by omega)).trans (if_pos (by omega))
               rw [eT, e1]
               refine jv_lv ?_ (ih (2 * a) b pr τ (by omega) (Or.inr (by omega)) h5 h6 h3)
               exact lvC rfl (lvC rfl (lvC rfl (lvC rfl (lvC rfl (lvC rfl (lvC rfl (lv0))))))))
          · refine j_iconst 1 eX2_read_65 ?_
            refine j_goto eX2_read_66 ?_
            refine j_istore eX2_read_70 (Nat.le_of_ble_eq_true rfl) ?_
            have na : 1 ≤ a ∧ a ≤ 127 := by omega
            have w := rk_of na
            refine j_iload eX2_read_72 rfl ?_
            refine j_cSN1 zX11_behind lkX2_30 ⟨Nat.le_of_ble_eq_true rfl, Nat.le_of_ble_eq_true rfl⟩ (c_X11_behind (by exact na)) (Nat.le_of_ble_eq_true rfl) eX2_read_74 (k_E ?_)
            refine j_istore eX2_read_77 (Nat.le_of_ble_eq_true rfl) ?_
            refine j_goto eX2_read_79 ?_
            refine j_iinc eX2_read_116 rfl (Nat.le_of_ble_eq_true rfl) ?_
            refine j_goto eX2_read_119 ?_
            have e1 : σ 25 1 - ((t + 1 : Nat) : Int) + 1 = σ 25 1 - (t : Int) := by omega
            first
            | (have c0 : a ≠ 0 ∧ 48 ≤ σ 26 (σ 25 1 - ((t + 1 : Nat) : Int)) ∧ σ 26 (σ 25 1 - ((t + 1 : Nat) : Int)) ≤ 50 := by omega
               have eT : trR (AX σ) (σ 26) (σ 25 1) (t + 1) (σ 25 1 - ((t + 1 : Nat) : Int)) a pr = trR (AX σ) (σ 26) (σ 25 1) t ((σ 25 1 - ((t + 1 : Nat) : Int)) + 1) (bhd a) (pr && AX σ a (σ 26 (σ 25 1 - ((t + 1 : Nat) : Int)) - 48).toNat) := if_pos c0
               rw [eT, e1]
               have cb : bhd a = 0 ∨ (1 ≤ bhd a ∧ bhd a ≤ 127) := by omega
               first
               | (refine jv_lv ?_ (ih (bhd a) 1 (pr && AX σ a (σ 26 (σ 25 1 - ((t + 1 : Nat) : Int)) - 48).toNat) σ59 (by omega) cb (Or.inr rfl) ⟨fun _ => by rw [h6.mp (by omega), z2.mp (by omega)]; rfl, fun _ => rfl⟩ (fun k k1 k2 => (z3 k k1 k2).trans (h3 k k1 k2)))
                  exact lvC rfl (lvC rfl (lvC rfl (lvC rfl (lvC rfl (lvC rfl (lvC rfl (lv0))))))))
               | (refine jv_lv ?_ (ih (bhd a) 0 (pr && AX σ a (σ 26 (σ 25 1 - ((t + 1 : Nat) : Int)) - 48).toNat) σ59 (by omega) cb (Or.inl rfl) ⟨fun z => absurd z (by decide), fun z => by rw [Bool.and_eq_true] at z; have z4 := z2.mpr z.2; omega⟩ (fun k k1 k2 => (z3 k k1 k2).trans (h3 k k1 k2)))
                  exact lvC rfl (lvC rfl (lvC rfl (lvC rfl (lvC rfl (lvC rfl (lvC rfl (lv0))))))))
               | (refine jv_lv ?_ (ih (bhd a) 0 (pr && AX σ a (σ 26 (σ 25 1 - ((t + 1 : Nat) : Int)) - 48).toNat) τ (by omega) cb (Or.inl rfl) ⟨fun z => absurd z (by decide), fun z => by rw [Bool.and_eq_true] at z; have z4 := h6.mpr z.1; omega⟩ h3)
                  exact lvC rfl (lvC rfl (lvC rfl (lvC rfl (lvC rfl (lvC rfl (lvC rfl (lv0)))))))))
            | (have eT : trR (AX σ) (σ 26) (σ 25 1) (t + 1) (σ 25 1 - ((t + 1 : Nat) : Int)) a pr = trR (AX σ) (σ 26) (σ 25 1) t ((σ 25 1 - ((t + 1 : Nat) : Int)) + 1) (2 * a) pr := (if_neg (by omega)).trans (if_pos (by omega))
               rw [eT, e1]
               refine jv_lv ?_ (ih (2 * a) b pr τ (by omega) (Or.inr (by omega)) h5 h6 h3)
               exact lvC rfl (lvC rfl (lvC rfl (lvC rfl (lvC rfl (lvC rfl (lvC rfl (lv0))))))))
      · refine j_ifeq_0 eX2_read_45 ?_
        refine j_iload eX2_read_82 rfl ?_
        refine j_if_eq eX2_read_84 (by omega) (fun h84 => ?_) (fun h84 => ?_)
        · refine j_bipush (-10) eX2_read_110 (by decide) ?_
          refine j_iload eX2_read_112 rfl ?_
          refine j_isub eX2_read_114 ?_
          refine r_iret rfl eX2_read_115 ?_
          refine ⟨h3, ?_⟩
          exact ((if_neg (by omega)).trans (if_neg (by omega))).symm
        · refine j_iload eX2_read_87 rfl ?_
          refine j_bipush 64 eX2_read_89 (by decide) ?_
          refine j_icmp_ge eX2_read_91 (by omega) (fun h91 => ?_) (fun h91 => ?_)
          · refine j_bipush (-10) eX2_read_110 (by decide) ?_
            refine j_iload eX2_read_112 rfl ?_
            refine j_isub eX2_read_114 ?_
            refine r_iret rfl eX2_read_115 ?_
            refine ⟨h3, ?_⟩
            exact ((if_neg (by omega)).trans (if_neg (by omega))).symm
          · refine j_iload eX2_read_94 rfl ?_
            refine j_bipush 115 eX2_read_96 (by decide) ?_
            refine j_icmp_ne eX2_read_98 (by omega) (fun h98 => ?_) (fun h98 => ?_)
            · refine j_bipush (-10) eX2_read_110 (by decide) ?_
              refine j_iload eX2_read_112 rfl ?_
              refine j_isub eX2_read_114 ?_
              refine r_iret rfl eX2_read_115 ?_
              refine ⟨h3, ?_⟩
              exact ((if_neg (by omega)).trans (if_neg (by omega))).symm
            · refine j_iconst 2 eX2_read_101 ?_
              refine j_iload eX2_read_102 rfl ?_
              refine j_imul eX2_read_104 ?_
              refine j_istore eX2_read_105 (Nat.le_of_ble_eq_true rfl) ?_
              refine j_goto eX2_read_107 ?_
              refine j_iinc eX2_read_116 rfl (Nat.le_of_ble_eq_true rfl) ?_
              refine j_goto eX2_read_119 ?_
              have e1 : σ 25 1 - ((t + 1 : Nat) : Int) + 1 = σ 25 1 - (t : Int) := by omega
              first
              | (have c0 : a ≠ 0 ∧ 48 ≤ σ 26 (σ 25 1 - ((t + 1 : Nat) : Int)) ∧ σ 26 (σ 25 1 - ((t + 1 : Nat) : Int)) ≤ 50 := by omega
                 have eT : trR (AX σ) (σ 26) (σ 25 1) (t + 1) (σ 25 1 - ((t + 1 : Nat) : Int)) a pr = trR (AX σ) (σ 26) (σ 25 1) t ((σ 25 1 - ((t + 1 : Nat) : Int)) + 1) (bhd a) (pr && AX σ a (σ 26 (σ 25 1 - ((t + 1 : Nat) : Int)) - 48).toNat) := if_pos c0
                 rw [eT, e1]
                 have cb : bhd a = 0 ∨ (1 ≤ bhd a ∧ bhd a ≤ 127) := by omega
                 first
                 | (refine jv_lv ?_ (ih (bhd a) 1 (pr && AX σ a (σ 26 (σ 25 1 - ((t + 1 : Nat) : Int)) - 48).toNat) σ59 (by omega) cb (Or.inr rfl) ⟨fun _ => by rw [h6.mp (by omega), z2.mp (by omega)]; rfl, fun _ => rfl⟩ (fun k k1 k2 => (z3 k k1 k2).trans (h3 k k1 k2)))
                    exact lvC rfl (lvC rfl (lvC rfl (lvC rfl (lvC rfl (lvC rfl (lvC rfl (lv0))))))))
                 | (refine jv_lv ?_ (ih (bhd a) 0 (pr && AX σ a (σ 26 (σ 25 1 - ((t + 1 : Nat) : Int)) - 48).toNat) σ59 (by omega) cb (Or.inl rfl) ⟨fun z => absurd z (by decide), fun z => by rw [Bool.and_eq_true] at z; have z4 := z2.mpr z.2; omega⟩ (fun k k1 k2 => (z3 k k1 k2).trans (h3 k k1 k2)))
                    exact lvC rfl (lvC rfl (lvC rfl (lvC rfl (lvC rfl (lvC rfl (lvC rfl (lv0))))))))
                 | (refine jv_lv ?_ (ih (bhd a) 0 (pr && AX σ a (σ 26 (σ 25 1 - ((t + 1 : Nat) : Int)) - 48).toNat) τ (by omega) cb (Or.inl rfl) ⟨fun z => absurd z (by decide), fun z => by rw [Bool.and_eq_true] at z; have z4 := h6.mpr z.1; omega⟩ h3)
                    exact lvC rfl (lvC rfl (lvC rfl (lvC rfl (lvC rfl (lvC rfl (lvC rfl (lv0)))))))))
              | (have eT : trR (AX σ) (σ 26) (σ 25 1) (t + 1) (σ 25 1 - ((t + 1 : Nat) : Int)) a pr = trR (AX σ) (σ 26) (σ 25 1) t ((σ 25 1 - ((t + 1 : Nat) : Int)) + 1) (2 * a) pr := (if_neg (by omega)).trans (if_pos (by omega))
                 rw [eT, e1]
                 refine jv_lv ?_ (ih (2 * a) b pr τ (by omega) (Or.inr (by omega)) h5 h6 h3)
                 exact lvC rfl (lvC rfl (lvC rfl (lvC rfl (lvC rfl (lvC rfl (lvC rfl (lv0))))))))
theorem c_X2_read {g : Gl} {σ : Sg} (hX : TX σ) (hV : VT σ) (hT : 0 ≤ σ 25 1 ∧ σ 25 1 ≤ 120) (hL : ∀ i, 0 ≤ i → i < σ 25 1 → 0 ≤ σ 26 i ∧ σ 26 i ≤ 255) : Ct g mX2_read [vr g 40, vr g 27, vr g 35, vr g 25] σ (PI (fun v σ' => (∀ k, k ≠ 35 → k ≠ 36 → σ' k = σ k) ∧ v = trR (AX σ) (σ 26) (σ 25 1) (σ 25 1).toNat 0 1 true)) := by
  refine Ct.of (by decide +kernel) (Nat.le_of_ble_eq_true rfl) ?_
  show jv g _ _ σ [(0, vr g 40), (1, vr g 27), (2, vr g 35), (3, vr g 25)] 0 []
  refine j_iconst 1 eX2_read_0 ?_
  refine j_istore eX2_read_1 (Nat.le_of_ble_eq_true rfl) ?_
  refine j_iconst 1 eX2_read_3 ?_
  refine j_istore eX2_read_4 (Nat.le_of_ble_eq_true rfl) ?_
  refine j_iconst 0 eX2_read_6 ?_
  refine j_istore eX2_read_7 (Nat.le_of_ble_eq_true rfl) ?_
  have e0 : (0 : Int) = σ 25 1 - (((σ 25 1).toNat : Nat) : Int) := by omega
  have e1 := l_X2_read (g := g) hX hV hT hL (σ 25 1).toNat 1 1 true σ (by omega) (Or.inr (by omega)) (Or.inr rfl) (by decide) (fun _ _ _ => rfl)
  rw [← e0] at e1
  refine jv_lv ?_ e1
  exact lvC rfl (lvC rfl (lvC rfl (lvC rfl (lvC rfl (lvC rfl (lvC rfl (lv0)))))))
