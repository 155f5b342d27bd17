/-! the walk over nodes -/
theorem RXs.AX_iff {σ τ : Sg} {a : Int} {r : Nat} (hX : TX σ) (hV : VT σ) (hr : r ≤ 2) (h : RXs σ τ a r) : (∀ i, 0 ≤ i → i ≤ τ 35 1 → sgn (τ 36 i) = 1) ↔ AX σ a r = true := by
  have q := hX.2.2.1 (σ 27 1) hV.1.1 hV.1.2
  have t1 : τ 35 1 = nX σ + r := h.2.1
  have en : nX σ = σ 1 (σ 27 1) - 1 := rfl
  unfold AX
  rw [abv_iff]
  constructor
  · intro z i h0 h1
    have := z i h0 (by omega)
    rw [h.2.2.2 i h0 (by omega)] at this
    exact this
  · intro z i h0 h1
    rw [h.2.2.2 i h0 (by omega)]
    exact z i h0 (by omega)
def rkf : Nat → Int → Int
  | 0, _ => 0
  | t + 1, a => if a ≤ 0 then 0 else 2 * pz a - 1 + rkf t (bhd a)
/-- how many nodes come from a node on -/
def rk (a : Int) : Int := rkf 8 a
theorem rk_tab : ∀ x : Fin 127, (1 ≤ rk ((x.1 : Int) + 1) ∧ rk ((x.1 : Int) + 1) ≤ 127) ∧ (x.1 + 1 < 64 → rk (2 * ((x.1 : Int) + 1)) + 1 = rk ((x.1 : Int) + 1) ∧ 2 * ((x.1 : Int) + 1) * pz (2 * ((x.1 : Int) + 1)) = ((x.1 : Int) + 1) * pz ((x.1 : Int) + 1)) ∧ 0 ≤ bhd ((x.1 : Int) + 1) ∧ bhd ((x.1 : Int) + 1) ≤ 127 ∧ (bhd ((x.1 : Int) + 1) ≠ 0 → rk (bhd ((x.1 : Int) + 1)) < rk ((x.1 : Int) + 1) ∧ bhd ((x.1 : Int) + 1) * pz (bhd ((x.1 : Int) + 1)) = ((x.1 : Int) + 1) * pz ((x.1 : Int) + 1) + pz ((x.1 : Int) + 1) ∧ bhd ((x.1 : Int) + 1) % 2 = 1 ∧ 3 ≤ bhd ((x.1 : Int) + 1)) := by decide +kernel
theorem rk_of {a : Int} (h : 1 ≤ a ∧ a ≤ 127) : (1 ≤ rk a ∧ rk a ≤ 127) ∧ (a < 64 → rk (2 * a) + 1 = rk a ∧ 2 * a * pz (2 * a) = a * pz a) ∧ 0 ≤ bhd a ∧ bhd a ≤ 127 ∧ (bhd a ≠ 0 → rk (bhd a) < rk a ∧ bhd a * pz (bhd a) = a * pz a + pz a ∧ bhd a % 2 = 1 ∧ 3 ≤ bhd a) := by
  have w := rk_tab ⟨(a - 1).toNat, by omega⟩
  simp only at w
  rw [show (((a - 1).toNat : Nat) : Int) + 1 = a from by omega] at w
  exact ⟨w.1, fun z => w.2.1 (by omega), w.2.2.1, w.2.2.2.1, w.2.2.2.2⟩
/-- the place of a node's lower end in 64ths of its box -/
def ps (a : Int) : Int := a * pz a - 64
theorem ps_of {a : Int} (h : 1 ≤ a ∧ a ≤ 127) : 0 ≤ ps a ∧ ps a ≤ 63 ∧ (a < 64 → ps (2 * a) = ps a) ∧ (bhd a ≠ 0 → ps (bhd a) = ps a + pz a) ∧ 1 ≤ pz a := by
  have q := pz_b h
  have w := rk_of h
  have e : (a + 1) * pz a = a * pz a + pz a := by rw [Int.add_mul, Int.one_mul]
  unfold ps
  refine ⟨by omega, by omega, fun z => ?_, fun z => ?_, by omega⟩
  · have := (w.2.1 z).2
    omega
  · have := (w.2.2.2.2 z).2.1
    omega
/-- brackets: V a node's variation, Z whether it is 0 at its upper end -/
def trB (V : Int → Int) (Z : Int → Bool) : Nat → Int → List (Int × Int) → List (Int × Int)
  | 0, _, L => L
  | t + 1, a, L => if a = 0 then L else if 1 < V a ∧ a < 64 then trB V Z t (2 * a) L else
      trB V Z t (bhd a) ((L ++ (if 0 < V a then [(a, if V a = 1 then 0 else 2)] else [])) ++ (if bhd a ≠ 0 ∧ Z a = true then [(Int.tdiv (bhd a) 2, 1)] else []))
def RB (σ : Sg) (cN cA cB : Nat) (j : Int) (L : List (Int × Int)) : Prop := σ cN j = L.length ∧ ∀ (k : Nat) (q : Int × Int), L[k]? = some q → σ cA k = q.1 ∧ σ cB k = q.2
theorem RB_0 {σ : Sg} {cN cA cB : Nat} {j : Int} (h : σ cN j = 0) : RB σ cN cA cB j [] := ⟨h, fun k q z => by simp at z⟩
theorem RB.push {σ τ : Sg} {cN cA cB : Nat} {j a b : Int} {L : List (Int × Int)} (h : RB σ cN cA cB j L) (h1 : τ cN j = σ cN j + 1) (h2 : τ cA = up1 (σ cA) (σ cN j) a) (h3 : τ cB = up1 (σ cB) (σ cN j) b) : RB τ cN cA cB j (L ++ [(a, b)]) := by
  obtain ⟨g1, g2⟩ := h
  refine ⟨by rw [h1, g1, List.length_append]; simp, fun k q z => ?_⟩
  rw [h2, h3, g1]
  by_cases hk : k < L.length
  · rw [List.getElem?_append_left hk] at z
    rw [up1_ne (by omega), up1_ne (by omega)]
    exact g2 k q z
  · rw [List.getElem?_append_right (by omega)] at z
    have hz : k - L.length < 1 := (List.getElem?_eq_some_iff.mp z).1
    have e : k = L.length := by omega
    subst e
    rw [Nat.sub_self] at z
    cases z
    exact ⟨up1_same _ _ _, up1_same _ _ _⟩
def ZX (σ : Sg) (a : Int) : Bool := sgn (NX σ a 0 (nX σ)) == 0
theorem VX_b (σ : Sg) (a : Int) (h : nX σ ≤ 5) : 0 ≤ VX σ a ∧ VX σ a ≤ 6 := by
  have := vch_b (NX σ a 0) (nX σ + 1).toNat 0 0 0 (by omega) (by omega)
  unfold VX
  omega
theorem RXs.V {σ τ ρ : Sg} {a : Int} (hX : TX σ) (hV : VT σ) (e : ∀ k, k ≤ 27 → τ k = σ k) (h : RXs τ ρ a 0) : vch (ρ 36) (ρ 35 1 + 1).toNat 0 0 0 = VX σ a := by
  have q := hX.2.2.1 (σ 27 1) hV.1.1 hV.1.2
  have w := h.of e
  have en : nX σ = σ 1 (σ 27 1) - 1 := rfl
  rw [w.2.1, show nX σ + ((0 : Nat) : Int) + 1 = nX σ + 1 from by omega]
  exact vch_congr _ _ _ _ (fun j x z => w.2.2.2 j x (by omega))
theorem RXs.Zq {σ τ ρ : Sg} {a : Int} (hX : TX σ) (hV : VT σ) (e : ∀ k, k ≤ 27 → τ k = σ k) (h : RXs τ ρ a 0) : ρ 36 (ρ 35 1) = NX σ a 0 (nX σ) := by
  have q := hX.2.2.1 (σ 27 1) hV.1.1 hV.1.2
  have w := h.of e
  have en : nX σ = σ 1 (σ 27 1) - 1 := rfl
  have t1 : ρ 35 1 = nX σ := by rw [w.2.1]; omega
  rw [t1]
  exact w.2.2.2 _ (by omega) (by omega)
theorem RB.leaf {S : Sg} {L : List (Int × Int)} {a b : Int} (h : RB S 37 38 39 2 L) : RB (up (up (up S 38 (S 37 2) a) 39 (S 37 2) b) 37 2 (S 37 2 + 1)) 37 38 39 2 (L ++ [(a, b)]) := h.push rfl rfl rfl
theorem fr_up {S σ : Sg} {m a b : Int} (h : ∀ k, k ≠ 35 → k ≠ 36 → k ≠ 37 → k ≠ 38 → k ≠ 39 → S k = σ k) : ∀ k, k ≠ 35 → k ≠ 36 → k ≠ 37 → k ≠ 38 → k ≠ 39 → (up (up (up S 38 m a) 39 m b) 37 2 (m + 1)) k = σ k := fun k k1 k2 k3 k4 k5 => by
  rw [up_ne k3, up_ne k5, up_ne k4]
  exact h k k1 k2 k3 k4 k5
theorem trB_leaf {V : Int → Int} {Z : Int → Bool} {t : Nat} {a : Int} {L : List (Int × Int)} (h0 : ¬ a = 0) (h1 : ¬ (1 < V a ∧ a < 64)) : trB V Z (t + 1) a L = trB V Z t (bhd a) ((L ++ (if 0 < V a then [(a, if V a = 1 then 0 else 2)] else [])) ++ (if bhd a ≠ 0 ∧ Z a = true then [(Int.tdiv (bhd a) 2, 1)] else [])) := (if_neg h0).trans (if_neg h1)
theorem l_X2_leastFigure {g : Gl} {σ : Sg} {a : Int} (hX : TX σ) (hV : VT σ) (nd : 1 ≤ a ∧ a ≤ 127) : ∀ (t r : Nat) (τ : Sg), t + r = 3 → RXs σ τ a (min r 2) → (∀ q, q < r → AX σ a q = false) → jv g mX2_leastFigure (Fm g (PI (fun v σ' => v = LF (AX σ a) ∧ (v = -9 → RXs σ σ' a 2) ∧ (∀ k, k ≠ 35 → k ≠ 36 → σ' k = σ k)))) τ [(0, vr g 27), (1, vr g 35), (2, vi a), (3, vi (r : Int))] 8 [] := by
  intro t
  induction t with
  | zero =>
    intro r τ h1 h2 h3
    have hr : r = 3 := by omega
    subst hr
    refine j_iload_n eX2_leastFigure_8 rfl ?_
    refine j_iconst 2 eX2_leastFigure_9 ?_
    refine j_icmp_gt eX2_leastFigure_10 (by omega) (fun h => ?_) (fun h => absurd (by omega) h)
    refine j_bipush (-9) eX2_leastFigure_38 (by decide) ?_
    refine r_iret rfl eX2_leastFigure_40 ⟨?_, fun _ => h2, h2.1⟩
    unfold LF
    rw [if_neg (by rw [h3 0 (by omega)]; decide), if_neg (by rw [h3 1 (by omega)]; decide), if_neg (by rw [h3 2 (by omega)]; decide)]
  | succ t ih =>
    intro r τ h1 h2 h3
    refine j_iload_n eX2_leastFigure_8 rfl ?_
    refine j_iconst 2 eX2_leastFigure_9 ?_
    refine j_icmp_gt eX2_leastFigure_10 (by omega) (fun h10 => absurd h10 (by omega)) (fun h10 => ?_)
    have m1 : min r 2 = r := by omega
    rw [m1] at h2
    have hN := h2.N hX hV.1 hV.2 nd (by omega)
    have hT := h2.T hX hV.1 (by omega)
    have qq := hX.2.2.1 (σ 27 1) hV.1.1 hV.1.2
    have t1 := h2.2.1
    have ai := RXs.AX_iff hX hV (by omega) h2
    refine j_aload_n eX2_leastFigure_13 rfl ?_
    refine j_iconst 1 eX2_leastFigure_14 ?_
    refine j_cV1 zX4_allHave lkX2_55 ⟨Nat.le_of_ble_eq_true rfl, Nat.le_of_ble_eq_true rfl⟩ ly35 rfl rfl (c_X4_allHave (by exact hT) (by exact hN) (by decide)) (Nat.le_of_ble_eq_true rfl) eX2_leastFigure_15 (k_B (fun h15 => ?_) (fun h15 => ?_))
    · refine j_ifeq_1 eX2_leastFigure_18 ?_
      refine j_iload_n eX2_leastFigure_21 rfl ?_
      refine r_iret rfl eX2_leastFigure_22 ?_
      refine ⟨?_, fun z => by omega, h2.1⟩
      have a1 := ai.mp h15
      unfold LF
      rcases (show r = 0 ∨ r = 1 ∨ r = 2 by omega) with rfl | rfl | rfl
      · rw [if_pos a1]; rfl
      · rw [if_neg (by rw [h3 0 (by omega)]; decide), if_pos a1]; rfl
      · rw [if_neg (by rw [h3 0 (by omega)]; decide), if_neg (by rw [h3 1 (by omega)]; decide), if_pos a1]; rfl
    · refine j_ifeq_0 eX2_leastFigure_18 ?_
      refine j_iload_n eX2_leastFigure_23 rfl ?_
      refine j_iconst 2 eX2_leastFigure_24 ?_
      refine j_icmp_ge eX2_leastFigure_25 (by omega) (fun h25 => ?_) (fun h25 => ?_)
      · refine j_iinc eX2_leastFigure_32 rfl (Nat.le_of_ble_eq_true rfl) ?_
        refine j_goto eX2_leastFigure_35 ?_
        have a0 : ∀ q, q < r + 1 → AX σ a q = false := fun q z => by
          by_cases w : q = r
          · rw [w]; exact Bool.eq_false_iff.mpr (fun y => h15 (ai.mpr y))
          · exact h3 q (by omega)
        have e1 : (r : Int) + 1 = ((r + 1 : Nat) : Int) := by omega
        rw [e1]
        refine jv_lv ?_ (ih (r + 1) _ (by omega) ?_ a0)
        · exact lvC rfl (lvC rfl (lvC rfl (lvC rfl (lv0))))
        · first
          | (rw [show min (r + 1) 2 = r + 1 from by omega]; exact h2.raise (by omega) (by omega))
          | (rw [show min (r + 1) 2 = r from by omega]; exact h2)
      · refine j_aload_n eX2_leastFigure_28 rfl ?_
        refine j_cV0 zX4_raise lkX2_59 ⟨Nat.le_of_ble_eq_true rfl, Nat.le_of_ble_eq_true rfl⟩ ly35 rfl rfl (c_X4_raise (by omega)) (Nat.le_of_ble_eq_true rfl) eX2_leastFigure_29 (k_VE ?_)
        refine j_iinc eX2_leastFigure_32 rfl (Nat.le_of_ble_eq_true rfl) ?_
        refine j_goto eX2_leastFigure_35 ?_
        have a0 : ∀ q, q < r + 1 → AX σ a q = false := fun q z => by
          by_cases w : q = r
          · rw [w]; exact Bool.eq_false_iff.mpr (fun y => h15 (ai.mpr y))
          · exact h3 q (by omega)
        have e1 : (r : Int) + 1 = ((r + 1 : Nat) : Int) := by omega
        rw [e1]
        refine jv_lv ?_ (ih (r + 1) _ (by omega) ?_ a0)
        · exact lvC rfl (lvC rfl (lvC rfl (lvC rfl (lv0))))
        · first
          | (rw [show min (r + 1) 2 = r + 1 from by omega]; exact h2.raise (by omega) (by omega))
          | (rw [show min (r + 1) 2 = r from by omega]; exact h2)
theorem c_X2_leastFigure {g : Gl} {σ : Sg} {a : Int} (hX : TX σ) (hV : VT σ) (nd : 1 ≤ a ∧ a ≤ 127) : Ct g mX2_leastFigure [vr g 27, vr g 35, vi a] σ (PI (fun v σ' => v = LF (AX σ a) ∧ (v = -9 → RXs σ σ' a 2) ∧ (∀ k, k ≠ 35 → k ≠ 36 → σ' k = σ k))) := by
  refine Ct.of (by decide +kernel) (Nat.le_of_ble_eq_true rfl) ?_
  show jv g _ _ σ [(0, vr g 27), (1, vr g 35), (2, vi a)] 0 []
  refine j_aload_n eX2_leastFigure_0 rfl ?_
  refine j_aload_n eX2_leastFigure_1 rfl ?_
  refine j_iload_n eX2_leastFigure_2 rfl ?_
  refine j_cV2 zX4_lay lkX2_51 ⟨Nat.le_of_ble_eq_true rfl, Nat.le_of_ble_eq_true rfl⟩ ly35 rfl rfl (c_X4_lay (by exact hX) (by exact hV) (by exact nd)) (Nat.le_of_ble_eq_true rfl) eX2_leastFigure_3 (k_V (fun σ3 h3 => ?_))
  refine j_iconst 0 eX2_leastFigure_6 ?_
  refine j_istore_n eX2_leastFigure_7 (Nat.le_of_ble_eq_true rfl) ?_
  refine jv_lv ?_ (l_X2_leastFigure hX hV nd 3 0 _ (by omega) h3 (fun q z => by omega))
  exact lvC rfl (lvC rfl (lvC rfl (lvC rfl (lv0))))
theorem c_X2_isRight {g : Gl} {σ : Sg} {a r : Int} (hX : TX σ) (hV : VT σ) (nd : 1 ≤ a ∧ a ≤ 127) (hr : 0 ≤ r ∧ r ≤ 2) : Ct g mX2_isRight [vr g 27, vr g 35, vi a, vi r] σ (PI (fun v σ' => (v = 0 ∨ v = 1) ∧ (v = 1 ↔ AX σ a r.toNat = true) ∧ (∀ k, k ≠ 35 → k ≠ 36 → σ' k = σ k))) := by
  refine Ct.of (by decide +kernel) (Nat.le_of_ble_eq_true rfl) ?_
  show jv g _ _ σ [(0, vr g 27), (1, vr g 35), (2, vi a), (3, vi r)] 0 []
  refine j_aload_n eX2_isRight_0 rfl ?_
  refine j_aload_n eX2_isRight_1 rfl ?_
  refine j_iload_n eX2_isRight_2 rfl ?_
  refine j_iload_n eX2_isRight_3 rfl ?_
  refine j_cV3 zX4_layRaised lkX2_78 ⟨Nat.le_of_ble_eq_true rfl, Nat.le_of_ble_eq_true rfl⟩ ly35 rfl rfl (c_X4_layRaised (by exact hX) (by exact hV) (by exact nd) (by exact hr)) (Nat.le_of_ble_eq_true rfl) eX2_isRight_4 (k_V (fun σ4 h4 => ?_))
  have hN := h4.N hX hV.1 hV.2 nd (by omega)
  have hT := h4.T hX hV.1 (by omega)
  have ai := RXs.AX_iff hX hV (by omega) h4
  refine j_aload_n eX2_isRight_7 rfl ?_
  refine j_iconst 1 eX2_isRight_8 ?_
  refine j_cV1 zX4_allHave lkX2_55 ⟨Nat.le_of_ble_eq_true rfl, Nat.le_of_ble_eq_true rfl⟩ ly35 rfl rfl (c_X4_allHave (by exact hT) (by exact hN) (by decide)) (Nat.le_of_ble_eq_true rfl) eX2_isRight_9 (k_B (fun h9 => ?_) (fun h9 => ?_))
  · refine r_zret (by decide) rfl eX2_isRight_12 ?_
    first | exact ⟨Or.inr rfl, ⟨fun _ => ai.mp h9, fun _ => rfl⟩, h4.1⟩ | exact ⟨Or.inl rfl, ⟨fun z => absurd z (by decide), fun z => absurd (ai.mpr z) h9⟩, h4.1⟩
  · refine r_zret (by decide) rfl eX2_isRight_12 ?_
    first | exact ⟨Or.inr rfl, ⟨fun _ => ai.mp h9, fun _ => rfl⟩, h4.1⟩ | exact ⟨Or.inl rfl, ⟨fun z => absurd z (by decide), fun z => absurd (ai.mpr z) h9⟩, h4.1⟩
theorem c_X3_size {g : Gl} {σ : Sg} : Ct g mX3_size [vr g 37] σ (PE (σ 37 2) σ) := by
  refine Ct.of (by decide +kernel) (Nat.le_of_ble_eq_true rfl) ?_
  show jv g _ _ σ [(0, vr g 37)] 0 []
  refine j_aload_n eX3_size_0 rfl ?_
  refine j_getI flX3_18 ly37 rfl eX3_size_1 ?_
  refine r_iret rfl eX3_size_4 ?_
  first | exact ⟨rfl, rfl⟩ | (exfalso; omega)
theorem c_X3_node {g : Gl} {σ : Sg} {a : Int} (h7 : 0 ≤ σ 37 2 ∧ σ 37 2 ≤ 127) (ha : 0 ≤ a ∧ a < σ 37 2) : Ct g mX3_node [vr g 37, vi a] σ (PE (σ 38 a) σ) := by
  refine Ct.of (by decide +kernel) (Nat.le_of_ble_eq_true rfl) ?_
  show jv g _ _ σ [(0, vr g 37), (1, vi a)] 0 []
  refine j_iload_n eX3_node_0 rfl ?_
  refine j_if_lt eX3_node_1 (by omega) (fun h1 => ?_) (fun h1 => ?_)
  · refine j_bipush (-9) eX3_node_30 (by decide) ?_
    refine r_iret rfl eX3_node_32 ?_
    first | exact ⟨rfl, rfl⟩ | (exfalso; omega)
  · refine j_iload_n eX3_node_4 rfl ?_
    refine j_aload_n eX3_node_5 rfl ?_
    refine j_getI flX3_18 ly37 rfl eX3_node_6 ?_
    refine j_icmp_ge eX3_node_9 (by omega) (fun h9 => ?_) (fun h9 => ?_)
    · refine j_bipush (-9) eX3_node_30 (by decide) ?_
      refine r_iret rfl eX3_node_32 ?_
      first | exact ⟨rfl, rfl⟩ | (exfalso; omega)
    · refine j_iload_n eX3_node_12 rfl ?_
      refine j_aload_n eX3_node_13 rfl ?_
      refine j_getR flX3_9 ly37 rfl eX3_node_14 ?_
      refine j_alen (by decide) ly38 eX3_node_17 ?_
      refine j_icmp_ge eX3_node_18 (by omega) (fun h18 => ?_) (fun h18 => ?_)
      · refine j_bipush (-9) eX3_node_30 (by decide) ?_
        refine r_iret rfl eX3_node_32 ?_
        first | exact ⟨rfl, rfl⟩ | (exfalso; omega)
      · refine j_aload_n eX3_node_21 rfl ?_
        refine j_getR flX3_9 ly37 rfl eX3_node_22 ?_
        refine j_iload_n eX3_node_25 rfl ?_
        refine j_iald ly38 (by omega) eX3_node_26 ?_
        refine j_goto eX3_node_27 ?_
        refine r_iret rfl eX3_node_32 ?_
        first | exact ⟨rfl, rfl⟩ | (exfalso; omega)
theorem c_X3_kind {g : Gl} {σ : Sg} {a : Int} (h7 : 0 ≤ σ 37 2 ∧ σ 37 2 ≤ 127) (ha : 0 ≤ a ∧ a < σ 37 2) : Ct g mX3_kind [vr g 37, vi a] σ (PE (σ 39 a) σ) := by
  refine Ct.of (by decide +kernel) (Nat.le_of_ble_eq_true rfl) ?_
  show jv g _ _ σ [(0, vr g 37), (1, vi a)] 0 []
  refine j_iload_n eX3_kind_0 rfl ?_
  refine j_if_lt eX3_kind_1 (by omega) (fun h1 => ?_) (fun h1 => ?_)
  · refine j_bipush (-9) eX3_kind_30 (by decide) ?_
    refine r_iret rfl eX3_kind_32 ?_
    first | exact ⟨rfl, rfl⟩ | (exfalso; omega)
  · refine j_iload_n eX3_kind_4 rfl ?_
    refine j_aload_n eX3_kind_5 rfl ?_
    refine j_getI flX3_18 ly37 rfl eX3_kind_6 ?_
    refine j_icmp_ge eX3_kind_9 (by omega) (fun h9 => ?_) (fun h9 => ?_)
    · refine j_bipush (-9) eX3_kind_30 (by decide) ?_
      refine r_iret rfl eX3_kind_32 ?_
      first | exact ⟨rfl, rfl⟩ | (exfalso; omega)
    · refine j_iload_n eX3_kind_12 rfl ?_
      refine j_aload_n eX3_kind_13 rfl ?_
      refine j_getR flX3_15 ly37 rfl eX3_kind_14 ?_
      refine j_alen (by decide) ly39 eX3_kind_17 ?_
      refine j_icmp_ge eX3_kind_18 (by omega) (fun h18 => ?_) (fun h18 => ?_)
      · refine j_bipush (-9) eX3_kind_30 (by decide) ?_
        refine r_iret rfl eX3_kind_32 ?_
        first | exact ⟨rfl, rfl⟩ | (exfalso; omega)
      · refine j_aload_n eX3_kind_21 rfl ?_
        refine j_getR flX3_15 ly37 rfl eX3_kind_22 ?_
        refine j_iload_n eX3_kind_25 rfl ?_
        refine j_iald ly39 (by omega) eX3_kind_26 ?_
        refine j_goto eX3_kind_27 ?_
        refine r_iret rfl eX3_kind_32 ?_
        first | exact ⟨rfl, rfl⟩ | (exfalso; omega)
theorem c_X3_add {g : Gl} {σ : Sg} {a b : Int} (h : 0 ≤ σ 37 2 ∧ σ 37 2 < 127) : Ct g mX3_add [vr g 37, vi a, vi b] σ (PV (fun σ' => σ' = up (up (up σ 38 (σ 37 2) a) 39 (σ 37 2) b) 37 2 (σ 37 2 + 1))) := by
  refine Ct.of (by decide +kernel) (Nat.le_of_ble_eq_true rfl) ?_
  show jv g _ _ σ [(0, vr g 37), (1, vi a), (2, vi b)] 0 []
  refine j_aload_n eX3_add_0 rfl ?_
  refine j_getI flX3_18 ly37 rfl eX3_add_1 ?_
  refine j_if_lt eX3_add_4 (by omega) (fun h4 => ?_) (fun h4 => ?_)
  · refine r_vret rfl eX3_add_61 ?_
    first | exact rfl | (exfalso; omega)
  · refine j_aload_n eX3_add_7 rfl ?_
    refine j_getI flX3_18 ly37 rfl eX3_add_8 ?_
    refine j_aload_n eX3_add_11 rfl ?_
    refine j_getR flX3_9 ly37 rfl eX3_add_12 ?_
    refine j_alen (by decide) ly38 eX3_add_15 ?_
    refine j_icmp_ge eX3_add_16 (by omega) (fun h16 => ?_) (fun h16 => ?_)
    · refine r_vret rfl eX3_add_61 ?_
      first | exact rfl | (exfalso; omega)
    · refine j_aload_n eX3_add_19 rfl ?_
      refine j_getI flX3_18 ly37 rfl eX3_add_20 ?_
      refine j_aload_n eX3_add_23 rfl ?_
      refine j_getR flX3_15 ly37 rfl eX3_add_24 ?_
      refine j_alen (by decide) ly39 eX3_add_27 ?_
      refine j_icmp_ge eX3_add_28 (by omega) (fun h28 => ?_) (fun h28 => ?_)
      · refine r_vret rfl eX3_add_61 ?_
        first | exact rfl | (exfalso; omega)
      · refine j_aload_n eX3_add_31 rfl ?_
        refine j_getR flX3_9 ly37 rfl eX3_add_32 ?_
        refine j_aload_n eX3_add_35 rfl ?_
        refine j_getI flX3_18 ly37 rfl eX3_add_36 ?_
        refine j_iload_n eX3_add_39 rfl ?_
        refine j_iast ly38 (by omega) eX3_add_40 ?_
        refine j_aload_n eX3_add_41 rfl ?_
        refine j_getR flX3_15 ly37 rfl eX3_add_42 ?_
        refine j_aload_n eX3_add_45 rfl ?_
        refine j_getI flX3_18 ly37 rfl eX3_add_46 ?_
        refine j_iload_n eX3_add_49 rfl ?_
        refine j_iast ly39 (by exact h) eX3_add_50 ?_
        refine j_aload_n eX3_add_51 rfl ?_
        refine j_dup rfl eX3_add_52 ?_
        refine j_getI flX3_18 ly37 rfl eX3_add_53 ?_
        refine j_iconst 1 eX3_add_56 ?_
        refine j_iadd eX3_add_57 ?_
        refine j_putI fpX3_18 ly37 rfl eX3_add_58 ?_
        refine r_vret rfl eX3_add_61 ?_
        first | exact rfl | (exfalso; omega)
theorem c_X3_pass {g : Gl} {σ : Sg} {a : Int} (nd : 1 ≤ a ∧ a ≤ 127) (hT : 0 ≤ σ 35 1 ∧ σ 35 1 ≤ 7) (hN : ∀ i, 0 ≤ i → i < 8 → -4611686018427387904 ≤ σ 36 i ∧ σ 36 i ≤ 4611686018427387904) (h : 0 ≤ σ 37 2 ∧ (bhd a ≠ 0 → σ 37 2 < 127)) : Ct g mX3_pass [vr g 37, vi a, vr g 35] σ (PI (fun v σ' => v = bhd a ∧ σ' = if bhd a ≠ 0 ∧ (sgn (σ 36 (σ 35 1)) == 0) = true then up (up (up σ 38 (σ 37 2) (Int.tdiv (bhd a) 2)) 39 (σ 37 2) 1) 37 2 (σ 37 2 + 1) else σ)) := by
  refine Ct.of (by decide +kernel) (Nat.le_of_ble_eq_true rfl) ?_
  show jv g _ _ σ [(0, vr g 37), (1, vi a), (2, vr g 35)] 0 []
  have w := rk_of nd
  refine j_iload_n eX3_pass_0 rfl ?_
  refine j_cSN1 zX11_behind lkX3_40 ⟨Nat.le_of_ble_eq_true rfl, Nat.le_of_ble_eq_true rfl⟩ (c_X11_behind (by omega)) (Nat.le_of_ble_eq_true rfl) eX3_pass_1 (k_E ?_)
  refine j_istore_n eX3_pass_4 (Nat.le_of_ble_eq_true rfl) ?_
  refine j_iload_n eX3_pass_5 rfl ?_
  refine j_if_eq eX3_pass_6 (by omega) (fun h6 => ?_) (fun h6 => ?_)
  · refine j_iload_n eX3_pass_24 rfl ?_
    refine r_iret rfl eX3_pass_25 ?_
    first | exact ⟨rfl, (if_pos ⟨by omega, by simpa using h13⟩).symm⟩ | exact ⟨rfl, (if_neg (fun z => z.1 (by omega))).symm⟩ | exact ⟨rfl, (if_neg (fun z => h13 (by simpa using z.2))).symm⟩
  · refine j_aload_n eX3_pass_9 rfl ?_
    refine j_cV0 zX4_signAtHigh lkX3_44 ⟨Nat.le_of_ble_eq_true rfl, Nat.le_of_ble_eq_true rfl⟩ ly35 rfl rfl (c_X4_signAtHigh (by exact hT) (by exact hN)) (Nat.le_of_ble_eq_true rfl) eX3_pass_10 (k_E ?_)
    have sb := sgn_b (σ 36 (σ 35 1))
    refine j_if_ne eX3_pass_13 (by omega) (fun h13 => ?_) (fun h13 => ?_)
    · refine j_iload_n eX3_pass_24 rfl ?_
      refine r_iret rfl eX3_pass_25 ?_
      first | exact ⟨rfl, (if_pos ⟨by omega, by simpa using h13⟩).symm⟩ | exact ⟨rfl, (if_neg (fun z => z.1 (by omega))).symm⟩ | exact ⟨rfl, (if_neg (fun z => h13 (by simpa using z.2))).symm⟩
    · refine j_aload_n eX3_pass_16 rfl ?_
      refine j_iload_n eX3_pass_17 rfl ?_
      refine j_iconst 2 eX3_pass_18 ?_
      refine j_idiv (by omega) eX3_pass_19 ?_
      refine j_iconst 1 eX3_pass_20 ?_
      refine j_cV2 zX3_add lkX3_32 ⟨Nat.le_of_ble_eq_true rfl, Nat.le_of_ble_eq_true rfl⟩ ly37 rfl rfl (c_X3_add (by omega)) (Nat.le_of_ble_eq_true rfl) eX3_pass_21 (k_VE ?_)
      refine j_iload_n eX3_pass_24 rfl ?_
      refine r_iret rfl eX3_pass_25 ?_
      first | exact ⟨rfl, (if_pos ⟨by omega, by simpa using h13⟩).symm⟩ | exact ⟨rfl, (if_neg (fun z => z.1 (by omega))).symm⟩ | exact ⟨rfl, (if_neg (fun z => h13 (by simpa using z.2))).symm⟩
theorem q_X3_find {g : Gl} {σ : Sg} (hX : TX σ) (hV : VT σ) : ∀ (t : Nat) (a : Int) (L1 : List (Int × Int)) (S : Sg), 1 ≤ a ∧ a ≤ 127 → rk a ≤ t + 1 → t + 1 ≤ 127 → (∀ k, k ≠ 35 → k ≠ 36 → k ≠ 37 → k ≠ 38 → k ≠ 39 → S k = σ k) → RB S 37 38 39 2 L1 → (L1.length : Int) ≤ 2 * ps a + 1 → 0 ≤ S 35 1 ∧ S 35 1 ≤ 7 → (∀ i, 0 ≤ i → i < 8 → -4611686018427387904 ≤ S 36 i ∧ S 36 i ≤ 4611686018427387904) → (sgn (S 36 (S 35 1)) == 0) = ZX σ a → (∀ (a : Int) (L : List (Int × Int)) (τ : Sg), t ≤ 127 → (a = 0 ∨ (1 ≤ a ∧ a ≤ 127 ∧ rk a ≤ t ∧ (L.length : Int) ≤ 2 * ps a)) → L.length ≤ 127 → (∀ k, k ≠ 35 → k ≠ 36 → k ≠ 37 → k ≠ 38 → k ≠ 39 → τ k = σ k) → RB τ 37 38 39 2 L → jv g mX3_find (Fm g (PV (fun σ' => (∀ k, k ≠ 35 → k ≠ 36 → k ≠ 37 → k ≠ 38 → k ≠ 39 → σ' k = σ k) ∧ RB σ' 37 38 39 2 (trB (VX σ) (ZX σ) t a L) ∧ (trB (VX σ) (ZX σ) t a L).length ≤ 127))) τ [(0, vr g 37), (1, vr g 27), (2, vr g 35), (3, vi a), (4, vi (127 - (t : Int)))] 10 []) → jv g mX3_find (Fm g (PV (fun σ' => (∀ k, k ≠ 35 → k ≠ 36 → k ≠ 37 → k ≠ 38 → k ≠ 39 → σ' k = σ k) ∧ RB σ' 37 38 39 2 (trB (VX σ) (ZX σ) t (bhd a) (L1 ++ (if bhd a ≠ 0 ∧ ZX σ a = true then [(Int.tdiv (bhd a) 2, 1)] else []))) ∧ (trB (VX σ) (ZX σ) t (bhd a) (L1 ++ (if bhd a ≠ 0 ∧ ZX σ a = true then [(Int.tdiv (bhd a) 2, 1)] else []))).length ≤ 127))) S [(0, vr g 37), (1, vr g 27), (2, vr g 35), (3, vi a), (4, vi (127 - ((t + 1 : Nat) : Int)))] 73 [] := by
  intro t a L1 S na hk ht fr r2 hl hT hN eZ ih
  have w := rk_of na
  have ww := ps_of na
  have g4 := r2.1
  have w8 : bhd a ≠ 0 → ps (bhd a) ≤ 63 := fun z => (ps_of (by have := w.2.2.2.2 z; omega)).2.1
  refine j_aload_n eX3_find_73 rfl ?_
  refine j_iload_n eX3_find_74 rfl ?_
  refine j_aload_n eX3_find_75 rfl ?_
  refine j_cV2 zX3_pass lkX3_36 ⟨Nat.le_of_ble_eq_true rfl, Nat.le_of_ble_eq_true rfl⟩ ly37 rfl rfl (c_X3_pass (by exact na) (by exact hT) (by exact hN) (by omega)) (Nat.le_of_ble_eq_true rfl) eX3_find_76 (k_I (fun v76 σ76 h76 => ?_))
  obtain ⟨hv, hs⟩ := h76
  subst hv
  subst hs
  rw [eZ]
  refine j_istore_n eX3_find_79 (Nat.le_of_ble_eq_true rfl) ?_
  refine j_iinc eX3_find_80 rfl (Nat.le_of_ble_eq_true rfl) ?_
  refine j_goto eX3_find_83 ?_
  have e1 : 127 - ((t + 1 : Nat) : Int) + 1 = 127 - (t : Int) := by omega
  rw [e1]
  by_cases c : bhd a ≠ 0 ∧ ZX σ a = true
  · rw [if_pos c, if_pos c]
    have w5 := w.2.2.2.2 c.1
    have w6 := ww.2.2.2.1 c.1
    have w7 := ps_of (a := bhd a) (by omega)
    have e2 : ((L1 ++ [(Int.tdiv (bhd a) 2, 1)]).length : Int) = L1.length + 1 := by rw [List.length_append]; rfl
    refine jv_lv ?_ (ih (bhd a) (L1 ++ [(Int.tdiv (bhd a) 2, 1)]) _ (by omega) (Or.inr ⟨by omega, by omega, by omega, by omega⟩) (by omega) (fr_up fr) r2.leaf)
    exact lvC rfl (lvC rfl (lvC rfl (lvC rfl (lvC rfl (lv0)))))
  · rw [if_neg c, if_neg c, List.append_nil]
    by_cases z : bhd a = 0
    · refine jv_lv ?_ (ih (bhd a) L1 S (by omega) (Or.inl z) (by omega) fr r2)
      exact lvC rfl (lvC rfl (lvC rfl (lvC rfl (lvC rfl (lv0)))))
    · have w5 := w.2.2.2.2 z
      have w6 := ww.2.2.2.1 z
      have w7 := ps_of (a := bhd a) (by omega)
      refine jv_lv ?_ (ih (bhd a) L1 S (by omega) (Or.inr ⟨by omega, by omega, by omega, by omega⟩) (by omega) fr r2)
      exact lvC rfl (lvC rfl (lvC rfl (lvC rfl (lvC rfl (lv0)))))
theorem l_X3_find {g : Gl} {σ : Sg} (hX : TX σ) (hV : VT σ) : ∀ (t : Nat) (a : Int) (L : List (Int × Int)) (τ : Sg), t ≤ 127 → (a = 0 ∨ (1 ≤ a ∧ a ≤ 127 ∧ rk a ≤ t ∧ (L.length : Int) ≤ 2 * ps a)) → L.length ≤ 127 → (∀ k, k ≠ 35 → k ≠ 36 → k ≠ 37 → k ≠ 38 → k ≠ 39 → τ k = σ k) → RB τ 37 38 39 2 L → jv g mX3_find (Fm g (PV (fun σ' => (∀ k, k ≠ 35 → k ≠ 36 → k ≠ 37 → k ≠ 38 → k ≠ 39 → σ' k = σ k) ∧ RB σ' 37 38 39 2 (trB (VX σ) (ZX σ) t a L) ∧ (trB (VX σ) (ZX σ) t a L).length ≤ 127))) τ [(0, vr g 37), (1, vr g 27), (2, vr g 35), (3, vi a), (4, vi (127 - (t : Int)))] 10 [] := by
  intro t
  induction t with
  | zero =>
    intro a L τ h1 h2 h5 h3 h4
    refine j_iload eX3_find_10 rfl ?_
    refine j_bipush 127 eX3_find_12 (by decide) ?_
    refine j_icmp_ge eX3_find_14 (by omega) (fun h => ?_) (fun h => absurd (by omega) h)
    exact r_vret rfl eX3_find_86 ⟨h3, h4, h5⟩
  | succ t ih =>
    intro a L τ h1 h2 h5 h3 h4
    refine j_iload eX3_find_10 rfl ?_
    refine j_bipush 127 eX3_find_12 (by decide) ?_
    refine j_icmp_ge eX3_find_14 (by omega) (fun h14 => absurd h14 (by omega)) (fun h14 => ?_)
    refine j_iload_n eX3_find_17 rfl ?_
    refine j_if_eq eX3_find_18 (by omega) (fun h18 => ?_) (fun h18 => ?_)
    · refine r_vret rfl eX3_find_86 ?_
      have e0 : trB (VX σ) (ZX σ) (t + 1) a L = L := if_pos (by omega)
      rw [e0]
      exact ⟨h3, h4, h5⟩
    · have na : 1 ≤ a ∧ a ≤ 127 := by omega
      have w := rk_of na
      have ww := ps_of na
      have e27 : ∀ k, k ≤ 27 → τ k = σ k := fun k hk => h3 k (by omega) (by omega) (by omega) (by omega) (by omega)
      have kX : TX τ := hX.mono (fun k hk => e27 k (by omega))
      have kV : VT τ := hV.mono e27
      have qq := hX.2.2.1 (σ 27 1) hV.1.1 hV.1.2
      refine j_aload_n eX3_find_21 rfl ?_
      refine j_aload_n eX3_find_22 rfl ?_
      refine j_iload_n eX3_find_23 rfl ?_
      refine j_cV2 zX4_lay lkX3_22 ⟨Nat.le_of_ble_eq_true rfl, Nat.le_of_ble_eq_true rfl⟩ ly35 rfl rfl (c_X4_lay (by exact kX) (by exact kV) (by exact na)) (Nat.le_of_ble_eq_true rfl) eX3_find_24 (k_V (fun σ24 h24 => ?_))
      have hN := h24.N kX kV.1 kV.2 na (by omega)
      have hT := h24.T kX kV.1 (by omega)
      have eV := RXs.V hX hV e27 h24
      have eZ : (sgn (σ24 36 (σ24 35 1)) == 0) = ZX σ a := by rw [RXs.Zq hX hV e27 h24]; rfl
      have vb := VX_b σ a (by show σ 1 (σ 27 1) - 1 ≤ 5; omega)
      have f37 := h24.1 37 (by decide) (by decide)
      have g4 := h4.1
      have fr : (∀ k, k ≠ 35 → k ≠ 36 → k ≠ 37 → k ≠ 38 → k ≠ 39 → σ24 k = σ k) := fun k k1 k2 k3 k4 k5 => (h24.1 k k1 k2).trans (h3 k k1 k2 k3 k4 k5)
      have r1 : RB σ24 37 38 39 2 L := ⟨by rw [f37]; exact g4, fun k q z => by rw [h24.1 38 (by decide) (by decide), h24.1 39 (by decide) (by decide)]; exact h4.2 k q z⟩
      refine j_aload_n eX3_find_27 rfl ?_
      refine j_cV0 zX4_signChanges lkX3_28 ⟨Nat.le_of_ble_eq_true rfl, Nat.le_of_ble_eq_true rfl⟩ ly35 rfl rfl (c_X4_signChanges (by exact hT) (by exact hN)) (Nat.le_of_ble_eq_true rfl) eX3_find_28 (k_E ?_)
      rw [eV]
      refine j_istore eX3_find_31 (Nat.le_of_ble_eq_true rfl) ?_
      refine j_iload eX3_find_33 rfl ?_
      refine j_iconst 1 eX3_find_35 ?_
      refine j_icmp_le eX3_find_36 (by omega) (fun h36 => ?_) (fun h36 => ?_)
      · refine j_iload eX3_find_52 rfl ?_
        refine j_if_le eX3_find_54 (by omega) (fun h54 => ?_) (fun h54 => ?_)
        · first
          | (exfalso; omega)
          | (have c0 : ¬ 0 < VX σ a := by omega
             rw [trB_leaf (by omega) (by omega), if_neg c0, List.append_nil]
             refine jv_lv ?_ (q_X3_find hX hV t a L σ24 na (by omega) (by omega) fr r1 (by omega) hT hN eZ ih)
             exact lvC rfl (lvC rfl (lvC rfl (lvC rfl (lvC rfl (lv0))))))
          | (have c0 : 0 < VX σ a := by omega
             have c1 : VX σ a = 1 := by omega
             rw [trB_leaf (by omega) (by omega), if_pos c0, if_pos c1]
             refine jv_lv ?_ (q_X3_find hX hV t a (L ++ [(a, 0)]) _ na (by omega) (by omega) (fr_up fr) r1.leaf (by rw [List.length_append]; show ((L.length + 1 : Nat) : Int) ≤ _; omega) hT hN eZ ih)
             exact lvC rfl (lvC rfl (lvC rfl (lvC rfl (lvC rfl (lv0))))))
          | (have c0 : 0 < VX σ a := by omega
             have c1 : ¬ VX σ a = 1 := by omega
             rw [trB_leaf (by omega) (by omega), if_pos c0, if_neg c1]
             refine jv_lv ?_ (q_X3_find hX hV t a (L ++ [(a, 2)]) _ na (by omega) (by omega) (fr_up fr) r1.leaf (by rw [List.length_append]; show ((L.length + 1 : Nat) : Int) ≤ _; omega) hT hN eZ ih)
             exact lvC rfl (lvC rfl (lvC rfl (lvC rfl (lvC rfl (lv0))))))
        · refine j_aload_n eX3_find_57 rfl ?_
          refine j_iload_n eX3_find_58 rfl ?_
          refine j_iload eX3_find_59 rfl ?_
          refine j_iconst 1 eX3_find_61 ?_
          refine j_icmp_ne eX3_find_62 (by omega) (fun h62 => ?_) (fun h62 => ?_)
          · refine j_iconst 2 eX3_find_69 ?_
            refine j_cV2 zX3_add lkX3_32 ⟨Nat.le_of_ble_eq_true rfl, Nat.le_of_ble_eq_true rfl⟩ ly37 rfl rfl (c_X3_add (by rw [f37, g4]; omega)) (Nat.le_of_ble_eq_true rfl) eX3_find_70 (k_VE ?_)
            first
            | (exfalso; omega)
            | (have c0 : ¬ 0 < VX σ a := by omega
               rw [trB_leaf (by omega) (by omega), if_neg c0, List.append_nil]
               refine jv_lv ?_ (q_X3_find hX hV t a L σ24 na (by omega) (by omega) fr r1 (by omega) hT hN eZ ih)
               exact lvC rfl (lvC rfl (lvC rfl (lvC rfl (lvC rfl (lv0))))))
            | (have c0 : 0 < VX σ a := by omega
               have c1 : VX σ a = 1 := by omega
               rw [trB_leaf (by omega) (by omega), if_pos c0, if_pos c1]
               refine jv_lv ?_ (q_X3_find hX hV t a (L ++ [(a, 0)]) _ na (by omega) (by omega) (fr_up fr) r1.leaf (by rw [List.length_append]; show ((L.length + 1 : Nat) : Int) ≤ _; omega) hT hN eZ ih)
               exact lvC rfl (lvC rfl (lvC rfl (lvC rfl (lvC rfl (lv0))))))
            | (have c0 : 0 < VX σ a := by omega
               have c1 : ¬ VX σ a = 1 := by omega
               rw [trB_leaf (by omega) (by omega), if_pos c0, if_neg c1]
               refine jv_lv ?_ (q_X3_find hX hV t a (L ++ [(a, 2)]) _ na (by omega) (by omega) (fr_up fr) r1.leaf (by rw [List.length_append]; show ((L.length + 1 : Nat) : Int) ≤ _; omega) hT hN eZ ih)
               exact lvC rfl (lvC rfl (lvC rfl (lvC rfl (lvC rfl (lv0))))))
          · refine j_iconst 0 eX3_find_65 ?_
            refine j_goto eX3_find_66 ?_
            refine j_cV2 zX3_add lkX3_32 ⟨Nat.le_of_ble_eq_true rfl, Nat.le_of_ble_eq_true rfl⟩ ly37 rfl rfl (c_X3_add (by rw [f37, g4]; omega)) (Nat.le_of_ble_eq_true rfl) eX3_find_70 (k_VE ?_)
            first
            | (exfalso; omega)
            | (have c0 : ¬ 0 < VX σ a := by omega
               rw [trB_leaf (by omega) (by omega), if_neg c0, List.append_nil]
               refine jv_lv ?_ (q_X3_find hX hV t a L σ24 na (by omega) (by omega) fr r1 (by omega) hT hN eZ ih)
               exact lvC rfl (lvC rfl (lvC rfl (lvC rfl (lvC rfl (lv0))))))
            | (have c0 : 0 < VX σ a := by omega
               have c1 : VX σ a = 1 := by omega
               rw [trB_leaf (by omega) (by omega), if_pos c0, if_pos c1]
               refine jv_lv ?_ (q_X3_find hX hV t a (L ++ [(a, 0)]) _ na (by omega) (by omega) (fr_up fr) r1.leaf (by rw [List.length_append]; show ((L.length + 1 : Nat) : Int) ≤ _; omega) hT hN eZ ih)
               exact lvC rfl (lvC rfl (lvC rfl (lvC rfl (lvC rfl (lv0))))))
            | (have c0 : 0 < VX σ a := by omega
               have c1 : ¬ VX σ a = 1 := by omega
               rw [trB_leaf (by omega) (by omega), if_pos c0, if_neg c1]
               refine jv_lv ?_ (q_X3_find hX hV t a (L ++ [(a, 2)]) _ na (by omega) (by omega) (fr_up fr) r1.leaf (by rw [List.length_append]; show ((L.length + 1 : Nat) : Int) ≤ _; omega) hT hN eZ ih)
               exact lvC rfl (lvC rfl (lvC rfl (lvC rfl (lvC rfl (lv0))))))
      · refine j_iload_n eX3_find_39 rfl ?_
        refine j_bipush 64 eX3_find_40 (by decide) ?_
        refine j_icmp_ge eX3_find_42 (by omega) (fun h42 => ?_) (fun h42 => ?_)
        · refine j_iload eX3_find_52 rfl ?_
          refine j_if_le eX3_find_54 (by omega) (fun h54 => ?_) (fun h54 => ?_)
          · first
            | (exfalso; omega)
            | (have c0 : ¬ 0 < VX σ a := by omega
               rw [trB_leaf (by omega) (by omega), if_neg c0, List.append_nil]
               refine jv_lv ?_ (q_X3_find hX hV t a L σ24 na (by omega) (by omega) fr r1 (by omega) hT hN eZ ih)
               exact lvC rfl (lvC rfl (lvC rfl (lvC rfl (lvC rfl (lv0))))))
            | (have c0 : 0 < VX σ a := by omega
               have c1 : VX σ a = 1 := by omega
               rw [trB_leaf (by omega) (by omega), if_pos c0, if_pos c1]
               refine jv_lv ?_ (q_X3_find hX hV t a (L ++ [(a, 0)]) _ na (by omega) (by omega) (fr_up fr) r1.leaf (by rw [List.length_append]; show ((L.length + 1 : Nat) : Int) ≤ _; omega) hT hN eZ ih)
               exact lvC rfl (lvC rfl (lvC rfl (lvC rfl (lvC rfl (lv0))))))
            | (have c0 : 0 < VX σ a := by omega
               have c1 : ¬ VX σ a = 1 := by omega
               rw [trB_leaf (by omega) (by omega), if_pos c0, if_neg c1]
               refine jv_lv ?_ (q_X3_find hX hV t a (L ++ [(a, 2)]) _ na (by omega) (by omega) (fr_up fr) r1.leaf (by rw [List.length_append]; show ((L.length + 1 : Nat) : Int) ≤ _; omega) hT hN eZ ih)
               exact lvC rfl (lvC rfl (lvC rfl (lvC rfl (lvC rfl (lv0))))))
          · refine j_aload_n eX3_find_57 rfl ?_
            refine j_iload_n eX3_find_58 rfl ?_
            refine j_iload eX3_find_59 rfl ?_
            refine j_iconst 1 eX3_find_61 ?_
            refine j_icmp_ne eX3_find_62 (by omega) (fun h62 => ?_) (fun h62 => ?_)
            · refine j_iconst 2 eX3_find_69 ?_
              refine j_cV2 zX3_add lkX3_32 ⟨Nat.le_of_ble_eq_true rfl, Nat.le_of_ble_eq_true rfl⟩ ly37 rfl rfl (c_X3_add (by rw [f37, g4]; omega)) (Nat.le_of_ble_eq_true rfl) eX3_find_70 (k_VE ?_)
              first
              | (exfalso; omega)
              | (have c0 : ¬ 0 < VX σ a := by omega
                 rw [trB_leaf (by omega) (by omega), if_neg c0, List.append_nil]
                 refine jv_lv ?_ (q_X3_find hX hV t a L σ24 na (by omega) (by omega) fr r1 (by omega) hT hN eZ ih)
                 exact lvC rfl (lvC rfl (lvC rfl (lvC rfl (lvC rfl (lv0))))))
              | (have c0 : 0 < VX σ a := by omega
                 have c1 : VX σ a = 1 := by omega
                 rw [trB_leaf (by omega) (by omega), if_pos c0, if_pos c1]
                 refine jv_lv ?_ (q_X3_find hX hV t a (L ++ [(a, 0)]) _ na (by omega) (by omega) (fr_up fr) r1.leaf (by rw [List.length_append]; show ((L.length + 1 : Nat) : Int) ≤ _; omega) hT hN eZ ih)
                 exact lvC rfl (lvC rfl (lvC rfl (lvC rfl (lvC rfl (lv0))))))
              | (have c0 : 0 < VX σ a := by omega
                 have c1 : ¬ VX σ a = 1 := by omega
                 rw [trB_leaf (by omega) (by omega), if_pos c0, if_neg c1]
                 refine jv_lv ?_ (q_X3_find hX hV t a (L ++ [(a, 2)]) _ na (by omega) (by omega) (fr_up fr) r1.leaf (by rw [List.length_append]; show ((L.length + 1 : Nat) : Int) ≤ _; omega) hT hN eZ ih)
                 exact lvC rfl (lvC rfl (lvC rfl (lvC rfl (lvC rfl (lv0))))))
            · refine j_iconst 0 eX3_find_65 ?_
              refine j_goto eX3_find_66 ?_
              refine j_cV2 zX3_add lkX3_32 ⟨Nat.le_of_ble_eq_true rfl, Nat.le_of_ble_eq_true rfl⟩ ly37 rfl rfl (c_X3_add (by rw [f37, g4]; omega)) (Nat.le_of_ble_eq_true rfl) eX3_find_70 (k_VE ?_)
              first
              | (exfalso; omega)
              | (have c0 : ¬ 0 < VX σ a := by omega
                 rw [trB_leaf (by omega) (by omega), if_neg c0, List.append_nil]
                 refine jv_lv ?_ (q_X3_find hX hV t a L σ24 na (by omega) (by omega) fr r1 (by omega) hT hN eZ ih)
                 exact lvC rfl (lvC rfl (lvC rfl (lvC rfl (lvC rfl (lv0))))))
              | (have c0 : 0 < VX σ a := by omega
                 have c1 : VX σ a = 1 := by omega
                 rw [trB_leaf (by omega) (by omega), if_pos c0, if_pos c1]
                 refine jv_lv ?_ (q_X3_find hX hV t a (L ++ [(a, 0)]) _ na (by omega) (by omega) (fr_up fr) r1.leaf (by rw [List.length_append]; show ((L.length + 1 : Nat) : Int) ≤ _; omega) hT hN eZ ih)
                 exact lvC rfl (lvC rfl (lvC rfl (lvC rfl (lvC rfl (lv0))))))
              | (have c0 : 0 < VX σ a := by omega
                 have c1 : ¬ VX σ a = 1 := by omega
                 rw [trB_leaf (by omega) (by omega), if_pos c0, if_neg c1]
                 refine jv_lv ?_ (q_X3_find hX hV t a (L ++ [(a, 2)]) _ na (by omega) (by omega) (fr_up fr) r1.leaf (by rw [List.length_append]; show ((L.length + 1 : Nat) : Int) ≤ _; omega) hT hN eZ ih)
                 exact lvC rfl (lvC rfl (lvC rfl (lvC rfl (lvC rfl (lv0))))))
        · refine j_iconst 2 eX3_find_45 ?_
          refine j_iload_n eX3_find_46 rfl ?_
          refine j_imul eX3_find_47 ?_
          refine j_istore_n eX3_find_48 (Nat.le_of_ble_eq_true rfl) ?_
          refine j_goto eX3_find_49 ?_
          refine j_iinc eX3_find_80 rfl (Nat.le_of_ble_eq_true rfl) ?_
          refine j_goto eX3_find_83 ?_
          have eT : trB (VX σ) (ZX σ) (t + 1) a L = trB (VX σ) (ZX σ) t (2 * a) L := (if_neg (by omega)).trans (if_pos (by omega))
          rw [eT]
          have e1 : 127 - ((t + 1 : Nat) : Int) + 1 = 127 - (t : Int) := by omega
          rw [e1]
          have w2 := w.2.1 (by omega)
          have w3 := ww.2.2.1 (by omega)
          refine jv_lv ?_ (ih (2 * a) L σ24 (by omega) (Or.inr ⟨by omega, by omega, by omega, by omega⟩) h5 fr r1)
          exact lvC rfl (lvC rfl (lvC rfl (lvC rfl (lvC rfl (lv0)))))
theorem c_X3_find {g : Gl} {σ : Sg} (hX : TX σ) (hV : VT σ) : Ct g mX3_find [vr g 37, vr g 27, vr g 35] σ (PV (fun σ' => (∀ k, k ≠ 35 → k ≠ 36 → k ≠ 37 → k ≠ 38 → k ≠ 39 → σ' k = σ k) ∧ RB σ' 37 38 39 2 (trB (VX σ) (ZX σ) 127 1 []) ∧ (trB (VX σ) (ZX σ) 127 1 []).length ≤ 127)) := by
  refine Ct.of (by decide +kernel) (Nat.le_of_ble_eq_true rfl) ?_
  show jv g _ _ σ [(0, vr g 37), (1, vr g 27), (2, vr g 35)] 0 []
  refine j_aload_n eX3_find_0 rfl ?_
  refine j_iconst 0 eX3_find_1 ?_
  refine j_putI fpX3_18 ly37 rfl eX3_find_2 ?_
  refine j_iconst 1 eX3_find_5 ?_
  refine j_istore_n eX3_find_6 (Nat.le_of_ble_eq_true rfl) ?_
  refine j_iconst 0 eX3_find_7 ?_
  refine j_istore eX3_find_8 (Nat.le_of_ble_eq_true rfl) ?_
  refine jv_lv ?_ (l_X3_find hX hV 127 1 [] _ (by omega) (Or.inr ⟨by omega, by omega, by decide +kernel, by decide +kernel⟩) (by decide) (fun k k1 k2 k3 k4 k5 => up_ne k3) (RB_0 rfl))
  exact lvC rfl (lvC rfl (lvC rfl (lvC rfl (lvC rfl (lv0)))))
