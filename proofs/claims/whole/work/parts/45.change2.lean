/-! undone; images; the text read -/
theorem s_undo {g : Gl} : SI g mX11_undo mX12_undo [] := by
  intro σ I
  obtain ⟨i1, i2, i3⟩ := I.2.2.2.2.1
  have hU : 1 ≤ σ 28 1 → UE σ ((σ 28 1 - 1) * 5) := fun z => by
    rcases i3 (σ 28 1 - 1) (by omega) (by omega) with c | c | c
    · exact Or.inl ⟨c.1, c.2.1, c.2.2.1⟩
    · exact Or.inr (Or.inl ⟨c.1, c.2.1⟩)
    · exact Or.inr (Or.inr ⟨c.1, c.2.1⟩)
  refine ⟨_, c_X11_undo I.X i2 hU, fun v τ p1 => ?_⟩
  have q : ∀ c, c ≠ 2 → c ≠ 3 → c ≠ 4 → c ≠ 5 → c ≠ 28 → τ c = σ c := by
    rcases p1 with ⟨_, _, e⟩ | ⟨_, _, e⟩
    · rw [e]
      exact fun _ _ _ _ _ _ => rfl
    · intro c h2 h3 h4 h5 h28
      rw [e]
      unfold popC
      split
      · rw [up_ne h2, up_ne h28]
      · split
        · rw [up_ne h5, up_ne h4, up_ne h28]
        · rw [up_ne h3, up_ne h28]
  have q48 := q 48 (by decide) (by decide) (by decide) (by decide) (by decide)
  have q49 := q 49 (by decide) (by decide) (by decide) (by decide) (by decide)
  have q53 := q 53 (by decide) (by decide) (by decide) (by decide) (by decide)
  have b0 := I.X.1
  have b1 := I.X.2.1
  have hM : 1 ≤ τ 48 5 → (0 ≤ τ 53 (4 * (τ 48 5 - 1)) ∧ τ 53 (4 * (τ 48 5 - 1)) < 32) ∧ 0 ≤ τ 53 ((4 * (τ 48 5 - 1)) + 2) ∧ τ 53 ((4 * (τ 48 5 - 1)) + 2) < 32 := by
    rw [q48, q53, i1]
    intro z
    rcases i3 (σ 28 1 - 1) (by omega) (by omega) with c | c | c
    · have s := I.X.2.2.1 _ c.2.1.1 c.2.1.2
      omega
    · omega
    · omega
  refine ⟨_, c_X12_undo (by rw [q48, i1]; exact i2) hM, fun u ρ p2 => ?_⟩
  rw [q48] at p2
  rcases p1 with ⟨c1, ev, eτ⟩ | ⟨c1, ev, eτ⟩ <;> rcases p2 with ⟨c2, eu, eρ⟩ | ⟨c2, eu, eρ⟩ <;> first | (exfalso; omega) | (rw [eρ, eτ, eu, ev]; exact ⟨rfl, I⟩) | skip
  refine ⟨by omega, ?_⟩
  have eP : ρ = up (up (up τ 48 5 (σ 28 1 - 1)) 49 (σ 53 (4 * (σ 28 1 - 1))) (σ 53 (4 * (σ 28 1 - 1) + 1))) 49 (σ 53 (4 * (σ 28 1 - 1) + 2)) (σ 53 (4 * (σ 28 1 - 1) + 3)) := by
    rw [eρ]
    unfold popM
    rw [q48, q53, i1]
  have r : ∀ c, c ≠ 48 → c ≠ 49 → ρ c = τ c := fun c x1 x2 => by rw [eP, up_ne x2, up_ne x2, up_ne x1]
  have r48 : ρ 48 = up1 (σ 48) 5 (σ 28 1 - 1) := by rw [eP, up_ne (by decide), up_ne (by decide), up_same, q48]
  have r49 : ρ 49 = up1 (up1 (σ 49) (σ 53 (4 * (σ 28 1 - 1))) (σ 53 (4 * (σ 28 1 - 1) + 1))) (σ 53 (4 * (σ 28 1 - 1) + 2)) (σ 53 (4 * (σ 28 1 - 1) + 3)) := by rw [eP, up_same, up_same, up_ne (by decide), q49]
  have hC : τ 28 1 = σ 28 1 - 1 → ICh (ρ 28 1) (ρ 29) (ρ 48 5) (ρ 53) (σ 0) (σ 1) := by
    intro z
    rw [r 28 (by decide) (by decide), z, r48, up1_same, r 29 (by decide) (by decide), r 53 (by decide) (by decide), q53, q 29 (by decide) (by decide) (by decide) (by decide) (by decide)]
    exact ⟨rfl, by omega, fun i x y => i3 i x (by omega)⟩
  refine I.ch (fun c h0 h1 h2 h3 h4 h5 h6 h7 h8 h9 => by rw [r c h7 h8, q c h1 h2 h3 h4 h5]) (fun j hj => by rw [r48, up1_ne hj]) ?_ (hC (by rw [eτ]; exact popC_sz σ))
  rw [r49, r 2 (by decide) (by decide), r 3 (by decide) (by decide), r 4 (by decide) (by decide), r 5 (by decide) (by decide)]
  rcases i3 (σ 28 1 - 1) (by omega) (by omega) with ⟨k0, k1, k2, k3, k4, k5, k6, k7⟩ | ⟨k0, k1, k2, k3, k4, k5, k6⟩ | ⟨k0, k1, k2, k3, k4, k5, k6⟩
  · have e : τ = up (up σ 28 1 (σ 28 1 - 1)) 2 (σ 29 ((σ 28 1 - 1) * 5 + 1) * 6 + σ 29 ((σ 28 1 - 1) * 5 + 2)) (σ 29 ((σ 28 1 - 1) * 5 + 3)) := eτ.trans (if_pos k0)
    rw [k4, k5, k6, k7, up1_2, e]
    exact ITd_c I.1 k1 k2 k3
  · have e : τ = up (up (up σ 28 1 (σ 28 1 - 1)) 4 (σ 29 ((σ 28 1 - 1) * 5 + 1)) (σ 29 ((σ 28 1 - 1) * 5 + 3))) 5 (σ 29 ((σ 28 1 - 1) * 5 + 1)) (σ 29 ((σ 28 1 - 1) * 5 + 4)) := eτ.trans ((if_neg (by omega)).trans (if_pos k0))
    rw [k3, k4, k5, k6, e]
    exact ITd_b I.1 k1 k2
  · have e : τ = up (up σ 28 1 (σ 28 1 - 1)) 3 (σ 29 ((σ 28 1 - 1) * 5 + 1)) (σ 29 ((σ 28 1 - 1) * 5 + 3)) := eτ.trans ((if_neg (by omega)).trans (if_neg (by omega)))
    rw [k3, k4, k5, k6, up1_2, e]
    exact ITd_w I.1 k1 k2
theorem ITd.of {c0 c1 c2 c3 c4 c5 f d0 d1 d2 d3 d4 d5 h : Int → Int} (I : ITd c0 c1 c2 c3 c4 c5 f) (e0 : d0 0 = c0 0) (e6 : d0 1 = c0 1) (e1 : ∀ j, 0 ≤ j → j < 3 → d1 j = c1 j) (e2 : ∀ j, 0 ≤ j → j < 18 → d2 j = c2 j) (e3 : ∀ j, 0 ≤ j → j < 3 → d3 j = c3 j) (e4 : ∀ j, 0 ≤ j → j < 3 → d4 j = c4 j) (e5 : ∀ j, 0 ≤ j → j < 3 → d5 j = c5 j) (ef : ∀ j, 0 ≤ j → j < 32 → h j = f j) : ITd d0 d1 d2 d3 d4 d5 h := by
  obtain ⟨⟨x1, x2, x3, x4, x5, x6⟩, r1, r2, r3, r4, r5⟩ := I
  refine ⟨⟨by omega, by omega, fun p a b => ?_, fun p k a b c d => ?_, fun p a b => ?_, fun p a b => ?_⟩, by rw [ef 0 (by decide) (by decide), e0]; exact r1, by rw [ef 1 (by decide) (by decide), e6]; exact r2, fun p a b => ?_, fun p k a b c d => ?_, fun p a b => ?_⟩
  · rw [e1 p a (by omega)]
    exact x3 p a (by omega)
  · rw [e1 p a (by omega)] at d
    have s := x3 p a (by omega)
    rw [e2 _ (by omega) (by omega)]
    exact x4 p k a (by omega) c d
  · rw [e3 p a (by omega)]
    exact x5 p a (by omega)
  · rw [e4 p a (by omega), e5 p a (by omega)]
    exact x6 p a (by omega)
  · rw [ef _ (by omega) (by omega), ef _ (by omega) (by omega), e1 p a (by omega), e3 p a (by omega)]
    exact r3 p a (by omega)
  · rw [e1 p a (by omega)] at d
    have s := x3 p a (by omega)
    rw [ef _ (by omega) (by omega), e2 _ (by omega) (by omega)]
    exact r4 p k a (by omega) c d
  · rw [ef _ (by omega) (by omega), ef _ (by omega) (by omega), e4 p a (by omega), e5 p a (by omega)]
    exact r5 p a (by omega)
theorem Inv.im {σ ρ : Sg} (I : Inv σ) (e : ∀ c, c < 60 → (c < 6 ∨ 17 < c) → c ≠ 24 → c ≠ 51 → c ≠ 52 → ρ c = σ c) (hI : IIm (ρ 24 5) (ρ 52) (ρ 6) (ρ 7) (ρ 8) (ρ 9) (ρ 10) (ρ 11) (ρ 12) (ρ 13) (ρ 14) (ρ 15) (ρ 16) (ρ 17) (ρ 51)) : Inv ρ := by
  have e' : ∀ c, c < 60 → ((c < 6 ∨ 17 < c) ∧ c ≠ 24 ∧ c ≠ 51 ∧ c ≠ 52) → ρ c = σ c := fun c h z => e c h z.1 z.2.1 z.2.2.1 z.2.2.2
  unfold Inv at I ⊢
  rw [e' 0 (by decide) (by decide), e' 1 (by decide) (by decide), e' 2 (by decide) (by decide), e' 3 (by decide) (by decide), e' 4 (by decide) (by decide), e' 5 (by decide) (by decide), e' 49 (by decide) (by decide), e' 25 (by decide) (by decide), e' 26 (by decide) (by decide), e' 48 (by decide) (by decide), e' 56 (by decide) (by decide), e' 27 (by decide) (by decide), e' 31 (by decide) (by decide), e' 32 (by decide) (by decide), e' 33 (by decide) (by decide), e' 54 (by decide) (by decide), e' 55 (by decide) (by decide), e' 28 (by decide) (by decide), e' 29 (by decide) (by decide), e' 53 (by decide) (by decide), e' 34 (by decide) (by decide)]
  exact ⟨I.1, I.2.1, I.2.2.1, I.2.2.2.1, I.2.2.2.2.1, hI, I.2.2.2.2.2.2⟩
theorem ks {K : Int} (h : 0 ≤ K ∧ K ≤ 3) : (0 ≤ kset K 0 ∧ kset K 0 ≤ 3) ∧ (0 ≤ kset K 1 ∧ kset K 1 ≤ 3) ∧ kbit (kset K 0) 0 = 1 ∧ kbit (kset K 0) 1 = kbit K 1 ∧ kbit (kset K 1) 0 = kbit K 0 ∧ kbit (kset K 1) 1 = 1 := by
  rcases (show K = 0 ∨ K = 1 ∨ K = 2 ∨ K = 3 by omega) with rfl | rfl | rfl | rfl <;> decide
theorem s_keep {g : Gl} {a : Int} (h : -2147483648 ≤ a ∧ a ≤ 2147483647) : SI g mX11_keep mX12_keep [vi a] := by
  intro σ I
  obtain ⟨k1, k2, k3, k4, k5⟩ := I.2.2.2.2.2.1
  have kk := ks k1
  refine ⟨_, c_X11_keep h k1, fun v τ p1 => ⟨_, c_X12_keep h, fun u ρ p2 => ?_⟩⟩
  rcases p1 with ⟨c1, ev, eτ⟩ | ⟨c1, ev, τ', B, eτ⟩ | ⟨c1, ev, τ', B, eτ⟩
  · rcases p2 with ⟨c2, eu, eρ⟩ | ⟨c2, _⟩
    · rw [eρ, eτ, eu, ev]
      exact ⟨rfl, I⟩
    · exact absurd c2 c1
  · subst c1
    rcases p2 with ⟨c2, eu, eρ⟩ | ⟨_, eu, K⟩
    · exact absurd (by decide) c2
    · have t : ∀ c, (c < 6 ∨ 11 < c) → c ≠ 24 → τ c = σ c := fun c x y => by rw [eτ, up_ne y, B.1 c x]
      have s : ∀ c, c ≠ 24 → τ c = τ' c := fun c y => by rw [eτ, up_ne y]
      have r : ∀ c, c ≠ 51 → c ≠ 52 → ρ c = τ c := K.1
      refine ⟨by rw [eu, ev, t 49 (by decide) (by decide), I.e.1], I.im (fun c h0 h1 h2 h3 h4 => by rw [r c h3 h4, t c (by omega) h2]) ?_⟩
      have r24 : ρ 24 5 = kset (σ 24 5) 0 := by rw [r 24 (by decide) (by decide), eτ, up_same, up1_same]
      refine ⟨by rw [r24]; exact kk.1, by rw [r24, kk.2.2.1]; exact K.2.2.2.1, by rw [r24, kk.2.2.2.1, K.2.2.2.2 1 (by decide), t 52 (by decide) (by decide)]; exact k3, fun _ => ?_, fun z => ?_⟩
      · rw [r 6 (by decide) (by decide), r 7 (by decide) (by decide), r 8 (by decide) (by decide), r 9 (by decide) (by decide), r 10 (by decide) (by decide), r 11 (by decide) (by decide), s 6 (by decide), s 7 (by decide), s 8 (by decide), s 9 (by decide), s 10 (by decide), s 11 (by decide)]
        obtain ⟨_, b0, b1, b2, b3, b4, b5, b6⟩ := B
        refine I.1.of b0 b1 b2 b3 b4 b5 b6 (fun j x y => ?_)
        have w := K.2.1 j x y
        rw [show (32 : Int) * 0 + j = j from by omega, t 49 (by decide) (by decide)] at w
        exact w
      · rw [r24, kk.2.2.2.1] at z
        rw [r 12 (by decide) (by decide), r 13 (by decide) (by decide), r 14 (by decide) (by decide), r 15 (by decide) (by decide), r 16 (by decide) (by decide), r 17 (by decide) (by decide), t 12 (by decide) (by decide), t 13 (by decide) (by decide), t 14 (by decide) (by decide), t 15 (by decide) (by decide), t 16 (by decide) (by decide), t 17 (by decide) (by decide)]
        refine (k5 z).of rfl rfl (fun _ _ _ => rfl) (fun _ _ _ => rfl) (fun _ _ _ => rfl) (fun _ _ _ => rfl) (fun _ _ _ => rfl) (fun j x y => ?_)
        show ρ 51 (32 + j) = σ 51 (32 + j)
        rw [K.2.2.1 (32 + j) (by omega), t 51 (by decide) (by decide)]
  · subst c1
    rcases p2 with ⟨c2, eu, eρ⟩ | ⟨_, eu, K⟩
    · exact absurd (by decide) c2
    · have t : ∀ c, (c < 12 ∨ 17 < c) → c ≠ 24 → τ c = σ c := fun c x y => by rw [eτ, up_ne y, B.1 c x]
      have s : ∀ c, c ≠ 24 → τ c = τ' c := fun c y => by rw [eτ, up_ne y]
      have r : ∀ c, c ≠ 51 → c ≠ 52 → ρ c = τ c := K.1
      refine ⟨by rw [eu, ev, t 49 (by decide) (by decide), I.e.1], I.im (fun c h0 h1 h2 h3 h4 => by rw [r c h3 h4, t c (by omega) h2]) ?_⟩
      have r24 : ρ 24 5 = kset (σ 24 5) 1 := by rw [r 24 (by decide) (by decide), eτ, up_same, up1_same]
      refine ⟨by rw [r24]; exact kk.2.1, by rw [r24, kk.2.2.2.2.1, K.2.2.2.2 0 (by decide), t 52 (by decide) (by decide)]; exact k2, by rw [r24, kk.2.2.2.2.2]; exact K.2.2.2.1, fun z => ?_, fun _ => ?_⟩
      · rw [r24, kk.2.2.2.2.1] at z
        rw [r 6 (by decide) (by decide), r 7 (by decide) (by decide), r 8 (by decide) (by decide), r 9 (by decide) (by decide), r 10 (by decide) (by decide), r 11 (by decide) (by decide), t 6 (by decide) (by decide), t 7 (by decide) (by decide), t 8 (by decide) (by decide), t 9 (by decide) (by decide), t 10 (by decide) (by decide), t 11 (by decide) (by decide)]
        refine (k4 z).of rfl rfl (fun _ _ _ => rfl) (fun _ _ _ => rfl) (fun _ _ _ => rfl) (fun _ _ _ => rfl) (fun _ _ _ => rfl) (fun j x y => ?_)
        rw [K.2.2.1 j (by omega), t 51 (by decide) (by decide)]
      · rw [r 12 (by decide) (by decide), r 13 (by decide) (by decide), r 14 (by decide) (by decide), r 15 (by decide) (by decide), r 16 (by decide) (by decide), r 17 (by decide) (by decide), s 12 (by decide), s 13 (by decide), s 14 (by decide), s 15 (by decide), s 16 (by decide), s 17 (by decide)]
        obtain ⟨_, b0, b1, b2, b3, b4, b5, b6⟩ := B
        refine I.1.of b0 b1 b2 b3 b4 b5 b6 (fun j x y => ?_)
        have w := K.2.1 j x y
        rw [show (32 : Int) * 1 + j = 32 + j from by omega, t 49 (by decide) (by decide)] at w
        exact w
theorem Inv.bk {σ ρ : Sg} (I : Inv σ) (e : ∀ c, c < 60 → 5 < c → c ≠ 28 → c ≠ 48 → c ≠ 49 → ρ c = σ c) (r48 : ∀ j, j ≠ 5 → ρ 48 j = σ 48 j) (h28 : ρ 28 1 = 0) (h5 : ρ 48 5 = 0) (hT : ITd (ρ 0) (ρ 1) (ρ 2) (ρ 3) (ρ 4) (ρ 5) (ρ 49)) : Inv ρ := by
  have e' : ∀ c, c < 60 → (5 < c ∧ c ≠ 28 ∧ c ≠ 48 ∧ c ≠ 49) → ρ c = σ c := fun c h z => e c h z.1 z.2.1 z.2.2.1 z.2.2.2
  refine ⟨hT, ?_, ?_, ?_, ?_, ?_, ?_⟩
  · rw [e' 25 (by decide) (by decide), e' 26 (by decide) (by decide), r48 12 (by decide), e' 56 (by decide) (by decide)]
    exact I.2.1
  · rw [e' 27 (by decide) (by decide), r48 6 (by decide), r48 7 (by decide)]
    exact I.2.2.1
  · rw [e' 31 (by decide) (by decide), e' 32 (by decide) (by decide), e' 33 (by decide) (by decide), r48 10 (by decide), e' 54 (by decide) (by decide), e' 55 (by decide) (by decide)]
    exact I.2.2.2.1
  · rw [h28, h5]
    exact ⟨rfl, by omega, fun i x y => by omega⟩
  · rw [e' 24 (by decide) (by decide), e' 52 (by decide) (by decide), e' 6 (by decide) (by decide), e' 7 (by decide) (by decide), e' 8 (by decide) (by decide), e' 9 (by decide) (by decide), e' 10 (by decide) (by decide), e' 11 (by decide) (by decide), e' 12 (by decide) (by decide), e' 13 (by decide) (by decide), e' 14 (by decide) (by decide), e' 15 (by decide) (by decide), e' 16 (by decide) (by decide), e' 17 (by decide) (by decide), e' 51 (by decide) (by decide)]
    exact I.2.2.2.2.2.1
  · rw [e' 34 (by decide) (by decide)]
    exact I.2.2.2.2.2.2
theorem s_back {g : Gl} {a : Int} (h : -2147483648 ≤ a ∧ a ≤ 2147483647) : SI g mX11_back mX12_back [vi a] := by
  intro σ I
  obtain ⟨k1, k2, k3, k4, k5⟩ := I.2.2.2.2.2.1
  have kb0 := kbit_b (i := 0) k1
  have kb1 := kbit_b (i := 1) k1
  refine ⟨_, c_X11_back h k1, fun v τ p1 => ?_⟩
  have q : ∀ c, 5 < c → c ≠ 28 → τ c = σ c := by
    rcases p1 with ⟨_, _, e⟩ | ⟨_, _, e⟩ | ⟨_, τ', B, _, e⟩ | ⟨_, τ', B, _, e⟩
    · rw [e]; exact fun _ _ _ => rfl
    · rw [e]; exact fun _ _ _ => rfl
    · intro c x y
      rw [e, up_ne y, B.1 c (by omega)]
    · intro c x y
      rw [e, up_ne y, B.1 c (by omega)]
  have q52 := q 52 (by decide) (by decide)
  refine ⟨_, c_X12_back h (fun j x y => ?_), fun u ρ p2 => ?_⟩
  · rw [q52]
    rcases (show j = 0 ∨ j = 1 by omega) with rfl | rfl
    · rw [k2]; exact kb0
    · rw [k3]; exact kb1
  rw [q52] at p2
  have q51 := q 51 (by decide) (by decide)
  have fin : ∀ (i : Int) (d : Nat) (τ' : Sg), BkM τ ρ i → Bec σ τ' 0 d → τ = up τ' 28 1 0 → (∀ f : Int → Int, (∀ j, 0 ≤ j → j < 32 → f j = σ 51 (32 * i + j)) → ITd (τ' 0) (τ' 1) (τ' 2) (τ' 3) (τ' 4) (τ' 5) f) → Inv ρ := by
    intro i d τ' K B e hT
    have s : ∀ c, c ≠ 28 → τ c = τ' c := fun c y => by rw [e, up_ne y]
    have r : ∀ c, c ≠ 48 → c ≠ 49 → ρ c = τ c := K.1
    refine I.bk (fun c h0 h1 h2 h3 h4 => by rw [r c h3 h4, q c h1 h2]) (fun j hj => by rw [K.2.2.1 j hj, q 48 (by decide) (by decide)]) (by rw [r 28 (by decide) (by decide), e, up_same, up1_same]) K.2.2.2 ?_
    rw [r 0 (by decide) (by decide), r 1 (by decide) (by decide), r 2 (by decide) (by decide), r 3 (by decide) (by decide), r 4 (by decide) (by decide), r 5 (by decide) (by decide), s 0 (by decide), s 1 (by decide), s 2 (by decide), s 3 (by decide), s 4 (by decide), s 5 (by decide)]
    exact hT _ (fun j x y => by rw [K.2.1 j x y, q51])
  rcases p1 with ⟨c1, ev, eτ⟩ | ⟨c1, ev, eτ⟩ | ⟨c1, τ', B, ev, eτ⟩ | ⟨c1, τ', B, ev, eτ⟩
  · rcases p2 with ⟨c2, eu, eρ⟩ | ⟨c2, eu, eρ⟩ | ⟨c2, eu, K⟩
    · rw [eρ, eτ, eu, ev]
      exact ⟨rfl, I⟩
    · exact absurd c2.1 c1
    · exact absurd c2.1 c1
  · rcases p2 with ⟨c2, eu, eρ⟩ | ⟨c2, eu, eρ⟩ | ⟨c2, eu, K⟩
    · exact absurd c1.1 c2
    · rw [eρ, eτ, eu, ev]
      exact ⟨rfl, I⟩
    · exfalso
      rcases (show a = 0 ∨ a = 1 by omega) with rfl | rfl
      · rw [k2] at c2
        exact c2.2 c1.2
      · rw [k3] at c2
        exact c2.2 c1.2
  · obtain ⟨rfl, c3⟩ := c1
    rcases p2 with ⟨c2, eu, eρ⟩ | ⟨c2, eu, eρ⟩ | ⟨c2, eu, K⟩
    · exact absurd (by decide) c2
    · rw [k2] at c2
      exact absurd c2.2 c3
    · have T := k4 c3
      refine ⟨?_, fin 0 6 τ' K B eτ (fun f hf => ?_)⟩
      · rw [eu, ev, B.2.1, q51]
        exact T.2.1
      · obtain ⟨_, b0, b1, b2, b3, b4, b5, b6⟩ := B
        exact T.of b0 b1 b2 b3 b4 b5 b6 (fun j x y => by rw [hf j x y, show (32 : Int) * 0 + j = j from by omega])
  · obtain ⟨rfl, c3⟩ := c1
    rcases p2 with ⟨c2, eu, eρ⟩ | ⟨c2, eu, eρ⟩ | ⟨c2, eu, K⟩
    · exact absurd (by decide) c2
    · rw [k3] at c2
      exact absurd c2.2 c3
    · have T := k5 c3
      refine ⟨?_, fin 1 12 τ' K B eτ (fun f hf => ?_)⟩
      · rw [eu, ev, B.2.1, q51]
        exact T.2.1
      · obtain ⟨_, b0, b1, b2, b3, b4, b5, b6⟩ := B
        exact T.of b0 b1 b2 b3 b4 b5 b6 (fun j x y => by rw [hf j x y]; rfl)
/-! the text -/
theorem rdC_congr {T U : Int → Int} {len : Int} (e : ∀ i, 0 ≤ i → i < len → T i = U i) : ∀ (t : Nat) (i : Int) (S : Rst), rdC T len t i S = rdC U len t i S := by
  have el : lat T len = lat U len := by
    funext i
    unfold lat
    by_cases c : 0 ≤ i ∧ i < len
    · rw [if_pos c, if_pos c, e i c.1 c.2]
    · rw [if_neg c, if_neg c]
  have et : tokAt T len = tokAt U len := by
    funext i
    unfold tokAt ntk
    rw [el]
  intro t
  induction t with
  | zero => intro i S; rfl
  | succ t ih =>
    intro i S
    have e1 : rdC T len (t + 1) i S = (match tokAt T len i with | none => rdC T len t (i + 1) S | some q => match stp S q.1 q.2 with | none => (i, S) | some S' => rdC T len t (i + 1) S') := rfl
    have e2 : rdC U len (t + 1) i S = (match tokAt U len i with | none => rdC U len t (i + 1) S | some q => match stp S q.1 q.2 with | none => (i, S) | some S' => rdC U len t (i + 1) S') := rfl
    rw [e1, e2, et]
    cases tokAt U len i with
    | none => exact ih _ _
    | some q =>
      show (match stp S q.1 q.2 with | none => (i, S) | some S' => rdC T len t (i + 1) S') = (match stp S q.1 q.2 with | none => (i, S) | some S' => rdC U len t (i + 1) S')
      cases stp S q.1 q.2 with
      | none => rfl
      | some S' => exact ih _ _
theorem Inv.rd {σ ρ : Sg} (I : Inv σ) (e : ∀ c, (c < 18 ∨ (23 < c ∧ c < 34) ∨ (48 < c ∧ c < 57 ∧ c ≠ 50)) → ρ c = σ c) (e2 : ∀ j, j < 16 → ρ 48 j = σ 48 j) (h34 : IRd (ρ 34)) : Inv ρ := by
  unfold Inv at I ⊢
  rw [e 0 (by decide), e 1 (by decide), e 2 (by decide), e 3 (by decide), e 4 (by decide), e 5 (by decide), e 49 (by decide), e 25 (by decide), e 26 (by decide), e2 12 (by decide), e 56 (by decide), e 27 (by decide), e2 6 (by decide), e2 7 (by decide), e 31 (by decide), e 32 (by decide), e 33 (by decide), e2 10 (by decide), e 54 (by decide), e 55 (by decide), e 28 (by decide), e 29 (by decide), e2 5 (by decide), e 53 (by decide), e 24 (by decide), e 52 (by decide), e 6 (by decide), e 7 (by decide), e 8 (by decide), e 9 (by decide), e 10 (by decide), e 11 (by decide), e 12 (by decide), e 13 (by decide), e 14 (by decide), e 15 (by decide), e 16 (by decide), e 17 (by decide), e 51 (by decide)]
  exact ⟨I.1, I.2.1, I.2.2.1, I.2.2.2.1, I.2.2.2.2.1, I.2.2.2.2.2.1, h34⟩
theorem at_Z {α : Type} {L : List α} {p : Int} (h0 : 0 ≤ p) (h1 : p < L.length) : ∃ x, L[p.toNat]? = some x ∧ x ∈ L := by
  have hl : p.toNat < L.length := by omega
  exact ⟨L[p.toNat], List.getElem?_eq_getElem hl, List.getElem_mem hl⟩
theorem ITd_S {c0 c1 c2 c3 c4 c5 f : Int → Int} {ps : List (List Int)} {bs : List (Int × Int)} (h1 : c0 0 = ps.length) (h2 : c0 1 = bs.length) (h3 : ∀ (q : Nat) (l : List Int), ps[q]? = some l → c1 q = l.length ∧ c3 q = 0 ∧ ∀ (k : Nat) (x : Int), l[k]? = some x → c2 ((q : Int) * 6 + k) = x) (h4 : ∀ (i : Nat) (q : Int × Int), bs[i]? = some q → c4 i = q.1 ∧ c5 i = q.2) (hA : AD f ps bs) (w1 : ∀ l ∈ ps, 1 ≤ l.length ∧ l.length ≤ 6) (w2 : ∀ l ∈ ps, ∀ x ∈ l, -50 ≤ x ∧ x ≤ 50) (w3 : ∀ q ∈ bs, -5 ≤ q.1 ∧ q.1 < q.2 ∧ q.2 ≤ 5) : ITd c0 c1 c2 c3 c4 c5 f := by
  obtain ⟨a1, a2, a3, a4, a5, a6, a7⟩ := hA
  have P : ∀ p, 0 ≤ p → p < c0 0 → ∃ l, l ∈ ps ∧ c1 p = (l.length : Int) ∧ c3 p = 0 ∧ f (2 + p) = (l.length : Int) - 1 ∧ f (29 + p) = 0 ∧ ∀ k, 0 ≤ k → k < c1 p → ∃ x, x ∈ l ∧ c2 (p * 6 + k) = x ∧ f (5 + 6 * p + k) = x := by
    intro p x y
    obtain ⟨l, l1, l2⟩ := at_Z (L := ps) x (by omega)
    have u := h3 _ _ l1
    have v := a3 _ _ l1
    rw [show ((p.toNat : Nat) : Int) = p from by omega] at u v
    refine ⟨l, l2, u.1, u.2.1, v.1, a5 (29 + p) (by omega) (by omega), fun k z w => ?_⟩
    rw [u.1] at w
    obtain ⟨m, m1, m2⟩ := at_Z (L := l) z w
    have uu := u.2.2 _ _ m1
    have vv := v.2 _ _ m1
    rw [show ((k.toNat : Nat) : Int) = k from by omega] at uu vv
    exact ⟨m, m2, uu, vv⟩
  have B : ∀ p, 0 ≤ p → p < c0 1 → ∃ q, q ∈ bs ∧ c4 p = q.1 ∧ c5 p = q.2 ∧ f (23 + p) = q.1 ∧ f (26 + p) = q.2 := by
    intro p x y
    obtain ⟨l, l1, l2⟩ := at_Z (L := bs) x (by omega)
    have u := h4 _ _ l1
    have v := a4 _ _ l1
    rw [show ((p.toNat : Nat) : Int) = p from by omega] at u v
    exact ⟨l, l2, u.1, u.2, v.1, v.2⟩
  refine ⟨⟨by omega, by omega, fun p x y => ?_, fun p k x y z w => ?_, fun p x y => ?_, fun p x y => ?_⟩, by omega, by omega, fun p x y => ?_, fun p k x y z w => ?_, fun p x y => ?_⟩
  · obtain ⟨l, l1, l2, _⟩ := P p x y
    have := w1 l l1
    omega
  · obtain ⟨l, l1, l2, _, _, _, l3⟩ := P p x y
    obtain ⟨m, m1, m2, _⟩ := l3 k z w
    rw [m2]
    exact w2 l l1 m m1
  · obtain ⟨l, l1, l2, l3, _⟩ := P p x y
    omega
  · obtain ⟨q, q1, q2, q3, _⟩ := B p x y
    rw [q2, q3]
    exact w3 q q1
  · obtain ⟨l, l1, l2, l3, l4, l5, _⟩ := P p x y
    omega
  · obtain ⟨l, l1, l2, _, _, _, l3⟩ := P p x y
    obtain ⟨m, m1, m2, m3⟩ := l3 k z w
    rw [m2, m3]
  · obtain ⟨q, q1, q2, q3, q4, q5⟩ := B p x y
    rw [q2, q3, q4, q5]
    exact ⟨rfl, rfl⟩
theorem s_house {g : Gl} : SI g mX11_house mX12_house [] := by
  intro σ I
  obtain ⟨t1, t2, t3⟩ := I.2.1
  refine ⟨_, c_X11_house I.2.2.2.2.2.2 t2 (fun j x y => (t3 j x y).2), fun v τ p1 => ?_⟩
  have q : ∀ c, 34 < c → τ c = σ c := by
    rcases p1 with ⟨_, _, e, _⟩ | ⟨_, _, e, _⟩
    · exact fun c h => e c (by omega) (by omega)
    · exact e.2.2.2.2.2.2.2.2
  have q48 := q 48 (by decide)
  have q56 := q 56 (by decide)
  refine ⟨_, c_X12_house (by rw [q48, t1]; exact t2) (fun i x y => ?_), fun u ρ p2 => ?_⟩
  · rw [q48, t1] at y
    rw [q56, (t3 i x y).1]
    exact (t3 i x y).2
  rw [q48, q56, t1, rdC_congr (fun i x y => (t3 i x y).1)] at p2
  generalize rdC (σ 26) (σ 25 1) (σ 25 1).toNat 0 (0, [], false, [], []) = G at p1 p2
  rcases p1 with ⟨c1, ev, f1, h34⟩ | ⟨c1, ev, X, W⟩
  · rcases p2 with ⟨c2, eu, f2⟩ | ⟨c2, _⟩
    · refine ⟨by rw [eu, ev], I.rd (fun c hc => ?_) (fun j hj => ?_) ?_⟩
      · rw [f2.1 c (by omega) (by omega) (by omega) (by omega) (by omega), f1 c (by omega) (by omega)]
      · rw [f2.2 j (by omega) (by omega) (by omega), q48]
      · rw [f2.1 34 (by decide) (by decide) (by decide) (by decide) (by decide)]
        exact h34
    · exact absurd c2 c1
  · rcases p2 with ⟨c2, _⟩ | ⟨c2, eu, M⟩
    · exact absurd c1 c2
    · refine ⟨by rw [eu, ev], ?_⟩
      obtain ⟨⟨x1, x2, x3, x4⟩, x5, x6, x7, x8, x9, x10, x11, x12⟩ := X
      obtain ⟨m1, m2, m3, m4, m5, m6, m7, m8, m9⟩ := M
      obtain ⟨_, _, _, _, _, _, w7, w8, _, w10⟩ := W
      have sP : ∀ l ∈ G.2.2.2.2.1, l ∈ aP G.2 := by
        intro l hl
        unfold aP
        split
        · exact List.mem_append.mpr (Or.inl hl)
        · exact hl
      have sB : ∀ l ∈ G.2.2.2.2.2, l ∈ aB G.2 := by
        intro l hl
        unfold aB
        split
        · exact List.mem_append.mpr (Or.inl hl)
        · exact hl
      refine ⟨?_, ?_, ?_, ?_, ?_, ?_, ?_⟩
      · rw [m9 0 (by decide), m9 1 (by decide), m9 2 (by decide), m9 3 (by decide), m9 4 (by decide), m9 5 (by decide)]
        exact ITd_S x1 x2 x3 x4 m1 w7 (fun l hl => w8 l (sP l hl)) (fun l hl => w10 l (sB l hl))
      · rw [m9 25 (by decide), x5, m2]
        exact ⟨rfl, by omega, fun i x y => by omega⟩
      · rw [m9 27 (by decide), x6, x7, m4, m5]
        exact ⟨rfl, rfl, by omega, by omega⟩
      · rw [m9 31 (by decide), x10, m6]
        exact ⟨rfl, by omega, fun i x y => by omega⟩
      · rw [m9 28 (by decide), x8, m3]
        exact ⟨rfl, by omega, fun i x y => by omega⟩
      · rw [m9 24 (by decide), x9]
        exact ⟨by omega, m7, m8, fun z => absurd rfl z, fun z => absurd rfl z⟩
      · rw [m9 34 (by decide)]
        exact x11
