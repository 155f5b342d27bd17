/-! calls that change what lasts -/
theorem up1_2 (f : Int → Int) (j v w : Int) : up1 (up1 f j v) j w = up1 f j w := by
  funext i
  by_cases c : i = j
  · rw [c, up1_same, up1_same]
  · rw [up1_ne c, up1_ne c, up1_ne c]
theorem ITx_push {n a n2 : Int} {T T2 : Int → Int} (h : ITx n T n2 T2) (hn : n < 120) (ha : 0 ≤ a ∧ a ≤ 255) : ITx (n + 1) (up1 T n a) (n2 + 1) (up1 T2 n2 a) := by
  obtain ⟨h1, h2, h3⟩ := h
  subst h1
  refine ⟨rfl, by omega, fun i x y => ?_⟩
  by_cases c : i = n2
  · rw [c, up1_same, up1_same]
    exact ⟨rfl, ha⟩
  · rw [up1_ne c, up1_ne c]
    exact h3 i x (by omega)
theorem s_type {g : Gl} {a : Int} (h : -2147483648 ≤ a ∧ a ≤ 2147483647) : SI g mX11_type mX12_type [vi a] := by
  intro σ I
  refine ⟨_, c_X11_type h I.2.1.2.1, fun v τ p1 => ?_⟩
  have q : ∀ k, 47 < k → τ k = σ k := by
    rcases p1 with ⟨_, _, e⟩ | ⟨_, _, e⟩ | ⟨_, _, e⟩
    · rw [e]; exact fun _ _ => rfl
    · rw [e]; exact fun _ _ => rfl
    · intro k hk
      rw [e, up_ne (by omega), up_ne (by omega)]
  have t1 := I.2.1.1
  have t2 := I.2.1.2.1
  refine ⟨_, c_X12_type h (by rw [q 48 (by decide), t1]; exact t2), fun u ρ p2 => ?_⟩
  rw [q 48 (by decide)] at p2
  rcases p1 with ⟨c1, ev, eτ⟩ | ⟨c1, ev, eτ⟩ | ⟨c1, ev, eτ⟩ <;> rcases p2 with ⟨c2, eu, eρ⟩ | ⟨c2, eu, eρ⟩ | ⟨c2, eu, eρ⟩ <;> first | (exfalso; omega) | (rw [eρ, eτ, eu, ev]; exact ⟨rfl, I⟩) | skip
  refine ⟨by omega, ?_⟩
  rw [eρ, eτ]
  exact ⟨I.1, ITx_push I.2.1 c1.2 c1.1, I.2.2⟩
theorem s_clear {g : Gl} : SI g mX11_clear mX12_clear [] := by
  intro σ I
  refine ⟨_, c_X11_clear, fun v τ p1 => ?_⟩
  obtain ⟨ev, eτ⟩ := p1
  refine ⟨_, c_X12_clear, fun u ρ p2 => ?_⟩
  obtain ⟨eu, eρ⟩ := p2
  have t1 := I.2.1.1
  rw [eτ] at eu
  have eu : u = σ 48 12 := eu
  refine ⟨by omega, ?_⟩
  rw [eρ, eτ]
  exact ⟨I.1, (show ITx 0 (σ 26) 0 (σ 56) from ⟨rfl, by omega, fun i x y => by omega⟩), I.2.2⟩
theorem s_takes {g : Gl} {p b : Int} (h : -2147483648 ≤ p ∧ p ≤ 2147483647 ∧ -2147483648 ≤ b ∧ b ≤ 2147483647) : SI g mX11_takes mX12_takes [vi p, vi b] := by
  intro σ I
  refine ⟨_, c_X11_takes h I.X, fun v τ p1 => ?_⟩
  have q : ∀ k, 47 < k → τ k = σ k := by
    rcases p1 with ⟨_, _, e⟩ | ⟨_, _, e⟩
    · intro k hk
      rw [e, up_ne (by omega), up_ne (by omega)]
    · rw [e]; exact fun _ _ => rfl
  refine ⟨_, c_X12_takes h (I.M.mono (q 49 (by decide))), fun u ρ p2 => ?_⟩
  rw [q 49 (by decide)] at p2
  have e0 := I.e.1
  have e1 := I.e.2.1
  have b0 := I.X.1
  have b1 := I.X.2.1
  rcases p1 with ⟨c1, ev, eτ⟩ | ⟨c1, ev, eτ⟩ <;> rcases p2 with ⟨c2, eu, eρ⟩ | ⟨c2, eu, eρ⟩ <;> first | (exfalso; omega) | (rw [eρ, eτ, eu, ev]; exact ⟨rfl, I⟩) | skip
  refine ⟨by omega, ?_⟩
  rw [eρ, eτ]
  exact ⟨I.1, I.2.1, (show ITk p b p b from ⟨rfl, rfl, by omega, by omega⟩), I.2.2.2⟩
theorem s_sees {g : Gl} {x y : Int} (h : -2147483648 ≤ x ∧ x ≤ 2147483647 ∧ -2147483648 ≤ y ∧ y ≤ 2147483647) : SI g mX11_sees mX12_sees [vi x, vi y] := by
  intro σ I
  obtain ⟨s1, s2, s3⟩ := I.2.2.2.1
  refine ⟨_, c_X11_sees h s2, fun v τ p1 => ?_⟩
  have q : ∀ k, 47 < k → τ k = σ k := by
    rcases p1 with ⟨_, _, e⟩ | ⟨_, _, e⟩ | ⟨_, _, e⟩
    · rw [e]; exact fun _ _ => rfl
    · rw [e]; exact fun _ _ => rfl
    · intro k hk
      rw [e, up_ne (by omega), up_ne (by omega), up_ne (by omega)]
  refine ⟨_, c_X12_sees h (by rw [q 48 (by decide), s1]; exact s2), fun u ρ p2 => ?_⟩
  rw [q 48 (by decide)] at p2
  rcases p1 with ⟨c1, ev, eτ⟩ | ⟨c1, ev, eτ⟩ | ⟨c1, ev, eτ⟩ <;> rcases p2 with ⟨c2, eu, eρ⟩ | ⟨c2, eu, eρ⟩ | ⟨c2, eu, eρ⟩ <;> first | (exfalso; omega) | (rw [eρ, eτ, eu, ev]; exact ⟨rfl, I⟩) | skip
  refine ⟨by omega, ?_⟩
  rw [eρ, eτ]
  have hs : ISe (σ 31 2 + 1) (up1 (σ 32) (σ 31 2) x) (up1 (σ 33) (σ 31 2) y) (σ 48 10 + 1) (up1 (σ 54) (σ 48 10) x) (up1 (σ 55) (σ 48 10) y) := by
    refine ⟨by omega, by omega, fun k a b => ?_⟩
    rw [s1]
    by_cases c : k = σ 31 2
    · rw [c, up1_same, up1_same, up1_same, up1_same]
      exact ⟨rfl, rfl, c1.1.1, c1.1.2⟩
    · rw [up1_ne c, up1_ne c, up1_ne c, up1_ne c]
      exact s3 k a (by omega)
  exact ⟨I.1, I.2.1, I.2.2.1, hs, I.2.2.2.2⟩
theorem s_forget {g : Gl} : SI g mX11_forget mX12_forget [] := by
  intro σ I
  refine ⟨_, c_X11_forget, fun v τ p1 => ?_⟩
  obtain ⟨ev, eτ⟩ := p1
  refine ⟨_, c_X12_forget, fun u ρ p2 => ?_⟩
  obtain ⟨eu, eρ⟩ := p2
  have t1 := I.2.2.2.1.1
  rw [eτ] at eu
  have eu : u = σ 48 10 := eu
  refine ⟨by omega, ?_⟩
  rw [eρ, eτ]
  exact ⟨I.1, I.2.1, I.2.2.1, (show ISe 0 (σ 32) (σ 33) 0 (σ 54) (σ 55) from ⟨rfl, by omega, fun i x y => by omega⟩), I.2.2.2.2⟩
/-! what is told, changed -/
theorem ITd_c {c0 c1 c2 c3 c4 c5 f : Int → Int} {p k x : Int} (h : ITd c0 c1 c2 c3 c4 c5 f) (hp : 0 ≤ p ∧ p < c0 0) (hk : 0 ≤ k ∧ k < c1 p) (hx : -50 ≤ x ∧ x ≤ 50) : ITd c0 c1 (up1 c2 (p * 6 + k) x) c3 c4 c5 (up1 f (5 + 6 * p + k) x) := by
  obtain ⟨⟨x1, x2, x3, x4, x5, x6⟩, r1, r2, r3, r4, r5⟩ := h
  have sp := x3 p hp.1 hp.2
  refine ⟨⟨x1, x2, x3, fun q j a b c d => ?_, x5, x6⟩, by rw [up1_ne (by omega)]; exact r1, by rw [up1_ne (by omega)]; exact r2, fun q a b => ?_, fun q j a b c d => ?_, fun q a b => ?_⟩
  · by_cases z : q * 6 + j = p * 6 + k
    · rw [z, up1_same]
      exact hx
    · rw [up1_ne z]
      exact x4 q j a b c d
  · rw [up1_ne (by omega), up1_ne (by omega)]
    exact r3 q a b
  · have sq := x3 q a b
    by_cases z : q * 6 + j = p * 6 + k
    · rw [z, up1_same, show 5 + 6 * q + j = 5 + 6 * p + k from by omega, up1_same]
    · rw [up1_ne z, up1_ne (by omega)]
      exact r4 q j a b c d
  · rw [up1_ne (by omega), up1_ne (by omega)]
    exact r5 q a b
theorem ITd_b {c0 c1 c2 c3 c4 c5 f : Int → Int} {b x y : Int} (h : ITd c0 c1 c2 c3 c4 c5 f) (hb : 0 ≤ b ∧ b < c0 1) (hx : -5 ≤ x ∧ x < y ∧ y ≤ 5) : ITd c0 c1 c2 c3 (up1 c4 b x) (up1 c5 b y) (up1 (up1 f (23 + b) x) (26 + b) y) := by
  obtain ⟨⟨x1, x2, x3, x4, x5, x6⟩, r1, r2, r3, r4, r5⟩ := h
  refine ⟨⟨x1, x2, x3, x4, x5, fun q a d => ?_⟩, by rw [up1_ne (by omega), up1_ne (by omega)]; exact r1, by rw [up1_ne (by omega), up1_ne (by omega)]; exact r2, fun q a d => ?_, fun q j a d c e => ?_, fun q a d => ?_⟩
  · by_cases z : q = b
    · rw [z, up1_same, up1_same]
      exact hx
    · rw [up1_ne z, up1_ne z]
      exact x6 q a d
  · rw [up1_ne (by omega), up1_ne (by omega), up1_ne (by omega), up1_ne (by omega)]
    exact r3 q a d
  · have sq := x3 q a d
    rw [up1_ne (by omega), up1_ne (by omega)]
    exact r4 q j a d c e
  · by_cases z : q = b
    · rw [z, up1_ne (i := 23 + b) (by omega), up1_same, up1_same, up1_same, up1_same]
      exact ⟨rfl, rfl⟩
    · rw [up1_ne (by omega), up1_ne (by omega), up1_ne (by omega), up1_ne (by omega), up1_ne (by omega), up1_ne (by omega)]
      exact r5 q a d
theorem ITd_w {c0 c1 c2 c3 c4 c5 f : Int → Int} {p x : Int} (h : ITd c0 c1 c2 c3 c4 c5 f) (hp : 0 ≤ p ∧ p < c0 0) (hx : -1 ≤ x ∧ x ≤ 1) : ITd c0 c1 c2 (up1 c3 p x) c4 c5 (up1 f (29 + p) x) := by
  obtain ⟨⟨x1, x2, x3, x4, x5, x6⟩, r1, r2, r3, r4, r5⟩ := h
  refine ⟨⟨x1, x2, x3, x4, fun q a d => ?_, x6⟩, by rw [up1_ne (by omega)]; exact r1, by rw [up1_ne (by omega)]; exact r2, fun q a d => ?_, fun q j a d c e => ?_, fun q a d => ?_⟩
  · by_cases z : q = p
    · rw [z, up1_same]
      exact hx
    · rw [up1_ne z]
      exact x5 q a d
  · rw [up1_ne (i := 2 + q) (by omega)]
    by_cases z : q = p
    · rw [z, up1_same, up1_same]
      exact ⟨(r3 p hp.1 hp.2).1, rfl⟩
    · rw [up1_ne (by omega), up1_ne z]
      exact r3 q a d
  · have sq := x3 q a d
    rw [up1_ne (by omega)]
    exact r4 q j a d c e
  · rw [up1_ne (by omega), up1_ne (by omega)]
    exact r5 q a d
theorem Inv.ch {σ ρ : Sg} (I : Inv σ) (rc : ∀ c, c < 60 → c ≠ 2 → c ≠ 3 → c ≠ 4 → c ≠ 5 → c ≠ 28 → c ≠ 29 → c ≠ 48 → c ≠ 49 → c ≠ 53 → ρ c = σ c) (r48 : ∀ j, j ≠ 5 → ρ 48 j = σ 48 j) (hT : ITd (σ 0) (σ 1) (ρ 2) (ρ 3) (ρ 4) (ρ 5) (ρ 49)) (hC : ICh (ρ 28 1) (ρ 29) (ρ 48 5) (ρ 53) (σ 0) (σ 1)) : Inv ρ := by
  have e : ∀ c, c < 60 → (c ≠ 2 ∧ c ≠ 3 ∧ c ≠ 4 ∧ c ≠ 5 ∧ c ≠ 28 ∧ c ≠ 29 ∧ c ≠ 48 ∧ c ≠ 49 ∧ c ≠ 53) → ρ c = σ c := fun c h z => rc c h z.1 z.2.1 z.2.2.1 z.2.2.2.1 z.2.2.2.2.1 z.2.2.2.2.2.1 z.2.2.2.2.2.2.1 z.2.2.2.2.2.2.2.1 z.2.2.2.2.2.2.2.2
  unfold Inv at I ⊢
  rw [e 0 (by decide) (by decide), e 1 (by decide) (by decide), e 25 (by decide) (by decide), e 26 (by decide) (by decide), r48 12 (by decide), e 56 (by decide) (by decide), e 27 (by decide) (by decide), r48 6 (by decide), r48 7 (by decide), e 31 (by decide) (by decide), e 32 (by decide) (by decide), e 33 (by decide) (by decide), r48 10 (by decide), e 54 (by decide) (by decide), e 55 (by decide) (by decide), e 24 (by decide) (by decide), e 52 (by decide) (by decide), e 6 (by decide) (by decide), e 7 (by decide) (by decide), e 8 (by decide) (by decide), e 9 (by decide) (by decide), e 10 (by decide) (by decide), e 11 (by decide) (by decide), e 12 (by decide) (by decide), e 13 (by decide) (by decide), e 14 (by decide) (by decide), e 15 (by decide) (by decide), e 16 (by decide) (by decide), e 17 (by decide) (by decide), e 51 (by decide) (by decide), e 34 (by decide) (by decide)]
  exact ⟨hT, I.2.1, I.2.2.1, I.2.2.2.1, hC, I.2.2.2.2.2⟩
theorem CEn_sh {R P R' P' c0 c1 : Int → Int} {i i' : Int} (hR : ∀ j, 0 ≤ j → j < 5 → R' (i' * 5 + j) = R (i * 5 + j)) (hP : ∀ j, 0 ≤ j → j < 4 → P' (4 * i' + j) = P (4 * i + j)) (h : CEn R P c0 c1 i) : CEn R' P' c0 c1 i' := by
  have a0 := hR 0 (by decide) (by decide)
  have a1 := hR 1 (by decide) (by decide)
  have a2 := hR 2 (by decide) (by decide)
  have a3 := hR 3 (by decide) (by decide)
  have a4 := hR 4 (by decide) (by decide)
  have b0 := hP 0 (by decide) (by decide)
  have b1 := hP 1 (by decide) (by decide)
  have b2 := hP 2 (by decide) (by decide)
  have b3 := hP 3 (by decide) (by decide)
  rw [Int.add_zero, Int.add_zero] at a0 b0
  unfold CEn at h ⊢
  rw [a0, a1, a2, a3, a4, b0, b1, b2, b3]
  exact h
theorem ICh_push {n n2 m s : Int} {R P R' P' c0 c1 : Int → Int} (h : ICh n R n2 P c0 c1) (hm : 0 ≤ m ∧ m ≤ 9) (hs : (n < 10 ∧ s = 0 ∧ m = n) ∨ (n = 10 ∧ s = 1 ∧ m = 9)) (hR : ∀ i, 0 ≤ i → i < m → ∀ j, 0 ≤ j → j < 5 → R' (i * 5 + j) = R ((i + s) * 5 + j)) (hP : ∀ i, 0 ≤ i → i < m → ∀ j, 0 ≤ j → j < 4 → P' (4 * i + j) = P (4 * (i + s) + j)) (hN : CEn R' P' c0 c1 m) : ICh (m + 1) R' (m + 1) P' c0 c1 := by
  refine ⟨rfl, by omega, fun i x y => ?_⟩
  by_cases c : i = m
  · rw [c]
    exact hN
  · exact CEn_sh (hR i x (by omega)) (hP i x (by omega)) (h.2.2 (i + s) (by omega) (by omega))
theorem pushC_f {σ : Sg} {kd wh k o o2 : Int} (hn : 0 ≤ σ 28 1 ∧ σ 28 1 ≤ 10) : (∀ c, c ≠ 28 → c ≠ 29 → pushC σ kd wh k o o2 c = σ c) ∧ ∃ m s : Int, pushC σ kd wh k o o2 28 1 = m + 1 ∧ (0 ≤ m ∧ m ≤ 9) ∧ ((σ 28 1 < 10 ∧ s = 0 ∧ m = σ 28 1) ∨ (σ 28 1 = 10 ∧ s = 1 ∧ m = 9)) ∧ (pushC σ kd wh k o o2 29 (m * 5) = kd ∧ pushC σ kd wh k o o2 29 (m * 5 + 1) = wh ∧ pushC σ kd wh k o o2 29 (m * 5 + 2) = k ∧ pushC σ kd wh k o o2 29 (m * 5 + 3) = o ∧ pushC σ kd wh k o o2 29 (m * 5 + 4) = o2) ∧ ∀ i, 0 ≤ i → i < m → ∀ j, 0 ≤ j → j < 5 → pushC σ kd wh k o o2 29 (i * 5 + j) = σ 29 ((i + s) * 5 + j) := by
  by_cases c : σ 28 1 < 10
  · have e : pushC σ kd wh k o o2 = push5 σ kd wh k o o2 := if_pos c
    have e2 : push5 σ kd wh k o o2 29 = up1 (up1 (up1 (up1 (up1 (σ 29) (σ 28 1 * 5) kd) (σ 28 1 * 5 + 1) wh) (σ 28 1 * 5 + 2) k) (σ 28 1 * 5 + 3) o) (σ 28 1 * 5 + 4) o2 := rfl
    rw [e, e2]
    refine ⟨fun d h1 h2 => ?_, σ 28 1, 0, rfl, by omega, Or.inl ⟨c, rfl, rfl⟩, ⟨?_, ?_, ?_, ?_, ?_⟩, fun i x y j a b => ?_⟩
    · unfold push5
      rw [up_ne h1, up_ne h2, up_ne h2, up_ne h2, up_ne h2, up_ne h2]
    · rw [up1_ne (by omega), up1_ne (by omega), up1_ne (by omega), up1_ne (by omega), up1_same]
    · rw [up1_ne (by omega), up1_ne (by omega), up1_ne (by omega), up1_same]
    · rw [up1_ne (by omega), up1_ne (by omega), up1_same]
    · rw [up1_ne (by omega), up1_same]
    · rw [up1_same]
    · rw [up1_ne (by omega), up1_ne (by omega), up1_ne (by omega), up1_ne (by omega), up1_ne (by omega), Int.add_zero]
  · have e : pushC σ kd wh k o o2 = push5 (cpy (up σ 28 1 9) 29 5 29 0 45) kd wh k o o2 := if_neg c
    have e2 : push5 (cpy (up σ 28 1 9) 29 5 29 0 45) kd wh k o o2 29 = up1 (up1 (up1 (up1 (up1 (cp1 (σ 29) (σ 29) 5 0 45) (9 * 5) kd) (9 * 5 + 1) wh) (9 * 5 + 2) k) (9 * 5 + 3) o) (9 * 5 + 4) o2 := rfl
    rw [e, e2]
    refine ⟨fun d h1 h2 => ?_, 9, 1, rfl, by omega, Or.inr ⟨by omega, rfl, rfl⟩, ⟨?_, ?_, ?_, ?_, ?_⟩, fun i x y j a b => ?_⟩
    · unfold push5
      rw [up_ne h1, up_ne h2, up_ne h2, up_ne h2, up_ne h2, up_ne h2]
      unfold cpy
      rw [if_neg h2, up_ne h1]
    · rw [up1_ne (by omega), up1_ne (by omega), up1_ne (by omega), up1_ne (by omega), up1_same]
    · rw [up1_ne (by omega), up1_ne (by omega), up1_ne (by omega), up1_same]
    · rw [up1_ne (by omega), up1_ne (by omega), up1_same]
    · rw [up1_ne (by omega), up1_same]
    · rw [up1_same]
    · rw [up1_ne (by omega), up1_ne (by omega), up1_ne (by omega), up1_ne (by omega), up1_ne (by omega)]
      unfold cp1
      rw [if_pos (by omega), show (5 : Int) + (i * 5 + j - 0) = (i + 1) * 5 + j from by omega]
theorem knw_f {σ : Sg} {a b : Int} (hn : 0 ≤ σ 48 5 ∧ σ 48 5 ≤ 10) : (∀ c, c ≠ 48 → c ≠ 53 → knw σ a b c = σ c) ∧ (∀ j, j ≠ 5 → knw σ a b 48 j = σ 48 j) ∧ ∃ m s : Int, knw σ a b 48 5 = m + 1 ∧ (0 ≤ m ∧ m ≤ 9) ∧ ((σ 48 5 < 10 ∧ s = 0 ∧ m = σ 48 5) ∨ (σ 48 5 = 10 ∧ s = 1 ∧ m = 9)) ∧ (knw σ a b 53 (4 * m) = a ∧ knw σ a b 53 (4 * m + 1) = σ 49 a ∧ knw σ a b 53 (4 * m + 2) = b ∧ knw σ a b 53 (4 * m + 3) = σ 49 b) ∧ ∀ i, 0 ≤ i → i < m → ∀ j, 0 ≤ j → j < 4 → knw σ a b 53 (4 * i + j) = σ 53 (4 * (i + s) + j) := by
  by_cases c : σ 48 5 = 10
  · have e : knw σ a b = push4 (up (setc σ 53 (shf (σ 53) 36)) 48 5 9) a b := if_pos c
    have e2 : push4 (up (setc σ 53 (shf (σ 53) 36)) 48 5 9) a b 53 = up1 (up1 (up1 (up1 (shf (σ 53) 36) (4 * 9) a) (4 * 9 + 1) (σ 49 a)) (4 * 9 + 2) b) (4 * 9 + 3) (σ 49 b) := rfl
    have e3 : push4 (up (setc σ 53 (shf (σ 53) 36)) 48 5 9) a b 48 = up1 (up1 (σ 48) 5 9) 5 (9 + 1) := rfl
    rw [e, e2, e3]
    refine ⟨fun d h1 h2 => ?_, fun j hj => by rw [up1_ne hj, up1_ne hj], 9, 1, up1_same _ _ _, by omega, Or.inr ⟨c, rfl, rfl⟩, ⟨?_, ?_, ?_, ?_⟩, fun i x y j z w => ?_⟩
    · unfold push4
      rw [up_ne h1, up_ne h2, up_ne h2, up_ne h2, up_ne h2, up_ne h1, setc_ne h2]
    · rw [up1_ne (by omega), up1_ne (by omega), up1_ne (by omega), up1_same]
    · rw [up1_ne (by omega), up1_ne (by omega), up1_same]
    · rw [up1_ne (by omega), up1_same]
    · rw [up1_same]
    · rw [up1_ne (by omega), up1_ne (by omega), up1_ne (by omega), up1_ne (by omega)]
      unfold shf
      rw [if_pos (by omega), show 4 * i + j + 4 = 4 * (i + 1) + j from by omega]
  · have e : knw σ a b = push4 σ a b := if_neg c
    have e2 : push4 σ a b 53 = up1 (up1 (up1 (up1 (σ 53) (4 * σ 48 5) a) (4 * σ 48 5 + 1) (σ 49 a)) (4 * σ 48 5 + 2) b) (4 * σ 48 5 + 3) (σ 49 b) := rfl
    have e3 : push4 σ a b 48 = up1 (σ 48) 5 (σ 48 5 + 1) := rfl
    rw [e, e2, e3]
    refine ⟨fun d h1 h2 => ?_, fun j hj => by rw [up1_ne hj], σ 48 5, 0, up1_same _ _ _, by omega, Or.inl ⟨by omega, rfl, rfl⟩, ⟨?_, ?_, ?_, ?_⟩, fun i x y j z w => ?_⟩
    · unfold push4
      rw [up_ne h1, up_ne h2, up_ne h2, up_ne h2, up_ne h2]
    · rw [up1_ne (by omega), up1_ne (by omega), up1_ne (by omega), up1_same]
    · rw [up1_ne (by omega), up1_ne (by omega), up1_same]
    · rw [up1_ne (by omega), up1_same]
    · rw [up1_same]
    · rw [up1_ne (by omega), up1_ne (by omega), up1_ne (by omega), up1_ne (by omega), Int.add_zero]
/-- one more change that can be undone -/
theorem two_push {σ A B τ : Sg} {kd wh k o o2 a b : Int} (I : Inv σ) (eA : A = pushC σ kd wh k o o2) (h5 : τ 48 5 = σ 48 5) (h53 : τ 53 = σ 53) (eB : B = knw τ a b) (hN : ∀ m, (0 ≤ m ∧ m ≤ 9) → (A 29 (m * 5) = kd ∧ A 29 (m * 5 + 1) = wh ∧ A 29 (m * 5 + 2) = k ∧ A 29 (m * 5 + 3) = o ∧ A 29 (m * 5 + 4) = o2) → (B 53 (4 * m) = a ∧ B 53 (4 * m + 1) = τ 49 a ∧ B 53 (4 * m + 2) = b ∧ B 53 (4 * m + 3) = τ 49 b) → CEn (A 29) (B 53) (σ 0) (σ 1) m) : ICh (A 28 1) (A 29) (B 48 5) (B 53) (σ 0) (σ 1) := by
  obtain ⟨i1, i2, i3⟩ := I.2.2.2.2.1
  obtain ⟨_, m1, s1, a1, a2, a3, a4, a5⟩ := pushC_f (σ := σ) (kd := kd) (wh := wh) (k := k) (o := o) (o2 := o2) i2
  obtain ⟨_, _, m2, s2, b1, b2, b3, b4, b5⟩ := knw_f (σ := τ) (a := a) (b := b) (by rw [h5, i1]; exact i2)
  rw [← eA] at a1 a4 a5
  rw [← eB] at b1 b4 b5
  rw [h5] at b3
  have em : m2 = m1 := by omega
  have es : s2 = s1 := by omega
  subst em es
  rw [a1, b1]
  exact ICh_push I.2.2.2.2.1 a2 a3 a5 (fun i x y j z w => by rw [b5 i x y j z w, h53]) (hN m2 a2 a4 b4)
theorem s_coefs {g : Gl} {p k x : Int} (h : -2147483648 ≤ p ∧ p ≤ 2147483647 ∧ -2147483648 ≤ k ∧ k ≤ 2147483647 ∧ -2147483648 ≤ x ∧ x ≤ 2147483647) : SI g mX11_coefs mX12_coefs [vi p, vi k, vi x] := by
  intro σ I
  have hn := I.2.2.2.2.1.2.1
  refine ⟨_, c_X11_coefs h I.X hn, fun v τ p1 => ?_⟩
  have q : ∀ c, 47 < c → τ c = σ c := by
    rcases p1 with ⟨_, _, e⟩ | ⟨_, _, e⟩ | ⟨_, _, e⟩
    · rw [e]; exact fun _ _ => rfl
    · rw [e]; exact fun _ _ => rfl
    · intro c hc
      rw [e, up_ne (by omega), (pushC_f hn).1 c (by omega) (by omega)]
  have q48 := q 48 (by decide)
  have q49 := q 49 (by decide)
  refine ⟨_, c_X12_coefs h (I.M.mono q49) (by rw [q48, I.2.2.2.2.1.1]; exact hn), fun u ρ p2 => ?_⟩
  rw [q49] at p2
  have e0 := I.e.1
  by_cases C : (0 ≤ p ∧ p < σ 0 0) ∧ 0 ≤ k ∧ k < σ 1 p
  · have w := (I.1.2.2.2.1 p C.1.1 C.1.2).1
    have z := I.1.2.2.2.2.1 p k C.1.1 C.1.2 C.2.1 C.2.2
    rw [z, w] at p2
    rcases p1 with ⟨c1, ev, eτ⟩ | ⟨c1, ev, eτ⟩ | ⟨c1, ev, eτ⟩ <;> rcases p2 with ⟨c2, eu, eρ⟩ | ⟨c2, eu, eρ⟩ | ⟨c2, eu, eρ⟩ <;> first | (exfalso; omega) | (rw [eρ, eτ, eu, ev]; exact ⟨rfl, I⟩) | skip
    refine ⟨by omega, ?_⟩
    have fA := (pushC_f (kd := 0) (wh := p) (k := k) (o := σ 2 (p * 6 + k)) (o2 := 0) hn).1
    have fB := knw_f (σ := τ) (a := 5 + 6 * p + k) (b := 5 + 6 * p + k) (by rw [q48, I.2.2.2.2.1.1]; exact hn)
    have t : ∀ c, c ≠ 2 → c ≠ 28 → c ≠ 29 → τ c = σ c := fun c x1 x2 x3 => by rw [eτ, up_ne x1, fA c x2 x3]
    have r : ∀ c, c ≠ 48 → c ≠ 49 → c ≠ 53 → ρ c = τ c := fun c x1 x2 x3 => by rw [eρ, up_ne x2, fB.1 c x1 x3]
    have r49 : ρ 49 = up1 (σ 49) (5 + 6 * p + k) x := by rw [eρ, up_same, fB.1 49 (by decide) (by decide), q49]
    have r2 : ρ 2 = up1 (σ 2) (p * 6 + k) x := by rw [r 2 (by decide) (by decide) (by decide), eτ, up_same, fA 2 (by decide) (by decide)]
    refine I.ch (fun c h0 h1 h2 h3 h4 h5 h6 h7 h8 h9 => by rw [r c h7 h8 h9, t c h1 h5 h6]) (fun j hj => by rw [eρ, up_ne (by decide), fB.2.1 j hj, q48]) ?_ ?_
    · rw [r2, r49, r 3 (by decide) (by decide) (by decide), r 4 (by decide) (by decide) (by decide), r 5 (by decide) (by decide) (by decide), t 3 (by decide) (by decide) (by decide), t 4 (by decide) (by decide) (by decide), t 5 (by decide) (by decide) (by decide)]
      exact ITd_c I.1 C.1 C.2 c1.1.2
    · have y := two_push (A := pushC σ 0 p k (σ 2 (p * 6 + k)) 0) (B := knw τ (5 + 6 * p + k) (5 + 6 * p + k)) I rfl (by rw [q48]) (q 53 (by decide)) rfl (fun m hm ha hb => by
        rw [q49, z] at hb
        refine Or.inl ⟨ha.1, ?_, ?_, ?_, ?_, ?_, ?_, ?_⟩
        · rw [ha.2.1]; exact C.1
        · rw [ha.2.1, ha.2.2.1]; exact C.2
        · rw [ha.2.2.2.1]; exact I.1.1.2.2.2.1 p k C.1.1 C.1.2 C.2.1 C.2.2
        · rw [hb.1, ha.2.1, ha.2.2.1]
        · rw [hb.2.1, ha.2.2.2.1]
        · rw [hb.2.2.1, ha.2.1, ha.2.2.1]
        · rw [hb.2.2.2, ha.2.2.2.1])
      have r28 : ρ 28 = pushC σ 0 p k (σ 2 (p * 6 + k)) 0 28 := by rw [r 28 (by decide) (by decide) (by decide), eτ, up_ne (by decide)]
      have r29 : ρ 29 = pushC σ 0 p k (σ 2 (p * 6 + k)) 0 29 := by rw [r 29 (by decide) (by decide) (by decide), eτ, up_ne (by decide)]
      rw [r28, r29, show ρ 48 = knw τ (5 + 6 * p + k) (5 + 6 * p + k) 48 from by rw [eρ, up_ne (by decide)], show ρ 53 = knw τ (5 + 6 * p + k) (5 + 6 * p + k) 53 from by rw [eρ, up_ne (by decide)]]
      exact y
  · have nc : ¬ (0 ≤ p ∧ p < σ 49 0 ∧ 0 ≤ k ∧ k ≤ σ 49 (2 + p)) := by
      intro z
      have w := (I.1.2.2.2.1 p z.1 (by omega)).1
      omega
    rcases p1 with ⟨c1, ev, eτ⟩ | ⟨c1, ev, eτ⟩ | ⟨c1, ev, eτ⟩ <;> rcases p2 with ⟨c2, eu, eρ⟩ | ⟨c2, eu, eρ⟩ | ⟨c2, eu, eρ⟩ <;> first | (exfalso; omega) | (rw [eρ, eτ, eu, ev]; exact ⟨rfl, I⟩)
theorem s_ends {g : Gl} {b x y : Int} (h : -2147483648 ≤ b ∧ b ≤ 2147483647 ∧ -2147483648 ≤ x ∧ x ≤ 2147483647 ∧ -2147483648 ≤ y ∧ y ≤ 2147483647) : SI g mX11_ends mX12_ends [vi b, vi x, vi y] := by
  intro σ I
  have hn := I.2.2.2.2.1.2.1
  refine ⟨_, c_X11_ends h I.X hn, fun v τ p1 => ?_⟩
  have q : ∀ c, 47 < c → τ c = σ c := by
    rcases p1 with ⟨_, _, e⟩ | ⟨_, _, e⟩ | ⟨_, _, e⟩
    · rw [e]; exact fun _ _ => rfl
    · rw [e]; exact fun _ _ => rfl
    · intro c hc
      rw [e, up_ne (by omega), up_ne (by omega), (pushC_f hn).1 c (by omega) (by omega)]
  have q48 := q 48 (by decide)
  have q49 := q 49 (by decide)
  refine ⟨_, c_X12_ends h (I.M.mono q49) (by rw [q48, I.2.2.2.2.1.1]; exact hn), fun u ρ p2 => ?_⟩
  rw [q49] at p2
  have e1 := I.e.2.1
  by_cases C : 0 ≤ b ∧ b < σ 0 1
  · have z := I.1.2.2.2.2.2 b C.1 C.2
    rw [z.1, z.2] at p2
    rcases p1 with ⟨c1, ev, eτ⟩ | ⟨c1, ev, eτ⟩ | ⟨c1, ev, eτ⟩ <;> rcases p2 with ⟨c2, eu, eρ⟩ | ⟨c2, eu, eρ⟩ | ⟨c2, eu, eρ⟩ <;> first | (exfalso; omega) | (rw [eρ, eτ, eu, ev]; exact ⟨rfl, I⟩) | skip
    refine ⟨by omega, ?_⟩
    have fA := (pushC_f (kd := 1) (wh := b) (k := 0) (o := σ 4 b) (o2 := σ 5 b) hn).1
    have fB := knw_f (σ := τ) (a := 23 + b) (b := 26 + b) (by rw [q48, I.2.2.2.2.1.1]; exact hn)
    have t : ∀ c, c ≠ 4 → c ≠ 5 → c ≠ 28 → c ≠ 29 → τ c = σ c := fun c x0 x1 x2 x3 => by rw [eτ, up_ne x1, up_ne x0, fA c x2 x3]
    have r : ∀ c, c ≠ 48 → c ≠ 49 → c ≠ 53 → ρ c = τ c := fun c x1 x2 x3 => by rw [eρ, up_ne x2, up_ne x2, fB.1 c x1 x3]
    have r49 : ρ 49 = up1 (up1 (σ 49) (23 + b) x) (26 + b) y := by rw [eρ, up_same, up_same, fB.1 49 (by decide) (by decide), q49]
    have r4 : ρ 4 = up1 (σ 4) b x := by rw [r 4 (by decide) (by decide) (by decide), eτ, up_ne (by decide), up_same, fA 4 (by decide) (by decide)]
    have r5 : ρ 5 = up1 (σ 5) b y := by rw [r 5 (by decide) (by decide) (by decide), eτ, up_same, up_ne (by decide), fA 5 (by decide) (by decide)]
    refine I.ch (fun c h0 h1 h2 h3 h4 h5 h6 h7 h8 h9 => by rw [r c h7 h8 h9, t c h3 h4 h5 h6]) (fun j hj => by rw [eρ, up_ne (by decide), up_ne (by decide), fB.2.1 j hj, q48]) ?_ ?_
    · rw [r4, r5, r49, r 2 (by decide) (by decide) (by decide), r 3 (by decide) (by decide) (by decide), t 2 (by decide) (by decide) (by decide) (by decide), t 3 (by decide) (by decide) (by decide) (by decide)]
      exact ITd_b I.1 C (by omega)
    · have yy := two_push (A := pushC σ 1 b 0 (σ 4 b) (σ 5 b)) (B := knw τ (23 + b) (26 + b)) I rfl (by rw [q48]) (q 53 (by decide)) rfl (fun m hm ha hb => by
        rw [q49, z.1, z.2] at hb
        refine Or.inr (Or.inl ⟨ha.1, ?_, ?_, ?_, ?_, ?_, ?_⟩)
        · rw [ha.2.1]; exact C
        · rw [ha.2.2.2.1, ha.2.2.2.2]; exact I.1.1.2.2.2.2.2 b C.1 C.2
        · rw [hb.1, ha.2.1]
        · rw [hb.2.1, ha.2.2.2.1]
        · rw [hb.2.2.1, ha.2.1]
        · rw [hb.2.2.2, ha.2.2.2.2])
      have r28 : ρ 28 = pushC σ 1 b 0 (σ 4 b) (σ 5 b) 28 := by rw [r 28 (by decide) (by decide) (by decide), eτ, up_ne (by decide), up_ne (by decide)]
      have r29 : ρ 29 = pushC σ 1 b 0 (σ 4 b) (σ 5 b) 29 := by rw [r 29 (by decide) (by decide) (by decide), eτ, up_ne (by decide), up_ne (by decide)]
      rw [r28, r29, show ρ 48 = knw τ (23 + b) (26 + b) 48 from by rw [eρ, up_ne (by decide), up_ne (by decide)], show ρ 53 = knw τ (23 + b) (26 + b) 53 from by rw [eρ, up_ne (by decide), up_ne (by decide)]]
      exact yy
  · rcases p1 with ⟨c1, ev, eτ⟩ | ⟨c1, ev, eτ⟩ | ⟨c1, ev, eτ⟩ <;> rcases p2 with ⟨c2, eu, eρ⟩ | ⟨c2, eu, eρ⟩ | ⟨c2, eu, eρ⟩ <;> first | (exfalso; omega) | (rw [eρ, eτ, eu, ev]; exact ⟨rfl, I⟩)
theorem s_wishes {g : Gl} {p x : Int} (h : -2147483648 ≤ p ∧ p ≤ 2147483647 ∧ -2147483648 ≤ x ∧ x ≤ 2147483647) : SI g mX11_wishes mX12_wishes [vi p, vi x] := by
  intro σ I
  have hn := I.2.2.2.2.1.2.1
  refine ⟨_, c_X11_wishes h I.X hn, fun v τ p1 => ?_⟩
  have q : ∀ c, 47 < c → τ c = σ c := by
    rcases p1 with ⟨_, _, e⟩ | ⟨_, _, e⟩ | ⟨_, _, e⟩
    · rw [e]; exact fun _ _ => rfl
    · rw [e]; exact fun _ _ => rfl
    · intro c hc
      rw [e, up_ne (by omega), (pushC_f hn).1 c (by omega) (by omega)]
  have q48 := q 48 (by decide)
  have q49 := q 49 (by decide)
  refine ⟨_, c_X12_wishes h (I.M.mono q49) (by rw [q48, I.2.2.2.2.1.1]; exact hn), fun u ρ p2 => ?_⟩
  rw [q49] at p2
  have e0 := I.e.1
  by_cases C : 0 ≤ p ∧ p < σ 0 0
  · have z := (I.1.2.2.2.1 p C.1 C.2).2
    rw [z] at p2
    rcases p1 with ⟨c1, ev, eτ⟩ | ⟨c1, ev, eτ⟩ | ⟨c1, ev, eτ⟩ <;> rcases p2 with ⟨c2, eu, eρ⟩ | ⟨c2, eu, eρ⟩ | ⟨c2, eu, eρ⟩ <;> first | (exfalso; omega) | (rw [eρ, eτ, eu, ev]; exact ⟨rfl, I⟩) | skip
    refine ⟨by omega, ?_⟩
    have fA := (pushC_f (kd := 2) (wh := p) (k := 0) (o := σ 3 p) (o2 := 0) hn).1
    have fB := knw_f (σ := τ) (a := 29 + p) (b := 29 + p) (by rw [q48, I.2.2.2.2.1.1]; exact hn)
    have t : ∀ c, c ≠ 3 → c ≠ 28 → c ≠ 29 → τ c = σ c := fun c x1 x2 x3 => by rw [eτ, up_ne x1, fA c x2 x3]
    have r : ∀ c, c ≠ 48 → c ≠ 49 → c ≠ 53 → ρ c = τ c := fun c x1 x2 x3 => by rw [eρ, up_ne x2, fB.1 c x1 x3]
    have r49 : ρ 49 = up1 (σ 49) (29 + p) x := by rw [eρ, up_same, fB.1 49 (by decide) (by decide), q49]
    have r3 : ρ 3 = up1 (σ 3) p x := by rw [r 3 (by decide) (by decide) (by decide), eτ, up_same, fA 3 (by decide) (by decide)]
    refine I.ch (fun c h0 h1 h2 h3 h4 h5 h6 h7 h8 h9 => by rw [r c h7 h8 h9, t c h2 h5 h6]) (fun j hj => by rw [eρ, up_ne (by decide), fB.2.1 j hj, q48]) ?_ ?_
    · rw [r3, r49, r 2 (by decide) (by decide) (by decide), r 4 (by decide) (by decide) (by decide), r 5 (by decide) (by decide) (by decide), t 2 (by decide) (by decide) (by decide), t 4 (by decide) (by decide) (by decide), t 5 (by decide) (by decide) (by decide)]
      exact ITd_w I.1 C c1.1.2
    · have y := two_push (A := pushC σ 2 p 0 (σ 3 p) 0) (B := knw τ (29 + p) (29 + p)) I rfl (by rw [q48]) (q 53 (by decide)) rfl (fun m hm ha hb => by
        rw [q49, z] at hb
        refine Or.inr (Or.inr ⟨ha.1, ?_, ?_, ?_, ?_, ?_, ?_⟩)
        · rw [ha.2.1]; exact C
        · rw [ha.2.2.2.1]; exact I.1.1.2.2.2.2.1 p C.1 C.2
        · rw [hb.1, ha.2.1]
        · rw [hb.2.1, ha.2.2.2.1]
        · rw [hb.2.2.1, ha.2.1]
        · rw [hb.2.2.2, ha.2.2.2.1])
      have r28 : ρ 28 = pushC σ 2 p 0 (σ 3 p) 0 28 := by rw [r 28 (by decide) (by decide) (by decide), eτ, up_ne (by decide)]
      have r29 : ρ 29 = pushC σ 2 p 0 (σ 3 p) 0 29 := by rw [r 29 (by decide) (by decide) (by decide), eτ, up_ne (by decide)]
      rw [r28, r29, show ρ 48 = knw τ (29 + p) (29 + p) 48 from by rw [eρ, up_ne (by decide)], show ρ 53 = knw τ (29 + p) (29 + p) 53 from by rw [eρ, up_ne (by decide)]]
      exact y
  · rcases p1 with ⟨c1, ev, eτ⟩ | ⟨c1, ev, eτ⟩ | ⟨c1, ev, eτ⟩ <;> rcases p2 with ⟨c2, eu, eρ⟩ | ⟨c2, eu, eρ⟩ | ⟨c2, eu, eρ⟩ <;> first | (exfalso; omega) | (rw [eρ, eτ, eu, ev]; exact ⟨rfl, I⟩)
