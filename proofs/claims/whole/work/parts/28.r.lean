/-! the reference's rows: signs, bounds, fractions -/
theorem sgn_mul {a b : Int} (h : 0 < b) : sgn (a * b) = sgn a := by
  unfold sgn
  by_cases h0 : a = 0
  · rw [h0, Int.zero_mul]
  · by_cases h1 : 0 < a
    · have := Int.mul_pos h1 h
      rw [if_neg (by omega), if_pos this, if_neg h0, if_pos h1]
    · have := Int.mul_neg_of_neg_of_pos (show a < 0 by omega) h
      rw [if_neg (by omega), if_neg (by omega), if_neg h0, if_neg h1]
theorem FR_eq {u l u' l' w : Int} (hl : 0 < l) (hl' : 0 < l') (h : u * l' = u' * l) : FR u l w = FR u' l' w := by
  have g0 : 0 < Int.gcd u l := Int.gcd_pos_of_ne_zero_right u (by omega)
  have g0' : 0 < Int.gcd u' l' := Int.gcd_pos_of_ne_zero_right u' (by omega)
  have k1 := Int.gcd_mul_right u l' l
  have k2 := Int.gcd_mul_right u' l l'
  rw [h, Int.mul_comm l l'] at k1
  have k3 : (Int.gcd u l : Int) * l' = Int.gcd u' l' * l := by
    have k4 : Int.gcd u l * l'.natAbs = Int.gcd u' l' * l.natAbs := k1.symm.trans k2
    have k5 := congrArg (fun x : Nat => (x : Int)) k4
    simp only [Int.natCast_mul] at k5
    rw [show ((l'.natAbs : Nat) : Int) = l' from by omega, show ((l.natAbs : Nat) : Int) = l from by omega] at k5
    exact k5
  generalize hg : (Int.gcd u l : Int) = g at *
  generalize hg' : (Int.gcd u' l' : Int) = g' at *
  have gp : 0 < g := by omega
  have gp' : 0 < g' := by omega
  obtain ⟨a, ha⟩ : g ∣ u := hg ▸ Int.gcd_dvd_left u l
  obtain ⟨b, hb⟩ : g ∣ l := hg ▸ Int.gcd_dvd_right u l
  have e1 : l' = g' * b := by
    have : g * l' = g * (g' * b) := by rw [k3, hb, Int.mul_left_comm]
    exact Int.eq_of_mul_eq_mul_left (by omega) this
  have e2 : u' = g' * a := by
    have : l * u' = l * (g' * a) := by rw [Int.mul_comm l u', ← h, ha, Int.mul_assoc, Int.mul_comm a l', ← Int.mul_assoc, k3, Int.mul_comm g' l, Int.mul_assoc]
    exact Int.eq_of_mul_eq_mul_left (by omega) this
  unfold FR
  rw [hg, hg']
  by_cases hw : w = 0
  · rw [if_pos hw, if_pos hw, ha, e2, Int.mul_tdiv_cancel_left _ (by omega), Int.mul_tdiv_cancel_left _ (by omega)]
  · rw [if_neg hw, if_neg hw, hb, e1, Int.mul_tdiv_cancel_left _ (by omega), Int.mul_tdiv_cancel_left _ (by omega)]
def CBd : Nat → Int
  | 0 => 50
  | d + 1 => 320 * CBd d + 50 * 64 ^ (d + 1)
theorem pas_tab : ∀ (t i : Fin 8), t.1 < 7 → i.1 ≤ t.1 + 1 → bnZ ((t.1 : Int) + 1) (i.1 : Int) = bnZ (t.1 : Int) (i.1 : Int) + (if i.1 = 0 then 0 else bnZ (t.1 : Int) ((i.1 : Int) - 1)) ∧ 0 ≤ bnZ (t.1 : Int) (i.1 : Int) ∧ 0 ≤ bnZ ((t.1 : Int) + 1) (i.1 : Int) := by decide +kernel
theorem pas {t i : Int} (ht : 0 ≤ t ∧ t ≤ 6) (hi : 0 ≤ i ∧ i ≤ t + 1) : bnZ (t + 1) i = bnZ t i + (if i = 0 then 0 else bnZ t (i - 1)) ∧ 0 ≤ bnZ t i ∧ 0 ≤ bnZ (t + 1) i := by
  have w := pas_tab ⟨t.toNat, by omega⟩ ⟨i.toNat, by omega⟩ (by show t.toNat < 7; omega) (by show i.toNat ≤ t.toNat + 1; omega)
  simp only at w
  rw [show ((t.toNat : Nat) : Int) = t from by omega, show ((i.toNat : Nat) : Int) = i from by omega] at w
  by_cases h : i = 0
  · rw [if_pos h]
    rw [if_pos (show i.toNat = 0 by omega)] at w
    exact w
  · rw [if_neg h]
    rw [if_neg (show ¬ i.toNat = 0 by omega)] at w
    exact w
theorem CBd_0 : ∀ d, 0 ≤ CBd d := by
  intro d
  induction d with
  | zero => decide
  | succ d ih =>
    have : (0 : Int) ≤ 64 ^ (d + 1) := Int.pow_nonneg (by omega)
    show 0 ≤ 320 * CBd d + 50 * 64 ^ (d + 1)
    omega
theorem abs2 {x y X Y : Int} (hx : -X ≤ x ∧ x ≤ X) (hy : -Y ≤ y ∧ y ≤ Y) : -(X * Y) ≤ x * y ∧ x * y ≤ X * Y := by
  have h : (x * y).natAbs ≤ X.natAbs * Y.natAbs := by
    rw [Int.natAbs_mul]
    exact Nat.mul_le_mul (by omega) (by omega)
  have e : ((X.natAbs * Y.natAbs : Nat) : Int) = X * Y := by
    rw [Int.natCast_mul, show ((X.natAbs : Nat) : Int) = X from by omega, show ((Y.natAbs : Nat) : Int) = Y from by omega]
  omega
theorem hb_c {f : Int → Int} {n lo hi : Int} (hn : n ≤ 7) (hf : ∀ k, 0 ≤ k → k ≤ n → -50 ≤ f k ∧ f k ≤ 50) (hl : -320 ≤ lo ∧ lo ≤ 320) (hh : -320 ≤ hi ∧ hi ≤ 320) : ∀ (d : Nat), (d : Int) ≤ n → ∀ (i : Int), 0 ≤ i → i ≤ (d : Int) → -(bnZ d i * CBd d) ≤ hb f n lo hi d i ∧ hb f n lo hi d i ≤ bnZ d i * CBd d := by
  intro d
  induction d with
  | zero =>
    intro h i h0 h1
    have e : i = 0 := by omega
    subst e
    have := hf n (by omega) (by omega)
    have e2 : bnZ ((0 : Nat) : Int) 0 * CBd 0 = 50 := by decide
    rw [e2]
    exact this
  | succ d ih =>
    intro h i h0 h1
    have p := pas (t := (d : Int)) (i := i) (by omega) (by omega)
    have hz := CBd_0 d
    have z0 : ∀ j, 0 ≤ j → j ≤ (d : Int) + 1 → -(bnZ d j * CBd d) ≤ hb f n lo hi d j ∧ hb f n lo hi d j ≤ bnZ d j * CBd d := fun j a b => by
      by_cases c : j ≤ (d : Int)
      · exact ih (by omega) j a c
      · rw [hb_hi (by omega)]
        have := Int.mul_nonneg (pas (t := (d : Int)) (i := j) (by omega) (by omega)).2.1 hz
        omega
    have e1 : ((d + 1 : Nat) : Int) = (d : Int) + 1 := by omega
    rw [e1]
    show -(bnZ ((d : Int) + 1) i * (320 * CBd d + 50 * 64 ^ (d + 1))) ≤ (if 0 ≤ i ∧ i ≤ (d : Int) + 1 then (if i = 0 then hb f n lo hi d 0 * lo else hb f n lo hi d i * lo + hb f n lo hi d (i - 1) * hi) + f (n - 1 - d) * 64 ^ (d + 1) * bnZ (d + 1) i else 0) ∧ (if 0 ≤ i ∧ i ≤ (d : Int) + 1 then (if i = 0 then hb f n lo hi d 0 * lo else hb f n lo hi d i * lo + hb f n lo hi d (i - 1) * hi) + f (n - 1 - d) * 64 ^ (d + 1) * bnZ (d + 1) i else 0) ≤ bnZ ((d : Int) + 1) i * (320 * CBd d + 50 * 64 ^ (d + 1))
    rw [if_pos (by omega)]
    have c1 := hf (n - 1 - d) (by omega) (by omega)
    have c2 : (0 : Int) ≤ 64 ^ (d + 1) := Int.pow_nonneg (by omega)
    have c3 := abs2 (X := 50) (Y := 64 ^ (d + 1)) c1 (show -(64 ^ (d + 1)) ≤ (64 : Int) ^ (d + 1) ∧ (64 : Int) ^ (d + 1) ≤ 64 ^ (d + 1) by omega)
    have c4 := abs2 (Y := bnZ ((d : Int) + 1) i) c3 (show -(bnZ ((d : Int) + 1) i) ≤ bnZ ((d : Int) + 1) i ∧ bnZ ((d : Int) + 1) i ≤ bnZ ((d : Int) + 1) i by omega)
    have e3 : bnZ ((d : Int) + 1) i * (320 * CBd d + 50 * 64 ^ (d + 1)) = bnZ ((d : Int) + 1) i * CBd d * 320 + 50 * 64 ^ (d + 1) * bnZ ((d : Int) + 1) i := by
      rw [Int.mul_add, Int.mul_comm 320 (CBd d), Int.mul_assoc, Int.mul_comm (bnZ ((d : Int) + 1) i) (50 * 64 ^ (d + 1))]
    rw [e3]
    by_cases hi0 : i = 0
    · subst hi0
      rw [if_pos rfl]
      rw [if_pos rfl, Int.add_zero] at p
      have k1 := abs2 (Y := 320) (z0 0 (by omega) (by omega)) hl
      rw [p.1] at c4 ⊢
      omega
    · rw [if_neg hi0]
      rw [if_neg hi0] at p
      have k1 := abs2 (Y := 320) (z0 i (by omega) (by omega)) hl
      have k2 := abs2 (Y := 320) (z0 (i - 1) (by omega) (by omega)) hh
      have e4 : bnZ ((d : Int) + 1) i * CBd d * 320 = bnZ d i * CBd d * 320 + bnZ d (i - 1) * CBd d * 320 := by rw [p.1, Int.add_mul, Int.add_mul]
      rw [e4]
      omega
theorem nb_c {f : Int → Int} {n lo hi : Int} (hn : 0 ≤ n ∧ n ≤ 5) (hf : ∀ k, 0 ≤ k → k ≤ n → -50 ≤ f k ∧ f k ≤ 50) (hl : -320 ≤ lo ∧ lo ≤ 320) (hh : -320 ≤ hi ∧ hi ≤ 320) : ∀ (r : Nat), r ≤ 2 → ∀ (i : Int), 0 ≤ i → i ≤ n + r → -(bnZ (n + r) i * CBd n.toNat) ≤ nb f n lo hi r i ∧ nb f n lo hi r i ≤ bnZ (n + r) i * CBd n.toNat := by
  intro r
  induction r with
  | zero =>
    intro _ i h0 h1
    have := hb_c (by omega) hf hl hh n.toNat (by omega) i h0 (by omega)
    rw [show n + ((0 : Nat) : Int) = n from by omega]
    rw [show ((n.toNat : Nat) : Int) = n from by omega] at this
    exact this
  | succ r ih =>
    intro hr i h0 h1
    have hz := CBd_0 n.toNat
    have p := pas (t := n + r) (i := i) (by omega) (by omega)
    have z0 : ∀ j, 0 ≤ j → j ≤ n + r + 1 → -(bnZ (n + r) j * CBd n.toNat) ≤ nb f n lo hi r j ∧ nb f n lo hi r j ≤ bnZ (n + r) j * CBd n.toNat := fun j a b => by
      by_cases c : j ≤ n + r
      · exact ih (by omega) j a c
      · rw [nb_hi (by omega) (by omega)]
        have := Int.mul_nonneg (pas (t := n + r) (i := j) (by omega) (by omega)).2.1 hz
        omega
    rw [show n + ((r + 1 : Nat) : Int) = n + r + 1 from by omega]
    show -(bnZ (n + r + 1) i * CBd n.toNat) ≤ (if i = 0 then nb f n lo hi r 0 else nb f n lo hi r i + nb f n lo hi r (i - 1)) ∧ (if i = 0 then nb f n lo hi r 0 else nb f n lo hi r i + nb f n lo hi r (i - 1)) ≤ bnZ (n + r + 1) i * CBd n.toNat
    by_cases hi0 : i = 0
    · subst hi0
      rw [if_pos rfl]
      rw [if_pos rfl, Int.add_zero] at p
      rw [p.1]
      exact z0 0 (by omega) (by omega)
    · rw [if_neg hi0]
      rw [if_neg hi0] at p
      have k1 := z0 i (by omega) (by omega)
      have k2 := z0 (i - 1) (by omega) (by omega)
      rw [p.1, Int.add_mul]
      omega
theorem CBd_b : ∀ d : Fin 6, CBd d.1 ≤ 210000000000000 := by decide +kernel
def NMp (σ : Sg) (p a : Int) (r : Nat) : Int → Int := nb (fM σ p) (σ 49 (2 + p)) (loM σ a) (loM σ a + wdM σ a) r
theorem fM_b {σ : Sg} {p : Int} (hM : TM σ) (hp : 0 ≤ p ∧ p < σ 49 0) : ∀ k, 0 ≤ k → k ≤ σ 49 (2 + p) → -50 ≤ fM σ p k ∧ fM σ p k ≤ 50 := fun k h0 h1 => hM.2.2.2.1 p k hp.1 hp.2 h0 h1
theorem hiM_b {σ : Sg} {a : Int} (hM : TM σ) (h : 1 ≤ a ∧ a ≤ 127) (hb : 0 ≤ σ 48 7 ∧ σ 48 7 < σ 49 1) : -320 ≤ loM σ a + wdM σ a ∧ loM σ a + wdM σ a ≤ 320 := by
  have q := pz_b h
  have e : (a + 1) * pz a = a * pz a + pz a := by rw [Int.add_mul, Int.one_mul]
  have w := hM.2.2.2.2.2 (σ 48 7) hb.1 hb.2
  have e2 : loM σ a + wdM σ a = σ 49 (23 + σ 48 7) * 64 + (σ 49 (26 + σ 48 7) - σ 49 (23 + σ 48 7)) * ((a + 1) * pz a - 64) := by
    unfold loM wdM
    rw [e, show a * pz a + pz a - 64 = (a * pz a - 64) + pz a from by omega, Int.mul_add]
    omega
  rw [e2]
  exact lohi_b w (by omega)
theorem RowM.S {σ σ' : Sg} {p a r : Int} (hM : TM σ) (hp : 0 ≤ p ∧ p < σ 49 0) (hb : 0 ≤ σ 48 7 ∧ σ 48 7 < σ 49 1) (na : 1 ≤ a ∧ a ≤ 127) (hr : 0 ≤ r ∧ r ≤ 2) (h : RowM σ σ' p a r) : ∀ i, 0 ≤ i → i ≤ σ 49 (2 + p) + r → sgn (σ' 60 i) = sgn (NMp σ p a r.toNat i) ∧ (-4611686018427387904 ≤ σ' 60 i ∧ σ' 60 i ≤ 4611686018427387904) ∧ σ' 60 i * bnZ (σ 49 (2 + p) + r) i = lcf (σ 49 (2 + p) + r) (σ 49 (2 + p)) * NMp σ p a r.toNat i := by
  intro i h0 h1
  have qn := hM.2.2.1 p hp.1 hp.2
  have id := rowM_id (f := fM σ p) (lo := loM σ a) (wd := wdM σ a) qn hr (i := i) ⟨h0, h1⟩
  have lb := lcf_b qn hr
  have bb := bnZ_b (t := σ 49 (2 + p) + r) (i := i) (by omega) (by omega)
  have e := h.2.2.2.2 i h0 h1
  rw [← e] at id
  have wb := wdM_b hM na hb
  have nc := nb_c (f := fM σ p) (n := σ 49 (2 + p)) (lo := loM σ a) (hi := loM σ a + wdM σ a) qn (fM_b hM hp) wb.1 (hiM_b hM na hb) r.toNat (by omega) i h0 (by omega)
  rw [show σ 49 (2 + p) + ((r.toNat : Nat) : Int) = σ 49 (2 + p) + r from by omega] at nc
  have cb := CBd_b ⟨(σ 49 (2 + p)).toNat, by omega⟩
  simp only at cb
  have c0 := CBd_0 (σ 49 (2 + p)).toNat
  refine ⟨?_, ?_, id⟩
  · have s1 := sgn_mul (a := σ' 60 i) (b := bnZ (σ 49 (2 + p) + r) i) (by omega)
    rw [id, Int.mul_comm, sgn_mul (by omega)] at s1
    exact s1.symm
  · generalize hx : σ' 60 i = x at *
    generalize hB : bnZ (σ 49 (2 + p) + r) i = B at *
    generalize hL : lcf (σ 49 (2 + p) + r) (σ 49 (2 + p)) = L at *
    generalize hC : CBd (σ 49 (2 + p)).toNat = Cb at *
    generalize hN : nb (fM σ p) (σ 49 (2 + p)) (loM σ a) (loM σ a + wdM σ a) r.toNat i = Nv at *
    have k1 := abs2 (x := L) (X := L) (by omega) nc
    have k2 : L * (B * Cb) = B * (L * Cb) := Int.mul_left_comm _ _ _
    have k3 : L * Cb ≤ 420 * 210000000000000 := Int.le_trans (Int.mul_le_mul_of_nonneg_right lb.2 c0) (Int.mul_le_mul_of_nonneg_left cb (by omega))
    have k4 : x * B = L * Nv := id
    have k5 : B * x ≤ B * (L * Cb) := by rw [Int.mul_comm B x, k4, ← k2]; exact k1.2
    have k6 : B * (-(L * Cb)) ≤ B * x := by rw [Int.mul_neg, Int.mul_comm B x, k4, ← k2]; exact k1.1
    have k7 := Int.le_of_mul_le_mul_left k5 (by omega)
    have k8 := Int.le_of_mul_le_mul_left k6 (by omega)
    omega
def frL (σ σ' : Sg) : Prop := (∀ k, k ≠ 48 → k ≠ 60 → k ≠ 61 → σ' k = σ k) ∧ (∀ j, j ≠ 20 → j ≠ 21 → σ' 48 j = σ 48 j)
theorem frL.trans {σ τ ρ : Sg} (h : frL σ τ) (h2 : frL τ ρ) : frL σ ρ := ⟨fun k a b c => (h2.1 k a b c).trans (h.1 k a b c), fun j a b => (h2.2 j a b).trans (h.2 j a b)⟩
theorem frL.rf (σ : Sg) : frL σ σ := ⟨fun _ _ _ _ => rfl, fun _ _ _ => rfl⟩
theorem RowM.fr {σ σ' : Sg} {p a r : Int} (h : RowM σ σ' p a r) : frL σ σ' := ⟨h.1, h.2.1⟩
theorem TM.mono {σ τ : Sg} (h : TM σ) (e : τ 49 = σ 49) : TM τ := by
  unfold TM at h ⊢
  rw [e]
  exact h
theorem NMp_congr {σ τ : Sg} (e : τ 49 = σ 49) (e7 : τ 48 7 = σ 48 7) : NMp τ = NMp σ := by
  funext p a r
  unfold NMp fM loM wdM
  rw [e, e7]
theorem vch_sgn {f h : Int → Int} : ∀ (t : Nat) (i b c : Int), (∀ j, i ≤ j → j < i + t → sgn (f j) = sgn (h j)) → vch f t i b c = vch h t i b c := by
  intro t
  induction t with
  | zero => intro i b c _; rfl
  | succ t ih =>
    intro i b c e
    have e0 := e i (by omega) (by omega)
    have e1 := fun b c => ih (i + 1) b c (fun j x z => e j (by omega) (by omega))
    show (if sgn (f i) = 0 then _ else _) = (if sgn (h i) = 0 then _ else _)
    rw [e0]
    simp only [e1]
