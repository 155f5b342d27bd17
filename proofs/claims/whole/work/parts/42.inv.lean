/-! class and reference hold the same -/
def TXf (c0 c1 c2 c3 c4 c5 : Int → Int) : Prop := (0 ≤ c0 0 ∧ c0 0 ≤ 3) ∧ (0 ≤ c0 1 ∧ c0 1 ≤ 3) ∧ (∀ p, 0 ≤ p → p < c0 0 → 1 ≤ c1 p ∧ c1 p ≤ 6) ∧ (∀ p k, 0 ≤ p → p < c0 0 → 0 ≤ k → k < c1 p → -50 ≤ c2 (p * 6 + k) ∧ c2 (p * 6 + k) ≤ 50) ∧ (∀ p, 0 ≤ p → p < c0 0 → -1 ≤ c3 p ∧ c3 p ≤ 1) ∧ (∀ b, 0 ≤ b → b < c0 1 → -5 ≤ c4 b ∧ c4 b < c5 b ∧ c5 b ≤ 5)
def RLf (c0 c1 c2 c3 c4 c5 f : Int → Int) : Prop := f 0 = c0 0 ∧ f 1 = c0 1 ∧ (∀ p, 0 ≤ p → p < c0 0 → f (2 + p) = c1 p - 1 ∧ f (29 + p) = c3 p) ∧ (∀ p k, 0 ≤ p → p < c0 0 → 0 ≤ k → k < c1 p → f (5 + 6 * p + k) = c2 (p * 6 + k)) ∧ (∀ b, 0 ≤ b → b < c0 1 → f (23 + b) = c4 b ∧ f (26 + b) = c5 b)
def ITd (c0 c1 c2 c3 c4 c5 f : Int → Int) : Prop := TXf c0 c1 c2 c3 c4 c5 ∧ RLf c0 c1 c2 c3 c4 c5 f
def ITx (n : Int) (T : Int → Int) (n2 : Int) (T2 : Int → Int) : Prop := n2 = n ∧ (0 ≤ n ∧ n ≤ 120) ∧ ∀ i, 0 ≤ i → i < n → T2 i = T i ∧ 0 ≤ T i ∧ T i ≤ 255
def ITk (p b p2 b2 : Int) : Prop := p2 = p ∧ b2 = b ∧ (0 ≤ p ∧ p ≤ 2) ∧ 0 ≤ b ∧ b ≤ 2
def ISe (n : Int) (A B : Int → Int) (n2 : Int) (A2 B2 : Int → Int) : Prop := n2 = n ∧ (0 ≤ n ∧ n ≤ 6) ∧ ∀ k, 0 ≤ k → k < n → A2 k = A k ∧ B2 k = B k ∧ (-5 ≤ A k ∧ A k ≤ 5) ∧ -1 ≤ B k ∧ B k ≤ 1
def CEn (R P c0 c1 : Int → Int) (i : Int) : Prop :=
  (R (i * 5) = 0 ∧ (0 ≤ R (i * 5 + 1) ∧ R (i * 5 + 1) < c0 0) ∧ (0 ≤ R (i * 5 + 2) ∧ R (i * 5 + 2) < c1 (R (i * 5 + 1))) ∧ (-50 ≤ R (i * 5 + 3) ∧ R (i * 5 + 3) ≤ 50) ∧ P (4 * i) = 5 + 6 * R (i * 5 + 1) + R (i * 5 + 2) ∧ P (4 * i + 1) = R (i * 5 + 3) ∧ P (4 * i + 2) = 5 + 6 * R (i * 5 + 1) + R (i * 5 + 2) ∧ P (4 * i + 3) = R (i * 5 + 3)) ∨
  (R (i * 5) = 1 ∧ (0 ≤ R (i * 5 + 1) ∧ R (i * 5 + 1) < c0 1) ∧ (-5 ≤ R (i * 5 + 3) ∧ R (i * 5 + 3) < R (i * 5 + 4) ∧ R (i * 5 + 4) ≤ 5) ∧ P (4 * i) = 23 + R (i * 5 + 1) ∧ P (4 * i + 1) = R (i * 5 + 3) ∧ P (4 * i + 2) = 26 + R (i * 5 + 1) ∧ P (4 * i + 3) = R (i * 5 + 4)) ∨
  (R (i * 5) = 2 ∧ (0 ≤ R (i * 5 + 1) ∧ R (i * 5 + 1) < c0 0) ∧ (-1 ≤ R (i * 5 + 3) ∧ R (i * 5 + 3) ≤ 1) ∧ P (4 * i) = 29 + R (i * 5 + 1) ∧ P (4 * i + 1) = R (i * 5 + 3) ∧ P (4 * i + 2) = 29 + R (i * 5 + 1) ∧ P (4 * i + 3) = R (i * 5 + 3))
def ICh (n : Int) (R : Int → Int) (n2 : Int) (P c0 c1 : Int → Int) : Prop := n2 = n ∧ (0 ≤ n ∧ n ≤ 10) ∧ ∀ i, 0 ≤ i → i < n → CEn R P c0 c1 i
def IIm (K : Int) (B a0 a1 a2 a3 a4 a5 b0 b1 b2 b3 b4 b5 M : Int → Int) : Prop := (0 ≤ K ∧ K ≤ 3) ∧ B 0 = kbit K 0 ∧ B 1 = kbit K 1 ∧ (¬ kbit K 0 = 0 → ITd a0 a1 a2 a3 a4 a5 M) ∧ (¬ kbit K 1 = 0 → ITd b0 b1 b2 b3 b4 b5 (fun j => M (32 + j)))
def IRd (R : Int → Int) : Prop := (R 3 = 0 ∨ R 3 = 1) ∧ 0 ≤ R 2 ∧ R 2 ≤ 6
def Inv (σ : Sg) : Prop := ITd (σ 0) (σ 1) (σ 2) (σ 3) (σ 4) (σ 5) (σ 49) ∧ ITx (σ 25 1) (σ 26) (σ 48 12) (σ 56) ∧ ITk (σ 27 1) (σ 27 2) (σ 48 6) (σ 48 7) ∧ ISe (σ 31 2) (σ 32) (σ 33) (σ 48 10) (σ 54) (σ 55) ∧ ICh (σ 28 1) (σ 29) (σ 48 5) (σ 53) (σ 0) (σ 1) ∧ IIm (σ 24 5) (σ 52) (σ 6) (σ 7) (σ 8) (σ 9) (σ 10) (σ 11) (σ 12) (σ 13) (σ 14) (σ 15) (σ 16) (σ 17) (σ 51) ∧ IRd (σ 34)
theorem Inv.of {σ τ : Sg} (h : Inv σ) (e : ∀ k, (k < 35 ∨ (48 < k ∧ k < 60)) → τ k = σ k) (e2 : ∀ j, j < 20 → τ 48 j = σ 48 j) : Inv τ := by
  unfold Inv at h ⊢
  rw [e 0 (by decide), e 1 (by decide), e 2 (by decide), e 3 (by decide), e 4 (by decide), e 5 (by decide), e 49 (by decide), e 25 (by decide), e 26 (by decide), e2 12 (by decide), e 56 (by decide), e 27 (by decide), e2 6 (by decide), e2 7 (by decide), e 31 (by decide), e 32 (by decide), e 33 (by decide), e2 10 (by decide), e 54 (by decide), e 55 (by decide), e 28 (by decide), e 29 (by decide), e2 5 (by decide), e 53 (by decide), e 24 (by decide), e 52 (by decide), e 6 (by decide), e 7 (by decide), e 8 (by decide), e 9 (by decide), e 10 (by decide), e 11 (by decide), e 12 (by decide), e 13 (by decide), e 14 (by decide), e 15 (by decide), e 16 (by decide), e 17 (by decide), e 51 (by decide), e 34 (by decide)]
  exact h
theorem Inv.sc {σ τ : Sg} (h : Inv σ) (f : scX σ τ) : Inv τ := h.of (fun k hk => f k (by omega)) (fun j _ => by rw [f 48 (by omega)])
theorem Inv.fm {σ τ : Sg} (h : Inv σ) (f : frM σ τ) : Inv τ := h.of (fun k hk => f.1 k (by omega) (by omega)) (fun j hj => f.2 j hj)
theorem Inv.X {σ : Sg} (h : Inv σ) : TX σ := h.1.1
theorem Inv.kX {σ : Sg} (h : Inv σ) : (0 ≤ σ 27 1 ∧ σ 27 1 ≤ 2) ∧ 0 ≤ σ 27 2 ∧ σ 27 2 ≤ 2 := h.2.2.1.2.2
theorem Inv.kM {σ : Sg} (h : Inv σ) : (0 ≤ σ 48 6 ∧ σ 48 6 ≤ 2) ∧ 0 ≤ σ 48 7 ∧ σ 48 7 ≤ 2 := by
  obtain ⟨a, b, c⟩ := h.2.2.1
  rw [a, b]
  exact c
theorem Inv.e {σ : Sg} (h : Inv σ) : σ 49 0 = σ 0 0 ∧ σ 49 1 = σ 0 1 ∧ σ 48 6 = σ 27 1 ∧ σ 48 7 = σ 27 2 := ⟨h.1.2.1, h.1.2.2.1, h.2.2.1.1, h.2.2.1.2.1⟩
theorem Inv.M {σ : Sg} (h : Inv σ) : TM σ := by
  obtain ⟨⟨x1, x2, x3, x4, x5, x6⟩, r1, r2, r3, r4, r5⟩ := h.1
  refine ⟨by omega, by omega, fun p a b => ?_, fun p k a b c d => ?_, fun p a b => ?_, fun b a c => ?_⟩
  · have w := r3 p a (by omega)
    have y := x3 p a (by omega)
    omega
  · have w := r3 p a (by omega)
    have z := r4 p k a (by omega) c (by omega)
    have y := x4 p k a (by omega) c (by omega)
    omega
  · have w := r3 p a (by omega)
    have y := x5 p a (by omega)
    omega
  · have w := r5 b a (by omega)
    have y := x6 b a (by omega)
    omega
/-! rows -/
theorem hb_congr {f h : Int → Int} {n lo hi : Int} (e : ∀ k, 0 ≤ k → k ≤ n → f k = h k) : ∀ (d : Nat), (d : Int) ≤ n → ∀ i, hb f n lo hi d i = hb h n lo hi d i := by
  intro d
  induction d with
  | zero =>
    intro hd i
    show (if i = 0 then f n else 0) = if i = 0 then h n else 0
    rw [e n (by omega) (by omega)]
  | succ d ih =>
    intro hd i
    have w := ih (by omega)
    show (if 0 ≤ i ∧ i ≤ (d : Int) + 1 then (if i = 0 then hb f n lo hi d 0 * lo else hb f n lo hi d i * lo + hb f n lo hi d (i - 1) * hi) + f (n - 1 - d) * 64 ^ (d + 1) * bnZ (d + 1) i else 0) = if 0 ≤ i ∧ i ≤ (d : Int) + 1 then (if i = 0 then hb h n lo hi d 0 * lo else hb h n lo hi d i * lo + hb h n lo hi d (i - 1) * hi) + h (n - 1 - d) * 64 ^ (d + 1) * bnZ (d + 1) i else 0
    rw [w 0, w i, w (i - 1), e (n - 1 - d) (by omega) (by omega)]
theorem nb_congr {f h : Int → Int} {n lo hi : Int} (hn : 0 ≤ n) (e : ∀ k, 0 ≤ k → k ≤ n → f k = h k) : ∀ (r : Nat), nb f n lo hi r = nb h n lo hi r := by
  intro r
  induction r with
  | zero =>
    funext i
    exact hb_congr e n.toNat (by omega) i
  | succ r ih =>
    funext i
    show (if i = 0 then nb f n lo hi r 0 else nb f n lo hi r i + nb f n lo hi r (i - 1)) = if i = 0 then nb h n lo hi r 0 else nb h n lo hi r i + nb h n lo hi r (i - 1)
    rw [ih]
theorem Inv.lo {σ : Sg} (I : Inv σ) (hb : 0 ≤ σ 27 2 ∧ σ 27 2 < σ 0 1) (a : Int) : loM σ a = loX σ a ∧ loM σ a + wdM σ a = hiX σ a := by
  have w := I.1.2.2.2.2.2 (σ 27 2) hb.1 hb.2
  unfold loM wdM loX hiX
  rw [I.e.2.2.2, w.1, w.2]
  refine ⟨rfl, ?_⟩
  rw [show (a + 1) * pz a - 64 = (a * pz a - 64) + pz a from by rw [Int.add_mul, Int.one_mul]; omega, Int.mul_add]
  omega
theorem Inv.Np {σ : Sg} (I : Inv σ) {p : Int} (hp : 0 ≤ p ∧ p < σ 0 0) (hb : 0 ≤ σ 27 2 ∧ σ 27 2 < σ 0 1) (a : Int) (r : Nat) : σ 49 (2 + p) = σ 1 p - 1 ∧ NMp σ p a r = nb (fX σ p) (σ 1 p - 1) (loX σ a) (hiX σ a) r := by
  have w := (I.1.2.2.2.1 p hp.1 hp.2).1
  have y := I.1.1.2.2.1 p hp.1 hp.2
  refine ⟨w, ?_⟩
  unfold NMp
  rw [w, (I.lo hb a).2, (I.lo hb a).1]
  exact nb_congr (by omega) (fun k h0 h1 => I.1.2.2.2.2.1 p k hp.1 hp.2 h0 (by omega)) r
theorem Inv.N {σ : Sg} (I : Inv σ) (V : VT σ) (a : Int) (r : Nat) : σ 49 (2 + σ 48 6) = nX σ ∧ NMp σ (σ 48 6) a r = NX σ a r := by
  rw [I.e.2.2.1]
  exact I.Np V.1 V.2 a r
theorem Inv.VM {σ : Sg} (I : Inv σ) (V : VT σ) : VTm σ := by
  obtain ⟨e0, e1, e6, e7⟩ := I.e
  unfold VTm
  rw [e0, e1, e6, e7]
  exact V
theorem sc_pre {σ τ : Sg} (I : Inv σ) (f : scX σ τ) : Inv τ ∧ (τ 49 0 = σ 0 0 ∧ τ 49 1 = σ 0 1 ∧ τ 48 6 = σ 27 1 ∧ τ 48 7 = σ 27 2) ∧ (VT σ → VT τ ∧ τ 49 (2 + τ 48 6) = nX σ ∧ ∀ a r, NMp τ (τ 48 6) a r = NX σ a r) := by
  have I1 := I.sc f
  have e : ∀ k, k ≤ 27 → τ k = σ k := fun k hk => f k (by omega)
  obtain ⟨e0, e1, e6, e7⟩ := I1.e
  refine ⟨I1, ⟨by rw [e0, e 0 (by decide)], by rw [e1, e 0 (by decide)], by rw [e6, e 27 (by decide)], by rw [e7, e 27 (by decide)]⟩, fun V => ?_⟩
  have V1 := V.mono e
  refine ⟨V1, ?_, fun a r => ?_⟩
  · rw [(I1.N V1 1 0).1, nX_congr e]
  · rw [(I1.N V1 a r).2, NX_congr e]
/-! brackets -/
theorem hb_0 {f : Int → Int} {n lo hi hi2 : Int} : ∀ (d : Nat), (d : Int) ≤ 7 → hb f n lo hi d 0 = hb f n lo hi2 d 0 := by
  intro d
  induction d with
  | zero => intro _; rfl
  | succ d ih =>
    intro hd
    show (if (0 : Int) ≤ 0 ∧ (0 : Int) ≤ (d : Int) + 1 then (if (0 : Int) = 0 then hb f n lo hi d 0 * lo else _) + _ else 0) = if (0 : Int) ≤ 0 ∧ (0 : Int) ≤ (d : Int) + 1 then (if (0 : Int) = 0 then hb f n lo hi2 d 0 * lo else _) + _ else 0
    have a1 : (0 : Int) ≤ 0 ∧ (0 : Int) ≤ (d : Int) + 1 := by omega
    rw [if_pos a1, if_pos a1, if_pos rfl, if_pos rfl, ih (by omega)]
theorem hb_n {f : Int → Int} {n lo hi hi2 : Int} : ∀ (d : Nat), (d : Int) ≤ 7 → hb f n lo hi d d = hb f n hi hi2 d 0 := by
  intro d
  induction d with
  | zero => intro _; rfl
  | succ d ih =>
    intro hd
    have e1 : hb f n lo hi (d + 1) ((d + 1 : Nat) : Int) = (hb f n lo hi d ((d + 1 : Nat) : Int) * lo + hb f n lo hi d (((d + 1 : Nat) : Int) - 1) * hi) + f (n - 1 - d) * 64 ^ (d + 1) * bnZ (d + 1) ((d + 1 : Nat) : Int) := by
      show (if 0 ≤ ((d + 1 : Nat) : Int) ∧ ((d + 1 : Nat) : Int) ≤ (d : Int) + 1 then (if ((d + 1 : Nat) : Int) = 0 then _ else hb f n lo hi d ((d + 1 : Nat) : Int) * lo + hb f n lo hi d (((d + 1 : Nat) : Int) - 1) * hi) + _ else 0) = _
      rw [if_pos (by omega), if_neg (by omega)]
    have e2 : hb f n hi hi2 (d + 1) 0 = hb f n hi hi2 d 0 * hi + f (n - 1 - d) * 64 ^ (d + 1) * bnZ (d + 1) 0 := by
      show (if (0 : Int) ≤ 0 ∧ (0 : Int) ≤ (d : Int) + 1 then (if (0 : Int) = 0 then hb f n hi hi2 d 0 * hi else _) + _ else 0) = _
      rw [if_pos (by omega), if_pos rfl]
    have b1 : bnZ ((d : Int) + 1) ((d + 1 : Nat) : Int) = 1 := by
      rw [show ((d + 1 : Nat) : Int) = (d : Int) + 1 from by omega]
      exact bnZ_n (by omega)
    have b2 : bnZ ((d : Int) + 1) 0 = 1 := bnZ_0 (by omega)
    rw [e1, e2, hb_hi (by omega), show ((d + 1 : Nat) : Int) - 1 = (d : Int) from by omega, ih (by omega), b1, b2, Int.zero_mul, Int.zero_add]
theorem Inv.Z {σ : Sg} (I : Inv σ) (V : VT σ) {a : Int} (na : 1 ≤ a ∧ a ≤ 127) (h0 : bhd a ≠ 0) : ZMd σ a = ZX σ a := by
  have y := I.1.1.2.2.1 (σ 27 1) V.1.1 V.1.2
  have q := (rk_of na).2.2.2.2 h0
  unfold ZMd ZX
  rw [show (0 : Int).toNat = 0 from rfl, (I.N V (bhd a) 0).2]
  have e1 : hiX σ a = loX σ (bhd a) := by
    unfold hiX loX
    rw [q.2.1, Int.add_mul, Int.one_mul]
  have e2 : NX σ a 0 (nX σ) = NX σ (bhd a) 0 0 := by
    show hb (fX σ (σ 27 1)) (σ 1 (σ 27 1) - 1) (loX σ a) (hiX σ a) (σ 1 (σ 27 1) - 1).toNat (σ 1 (σ 27 1) - 1) = hb (fX σ (σ 27 1)) (σ 1 (σ 27 1) - 1) (loX σ (bhd a)) (hiX σ (bhd a)) (σ 1 (σ 27 1) - 1).toNat 0
    rw [← e1]
    have w := hb_n (f := fX σ (σ 27 1)) (n := σ 1 (σ 27 1) - 1) (lo := loX σ a) (hi := hiX σ a) (hi2 := hiX σ (bhd a)) (σ 1 (σ 27 1) - 1).toNat (by omega)
    rw [show (((σ 1 (σ 27 1) - 1).toNat : Nat) : Int) = σ 1 (σ 27 1) - 1 from by omega] at w
    exact w
  rw [e2]
theorem bhd_r {a : Int} (na : 1 ≤ a ∧ a ≤ 127) : bhd a = 0 ∨ (1 ≤ bhd a ∧ bhd a ≤ 127) := (PT_b na).2
theorem trB_congr {V W : Int → Int} {Z Y : Int → Bool} (e1 : ∀ a, 1 ≤ a ∧ a ≤ 127 → V a = W a) (e2 : ∀ a, 1 ≤ a ∧ a ≤ 127 → bhd a ≠ 0 → Z a = Y a) : ∀ (t : Nat) (a : Int) (L : List (Int × Int)), (a = 0 ∨ (1 ≤ a ∧ a ≤ 127)) → trB V Z t a L = trB W Y t a L := by
  intro t
  induction t with
  | zero => intro a L _; rfl
  | succ t ih =>
    intro a L ha
    by_cases c : a = 0
    · rw [c]
      exact (if_pos rfl).trans (if_pos rfl).symm
    · have na := ha.resolve_left c
      by_cases d : 1 < V a ∧ a < 64
      · refine ((if_neg c).trans (if_pos d)).trans (((if_neg c).trans (if_pos ?_)).trans (ih _ _ (by omega)).symm).symm
        rw [← e1 a na]
        exact d
      · rw [trB_leaf c d, trB_leaf c (by rw [← e1 a na]; exact d), e1 a na, ih _ _ (bhd_r na)]
        by_cases h0 : bhd a = 0
        · rw [if_neg (show ¬ (bhd a ≠ 0 ∧ Z a = true) from fun z => z.1 h0), if_neg (show ¬ (bhd a ≠ 0 ∧ Y a = true) from fun z => z.1 h0)]
        · rw [e2 a na h0]
theorem Inv.V {σ : Sg} (I : Inv σ) (V : VT σ) (a : Int) : VMd σ a = VX σ a := by
  unfold VMd VX
  rw [show (0 : Int).toNat = 0 from rfl, (I.N V a 0).2, (I.N V a 0).1, Int.add_zero]
theorem Inv.trB {σ : Sg} (I : Inv σ) (V : VT σ) : trB (VMd σ) (ZMd σ) 127 1 [] = trB (VX σ) (ZX σ) 127 1 [] := trB_congr (fun a _ => I.V V a) (fun a na h0 => I.Z V na h0) 127 1 [] (Or.inr (by decide))
theorem VX_congr {σ τ : Sg} (e : ∀ k, k ≤ 27 → τ k = σ k) : VX τ = VX σ := by
  funext a
  unfold VX
  rw [NX_congr e, nX_congr e]
theorem ZX_congr {σ τ : Sg} (e : ∀ k, k ≤ 27 → τ k = σ k) : ZX τ = ZX σ := by
  funext a
  unfold ZX
  rw [NX_congr e, nX_congr e]
/-! papers -/
theorem Inv.A {σ : Sg} (I : Inv σ) (V : VT σ) (a : Int) (r : Nat) : AMm σ a r = AX σ a r := by
  unfold AMm AX ABM
  rw [show ((r : Int)).toNat = r from rfl, (I.N V a r).2, (I.N V a r).1]
theorem trP_congr {f1 f2 s1 s2 h1 h2 l1 l2 i1 i2 : Int → Int} (e1 : ∀ a, 1 ≤ a ∧ a ≤ 127 → f1 a = f2 a) (e2 : ∀ a, 1 ≤ a ∧ a ≤ 127 → s1 a = s2 a) (e3 : ∀ a, 1 ≤ a ∧ a ≤ 127 → h1 a = h2 a) (e4 : ∀ a, 1 ≤ a ∧ a ≤ 127 → l1 a = l2 a) (e5 : ∀ a, 1 ≤ a ∧ a ≤ 127 → i1 a = i2 a) : ∀ (t : Nat) (a : Int) (L : List Int), (a = 0 ∨ (1 ≤ a ∧ a ≤ 127)) → trP f1 s1 h1 l1 i1 t a L = trP f2 s2 h2 l2 i2 t a L := by
  intro t
  induction t with
  | zero => intro a L _; rfl
  | succ t ih =>
    intro a L ha
    by_cases c : a = 0
    · rw [c]
      exact (if_pos rfl).trans (if_pos rfl).symm
    · have na := ha.resolve_left c
      show (if a = 0 then _ else if f1 a ≠ -9 then trP f1 s1 h1 l1 i1 t (bhd a) (L ++ [48 + f1 a]) else if s1 a ≤ 0 then (-7, l1 a, L) else if h1 a ≤ 0 then (-7, i1 a, L) else if 64 ≤ a then (-8, 0, L) else trP f1 s1 h1 l1 i1 t (2 * a) (L ++ [115])) = if a = 0 then _ else if f2 a ≠ -9 then trP f2 s2 h2 l2 i2 t (bhd a) (L ++ [48 + f2 a]) else if s2 a ≤ 0 then (-7, l2 a, L) else if h2 a ≤ 0 then (-7, i2 a, L) else if 64 ≤ a then (-8, 0, L) else trP f2 s2 h2 l2 i2 t (2 * a) (L ++ [115])
      rw [if_neg c, if_neg c, e1 a na, e2 a na, e3 a na, e4 a na, e5 a na, ih (bhd a) _ (bhd_r na)]
      by_cases d : 64 ≤ a
      · rw [if_pos d, if_pos d]
      · rw [ih (2 * a) _ (by omega)]
theorem Inv.trP {σ : Sg} (I : Inv σ) (V : VT σ) : trP (FGm σ) (SLm σ) (SHm σ) (loM σ) (hiM σ) 127 1 [] = trP (FG σ) (SL σ) (SH σ) (loX σ) (hiX σ) 127 1 [] := by
  refine trP_congr (fun a _ => ?_) (fun a _ => ?_) (fun a _ => ?_) (fun a _ => (I.lo V.2 a).1) (fun a _ => (I.lo V.2 a).2) 127 1 [] (Or.inr (by decide))
  · unfold FGm FG
    rw [show (fun j : Nat => ABM σ (σ 48 6) a (j : Int) 1) = AX σ a from funext (fun j => I.A V a j)]
  · unfold SLm SL
    rw [show (0 : Int).toNat = 0 from rfl, (I.N V a 0).2]
  · unfold SHm SH
    rw [show (0 : Int).toNat = 0 from rfl, (I.N V a 0).2, (I.N V a 0).1]
theorem SL_congr {σ τ : Sg} (e : ∀ k, k ≤ 27 → τ k = σ k) : SL τ = SL σ := by
  funext a
  unfold SL
  rw [NX_congr e]
theorem SH_congr {σ τ : Sg} (e : ∀ k, k ≤ 27 → τ k = σ k) : SH τ = SH σ := by
  funext a
  unfold SH
  rw [NX_congr e, nX_congr e]
theorem trR_congr {A B : Int → Nat → Bool} {T U : Int → Int} {len : Int} (e : ∀ a r, A a r = B a r) (eT : ∀ i, 0 ≤ i → i < len → T i = U i) : ∀ (t : Nat) (i a : Int) (b : Bool), 0 ≤ i → i + t ≤ len → trR A T len t i a b = trR B U len t i a b := by
  intro t
  induction t with
  | zero => intro i a b _ _; rfl
  | succ t ih =>
    intro i a b h0 h1
    show (if a ≠ 0 ∧ 48 ≤ T i ∧ T i ≤ 50 then trR A T len t (i + 1) (bhd a) (b && A a (T i - 48).toNat) else if a ≠ 0 ∧ a < 64 ∧ T i = 115 then trR A T len t (i + 1) (2 * a) b else -10 - i) = if a ≠ 0 ∧ 48 ≤ U i ∧ U i ≤ 50 then trR B U len t (i + 1) (bhd a) (b && B a (U i - 48).toNat) else if a ≠ 0 ∧ a < 64 ∧ U i = 115 then trR B U len t (i + 1) (2 * a) b else -10 - i
    rw [eT i h0 (by omega), e, ih _ _ _ (by omega) (by omega), ih _ _ _ (by omega) (by omega)]
theorem Inv.trR {σ : Sg} (I : Inv σ) (V : VT σ) : trR (AMm σ) (σ 56) (σ 48 12) (σ 48 12).toNat 0 1 true = trR (AX σ) (σ 26) (σ 25 1) (σ 25 1).toNat 0 1 true := by
  obtain ⟨e, b, t⟩ := I.2.1
  rw [e]
  exact trR_congr (fun a r => I.A V a r) (fun i x y => (t i x y).1) _ 0 1 true (by decide) (by omega)
/-! wishes -/
theorem jdg_f {W : Int → Int} {AB : Int → Int → Bool} {N : Int} : ∀ (t : Nat) (p v : Int), N - p = t → (v = 0 ∨ v = 2) → (jdg W AB t p v = 1 ∧ (∃ q, p ≤ q ∧ q < N ∧ W q ≠ 0 ∧ AB q (-(W q)) = true)) ∨ (¬ (∃ q, p ≤ q ∧ q < N ∧ W q ≠ 0 ∧ AB q (-(W q)) = true) ∧ ((jdg W AB t p v = 0 ∧ v = 0 ∧ ∀ q, p ≤ q → q < N → W q = 0 ∨ AB q (W q) = true) ∨ (jdg W AB t p v = 2 ∧ (v = 2 ∨ ∃ q, p ≤ q ∧ q < N ∧ W q ≠ 0 ∧ ¬ AB q (W q) = true)))) := by
  intro t
  induction t with
  | zero =>
    intro p v h1 h2
    refine Or.inr ⟨?_, ?_⟩
    · rintro ⟨q, a, b, _⟩
      omega
    · rcases h2 with z | z
      · exact Or.inl ⟨z, z, fun q a b => by omega⟩
      · exact Or.inr ⟨z, Or.inl z⟩
  | succ t ih =>
    intro p v h1 h2
    have st : jdg W AB (t + 1) p v = if W p = 0 then jdg W AB t (p + 1) v else if AB p (-(W p)) = true then 1 else if AB p (W p) = true then jdg W AB t (p + 1) v else jdg W AB t (p + 1) 2 := rfl
    rw [st]
    by_cases c1 : W p = 0
    · rw [if_pos c1]
      rcases ih (p + 1) v (by omega) h2 with ⟨a, q, q1, q2, q3, q4⟩ | ⟨n, o⟩
      · exact Or.inl ⟨a, q, by omega, q2, q3, q4⟩
      · refine Or.inr ⟨?_, ?_⟩
        · rintro ⟨q, q1, q2, q3, q4⟩
          by_cases z : q = p
          · rw [z] at q3
            exact q3 c1
          · exact n ⟨q, by omega, q2, q3, q4⟩
        · rcases o with ⟨a, b, d⟩ | ⟨a, b⟩
          · exact Or.inl ⟨a, b, fun q x y => if z : q = p then Or.inl (by rw [z]; exact c1) else d q (by omega) y⟩
          · refine Or.inr ⟨a, ?_⟩
            rcases b with b | ⟨q, q1, q2, q3, q4⟩
            · exact Or.inl b
            · exact Or.inr ⟨q, by omega, q2, q3, q4⟩
    · rw [if_neg c1]
      by_cases c2 : AB p (-(W p)) = true
      · rw [if_pos c2]
        exact Or.inl ⟨rfl, p, by omega, by omega, c1, c2⟩
      · rw [if_neg c2]
        have nn : ∀ (n : ¬ ∃ q, p + 1 ≤ q ∧ q < N ∧ W q ≠ 0 ∧ AB q (-(W q)) = true), ¬ ∃ q, p ≤ q ∧ q < N ∧ W q ≠ 0 ∧ AB q (-(W q)) = true := by
          rintro n ⟨q, q1, q2, q3, q4⟩
          by_cases z : q = p
          · rw [z] at q4
            exact c2 q4
          · exact n ⟨q, by omega, q2, q3, q4⟩
        by_cases c3 : AB p (W p) = true
        · rw [if_pos c3]
          rcases ih (p + 1) v (by omega) h2 with ⟨a, q, q1, q2, q3, q4⟩ | ⟨n, o⟩
          · exact Or.inl ⟨a, q, by omega, q2, q3, q4⟩
          · refine Or.inr ⟨nn n, ?_⟩
            rcases o with ⟨a, b, d⟩ | ⟨a, b⟩
            · exact Or.inl ⟨a, b, fun q x y => if z : q = p then Or.inr (by rw [z]; exact c3) else d q (by omega) y⟩
            · refine Or.inr ⟨a, ?_⟩
              rcases b with b | ⟨q, q1, q2, q3, q4⟩
              · exact Or.inl b
              · exact Or.inr ⟨q, by omega, q2, q3, q4⟩
        · rw [if_neg c3]
          rcases ih (p + 1) 2 (by omega) (Or.inr rfl) with ⟨a, q, q1, q2, q3, q4⟩ | ⟨n, o⟩
          · exact Or.inl ⟨a, q, by omega, q2, q3, q4⟩
          · refine Or.inr ⟨nn n, ?_⟩
            rcases o with ⟨a, b, d⟩ | ⟨a, b⟩
            · exact absurd b (by decide)
            · exact Or.inr ⟨a, Or.inr ⟨p, by omega, by omega, c1, c3⟩⟩
theorem Inv.AB {σ : Sg} (I : Inv σ) (hb : 0 ≤ σ 27 2 ∧ σ 27 2 < σ 0 1) {p : Int} (hp : 0 ≤ p ∧ p < σ 0 0) (a s : Int) : ABM σ p a 0 s = ABX σ a p s := by
  have w := I.Np hp hb a 0
  unfold ABM ABX
  rw [show (0 : Int).toNat = 0 from rfl, w.2, w.1, show σ 1 p - 1 + 0 + 1 = σ 1 p from by omega]
theorem abv_no {f : Int → Int} {s : Int} {t : Nat} (ht : 1 ≤ t) (hs : s ≠ 0) (h1 : abv f s t = true) (h2 : abv f (-s) t = true) : False := by
  have a := abv_iff.mp h1 0 (by decide) (by omega)
  have b := abv_iff.mp h2 0 (by decide) (by omega)
  omega
theorem Inv.J {σ : Sg} (I : Inv σ) (hb : 0 ≤ σ 27 2 ∧ σ 27 2 < σ 0 1) (a : Int) : JM σ a = JX σ a := by
  have x := I.1.1
  have e0 := I.e.1
  have ew : ∀ q, 0 ≤ q → q < σ 0 0 → σ 49 (29 + q) = σ 3 q := fun q x y => (I.1.2.2.2.1 q x y).2
  have w := jdg_f (W := σ 3) (AB := ABX σ a) (N := σ 0 0) (σ 0 0).toNat 0 0 (by have := x.1; omega) (Or.inl rfl)
  have hB : BRK σ a ↔ ∃ q, 0 ≤ q ∧ q < σ 0 0 ∧ σ 3 q ≠ 0 ∧ ABX σ a q (-(σ 3 q)) = true := by
    unfold BRK
    rw [e0]
    constructor
    · rintro ⟨q, q1, q2, q3, q4⟩
      rw [ew q q1 q2] at q3 q4
      rw [I.AB hb ⟨q1, q2⟩] at q4
      exact ⟨q, q1, q2, q3, q4⟩
    · rintro ⟨q, q1, q2, q3, q4⟩
      refine ⟨q, q1, q2, ?_, ?_⟩
      · rw [ew q q1 q2]
        exact q3
      · rw [ew q q1 q2, I.AB hb ⟨q1, q2⟩]
        exact q4
  have hH : HLD σ a ↔ ∀ q, 0 ≤ q → q < σ 0 0 → σ 3 q = 0 ∨ ABX σ a q (σ 3 q) = true := by
    unfold HLD
    rw [e0]
    constructor
    · intro z q q1 q2
      have := z q q1 q2
      rw [ew q q1 q2, I.AB hb ⟨q1, q2⟩] at this
      exact this
    · intro z q q1 q2
      rw [ew q q1 q2, I.AB hb ⟨q1, q2⟩]
      exact z q q1 q2
  have hJ : JX σ a = jdg (σ 3) (ABX σ a) (σ 0 0).toNat 0 0 := rfl
  rw [hJ]
  rcases w with ⟨w1, q, q1, q2, q3, q4⟩ | ⟨n, ⟨w1, _, w3⟩ | ⟨w1, w2⟩⟩
  · rw [w1]
    refine JM_1 (fun z => ?_) (hB.mpr ⟨q, q1, q2, q3, q4⟩)
    have u := (hH.mp z q q1 q2).resolve_left q3
    have y := x.2.2.1 q q1 q2
    exact abv_no (by omega) q3 u q4
  · rw [w1]
    exact JM_0 (hH.mpr w3)
  · rw [w1]
    obtain ⟨q, q1, q2, q3, q4⟩ := w2.resolve_left (by decide)
    exact JM_2 (fun z => q4 ((hH.mp z q q1 q2).resolve_left q3)) (fun z => n (hB.mp z))
/-! bounds -/
theorem td_tab : ∀ (n i : Fin 6), i.1 ≤ n.1 → Int.tdiv 60 (bnZ (n.1 : Int) (i.1 : Int)) * bnZ (n.1 : Int) (i.1 : Int) = 60 := by decide +kernel
theorem td_60 {n i : Int} (hn : 0 ≤ n ∧ n ≤ 5) (hi : 0 ≤ i ∧ i ≤ n) : Int.tdiv 60 (bnZ n i) * bnZ n i = 60 := by
  have w := td_tab ⟨n.toNat, by omega⟩ ⟨i.toNat, by omega⟩ (by show i.toNat ≤ n.toNat; omega)
  simp only at w
  rw [show ((n.toNat : Nat) : Int) = n from by omega, show ((i.toNat : Nat) : Int) = i from by omega] at w
  exact w
theorem Inv.c60 {σ : Sg} (I : Inv σ) (V : VT σ) {a : Int} (na : 1 ≤ a ∧ a ≤ 127) {i : Int} (hi : 0 ≤ i ∧ i ≤ nX σ) : 60 * RW0 σ a i = lcf (nX σ) (nX σ) * cmX σ a i := by
  have y := I.1.1.2.2.1 (σ 27 1) V.1.1 V.1.2
  have en : nX σ = σ 1 (σ 27 1) - 1 := rfl
  have s := (RW0_S I.M (I.VM V) na i hi.1 (by rw [(I.N V a 0).1]; exact hi.2)).2
  rw [(I.N V a 0).2, (I.N V a 0).1] at s
  have t := td_60 (n := nX σ) (i := i) (by omega) hi
  have b := bnZ_b (t := nX σ) (i := i) (by omega) hi
  have e : 60 * RW0 σ a i * bnZ (nX σ) i = lcf (nX σ) (nX σ) * cmX σ a i * bnZ (nX σ) i := by
    unfold cmX
    rw [Int.mul_assoc, s, Int.mul_assoc, Int.mul_assoc, t, Int.mul_comm (NX σ a 0 i) 60, ← Int.mul_assoc, ← Int.mul_assoc, Int.mul_comm 60 (lcf (nX σ) (nX σ))]
  exact Int.eq_of_mul_eq_mul_right (by omega) e
theorem mnf_sc {f h : Int → Int} {A B : Int} (hA : 0 < A) (hB : 0 < B) : ∀ (t : Nat) (i m k : Int), (∀ j, i ≤ j → j < i + t → A * f j = B * h j) → A * m = B * k → A * mnf f t i m = B * mnf h t i k := by
  intro t
  induction t with
  | zero => intro i m k _ e; exact e
  | succ t ih =>
    intro i m k e e2
    have ei := e i (by omega) (by omega)
    show A * mnf f t (i + 1) (if f i < m then f i else m) = B * mnf h t (i + 1) (if h i < k then h i else k)
    refine ih (i + 1) _ _ (fun j x y => e j (by omega) (by omega)) ?_
    have q : f i < m ↔ h i < k := by
      constructor
      · intro z
        have := Int.mul_lt_mul_of_pos_left z hA
        rw [ei, e2] at this
        exact Int.lt_of_mul_lt_mul_left this (by omega)
      · intro z
        have := Int.mul_lt_mul_of_pos_left z hB
        rw [← ei, ← e2] at this
        exact Int.lt_of_mul_lt_mul_left this (by omega)
    by_cases c : f i < m
    · rw [if_pos c, if_pos (q.mp c)]
      exact ei
    · rw [if_neg c, if_neg (fun z => c (q.mpr z))]
      exact e2
theorem lcf_p {n : Int} (hn : 0 ≤ n ∧ n ≤ 5) : 0 < lcf n n := by
  rcases (show n = 0 ∨ n = 1 ∨ n = 2 ∨ n = 3 ∨ n = 4 ∨ n = 5 by omega) with rfl | rfl | rfl | rfl | rfl | rfl <;> decide +kernel
theorem Inv.m60 {σ : Sg} (I : Inv σ) (V : VT σ) {a : Int} (na : 1 ≤ a ∧ a ≤ 127) : 60 * mM σ a = lcf (nX σ) (nX σ) * mX σ a ∧ 60 * eM σ a = lcf (nX σ) (nX σ) * eX σ a := by
  have y := I.1.1.2.2.1 (σ 27 1) V.1.1 V.1.2
  have en : nX σ = σ 1 (σ 27 1) - 1 := rfl
  have lp := lcf_p (n := nX σ) (by omega)
  have c0 := I.c60 V na (i := 0) (by omega)
  have cn := I.c60 V na (i := nX σ) (by omega)
  constructor
  · unfold mM mX
    rw [(I.N V a 0).1]
    exact mnf_sc (by decide) lp _ 1 _ _ (fun j x z => I.c60 V na (by omega)) c0
  · unfold eM eX
    rw [(I.N V a 0).1]
    exact mnf_sc (f := fun _ => RW0 σ a (nX σ)) (h := fun _ => cmX σ a (nX σ)) (by decide) lp 1 0 _ _ (fun _ _ _ => cn) c0
theorem insN_r {f : Int → Int} {b sz : Int} (hb : 0 ≤ b ∧ b < sz) (h64 : f b < 64) (hr : ∀ j, 0 ≤ j → j < sz → 1 ≤ f j ∧ f j ≤ 127) : ∀ j, 0 ≤ j → j < sz + 1 → 1 ≤ insN f b j ∧ insN f b j ≤ 127 := by
  intro j x y
  have rb := hr b hb.1 hb.2
  unfold insN
  by_cases c1 : j < b
  · rw [if_pos c1]
    exact hr j x (by omega)
  · rw [if_neg c1]
    by_cases c2 : j = b
    · rw [if_pos c2]
      omega
    · rw [if_neg c2]
      by_cases c3 : j = b + 1
      · rw [if_pos c3]
        omega
      · rw [if_neg c3]
        exact hr (j - 1) (by omega) (by omega)
theorem lws_mono {f h : Int → Int} : ∀ (t : Nat) (i b : Int), 0 ≤ b → b < i → (∀ j k, 0 ≤ j → j < i + t → 0 ≤ k → k < i + t → (f j < f k ↔ h j < h k)) → lws f t i b = lws h t i b := by
  intro t
  induction t with
  | zero => intro i b _ _ _; rfl
  | succ t ih =>
    intro i b h0 h1 e
    have ei := e i b (by omega) (by omega) h0 (by omega)
    show lws f t (i + 1) (if f i < f b then i else b) = lws h t (i + 1) (if h i < h b then i else b)
    have e2 : (if f i < f b then i else b) = if h i < h b then i else b := by
      by_cases c : f i < f b
      · rw [if_pos c, if_pos (ei.mp c)]
      · rw [if_neg c, if_neg (fun z => c (ei.mpr z))]
    rw [e2]
    refine ih (i + 1) _ (by split <;> omega) (by split <;> omega) (fun j k a b c d => e j k a (by omega) c (by omega))
theorem nrF_mono {p q : Int → Int} (e : ∀ a b, 1 ≤ a ∧ a ≤ 127 → 1 ≤ b ∧ b ≤ 127 → (p a < p b ↔ q a < q b)) : ∀ (t : Nat) (sz : Int) (f : Int → Int), 1 ≤ sz → (∀ j, 0 ≤ j → j < sz → 1 ≤ f j ∧ f j ≤ 127) → nrF p t sz f = nrF q t sz f ∧ (∀ j, 0 ≤ j → j < (nrF q t sz f).1 → 1 ≤ (nrF q t sz f).2 j ∧ (nrF q t sz f).2 j ≤ 127) ∧ 1 ≤ (nrF q t sz f).1 := by
  intro t
  induction t with
  | zero => intro sz f h1 hr; exact ⟨rfl, hr, h1⟩
  | succ t ih =>
    intro sz f h1 hr
    have el : lws (fun j => p (f j)) (sz - 1).toNat 1 0 = lws (fun j => q (f j)) (sz - 1).toNat 1 0 := lws_mono _ 1 0 (by decide) (by decide) (fun j k a b c d => e (f j) (f k) (hr j a (by omega)) (hr k c (by omega)))
    have lb := lws_b (h := fun j => q (f j)) (sz - 1).toNat 1 0 (by decide) (by decide)
    have s1 : nrF p (t + 1) sz f = if 64 ≤ f (lws (fun j => p (f j)) (sz - 1).toNat 1 0) then (sz, f) else nrF p t (sz + 1) (insN f (lws (fun j => p (f j)) (sz - 1).toNat 1 0)) := rfl
    have s2 : nrF q (t + 1) sz f = if 64 ≤ f (lws (fun j => q (f j)) (sz - 1).toNat 1 0) then (sz, f) else nrF q t (sz + 1) (insN f (lws (fun j => q (f j)) (sz - 1).toNat 1 0)) := rfl
    rw [s1, s2, el]
    generalize lws (fun j => q (f j)) (sz - 1).toNat 1 0 = B at lb
    by_cases c : 64 ≤ f B
    · rw [if_pos c, if_pos c]
      exact ⟨rfl, hr, h1⟩
    · rw [if_neg c, if_neg c]
      exact ih (sz + 1) (insN f B) (by omega) (insN_r (by omega) (by omega) hr)
theorem Inv.nr {σ : Sg} (I : Inv σ) (V : VT σ) (n r w : Int) : FR (if r = 0 then mnf (fun j => mM σ ((nrF (mM σ) n.toNat 1 (fun _ => 1)).2 j)) ((nrF (mM σ) n.toNat 1 (fun _ => 1)).1 - 1).toNat 1 (mM σ ((nrF (mM σ) n.toNat 1 (fun _ => 1)).2 0)) else mnf (fun j => eM σ ((nrF (mM σ) n.toNat 1 (fun _ => 1)).2 j)) ((nrF (mM σ) n.toNat 1 (fun _ => 1)).1 - 1).toNat 1 (eM σ ((nrF (mM σ) n.toNat 1 (fun _ => 1)).2 0))) (lcf ((σ 49 (2 + σ 48 6)) + 0) (σ 49 (2 + σ 48 6)) * 64 ^ (σ 49 (2 + σ 48 6)).toNat) w = FR (if r = 0 then mnf (fun j => mX σ ((nrF (mX σ) n.toNat 1 (fun _ => 1)).2 j)) ((nrF (mX σ) n.toNat 1 (fun _ => 1)).1 - 1).toNat 1 (mX σ ((nrF (mX σ) n.toNat 1 (fun _ => 1)).2 0)) else mnf (fun j => eX σ ((nrF (mX σ) n.toNat 1 (fun _ => 1)).2 j)) ((nrF (mX σ) n.toNat 1 (fun _ => 1)).1 - 1).toNat 1 (eX σ ((nrF (mX σ) n.toNat 1 (fun _ => 1)).2 0))) (60 * 64 ^ (nX σ).toNat) w := by
  have y := I.1.1.2.2.1 (σ 27 1) V.1.1 V.1.2
  have en : nX σ = σ 1 (σ 27 1) - 1 := rfl
  have lp := lcf_p (n := nX σ) (by omega)
  rw [(I.N V 1 0).1, Int.add_zero]
  have mono : ∀ a b, 1 ≤ a ∧ a ≤ 127 → 1 ≤ b ∧ b ≤ 127 → (mM σ a < mM σ b ↔ mX σ a < mX σ b) := by
    intro a b na nb
    have ea := (I.m60 V na).1
    have eb := (I.m60 V nb).1
    constructor
    · intro z
      have := Int.mul_lt_mul_of_pos_left z (show (0 : Int) < 60 by decide)
      rw [ea, eb] at this
      exact Int.lt_of_mul_lt_mul_left this (by omega)
    · intro z
      have := Int.mul_lt_mul_of_pos_left z lp
      rw [← ea, ← eb] at this
      exact Int.lt_of_mul_lt_mul_left this (by decide)
  obtain ⟨e1, e2, e3⟩ := nrF_mono mono n.toNat 1 (fun _ => 1) (by decide) (fun j _ _ => (show (1 : Int) ≤ 1 ∧ (1 : Int) ≤ 127 by decide))
  rw [e1]
  generalize nrF (mX σ) n.toNat 1 (fun _ => 1) = G at e2 e3
  have p6 : (0 : Int) < 64 ^ (nX σ).toNat := Int.pow_pos (by decide)
  have key : ∀ U W : Int, 60 * U = lcf (nX σ) (nX σ) * W → FR U (lcf (nX σ) (nX σ) * 64 ^ (nX σ).toNat) w = FR W (60 * 64 ^ (nX σ).toNat) w := by
    intro U W h
    refine FR_eq (Int.mul_pos lp p6) (Int.mul_pos (by decide) p6) ?_
    rw [← Int.mul_assoc, Int.mul_comm U 60, h, Int.mul_comm (lcf (nX σ) (nX σ)) W, Int.mul_assoc]
  by_cases c : r = 0
  · rw [if_pos c, if_pos c]
    exact key _ _ (mnf_sc (by decide) lp _ 1 _ _ (fun j x z => (I.m60 V (e2 j (by omega) (by omega))).1) (I.m60 V (e2 0 (by decide) (by omega))).1)
  · rw [if_neg c, if_neg c]
    exact key _ _ (mnf_sc (by decide) lp _ 1 _ _ (fun j x z => (I.m60 V (e2 j (by omega) (by omega))).2) (I.m60 V (e2 0 (by decide) (by omega))).2)
/-! signs at whole numbers -/
theorem hn_x {f : Int → Int} {x : Int} : ∀ (m : Nat) (s : Int), hn f x m s = s * x ^ m + hn f x m 0 := by
  intro m
  induction m with
  | zero =>
    intro s
    show s = s * x ^ 0 + 0
    rw [Int.pow_zero]
    omega
  | succ m ih =>
    intro s
    show hn f x m (s * x + f m) = s * x ^ (m + 1) + hn f x m (0 * x + f m)
    rw [ih (s * x + f m), ih (0 * x + f m), Int.add_mul, Int.zero_mul, Int.zero_add, Int.mul_assoc, show x * x ^ m = x ^ (m + 1) from by rw [Int.pow_succ, Int.mul_comm], Int.add_assoc]
theorem smS_x {f : Int → Int} {x : Int} : ∀ (t : Nat) (k s : Int), smS f x t k s = s + smS f x t k 0 := by
  intro t
  induction t with
  | zero =>
    intro k s
    show s = s + 0
    omega
  | succ t ih =>
    intro k s
    show smS f x t (k + 1) (s + f k * x ^ k.toNat) = s + smS f x t (k + 1) (0 + f k * x ^ k.toNat)
    rw [ih (k + 1) (s + f k * x ^ k.toNat), ih (k + 1) (0 + f k * x ^ k.toNat), Int.zero_add, Int.add_assoc]
theorem smS_e {f : Int → Int} {x : Int} : ∀ (t : Nat) (k : Int), 0 ≤ k → smS f x (t + 1) k 0 = smS f x t k 0 + f (k + t) * x ^ (k + t).toNat := by
  intro t
  induction t with
  | zero =>
    intro k _
    show 0 + f k * x ^ k.toNat = 0 + f (k + ((0 : Nat) : Int)) * x ^ (k + ((0 : Nat) : Int)).toNat
    rw [show k + ((0 : Nat) : Int) = k from by omega]
  | succ t ih =>
    intro k hk
    have e1 : smS f x (t + 1 + 1) k 0 = smS f x (t + 1) (k + 1) (0 + f k * x ^ k.toNat) := rfl
    have e2 : smS f x (t + 1) k 0 = smS f x t (k + 1) (0 + f k * x ^ k.toNat) := rfl
    rw [e1, e2, smS_x (t + 1) (k + 1) (0 + f k * x ^ k.toNat), ih (k + 1) (by omega), smS_x t (k + 1) (0 + f k * x ^ k.toNat), show k + 1 + (t : Int) = k + ((t + 1 : Nat) : Int) from by omega]
    exact (Int.add_assoc _ _ _).symm
theorem hn_s {f h : Int → Int} {x : Int} : ∀ (m : Nat), (∀ k, 0 ≤ k → k < (m : Int) → f k = h k) → hn f x m 0 = smS h x m 0 0 := by
  intro m
  induction m with
  | zero => intro _; rfl
  | succ m ih =>
    intro e
    have e1 : hn f x (m + 1) 0 = hn f x m (0 * x + f m) := rfl
    rw [e1, hn_x, ih (fun k a b => e k a (by omega)), smS_e m 0 (by decide), Int.zero_mul, Int.zero_add, Int.zero_add, e m (by omega) (by omega), show ((m : Int)).toNat = m from rfl, Int.add_comm]
theorem Inv.Ft {σ : Sg} (I : Inv σ) {p : Int} (hp : 0 ≤ p ∧ p < σ 0 0) : FtM σ p ↔ FtX σ p := by
  have y := I.1.1.2.2.1 p hp.1 hp.2
  obtain ⟨e, b, t⟩ := I.2.2.2.1
  have w : ∀ x : Int, smS (fM σ p) x (σ 49 (2 + p) + 1).toNat 0 0 = hn (fX σ p) x (σ 1 p).toNat 0 := by
    intro x
    rw [(I.1.2.2.2.1 p hp.1 hp.2).1, show σ 1 p - 1 + 1 = σ 1 p from by omega]
    exact (hn_s _ (fun k h0 h1 => (I.1.2.2.2.2.1 p k hp.1 hp.2 h0 (by omega)).symm)).symm
  unfold FtM FtX
  rw [e]
  constructor
  · intro z k h0 h1
    have u := z k h0 h1
    rw [w, (t k h0 h1).1, (t k h0 h1).2.1] at u
    exact u
  · intro z k h0 h1
    rw [w, (t k h0 h1).1, (t k h0 h1).2.1]
    exact z k h0 h1
theorem unF_congr {F G : Int → Bool} {N : Int} : ∀ (t : Nat) (p a : Int), 0 ≤ p → p + t ≤ N → (∀ q, 0 ≤ q → q < N → F q = G q) → unF F t p a = unF G t p a := by
  intro t
  induction t with
  | zero => intro p a _ _ _; rfl
  | succ t ih =>
    intro p a h0 h1 e
    show unF F t (p + 1) (if F p = true then a + pw2 p else a) = unF G t (p + 1) (if G p = true then a + pw2 p else a)
    rw [e p h0 (by omega)]
    exact ih _ _ (by omega) (by omega) e
theorem Inv.un {σ : Sg} (I : Inv σ) : unF (FTb (FtM σ)) (σ 49 0).toNat 0 0 = unF (FTb (FtX σ)) (σ 0 0).toNat 0 0 := by
  have x := I.1.1.1
  rw [I.e.1]
  refine unF_congr (N := σ 0 0) _ 0 0 (by decide) (by omega) (fun q a b => ?_)
  have w := I.Ft ⟨a, b⟩
  by_cases c : FtX σ q
  · rw [FTb_t c, FTb_t (w.mpr c)]
  · have h1 := FTb_f c
    have h2 := FTb_f (fun z => c (w.mp z))
    rw [Bool.not_eq_true] at h1 h2
    rw [h1, h2]
