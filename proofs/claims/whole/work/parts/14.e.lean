/-! bounds; what a node says -/
def BB : Nat → Nat
  | 0 => 50
  | d + 1 => 640 * BB d + 1750 * 64 ^ (d + 1)
theorem waysL_b (m : Nat) : (waysL.getD m 0).natAbs ≤ 35 := by
  have h : (waysL.all fun x => decide (x.natAbs ≤ 35)) = true := by decide +kernel
  rw [List.getD_eq_getElem?_getD]
  cases hq : waysL[m]? with
  | none => decide
  | some x =>
    have := List.all_eq_true.mp h x (List.mem_of_getElem? hq)
    simpa using this
theorem hb_b {f : Int → Int} {n lo hi : Int} (hf : ∀ k, 0 ≤ k → k ≤ n → (f k).natAbs ≤ 50) (hl : lo.natAbs ≤ 320) (hh : hi.natAbs ≤ 320) : ∀ (d : Nat), (d : Int) ≤ n → ∀ i, (hb f n lo hi d i).natAbs ≤ BB d := by
  intro d
  induction d with
  | zero =>
    intro h i
    show (if i = 0 then f n else 0).natAbs ≤ 50
    split
    · exact hf n (by omega) (by omega)
    · decide
  | succ d ih =>
    intro h i
    have hd : (d : Int) ≤ n := by omega
    show (if 0 ≤ i ∧ i ≤ (d : Int) + 1 then (if i = 0 then hb f n lo hi d 0 * lo else hb f n lo hi d i * lo + hb f n lo hi d (i - 1) * hi) + f (n - 1 - d) * 64 ^ (d + 1) * bnZ (d + 1) i else 0).natAbs ≤ 640 * BB d + 1750 * 64 ^ (d + 1)
    have k1 : ∀ j, (hb f n lo hi d j * lo).natAbs ≤ BB d * 320 := fun j => by rw [Int.natAbs_mul]; exact Nat.mul_le_mul (ih hd j) hl
    have k2 : ∀ j, (hb f n lo hi d j * hi).natAbs ≤ BB d * 320 := fun j => by rw [Int.natAbs_mul]; exact Nat.mul_le_mul (ih hd j) hh
    have k3 : (f (n - 1 - d) * 64 ^ (d + 1) * bnZ (d + 1) i).natAbs ≤ 50 * 64 ^ (d + 1) * 35 := by
      rw [Int.natAbs_mul, Int.natAbs_mul, Int.natAbs_pow]
      exact Nat.mul_le_mul (Nat.mul_le_mul (hf _ (by omega) (by omega)) (Nat.le_refl _)) (waysL_b _)
    have e1 : 50 * 64 ^ (d + 1) * 35 = 1750 * 64 ^ (d + 1) := by rw [Nat.mul_right_comm]
    split
    · refine Nat.le_trans (Int.natAbs_add_le _ _) ?_
      have k4 : (if i = 0 then hb f n lo hi d 0 * lo else hb f n lo hi d i * lo + hb f n lo hi d (i - 1) * hi).natAbs ≤ 640 * BB d := by
        split
        · have := k1 0
          omega
        · have := k1 i
          have := k2 (i - 1)
          have := Int.natAbs_add_le (hb f n lo hi d i * lo) (hb f n lo hi d (i - 1) * hi)
          omega
      omega
    · exact Nat.zero_le _
def MB : Nat := 30000000000000000
theorem BB_b : ∀ d : Fin 6, BB d.1 ≤ MB := by decide +kernel
theorem nb_b {f : Int → Int} {n lo hi : Int} (hn : 0 ≤ n ∧ n ≤ 5) (hf : ∀ k, 0 ≤ k → k ≤ n → (f k).natAbs ≤ 50) (hl : lo.natAbs ≤ 320) (hh : hi.natAbs ≤ 320) : ∀ (r : Nat) (i : Int), (nb f n lo hi r i).natAbs ≤ 2 ^ r * MB := by
  intro r
  induction r with
  | zero =>
    intro i
    have h1 := hb_b hf hl hh n.toNat (by omega) i
    have h2 := BB_b ⟨n.toNat, by omega⟩
    show (hb f n lo hi n.toNat i).natAbs ≤ _
    simp only at h2
    rw [Nat.pow_zero, Nat.one_mul]
    exact Nat.le_trans h1 h2
  | succ r ih =>
    intro i
    show (if i = 0 then nb f n lo hi r 0 else nb f n lo hi r i + nb f n lo hi r (i - 1)).natAbs ≤ _
    have e : 2 ^ (r + 1) * MB = 2 * (2 ^ r * MB) := by rw [Nat.pow_succ, Nat.mul_comm (2 ^ r) 2, Nat.mul_assoc]
    rw [e]
    have h0 := ih 0
    have h1 := ih i
    have h2 := ih (i - 1)
    have h3 := Int.natAbs_add_le (nb f n lo hi r i) (nb f n lo hi r (i - 1))
    generalize 2 ^ r * MB = q at *
    split
    · omega
    · omega
def nX (σ : Sg) : Int := σ 1 (σ 27 1) - 1
def NX (σ : Sg) (a : Int) (r : Nat) : Int → Int := nb (fX σ (σ 27 1)) (σ 1 (σ 27 1) - 1) (loX σ a) (hiX σ a) r
def RXs (σ σ' : Sg) (a : Int) (r : Nat) : Prop := RowIs σ σ' (fX σ (σ 27 1)) (σ 1 (σ 27 1) - 1) (loX σ a) (hiX σ a) r
def VT (σ : Sg) : Prop := (0 ≤ σ 27 1 ∧ σ 27 1 < σ 0 0) ∧ 0 ≤ σ 27 2 ∧ σ 27 2 < σ 0 1
theorem fX_b {σ : Sg} {p : Int} (hX : TX σ) (hp : 0 ≤ p ∧ p < σ 0 0) : ∀ k, 0 ≤ k → k ≤ σ 1 p - 1 → (fX σ p k).natAbs ≤ 50 := by
  intro k h0 h1
  have := hX.2.2.2.1 p k hp.1 hp.2 h0 (by omega)
  show (σ 2 (p * 6 + k)).natAbs ≤ 50
  omega
theorem nbX_b {σ : Sg} {p a : Int} (hX : TX σ) (hp : 0 ≤ p ∧ p < σ 0 0) (hb : 0 ≤ σ 27 2 ∧ σ 27 2 < σ 0 1) (nd : 1 ≤ a ∧ a ≤ 127) (r : Nat) (hr : r ≤ 2) (i : Int) : (nb (fX σ p) (σ 1 p - 1) (loX σ a) (hiX σ a) r i).natAbs ≤ 120000000000000000 := by
  have q := hX.2.2.1 p hp.1 hp.2
  have lb := loX_b hX nd hb
  have h := nb_b (n := σ 1 p - 1) (by omega) (fX_b hX hp) (show (loX σ a).natAbs ≤ 320 by omega) (show (hiX σ a).natAbs ≤ 320 by omega) r i
  have e : 2 ^ r ≤ 4 := by
    match r, hr with
    | 0, _ => decide
    | 1, _ => decide
    | 2, _ => decide
  have h2 := Nat.mul_le_mul_right MB e
  have h3 : 4 * MB = 120000000000000000 := rfl
  rw [h3] at h2
  exact Nat.le_trans h h2
theorem RowIs.N {σ σ' : Sg} {p a : Int} {r : Nat} (hX : TX σ) (hp : 0 ≤ p ∧ p < σ 0 0) (hb : 0 ≤ σ 27 2 ∧ σ 27 2 < σ 0 1) (nd : 1 ≤ a ∧ a ≤ 127) (hr : r ≤ 2) (h : RowIs σ σ' (fX σ p) (σ 1 p - 1) (loX σ a) (hiX σ a) r) : ∀ i, 0 ≤ i → i < 8 → -4611686018427387904 ≤ σ' 36 i ∧ σ' 36 i ≤ 4611686018427387904 := by
  intro i h0 h1
  have := nbX_b hX hp hb nd r hr i
  rw [← h.2.2.2 i h0 h1] at this
  omega
theorem RowIs.T {σ σ' : Sg} {p a : Int} {r : Nat} (hX : TX σ) (hp : 0 ≤ p ∧ p < σ 0 0) (hr : r ≤ 2) (h : RowIs σ σ' (fX σ p) (σ 1 p - 1) (loX σ a) (hiX σ a) r) : 0 ≤ σ' 35 1 ∧ σ' 35 1 ≤ 7 := by
  have q := hX.2.2.1 p hp.1 hp.2
  rw [h.2.1]
  omega
theorem NX_congr {σ τ : Sg} (e : ∀ k, k ≤ 27 → τ k = σ k) : NX τ = NX σ := by
  funext a r
  unfold NX fX loX hiX
  rw [e 1 (by omega), e 2 (by omega), e 4 (by omega), e 5 (by omega), e 27 (by omega)]
theorem nX_congr {σ τ : Sg} (e : ∀ k, k ≤ 27 → τ k = σ k) : nX τ = nX σ := by
  unfold nX
  rw [e 1 (by omega), e 27 (by omega)]
theorem VT.mono {σ τ : Sg} (h : VT σ) (e : ∀ k, k ≤ 27 → τ k = σ k) : VT τ := by
  unfold VT at h ⊢
  rw [e 0 (by omega), e 27 (by omega)]
  exact h
theorem RXs.of {σ τ ρ : Sg} {a : Int} {r : Nat} (e : ∀ k, k ≤ 27 → τ k = σ k) (h : RXs τ ρ a r) : (∀ k, k ≠ 35 → k ≠ 36 → ρ k = τ k) ∧ ρ 35 1 = nX σ + r ∧ ρ 35 2 = 64 ^ (nX σ).toNat ∧ ∀ i, 0 ≤ i → i < 8 → ρ 36 i = NX σ a r i := by
  rw [← nX_congr e, ← NX_congr e]
  exact h
theorem vch_congr {f h : Int → Int} : ∀ (t : Nat) (i b c : Int), (∀ j, i ≤ j → j < i + t → f j = h j) → vch f t i b c = vch h t i b c := by
  intro t
  induction t with
  | zero => intro i b c _; rfl
  | succ t ih =>
    intro i b c e
    have e0 := e i (by omega) (by omega)
    have e1 := fun b c => ih (i + 1) b c (fun j x z => e j (by omega) (by omega))
    show (if sgn (f i) = 0 then _ else _) = (if sgn (h i) = 0 then _ else _)
    rw [e0]
    simp only [e1]
def abv (f : Int → Int) (s : Int) (t : Nat) : Bool := (List.range t).all (fun i => sgn (f i) == s)
theorem abv_iff {f : Int → Int} {s : Int} {t : Nat} : abv f s t = true ↔ ∀ i, 0 ≤ i → i < (t : Int) → sgn (f i) = s := by
  unfold abv
  rw [List.all_eq_true]
  constructor
  · intro h i h0 h1
    have := h i.toNat (List.mem_range.mpr (by omega))
    rw [show ((i.toNat : Nat) : Int) = i from by omega] at this
    simpa using this
  · intro h x hx
    have := h x (by omega) (by have := List.mem_range.mp hx; omega)
    simpa using this
/-- all control numbers of a node are above 0 -/
def AX (σ : Sg) (a : Int) (r : Nat) : Bool := abv (NX σ a r) 1 (nX σ + r + 1).toNat
def LF (A : Nat → Bool) : Int := if A 0 = true then 0 else if A 1 = true then 1 else if A 2 = true then 2 else -9
def VX (σ : Sg) (a : Int) : Int := vch (NX σ a 0) (nX σ + 1).toNat 0 0 0
theorem nb_lo {f : Int → Int} {n lo hi : Int} : ∀ r : Nat, nb f n lo hi r 0 = nb f n lo hi 0 0 := by
  intro r
  induction r with
  | zero => rfl
  | succ r ih => exact (if_pos rfl).trans ih
theorem nb_top {f : Int → Int} {n lo hi : Int} (h : 0 ≤ n) : ∀ r : Nat, nb f n lo hi r (n + r) = nb f n lo hi 0 n := by
  intro r
  induction r with
  | zero => rw [show n + ((0 : Nat) : Int) = n from by omega]
  | succ r ih =>
    have e : nb f n lo hi (r + 1) (n + ((r + 1 : Nat) : Int)) = nb f n lo hi r (n + ((r + 1 : Nat) : Int)) + nb f n lo hi r (n + ((r + 1 : Nat) : Int) - 1) := if_neg (by omega)
    rw [e, nb_hi h (by omega), show n + ((r + 1 : Nat) : Int) - 1 = n + r from by omega, ih, Int.zero_add]
theorem vch_b (f : Int → Int) : ∀ (t : Nat) (i b c : Int), 0 ≤ c → c + t ≤ 2147483647 → 0 ≤ vch f t i b c ∧ vch f t i b c ≤ c + t := by
  intro t
  induction t with
  | zero => intro i b c h1 h2; exact ⟨h1, by show c ≤ c + ((0 : Nat) : Int); omega⟩
  | succ t ih =>
    intro i b c h1 h2
    show 0 ≤ (if sgn (f i) = 0 then _ else _) ∧ (if sgn (f i) = 0 then _ else _) ≤ _
    have a1 := fun b => ih (i + 1) b c h1 (by omega)
    have a2 := fun b => ih (i + 1) b (c + 1) (by omega) (by omega)
    split
    · have := a1 b; omega
    · split
      · have := a1 (sgn (f i)); omega
      · split
        · have := a1 (sgn (f i)); omega
        · have := a2 (sgn (f i)); omega
theorem c_X4_lay {g : Gl} {σ : Sg} {a : Int} (hX : TX σ) (hV : VT σ) (nd : 1 ≤ a ∧ a ≤ 127) : Ct g mX4_lay [vr g 35, vr g 27, vi a] σ (PV (fun σ' => RXs σ σ' a 0)) := by
  refine Ct.of (by decide +kernel) (Nat.le_of_ble_eq_true rfl) ?_
  show jv g _ _ σ [(0, vr g 35), (1, vr g 27), (2, vi a)] 0 []
  refine j_aload_n eX4_lay_0 rfl ?_
  refine j_aload_n eX4_lay_1 rfl ?_
  refine j_aload_n eX4_lay_2 rfl ?_
  refine j_cV0 zX7_takenPolynomial lkX4_19 ⟨Nat.le_of_ble_eq_true rfl, Nat.le_of_ble_eq_true rfl⟩ ly27 rfl rfl (c_X7_takenPolynomial) (Nat.le_of_ble_eq_true rfl) eX4_lay_3 (k_E ?_)
  refine j_iload_n eX4_lay_6 rfl ?_
  refine j_cV3 zX4_layOne lkX4_25 ⟨Nat.le_of_ble_eq_true rfl, Nat.le_of_ble_eq_true rfl⟩ ly35 rfl rfl (c_X4_layOne (by exact hX) (by exact hV.1) (by exact nd) (by exact hV.2)) (Nat.le_of_ble_eq_true rfl) eX4_lay_7 (k_V (fun σ7 h7 => ?_))
  refine r_vret rfl eX4_lay_10 ?_
  exact h7
theorem l_X4_layRaised {g : Gl} {σ : Sg} {a r : Int} (hX : TX σ) (hV : VT σ) (nd : 1 ≤ a ∧ a ≤ 127) (hr : 0 ≤ r ∧ r ≤ 2) : ∀ (t : Nat) (τ : Sg) (d : Nat), (t : Int) + d = r → RXs σ τ a d → jv g mX4_layRaised (Fm g (PV (fun σ' => RXs σ σ' a r.toNat))) τ [(0, vr g 35), (1, vr g 27), (2, vi a), (3, vi r), (4, vi (r - (t : Int)))] 13 [] := by
  intro t
  induction t with
  | zero =>
    intro τ d h1 h2
    refine j_iload eX4_layRaised_13 rfl ?_
    refine j_iload_n eX4_layRaised_15 rfl ?_
    refine j_icmp_ge eX4_layRaised_16 (by omega) (fun h => ?_) (fun h => absurd (by omega) h)
    refine r_vret rfl eX4_layRaised_29 ?_
    rw [show r.toNat = d from by omega]
    exact h2
  | succ t ih =>
    intro τ d h1 h2
    refine j_iload eX4_layRaised_13 rfl ?_
    refine j_iload_n eX4_layRaised_15 rfl ?_
    refine j_icmp_ge eX4_layRaised_16 (by omega) (fun h16 => absurd h16 (by omega)) (fun h16 => ?_)
    refine j_aload_n eX4_layRaised_19 rfl ?_
    have qq := hX.2.2.1 (σ 27 1) hV.1.1 hV.1.2
    have t1 := h2.2.1
    refine j_cV0 zX4_raise lkX4_29 ⟨Nat.le_of_ble_eq_true rfl, Nat.le_of_ble_eq_true rfl⟩ ly35 rfl rfl (c_X4_raise (by omega)) (Nat.le_of_ble_eq_true rfl) eX4_layRaised_20 (k_VE ?_)
    refine j_iinc eX4_layRaised_23 rfl (Nat.le_of_ble_eq_true rfl) ?_
    refine j_goto eX4_layRaised_26 ?_
    have e1 : r - ((t + 1 : Nat) : Int) + 1 = r - (t : Int) := by omega
    rw [e1]
    refine jv_lv ?_ (ih _ (d + 1) (by omega) (h2.raise (by omega) (by omega)))
    exact lvC rfl (lvC rfl (lvC rfl (lvC rfl (lvC rfl (lv0)))))
theorem c_X4_layRaised {g : Gl} {σ : Sg} {a r : Int} (hX : TX σ) (hV : VT σ) (nd : 1 ≤ a ∧ a ≤ 127) (hr : 0 ≤ r ∧ r ≤ 2) : Ct g mX4_layRaised [vr g 35, vr g 27, vi a, vi r] σ (PV (fun σ' => RXs σ σ' a r.toNat)) := by
  refine Ct.of (by decide +kernel) (Nat.le_of_ble_eq_true rfl) ?_
  show jv g _ _ σ [(0, vr g 35), (1, vr g 27), (2, vi a), (3, vi r)] 0 []
  refine j_aload_n eX4_layRaised_0 rfl ?_
  refine j_aload_n eX4_layRaised_1 rfl ?_
  refine j_aload_n eX4_layRaised_2 rfl ?_
  refine j_cV0 zX7_takenPolynomial lkX4_19 ⟨Nat.le_of_ble_eq_true rfl, Nat.le_of_ble_eq_true rfl⟩ ly27 rfl rfl (c_X7_takenPolynomial) (Nat.le_of_ble_eq_true rfl) eX4_layRaised_3 (k_E ?_)
  refine j_iload_n eX4_layRaised_6 rfl ?_
  refine j_cV3 zX4_layOne lkX4_25 ⟨Nat.le_of_ble_eq_true rfl, Nat.le_of_ble_eq_true rfl⟩ ly35 rfl rfl (c_X4_layOne (by exact hX) (by exact hV.1) (by exact nd) (by exact hV.2)) (Nat.le_of_ble_eq_true rfl) eX4_layRaised_7 (k_V (fun σ7 h7 => ?_))
  refine j_iconst 0 eX4_layRaised_10 ?_
  refine j_istore eX4_layRaised_11 (Nat.le_of_ble_eq_true rfl) ?_
  have e0 : (0 : Int) = r - ((r.toNat : Nat) : Int) := by omega
  have e1 := l_X4_layRaised (g := g) hX hV nd hr r.toNat _ 0 (by omega) h7
  rw [← e0] at e1
  refine jv_lv ?_ e1
  exact lvC rfl (lvC rfl (lvC rfl (lvC rfl (lvC rfl (lv0)))))
theorem hn_abs {f : Int → Int} {x : Int} (hx : x.natAbs ≤ 5) : ∀ (m : Nat) (s : Int), (∀ k, 0 ≤ k → k < (m : Int) → (f k).natAbs ≤ 50) → s.natAbs ≤ 50 * 6 ^ (6 - m) → m ≤ 6 → (hn f x m s).natAbs ≤ 50 * 6 ^ 6 := by
  intro m
  induction m with
  | zero => intro s _ h _; exact h
  | succ m ih =>
    intro s hf hs hm
    refine ih (s * x + f m) (fun k a b => hf k a (by omega)) ?_ (by omega)
    have h1 : (s * x).natAbs ≤ 50 * 6 ^ (6 - (m + 1)) * 5 := by rw [Int.natAbs_mul]; exact Nat.mul_le_mul hs hx
    have h2 := hf m (by omega) (by omega)
    have h3 := Int.natAbs_add_le (s * x) (f m)
    have e : 6 - m = (6 - (m + 1)) + 1 := by omega
    have e2 : 6 ^ (6 - m) = 6 ^ (6 - (m + 1)) * 6 := by rw [e]; exact Nat.pow_succ 6 _
    have e3 : 1 ≤ 6 ^ (6 - (m + 1)) := Nat.pow_pos (by decide)
    omega
theorem hn_b {σ : Sg} {p x : Int} (hX : TX σ) (vp : 0 ≤ p ∧ p < σ 0 0) (hx : -5 ≤ x ∧ x ≤ 5) : -2332800 ≤ hn (fun k => σ 2 (p * 6 + k)) x (σ 1 p).toNat 0 ∧ hn (fun k => σ 2 (p * 6 + k)) x (σ 1 p).toNat 0 ≤ 2332800 := by
  have q := hX.2.2.1 p vp.1 vp.2
  have h := hn_abs (f := fun k => σ 2 (p * 6 + k)) (x := x) (by omega) (σ 1 p).toNat 0 (fun k a b => fX_b hX vp k a (by omega)) (Nat.zero_le _) (by omega)
  have e : 50 * 6 ^ 6 = 2332800 := by decide
  omega
theorem l_X6_fit {g : Gl} {σ : Sg} {p : Int} (hX : TX σ) (vp : 0 ≤ p ∧ p < σ 0 0) (hs : (0 ≤ σ 31 2 ∧ σ 31 2 ≤ 6) ∧ ∀ k, 0 ≤ k → k < σ 31 2 → (-5 ≤ σ 32 k ∧ σ 32 k ≤ 5) ∧ -1 ≤ σ 33 k ∧ σ 33 k ≤ 1) : ∀ (t : Nat), (t : Int) ≤ σ 31 2 → (∀ k, 0 ≤ k → k < σ 31 2 - (t : Int) → sgn (hn (fX σ p) (σ 32 k) (σ 1 p).toNat 0) = σ 33 k) → jv g mX6_fit (Fm g (PB (∀ k, 0 ≤ k → k < σ 31 2 → sgn (hn (fX σ p) (σ 32 k) (σ 1 p).toNat 0) = σ 33 k) σ)) σ [(0, vr g 31), (1, vr g 0), (2, vi p), (3, vi (σ 31 2 - (t : Int)))] 2 [] := by
  intro t
  induction t with
  | zero =>
    intro h1 h2
    refine j_iload_n eX6_fit_2 rfl ?_
    refine j_aload_n eX6_fit_3 rfl ?_
    refine j_getI flX6_18 ly31 rfl eX6_fit_4 ?_
    refine j_icmp_ge eX6_fit_7 (by omega) (fun h => ?_) (fun h => absurd (by omega) h)
    refine j_iconst 1 eX6_fit_48 ?_
    exact r_zret (by decide) rfl eX6_fit_49 (PB_t (fun i a b => h2 i a (by omega)))
  | succ t ih =>
    intro h1 h2
    refine j_iload_n eX6_fit_2 rfl ?_
    refine j_aload_n eX6_fit_3 rfl ?_
    refine j_getI flX6_18 ly31 rfl eX6_fit_4 ?_
    refine j_icmp_ge eX6_fit_7 (by omega) (fun h7 => absurd h7 (by omega)) (fun h7 => ?_)
    refine j_iload_n eX6_fit_10 rfl ?_
    refine j_bipush 6 eX6_fit_11 (by decide) ?_
    refine j_icmp_ge eX6_fit_13 (by omega) (fun h13 => absurd h13 (by omega)) (fun h13 => ?_)
    have q := hs.2 (σ 31 2 - ((t + 1 : Nat) : Int)) (by omega) (by omega)
    have hv := hn_b hX vp (x := σ 32 (σ 31 2 - ((t + 1 : Nat) : Int))) q.1
    have sb := sgn_b (hn (fun k => σ 2 (p * 6 + k)) (σ 32 (σ 31 2 - ((t + 1 : Nat) : Int))) (σ 1 p).toNat 0)
    refine j_aload_n eX6_fit_16 rfl ?_
    refine j_iload_n eX6_fit_17 rfl ?_
    refine j_aload_n eX6_fit_18 rfl ?_
    refine j_getR flX6_9 ly31 rfl eX6_fit_19 ?_
    refine j_iload_n eX6_fit_22 rfl ?_
    refine j_iald ly32 (by omega) eX6_fit_23 ?_
    refine j_cV2 zX10_at lkX6_22 ⟨Nat.le_of_ble_eq_true rfl, Nat.le_of_ble_eq_true rfl⟩ ly0 rfl rfl (c_X10_at_0 (by exact vp) (by exact hX.1) (by exact hX.2.2.1)) (Nat.le_of_ble_eq_true rfl) eX6_fit_24 (k_E ?_)
    refine j_i2l (by omega) eX6_fit_27 ?_
    refine j_cSN1 zX11_signOf lkX6_28 ⟨Nat.le_of_ble_eq_true rfl, Nat.le_of_ble_eq_true rfl⟩ (c_X11_signOf (by omega)) (Nat.le_of_ble_eq_true rfl) eX6_fit_28 (k_E ?_)
    refine j_aload_n eX6_fit_31 rfl ?_
    refine j_getR flX6_15 ly31 rfl eX6_fit_32 ?_
    refine j_iload_n eX6_fit_35 rfl ?_
    refine j_iald ly33 (by omega) eX6_fit_36 ?_
    refine j_icmp_eq eX6_fit_37 (by omega) (fun h37 => ?_) (fun h37 => ?_)
    · refine j_iinc eX6_fit_42 rfl (Nat.le_of_ble_eq_true rfl) ?_
      refine j_goto eX6_fit_45 ?_
      have e1 : σ 31 2 - ((t + 1 : Nat) : Int) + 1 = σ 31 2 - (t : Int) := by omega
      rw [e1]
      refine jv_lv ?_ (ih (by omega) (fun i a b => ?_))
      · exact lvC rfl (lvC rfl (lvC rfl (lvC rfl (lv0))))
      · by_cases z : i = σ 31 2 - ((t + 1 : Nat) : Int)
        · rw [z]; exact h37
        · exact h2 i a (by omega)
    · refine j_iconst 0 eX6_fit_40 ?_
      refine r_zret (by decide) rfl eX6_fit_41 ?_
      exact PB_f (fun z => h37 (z _ (by omega) (by omega)))
theorem c_X6_fit {g : Gl} {σ : Sg} {p : Int} (hX : TX σ) (vp : 0 ≤ p ∧ p < σ 0 0) (hs : (0 ≤ σ 31 2 ∧ σ 31 2 ≤ 6) ∧ ∀ k, 0 ≤ k → k < σ 31 2 → (-5 ≤ σ 32 k ∧ σ 32 k ≤ 5) ∧ -1 ≤ σ 33 k ∧ σ 33 k ≤ 1) : Ct g mX6_fit [vr g 31, vr g 0, vi p] σ (PB (∀ k, 0 ≤ k → k < σ 31 2 → sgn (hn (fX σ p) (σ 32 k) (σ 1 p).toNat 0) = σ 33 k) σ) := by
  refine Ct.of (by decide +kernel) (Nat.le_of_ble_eq_true rfl) ?_
  show jv g _ _ σ [(0, vr g 31), (1, vr g 0), (2, vi p)] 0 []
  refine j_iconst 0 eX6_fit_0 ?_
  refine j_istore_n eX6_fit_1 (Nat.le_of_ble_eq_true rfl) ?_
  have e0 : (0 : Int) = σ 31 2 - (((σ 31 2).toNat : Nat) : Int) := by omega
  have e1 := l_X6_fit (g := g) hX vp hs (σ 31 2).toNat (by omega) (fun i a b => by omega)
  rw [← e0] at e1
  refine jv_lv ?_ e1
  exact lvC rfl (lvC rfl (lvC rfl (lvC rfl (lv0))))
