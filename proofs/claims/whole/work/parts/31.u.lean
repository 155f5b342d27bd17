/-! the reference's pile -/
def frM (σ τ : Sg) : Prop := (∀ k, k < 60 → k ≠ 48 → τ k = σ k) ∧ ∀ j, j < 20 → τ 48 j = σ 48 j
theorem frM.rf (σ : Sg) : frM σ σ := ⟨fun _ _ _ => rfl, fun _ _ => rfl⟩
theorem frM.trans {σ τ ρ : Sg} (h : frM σ τ) (h2 : frM τ ρ) : frM σ ρ := ⟨fun k a b => (h2.1 k a b).trans (h.1 k a b), fun j a => (h2.2 j a).trans (h.2 j a)⟩
theorem frM.L {σ τ ρ : Sg} (h : frM σ τ) (h2 : frL τ ρ) : frM σ ρ := ⟨fun k a b => (h2.1 k b (by omega) (by omega)).trans (h.1 k a b), fun j a => (h2.2 j (by omega) (by omega)).trans (h.2 j a)⟩
theorem frM.U {σ τ : Sg} {j v : Int} (h : frM σ τ) (hj : 20 ≤ j) : frM σ (up τ 48 j v) := ⟨fun k a b => by rw [up_ne b]; exact h.1 k a b, fun i a => by rw [up_same, up1_ne (by omega)]; exact h.2 i a⟩
theorem frM.C {σ τ : Sg} {c : Nat} {j v : Int} (h : frM σ τ) (hc : 60 ≤ c) : frM σ (up τ c j v) := ⟨fun k a b => by rw [up_ne (by omega)]; exact h.1 k a b, fun i a => by rw [up_ne (by omega)]; exact h.2 i a⟩
theorem frM.TM {σ τ : Sg} (h : frM σ τ) (hM : TM σ) : TM τ := hM.mono (h.1 49 (by omega) (by omega))
theorem frM.VT {σ τ : Sg} (h : frM σ τ) (hV : VTm σ) : VTm τ := by
  unfold VTm at hV ⊢
  rw [h.1 49 (by omega) (by omega), h.2 6 (by omega), h.2 7 (by omega)]
  exact hV
theorem frM.N {σ τ : Sg} (h : frM σ τ) : NMp τ = NMp σ := NMp_congr (h.1 49 (by omega) (by omega)) (h.2 7 (by omega))
theorem RL1.pop {τ : Sg} {P : List Int} {x : Int} (h : RL1 τ 48 62 24 (P ++ [x])) : RL1 (up τ 48 24 (τ 48 24 - 1)) 48 62 24 P ∧ (up τ 48 24 (τ 48 24 - 1)) 62 ((up τ 48 24 (τ 48 24 - 1)) 48 24) = x ∧ (up τ 48 24 (τ 48 24 - 1)) 48 24 = P.length ∧ τ 48 24 = P.length + 1 := by
  have e := h.1
  rw [List.length_append] at e
  have e2 : τ 48 24 = P.length + 1 := by
    rw [e]
    simp
  have e1 : (up τ 48 24 (τ 48 24 - 1)) 48 24 = P.length := by
    rw [up_same, up1_same]
    omega
  refine ⟨⟨e1, fun k q z => ?_⟩, ?_, e1, e2⟩
  · have hk := (List.getElem?_eq_some_iff.mp z).1
    show τ 62 k = q
    exact h.2 k q (by rw [List.getElem?_append_left hk]; exact z)
  · rw [e1]
    show τ 62 P.length = x
    exact h.2 P.length x (by rw [List.getElem?_append_right (by omega), Nat.sub_self]; rfl)
theorem RL1.L {τ ρ : Sg} {P : List Int} (h : RL1 τ 48 62 24 P) (f : frL τ ρ) : RL1 ρ 48 62 24 P := by
  unfold RL1 at h ⊢
  rw [f.1 62 (by decide) (by decide) (by decide), f.2 24 (by decide) (by decide)]
  exact h
theorem RL1.of {τ ρ : Sg} {P : List Int} (h : RL1 τ 48 62 24 P) (e : ρ 48 24 = τ 48 24) (e2 : ρ 62 = τ 62) : RL1 ρ 48 62 24 P := by
  unfold RL1 at h ⊢
  rw [e, e2]
  exact h
theorem RL1.put {τ : Sg} {P : List Int} {x : Int} (h : RL1 τ 48 62 24 P) : RL1 (up (up τ 62 (τ 48 24) x) 48 24 (τ 48 24 + 1)) 48 62 24 (P ++ [x]) := h.push rfl rfl
theorem RB.of {τ ρ : Sg} {L : List (Int × Int)} (h : RB τ 48 63 64 27 L) (e : ρ 48 27 = τ 48 27) (e2 : ρ 63 = τ 63) (e3 : ρ 64 = τ 64) : RB ρ 48 63 64 27 L := by
  unfold RB at h ⊢
  rw [e, e2, e3]
  exact h
theorem RB.L {τ ρ : Sg} {L : List (Int × Int)} (h : RB τ 48 63 64 27 L) (f : frL τ ρ) : RB ρ 48 63 64 27 L := h.of (f.2 27 (by decide) (by decide)) (f.1 63 (by decide) (by decide) (by decide)) (f.1 64 (by decide) (by decide) (by decide))
theorem RB.fin {τ : Sg} {L : List (Int × Int)} {a b : Int} (h : RB τ 48 63 64 27 L) : RB (up (up (up τ 63 (τ 48 27) a) 64 (τ 48 27) b) 48 27 (τ 48 27 + 1)) 48 63 64 27 (L ++ [(a, b)]) := h.push rfl rfl rfl
def pB : Nat → Int → List Int
  | 0, _ => []
  | t + 1, a => if bhd a = 0 then [] else pB t (bhd a) ++ [bhd a, -(Int.tdiv (bhd a) 2)]
def PB_ (a : Int) : List Int := pB 8 a
theorem PB_tab : ∀ x : Fin 127, (bhd ((x.1 : Int) + 1) = 0 → PB_ ((x.1 : Int) + 1) = []) ∧ (bhd ((x.1 : Int) + 1) ≠ 0 → PB_ ((x.1 : Int) + 1) = PB_ (bhd ((x.1 : Int) + 1)) ++ [bhd ((x.1 : Int) + 1), -(Int.tdiv (bhd ((x.1 : Int) + 1)) 2)]) ∧ (x.1 + 1 < 64 → PB_ (2 * ((x.1 : Int) + 1)) = PB_ ((x.1 : Int) + 1) ++ [2 * ((x.1 : Int) + 1) + 1, -((x.1 : Int) + 1)]) ∧ (PB_ ((x.1 : Int) + 1)).length ≤ 14 := by decide +kernel
theorem PB_of {a : Int} (h : 1 ≤ a ∧ a ≤ 127) : (bhd a = 0 → PB_ a = []) ∧ (bhd a ≠ 0 → PB_ a = PB_ (bhd a) ++ [bhd a, -(Int.tdiv (bhd a) 2)]) ∧ (a < 64 → PB_ (2 * a) = PB_ a ++ [2 * a + 1, -a]) ∧ (PB_ a).length ≤ 14 := by
  have w := PB_tab ⟨(a - 1).toNat, by omega⟩
  simp only at w
  rw [show (((a - 1).toNat : Nat) : Int) + 1 = a from by omega] at w
  exact ⟨w.1, w.2.1, fun z => w.2.2.1 (by omega), w.2.2.2⟩
def pN : Nat → Int → List Int
  | 0, _ => []
  | t + 1, a => if bhd a = 0 then [] else pN t (bhd a) ++ [bhd a]
def PN_ (a : Int) : List Int := pN 8 a
theorem PN_tab : ∀ x : Fin 127, (bhd ((x.1 : Int) + 1) = 0 → PN_ ((x.1 : Int) + 1) = []) ∧ (bhd ((x.1 : Int) + 1) ≠ 0 → PN_ ((x.1 : Int) + 1) = PN_ (bhd ((x.1 : Int) + 1)) ++ [bhd ((x.1 : Int) + 1)]) ∧ (x.1 + 1 < 64 → PN_ (2 * ((x.1 : Int) + 1)) = PN_ ((x.1 : Int) + 1) ++ [2 * ((x.1 : Int) + 1) + 1]) ∧ (PN_ ((x.1 : Int) + 1)).length ≤ 7 := by decide +kernel
theorem PN_of {a : Int} (h : 1 ≤ a ∧ a ≤ 127) : (bhd a = 0 → PN_ a = []) ∧ (bhd a ≠ 0 → PN_ a = PN_ (bhd a) ++ [bhd a]) ∧ (a < 64 → PN_ (2 * a) = PN_ a ++ [2 * a + 1]) ∧ (PN_ a).length ≤ 7 := by
  have w := PN_tab ⟨(a - 1).toNat, by omega⟩
  simp only at w
  rw [show (((a - 1).toNat : Nat) : Int) + 1 = a from by omega] at w
  exact ⟨w.1, w.2.1, fun z => w.2.2.1 (by omega), w.2.2.2⟩
def VMd (σ : Sg) (a : Int) : Int := vch (NMp σ (σ 48 6) a (0 : Int).toNat) (σ 49 (2 + σ 48 6) + 0 + 1).toNat 0 0 0
def ZMd (σ : Sg) (a : Int) : Bool := sgn (NMp σ (σ 48 6) (bhd a) (0 : Int).toNat 0) == 0
theorem VMd_b {σ : Sg} (a : Int) (h : σ 49 (2 + σ 48 6) ≤ 5) : 0 ≤ VMd σ a ∧ VMd σ a ≤ 6 := by
  have := vch_b (NMp σ (σ 48 6) a (0 : Int).toNat) (σ 49 (2 + σ 48 6) + 0 + 1).toNat 0 0 0 (by omega) (by omega)
  unfold VMd
  omega
theorem frM.V {σ τ : Sg} (h : frM σ τ) (a : Int) : VMd τ a = VMd σ a := by
  unfold VMd
  rw [h.N, h.1 49 (by omega) (by omega), h.2 6 (by omega)]
