/-! the reference's reader: tokens -/
abbrev Tk : Type := Int × Int × Int
def toks (T : Int → Int) (len : Int) : Nat → Int → List Tk
  | 0, _ => []
  | t + 1, i => match tokAt T len i with
    | none => toks T len t (i + 1)
    | some q => (i, q.1, q.2) :: toks T len t (i + 1)
noncomputable def rdL (len : Int) : List Tk → Rst → Int × Rst
  | [], S => (if S.1 = 0 then -1 else len, S)
  | q :: r, S => match stp S q.2.1 q.2.2 with
    | none => (q.1, S)
    | some S' => rdL len r S'
theorem rdC_L {T : Int → Int} {len : Int} : ∀ (t : Nat) (i : Int) (S : Rst), rdC T len t i S = rdL len (toks T len t i) S := by
  intro t
  induction t with
  | zero => intro i S; rfl
  | succ t ih =>
    intro i S
    have e1 : rdC T len (t + 1) i S = (match tokAt T len i with | none => rdC T len t (i + 1) S | some q => match stp S q.1 q.2 with | none => (i, S) | some S' => rdC T len t (i + 1) S') := rfl
    have e2 : toks T len (t + 1) i = (match tokAt T len i with | none => toks T len t (i + 1) | some q => (i, q.1, q.2) :: toks T len t (i + 1)) := rfl
    rw [e1, e2]
    cases tokAt T len i with
    | none => exact ih _ _
    | some q =>
      have e3 : rdL len ((i, q.1, q.2) :: toks T len t (i + 1)) S = (match stp S q.1 q.2 with | none => (i, S) | some S' => rdL len (toks T len t (i + 1)) S') := rfl
      show (match stp S q.1 q.2 with | none => (i, S) | some S' => rdC T len t (i + 1) S') = rdL len ((i, q.1, q.2) :: toks T len t (i + 1)) S
      rw [e3]
      cases stp S q.1 q.2 with
      | none => rfl
      | some S' => exact ih _ _
theorem rdL_s {len : Int} {q : Tk} {r : List Tk} {S S' : Rst} (h : stp S q.2.1 q.2.2 = some S') : rdL len (q :: r) S = rdL len r S' := by
  show (match stp S q.2.1 q.2.2 with | none => (q.1, S) | some S' => rdL len r S') = _
  rw [h]
theorem rdL_n {len : Int} {q : Tk} {r : List Tk} {S : Rst} (h : stp S q.2.1 q.2.2 = none) : rdL len (q :: r) S = (q.1, S) := by
  show (match stp S q.2.1 q.2.2 with | none => (q.1, S) | some S' => rdL len r S') = _
  rw [h]
theorem rdL_0 {len : Int} {S : Rst} (h : ¬ S.1 = 0) : rdL len [] S = (len, S) := by
  show ((if S.1 = 0 then -1 else len), S) = _
  rw [if_neg h]
theorem toks_1 {T : Int → Int} {len k : Int} (hk : k < len) (h : tokAt T len k = none) : toks T len (len - k).toNat k = toks T len (len - (k + 1)).toNat (k + 1) := by
  rw [show (len - k).toNat = (len - (k + 1)).toNat + 1 from by omega]
  show (match tokAt T len k with | none => toks T len (len - (k + 1)).toNat (k + 1) | some q => (k, q.1, q.2) :: toks T len (len - (k + 1)).toNat (k + 1)) = _
  rw [h]
theorem toks_2 {T : Int → Int} {len k : Int} {q : Int × Int} (hk : k < len) (h : tokAt T len k = some q) : toks T len (len - k).toNat k = (k, q.1, q.2) :: toks T len (len - (k + 1)).toNat (k + 1) := by
  rw [show (len - k).toNat = (len - (k + 1)).toNat + 1 from by omega]
  show (match tokAt T len k with | none => toks T len (len - (k + 1)).toNat (k + 1) | some q => (k, q.1, q.2) :: toks T len (len - (k + 1)).toNat (k + 1)) = _
  rw [h]
theorem toks_e {T : Int → Int} {len k : Int} (hk : len ≤ k) : toks T len (len - k).toNat k = [] := by
  rw [show (len - k).toNat = 0 from by omega]
  rfl
theorem toks_skip {T : Int → Int} {len e : Int} (he : e ≤ len) : ∀ (t : Nat) (k : Int), e - k < t → k ≤ e → (∀ j, k ≤ j → j < e → tokAt T len j = none) → toks T len (len - k).toNat k = toks T len (len - e).toNat e := by
  intro t
  induction t with
  | zero => intro k h1 h2; exfalso; omega
  | succ t ih =>
    intro k h1 h2 h3
    by_cases c : k = e
    · rw [c]
    · rw [toks_1 (by omega) (h3 k (by omega) (by omega))]
      exact ih (k + 1) (by omega) (by omega) (fun j x y => h3 j (by omega) y)
theorem tokAt_b {T : Int → Int} {len i : Int} (h : 0 ≤ i ∧ i < len) (b : T i = 32) : tokAt T len i = none := by
  unfold tokAt
  rw [lat_in h, b, if_neg (by decide), if_pos rfl]
theorem tokAt_d {T : Int → Int} {len i : Int} (h : 0 ≤ i - 1 ∧ i < len) (d : 48 ≤ T i ∧ T i ≤ 57) (d0 : 48 ≤ T (i - 1) ∧ T (i - 1) ≤ 57) : tokAt T len i = none := by
  unfold tokAt
  rw [lat_in (i := i) (by omega), lat_in (i := i - 1) (by omega), if_pos (dg_iff.mpr d), if_pos (dg_iff.mpr d0)]
theorem tokAt_n {T : Int → Int} {len i : Int} (h : 0 ≤ i ∧ i < len) (d : 48 ≤ T i ∧ T i ≤ 57) (d0 : ¬ dg (lat T len (i - 1)) = true) : tokAt T len i = some (ntk T len i) := by
  unfold tokAt
  rw [lat_in h, if_pos (dg_iff.mpr d), if_neg d0]
theorem tokAt_c {T : Int → Int} {len i : Int} (h : 0 ≤ i ∧ i < len) (d : ¬ (48 ≤ T i ∧ T i ≤ 57)) (b : ¬ T i = 32) : tokAt T len i = some (if T i = 112 ∨ T i = 98 ∨ T i = 45 ∨ T i = 59 then T i else 2, 0) := by
  unfold tokAt
  rw [lat_in h, if_neg (fun z => d (dg_iff.mp z)), if_neg b]
  split <;> rfl
theorem tokAt_v {T : Int → Int} {len i : Int} (hL : ∀ j, 0 ≤ j → j < len → 0 ≤ T j ∧ T j ≤ 255) (h : 0 ≤ i ∧ i < len) {q : Int × Int} (hq : tokAt T len i = some q) : (0 ≤ q.1 ∧ q.1 ≤ 255) ∧ (q.1 = 1 → 0 ≤ q.2 ∧ q.2 ≤ 99) := by
  have li := hL i h.1 h.2
  unfold tokAt at hq
  rw [lat_in h] at hq
  by_cases c : dg (T i) = true
  · rw [if_pos c] at hq
    by_cases c2 : dg (lat T len (i - 1)) = true
    · rw [if_pos c2] at hq
      cases hq
    · rw [if_neg c2] at hq
      cases hq
      unfold ntk
      rw [lat_in h]
      have c0 := dg_iff.mp c
      by_cases c3 : dg (lat T len (i + 1)) = true
      · rw [if_pos c3]
        have c4 := dg_iff.mp c3
        by_cases c5 : T i - 48 = 0 ∨ dg (lat T len (i + 2)) = true
        · rw [if_pos c5]
          exact ⟨by decide, fun z => absurd (show (2 : Int) = 1 from z) (by decide)⟩
        · rw [if_neg c5]
          refine ⟨(show (0 : Int) ≤ 1 ∧ (1 : Int) ≤ 255 by decide), fun _ => ?_⟩
          show 0 ≤ (T i - 48) * 10 + lat T len (i + 1) - 48 ∧ (T i - 48) * 10 + lat T len (i + 1) - 48 ≤ 99
          omega
      · rw [if_neg c3]
        refine ⟨(show (0 : Int) ≤ 1 ∧ (1 : Int) ≤ 255 by decide), fun _ => ?_⟩
        show 0 ≤ T i - 48 ∧ T i - 48 ≤ 99
        omega
  · rw [if_neg c] at hq
    by_cases c2 : T i = 32
    · rw [if_pos c2] at hq
      cases hq
    · rw [if_neg c2] at hq
      by_cases c3 : T i = 112 ∨ T i = 98 ∨ T i = 45 ∨ T i = 59
      · rw [if_pos c3] at hq
        cases hq
        exact ⟨li, fun z => by have z : T i = 1 := z; omega⟩
      · rw [if_neg c3] at hq
        cases hq
        exact ⟨by decide, fun z => absurd (show (2 : Int) = 1 from z) (by decide)⟩
def LO (L : List Tk) : Prop := L.length ≤ 120 ∧ ∀ q ∈ L, 0 ≤ q.1 ∧ (0 ≤ q.2.1 ∧ q.2.1 ≤ 255) ∧ (q.2.1 = 1 → 0 ≤ q.2.2 ∧ q.2.2 ≤ 99)
theorem toks_O {T : Int → Int} {len : Int} (hL : ∀ j, 0 ≤ j → j < len → 0 ≤ T j ∧ T j ≤ 255) : ∀ (t : Nat) (i : Int), 0 ≤ i → i + t ≤ len → (toks T len t i).length ≤ t ∧ ∀ q ∈ toks T len t i, 0 ≤ q.1 ∧ (0 ≤ q.2.1 ∧ q.2.1 ≤ 255) ∧ (q.2.1 = 1 → 0 ≤ q.2.2 ∧ q.2.2 ≤ 99) := by
  intro t
  induction t with
  | zero => intro i _ _; exact ⟨Nat.le_refl _, fun q hq => by cases hq⟩
  | succ t ih =>
    intro i h0 h1
    have e2 : toks T len (t + 1) i = (match tokAt T len i with | none => toks T len t (i + 1) | some q => (i, q.1, q.2) :: toks T len t (i + 1)) := rfl
    have w := ih (i + 1) (by omega) (by omega)
    rw [e2]
    cases hq : tokAt T len i with
    | none => exact ⟨Nat.le_succ_of_le w.1, w.2⟩
    | some q =>
      have v := tokAt_v hL (by omega) hq
      refine ⟨Nat.succ_le_succ w.1, fun x hx => ?_⟩
      rcases List.mem_cons.mp hx with rfl | hx
      · exact ⟨h0, v⟩
      · exact w.2 x hx
def RT (τ : Sg) (L : List Tk) : Prop := τ 48 16 = L.length ∧ ∀ (i : Nat) (q : Tk), L[i]? = some q → τ 58 i = q.1 ∧ τ 57 i = q.2.1 ∧ (q.2.1 = 1 → τ 59 i = q.2.2)
theorem RT_push {τ ρ : Sg} {L : List Tk} {q : Tk} (h : RT τ L) (e16 : ρ 48 16 = τ 48 16 + 1) (e58 : ρ 58 = up1 (τ 58) (τ 48 16) q.1) (e57 : ρ 57 = up1 (τ 57) (τ 48 16) q.2.1) (e59 : ∀ j, j ≠ τ 48 16 → ρ 59 j = τ 59 j) (e60 : q.2.1 = 1 → ρ 59 (τ 48 16) = q.2.2) : RT ρ (L ++ [q]) := by
  obtain ⟨g1, g2⟩ := h
  refine ⟨by rw [e16, g1, List.length_append]; simp, fun k x z => ?_⟩
  rw [e58, e57]
  by_cases hk : k < L.length
  · rw [List.getElem?_append_left hk] at z
    rw [up1_ne (by omega), up1_ne (by omega), e59 _ (by omega)]
    exact g2 k x z
  · rw [List.getElem?_append_right (by omega)] at z
    have hz : k - L.length < 1 := (List.getElem?_eq_some_iff.mp z).1
    have e : k = L.length := by omega
    subst e
    rw [Nat.sub_self] at z
    cases z
    rw [← g1, up1_same, up1_same]
    exact ⟨rfl, rfl, e60⟩
theorem RT.q {τ : Sg} {L : List Tk} {a : Int} {q : Tk} (h : RT τ L) (h0 : 0 ≤ a) (hq : L[a.toNat]? = some q) : (τ 58 a = q.1 ∧ τ 57 a = q.2.1 ∧ (q.2.1 = 1 → τ 59 a = q.2.2)) ∧ a < L.length := by
  have w := h.2 _ _ hq
  rw [show ((a.toNat : Nat) : Int) = a from by omega] at w
  have := (List.getElem?_eq_some_iff.mp hq).1
  exact ⟨w, by omega⟩
theorem tk_at {L : List Tk} {a : Int} (h0 : 0 ≤ a) (h1 : a < L.length) : ∃ q, L[a.toNat]? = some q ∧ q ∈ L ∧ L.drop a.toNat = q :: L.drop (a + 1).toNat := by
  have hl : a.toNat < L.length := by omega
  refine ⟨L[a.toNat], List.getElem?_eq_getElem hl, List.getElem_mem hl, ?_⟩
  rw [show (a + 1).toNat = a.toNat + 1 from by omega]
  exact List.drop_eq_getElem_cons hl
theorem tk_no {L : List Tk} {a : Int} (h1 : (L.length : Int) ≤ a) : L[a.toNat]? = none ∧ L.drop a.toNat = [] := ⟨List.getElem?_eq_none (by omega), List.drop_eq_nil_of_le (by omega)⟩
def KD (L : List Tk) (a c : Int) : Prop := ∃ q, L[a.toNat]? = some q ∧ q.2.1 = c
theorem KD_y {τ : Sg} {L : List Tk} {a c : Int} (h : RT τ L) (h0 : 0 ≤ a) (h1 : a < τ 48 16) (h2 : τ 57 a = c) : KD L a c := by
  obtain ⟨q, q1, _, _⟩ := tk_at (L := L) h0 (by rw [← h.1]; exact h1)
  exact ⟨q, q1, by rw [← (h.q h0 q1).1.2.1]; exact h2⟩
theorem KD_n {τ : Sg} {L : List Tk} {a c : Int} (h : RT τ L) (h0 : 0 ≤ a) (h1 : τ 48 16 ≤ a ∨ ¬ τ 57 a = c) : ¬ KD L a c := by
  rintro ⟨q, q1, q2⟩
  have w := h.q h0 q1
  have e := h.1
  rcases h1 with z | z
  · omega
  · exact z (by rw [w.1.2.1]; exact q2)
theorem RT.kb {τ : Sg} {L : List Tk} {a : Int} (h : RT τ L) (o : LO L) (h0 : 0 ≤ a) (h1 : a < τ 48 16) : 0 ≤ τ 57 a ∧ τ 57 a ≤ 255 := by
  obtain ⟨q, q1, q2, _⟩ := tk_at (L := L) h0 (by rw [← h.1]; exact h1)
  rw [(h.q h0 q1).1.2.1]
  exact (o.2 q q2).2.1
def plc (len : Int) (L : List Tk) (a : Int) : Int := match L[a.toNat]? with
  | some q => q.1
  | none => len
theorem plc_s {len : Int} {L : List Tk} {a : Int} {q : Tk} (h : L[a.toNat]? = some q) : plc len L a = q.1 := by
  unfold plc
  rw [h]
theorem plc_n {len : Int} {L : List Tk} {a : Int} (h : L[a.toNat]? = none) : plc len L a = len := by
  unfold plc
  rw [h]
/-! a number -/
def NV (T : Int → Int) (a e v : Int) : Prop := (e = a → v = 0) ∧ (e = a + 1 → v = T a - 48) ∧ (e = a + 2 → v = (T a - 48) * 10 + T (a + 1) - 48) ∧ (a + 3 ≤ e → T a = 48 ∨ 100 ≤ v) ∧ 0 ≤ v ∧ v ≤ 1000
theorem NV_s {T : Int → Int} {a e v : Int} (h : NV T a e v) (hae : a ≤ e) (hd : ∀ j, a ≤ j → j ≤ e → 48 ≤ T j ∧ T j ≤ 57) : NV T a (e + 1) (if v < 100 then 10 * v + T e - 48 else v) := by
  obtain ⟨h1, h2, h3, h4, h5, h6⟩ := h
  have de := hd e hae (by omega)
  have da := hd a (by omega) hae
  refine ⟨fun z => by omega, fun z => ?_, fun z => ?_, fun z => ?_, by omega, by omega⟩
  · have e1 : e = a := by omega
    have v0 := h1 e1
    subst e1
    omega
  · have e1 : e = a + 1 := by omega
    have v0 := h2 e1
    rw [e1]
    omega
  · by_cases c : e = a + 2
    · have d1 := hd (a + 1) (by omega) (by omega)
      have v0 := h3 c
      omega
    · have w := h4 (by omega)
      omega
theorem NV_k {T : Int → Int} {len a e v : Int} (h : NV T a e v) (h0 : 0 ≤ a) (h1 : a < e) (h2 : e ≤ len) (hd : ∀ j, a ≤ j → j < e → 48 ≤ T j ∧ T j ≤ 57) (hn : e < len → ¬ (48 ≤ T e ∧ T e ≤ 57)) : (ntk T len a).1 = (if 99 < v ∨ (T a = 48 ∧ a + 1 < e) then 2 else 1) ∧ ((ntk T len a).1 = 1 → v = (ntk T len a).2) := by
  obtain ⟨g1, g2, g3, g4, g5, g6⟩ := h
  have da := hd a (by omega) h1
  unfold ntk
  rw [lat_in (i := a) (by omega)]
  by_cases c : a + 1 < e
  · have d1 := hd (a + 1) (by omega) c
    rw [if_pos (dg_iff.mpr (by rw [lat_in (by omega)]; exact d1)), lat_in (i := a + 1) (by omega)]
    by_cases c2 : a + 2 < e
    · have d2 := hd (a + 2) (by omega) c2
      rw [if_pos (Or.inr (dg_iff.mpr (by rw [lat_in (by omega)]; exact d2)))]
      have w := g4 (by omega)
      refine ⟨?_, fun z => absurd (show (2 : Int) = 1 from z) (by decide)⟩
      show (2 : Int) = _
      omega
    · have e2 : e = a + 2 := by omega
      have w := g3 e2
      have nd : ¬ dg (lat T len (a + 2)) = true := by
        intro z
        have z := dg_iff.mp z
        unfold lat at z
        by_cases c3 : a + 2 < len
        · rw [if_pos (by omega)] at z
          rw [e2] at hn
          exact hn c3 z
        · rw [if_neg (by omega)] at z
          omega
      by_cases c4 : T a - 48 = 0
      · rw [if_pos (Or.inl c4)]
        refine ⟨?_, fun z => absurd (show (2 : Int) = 1 from z) (by decide)⟩
        show (2 : Int) = _
        omega
      · rw [if_neg (fun z => z.elim c4 nd)]
        refine ⟨?_, fun _ => ?_⟩
        · show (1 : Int) = _
          omega
        · exact w
  · have e1 : e = a + 1 := by omega
    have w := g2 e1
    have nd : ¬ dg (lat T len (a + 1)) = true := by
      intro z
      have z := dg_iff.mp z
      unfold lat at z
      by_cases c3 : a + 1 < len
      · rw [if_pos (by omega)] at z
        rw [e1] at hn
        exact hn c3 z
      · rw [if_neg (by omega)] at z
        omega
    rw [if_neg nd]
    refine ⟨?_, fun _ => ?_⟩
    · show (1 : Int) = _
      omega
    · exact w
/-! frames of the reader -/
def frP (σ τ : Sg) : Prop := (∀ k, k ≠ 48 → k ≠ 50 → k ≠ 57 → k ≠ 58 → k ≠ 59 → τ k = σ k) ∧ (∀ j, j ≠ 16 → j ≠ 17 → j ≠ 18 → τ 48 j = σ 48 j)
theorem frP.rf (σ : Sg) : frP σ σ := ⟨fun _ _ _ _ _ _ => rfl, fun _ _ _ _ => rfl⟩
theorem frP.U {σ τ : Sg} {j v : Int} (h : frP σ τ) (hj : j = 16 ∨ j = 17 ∨ j = 18) : frP σ (up τ 48 j v) := ⟨fun k a b c d e => by rw [up_ne a]; exact h.1 k a b c d e, fun i a b c => by rw [up_same, up1_ne (by omega)]; exact h.2 i a b c⟩
theorem frP.C {σ τ : Sg} {c : Nat} {j v : Int} (h : frP σ τ) (hc : c = 50 ∨ c = 57 ∨ c = 58 ∨ c = 59) : frP σ (up τ c j v) := ⟨fun k a b d e f => by rw [up_ne (by omega)]; exact h.1 k a b d e f, fun i a b d => by rw [up_ne (by omega)]; exact h.2 i a b d⟩
def frQ (σ τ : Sg) : Prop := (∀ k, k ≠ 48 → k ≠ 50 → τ k = σ k) ∧ (∀ j, j ≠ 17 → j ≠ 18 → τ 48 j = σ 48 j)
theorem frQ.rf (σ : Sg) : frQ σ σ := ⟨fun _ _ _ => rfl, fun _ _ _ => rfl⟩
theorem frQ.trans {σ τ ρ : Sg} (h : frQ σ τ) (h2 : frQ τ ρ) : frQ σ ρ := ⟨fun k a b => (h2.1 k a b).trans (h.1 k a b), fun j a b => (h2.2 j a b).trans (h.2 j a b)⟩
theorem frQ.U {σ τ : Sg} {j v : Int} (h : frQ σ τ) (hj : j = 17 ∨ j = 18) : frQ σ (up τ 48 j v) := ⟨fun k a b => by rw [up_ne a]; exact h.1 k a b, fun i a b => by rw [up_same, up1_ne (by omega)]; exact h.2 i a b⟩
theorem frQ.C {σ τ : Sg} {j v : Int} (h : frQ σ τ) : frQ σ (up τ 50 j v) := ⟨fun k a b => by rw [up_ne b]; exact h.1 k a b, fun i a b => by rw [up_ne (by decide)]; exact h.2 i a b⟩
theorem frP.Q {σ τ ρ : Sg} (h : frP σ τ) (h2 : frQ τ ρ) : frP σ ρ := ⟨fun k a b c d e => (h2.1 k a b).trans (h.1 k a b c d e), fun j a b c => (h2.2 j b c).trans (h.2 j a b c)⟩
theorem RT.Q {σ τ : Sg} {L : List Tk} (h : RT σ L) (f : frQ σ τ) : RT τ L := by
  unfold RT at h ⊢
  rw [f.1 57 (by decide) (by decide), f.1 58 (by decide) (by decide), f.1 59 (by decide) (by decide), f.2 16 (by decide) (by decide)]
  exact h
/-! what a number does -/
theorem tn_1 {len a : Int} {L : List Tk} {S : Rst} {q : Tk} {lo hi : Int} (h0 : 0 ≤ a) (hS : S.2.2.1 = false ∧ room S.1 S.2.1.length) (hI : ∀ x, (lo ≤ x ∧ x ≤ hi) ↔ ((S.1 = 1 → okc x) ∧ (S.1 = 2 → oke S.2.1 x))) (hq : L[a.toNat]? = some q) (hk : q.2.1 = 1) (hx : lo ≤ q.2.2 ∧ q.2.2 ≤ hi) : rdL len (L.drop a.toNat) S = rdL len (L.drop (a + 1).toNat) (S.1, S.2.1 ++ [q.2.2], false, S.2.2.2.1, S.2.2.2.2) := by
  have hl := (List.getElem?_eq_some_iff.mp hq).1
  obtain ⟨q', q1, _, q3⟩ := tk_at (L := L) h0 (by omega)
  rw [hq] at q1
  cases q1
  rw [q3]
  refine rdL_s ?_
  rw [hk, stp_n, hS.1]
  have e : (if false = true then -q.2.2 else q.2.2) = q.2.2 := if_neg (by decide)
  rw [e]
  exact iteP ⟨hS.2, (hI _).mp hx⟩
theorem tn_2 {len a : Int} {L : List Tk} {S : Rst} {q : Tk} {lo hi : Int} (h0 : 0 ≤ a) (hS : S.2.2.1 = false ∧ room S.1 S.2.1.length) (hI : ∀ x, (lo ≤ x ∧ x ≤ hi) ↔ ((S.1 = 1 → okc x) ∧ (S.1 = 2 → oke S.2.1 x))) (hm : KD L a 45) (hq : L[(a + 1).toNat]? = some q) (hk : q.2.1 = 1) (hx : lo ≤ -q.2.2 ∧ -q.2.2 ≤ hi) : rdL len (L.drop a.toNat) S = rdL len (L.drop (a + 1 + 1).toNat) (S.1, S.2.1 ++ [-q.2.2], false, S.2.2.2.1, S.2.2.2.2) := by
  obtain ⟨m, m1, m2⟩ := hm
  have hl := (List.getElem?_eq_some_iff.mp hq).1
  have hl2 := (List.getElem?_eq_some_iff.mp m1).1
  obtain ⟨q', q1, _, q3⟩ := tk_at (L := L) h0 (by omega)
  rw [m1] at q1
  cases q1
  obtain ⟨q', q1, _, q4⟩ := tk_at (L := L) (a := a + 1) (by omega) (by omega)
  rw [hq] at q1
  cases q1
  rw [q3, rdL_s (S' := (S.1, S.2.1, true, S.2.2.2.1, S.2.2.2.2)) (by rw [m2, stp_m]; exact iteP hS), q4]
  refine rdL_s ?_
  rw [hk, stp_n]
  exact iteP ⟨hS.2, (hI _).mp hx⟩
theorem stp_o {S : Rst} {k v : Int} (h1 : ¬ S.1 = 0) (h2 : k = 45 → ¬ (S.2.2.1 = false ∧ room S.1 S.2.1.length)) (h3 : k = 59 → stp S 59 v = none) (h4 : k = 1 → stp S 1 v = none) : stp S k v = none := by
  by_cases c1 : k = 112
  · rw [c1, stp_p]
    exact iteN (fun z => h1 z.1)
  by_cases c2 : k = 98
  · rw [c2, stp_b]
    exact iteN (fun z => h1 z.1)
  by_cases c3 : k = 45
  · rw [c3, stp_m]
    exact iteN (h2 c3)
  by_cases c4 : k = 59
  · have := h3 c4
    rw [c4]
    exact this
  by_cases c5 : k = 1
  · have := h4 c5
    rw [c5]
    exact this
  exact (iteN c1).trans ((iteN c2).trans ((iteN c3).trans ((iteN c4).trans (iteN c5))))
theorem rdL_f {len a : Int} {L : List Tk} {S : Rst} (h0 : 0 ≤ a) (h1 : ¬ S.1 = 0) (h : ∀ q, L[a.toNat]? = some q → stp S q.2.1 q.2.2 = none) : (rdL len (L.drop a.toNat) S).1 = plc len L a := by
  by_cases c : a < L.length
  · obtain ⟨q, q1, _, q3⟩ := tk_at (L := L) h0 c
    rw [q3, rdL_n (h q q1), plc_s q1]
  · have w := tk_no (L := L) (a := a) (by omega)
    rw [w.2, plc_n w.1, rdL_0 h1]
theorem room_0 {S : Rst} (h : room S.1 S.2.1.length) : ¬ S.1 = 0 := by
  unfold room at h
  omega
theorem tn_3 {len a : Int} {L : List Tk} {S : Rst} {lo hi : Int} (h0 : 0 ≤ a) (hS : S.2.2.1 = false ∧ room S.1 S.2.1.length) (hI : ∀ x, (lo ≤ x ∧ x ≤ hi) ↔ ((S.1 = 1 → okc x) ∧ (S.1 = 2 → oke S.2.1 x))) (hE : ∀ v, KD L a 59 → stp S 59 v = none) (hm : ¬ KD L a 45) (hx : ∀ q, L[a.toNat]? = some q → q.2.1 = 1 → ¬ (lo ≤ q.2.2 ∧ q.2.2 ≤ hi)) : (rdL len (L.drop a.toNat) S).1 = plc len L a := by
  refine rdL_f h0 (room_0 hS.2) (fun q hq => stp_o (room_0 hS.2) (fun z => absurd ⟨q, hq, z⟩ hm) (fun z => hE _ ⟨q, hq, z⟩) (fun z => ?_))
  rw [stp_n, hS.1]
  have e : (if false = true then -q.2.2 else q.2.2) = q.2.2 := if_neg (by decide)
  rw [e]
  exact iteN (fun w => hx q hq z ((hI _).mpr w.2))
theorem tn_4 {len a : Int} {L : List Tk} {S : Rst} {lo hi : Int} (h0 : 0 ≤ a) (hS : S.2.2.1 = false ∧ room S.1 S.2.1.length) (hI : ∀ x, (lo ≤ x ∧ x ≤ hi) ↔ ((S.1 = 1 → okc x) ∧ (S.1 = 2 → oke S.2.1 x))) (hm : KD L a 45) (hx : ∀ q, L[(a + 1).toNat]? = some q → q.2.1 = 1 → ¬ (lo ≤ -q.2.2 ∧ -q.2.2 ≤ hi)) : (rdL len (L.drop a.toNat) S).1 = plc len L (a + 1) := by
  obtain ⟨m, m1, m2⟩ := hm
  have hl2 := (List.getElem?_eq_some_iff.mp m1).1
  obtain ⟨q', q1, _, q3⟩ := tk_at (L := L) h0 (by omega)
  rw [m1] at q1
  cases q1
  rw [q3, rdL_s (S' := (S.1, S.2.1, true, S.2.2.2.1, S.2.2.2.2)) (by rw [m2, stp_m]; exact iteP hS)]
  refine rdL_f (S := (S.1, S.2.1, true, S.2.2.2.1, S.2.2.2.2)) (by omega) (room_0 hS.2) (fun q hq => stp_o (room_0 hS.2) (fun _ w => by have w1 : true = false := w.1; cases w1) (fun _ => ?_) (fun z => ?_))
  · rw [stp_e]
    exact (iteN (fun w => by have w1 : true = false := w.1; cases w1)).trans (iteN (fun w => by have w1 : true = false := w.1; cases w1))
  · rw [stp_n]
    exact iteN (fun w => hx q hq z ((hI _).mpr w.2))
theorem l_X12_numbered {g : Gl} {σ : Sg} {a : Int} (hT : 0 ≤ σ 48 12 ∧ σ 48 12 ≤ 120) (hL : ∀ i, 0 ≤ i → i < σ 48 12 → 0 ≤ σ 56 i ∧ σ 56 i ≤ 255) (ha : 0 ≤ a ∧ a < σ 48 12) (hd : 48 ≤ σ 56 a ∧ σ 56 a ≤ 57) (ht : 0 ≤ σ 48 16 ∧ σ 48 16 < 120) : ∀ (t : Nat) (e v : Int), σ 48 12 - e < t → (a ≤ e ∧ e ≤ σ 48 12) → NV (σ 56) a e v → (∀ j, a ≤ j → j < e → 48 ≤ σ 56 j ∧ σ 56 j ≤ 57) → jv g mX12_numbered (Fm g (PI (fun v σ' => ∃ x, σ' = up (up σ 57 (σ 48 16) (ntk (σ 56) (σ 48 12) a).1) 59 (σ 48 16) x ∧ ((ntk (σ 56) (σ 48 12) a).1 = 1 → x = (ntk (σ 56) (σ 48 12) a).2) ∧ (a < v ∧ v ≤ σ 48 12) ∧ (∀ j, a ≤ j → j < v → 48 ≤ σ 56 j ∧ σ 56 j ≤ 57) ∧ (v < σ 48 12 → ¬ (48 ≤ σ 56 v ∧ σ 56 v ≤ 57))))) σ [(0, vr g 48), (1, vi a), (2, vi e), (3, vi v)] 4 [] := by
  intro t
  induction t with
  | zero =>
    intro e v h1 h2
    exfalso
    omega
  | succ t ih =>
    intro e v h1 h2 hv hj
    have nv := hv.2.2.2.2
    refine j_iload_n eX12_numbered_4 rfl ?_
    refine j_aload_n eX12_numbered_5 rfl ?_
    refine j_getI flX12_89 ly48 rfl eX12_numbered_6 ?_
    refine j_icmp_ge eX12_numbered_9 (by omega) (fun h9 => ?_) (fun h9 => ?_)
    · have ae : a < e := by
        by_cases c : e = a
        · subst c
          exfalso
          omega
        · omega
      have nk := NV_k (len := σ 48 12) hv (by omega) ae (by omega) hj (fun z => by omega)
      have la := hL a (by omega) (by omega)
      refine j_aload_n eX12_numbered_59 rfl ?_
      refine j_getR flX12_35 ly48 rfl eX12_numbered_60 ?_
      refine j_aload_n eX12_numbered_63 rfl ?_
      refine j_getI flX12_92 ly48 rfl eX12_numbered_64 ?_
      refine j_iload_n eX12_numbered_67 rfl ?_
      refine j_bipush 99 eX12_numbered_68 (by decide) ?_
      refine j_icmp_gt eX12_numbered_70 (by omega) (fun h70 => ?_) (fun h70 => ?_)
      · refine j_iconst 2 eX12_numbered_91 ?_
        refine j_goto eX12_numbered_92 ?_
        refine j_iast ly57 (by omega) eX12_numbered_96 ?_
        refine j_aload_n eX12_numbered_97 rfl ?_
        refine j_getR flX12_41 ly48 rfl eX12_numbered_98 ?_
        refine j_aload_n eX12_numbered_101 rfl ?_
        refine j_getI flX12_92 ly48 rfl eX12_numbered_102 ?_
        refine j_iload_n eX12_numbered_105 rfl ?_
        refine j_iast ly59 (by exact (show 0 ≤ σ 48 16 ∧ σ 48 16 < 120 by omega)) eX12_numbered_106 ?_
        refine j_iload_n eX12_numbered_107 rfl ?_
        refine r_iret rfl eX12_numbered_108 ?_
        first
        | (have k1 : (ntk (σ 56) (σ 48 12) a).1 = 2 := nk.1.trans (if_pos (by omega)); rw [k1]; exact ⟨v, rfl, fun z => absurd (show (2 : Int) = 1 from z) (by decide), by omega, hj, fun z => by omega⟩)
        | (have k1 : (ntk (σ 56) (σ 48 12) a).1 = 1 := nk.1.trans (if_neg (by omega)); rw [k1]; exact ⟨v, rfl, fun _ => nk.2 k1, by omega, hj, fun z => by omega⟩)
      · refine j_aload_n eX12_numbered_73 rfl ?_
        refine j_getR flX12_32 ly48 rfl eX12_numbered_74 ?_
        refine j_iload_n eX12_numbered_77 rfl ?_
        refine j_iald ly56 (by omega) eX12_numbered_78 ?_
        refine j_bipush 48 eX12_numbered_79 (by decide) ?_
        refine j_icmp_ne eX12_numbered_81 (by omega) (fun h81 => ?_) (fun h81 => ?_)
        · refine j_iconst 1 eX12_numbered_95 ?_
          refine j_iast ly57 (by omega) eX12_numbered_96 ?_
          refine j_aload_n eX12_numbered_97 rfl ?_
          refine j_getR flX12_41 ly48 rfl eX12_numbered_98 ?_
          refine j_aload_n eX12_numbered_101 rfl ?_
          refine j_getI flX12_92 ly48 rfl eX12_numbered_102 ?_
          refine j_iload_n eX12_numbered_105 rfl ?_
          refine j_iast ly59 (by exact (show 0 ≤ σ 48 16 ∧ σ 48 16 < 120 by omega)) eX12_numbered_106 ?_
          refine j_iload_n eX12_numbered_107 rfl ?_
          refine r_iret rfl eX12_numbered_108 ?_
          first
          | (have k1 : (ntk (σ 56) (σ 48 12) a).1 = 2 := nk.1.trans (if_pos (by omega)); rw [k1]; exact ⟨v, rfl, fun z => absurd (show (2 : Int) = 1 from z) (by decide), by omega, hj, fun z => by omega⟩)
          | (have k1 : (ntk (σ 56) (σ 48 12) a).1 = 1 := nk.1.trans (if_neg (by omega)); rw [k1]; exact ⟨v, rfl, fun _ => nk.2 k1, by omega, hj, fun z => by omega⟩)
        · refine j_iload_n eX12_numbered_84 rfl ?_
          refine j_iload_n eX12_numbered_85 rfl ?_
          refine j_iconst 1 eX12_numbered_86 ?_
          refine j_iadd eX12_numbered_87 ?_
          refine j_icmp_le eX12_numbered_88 (by omega) (fun h88 => ?_) (fun h88 => ?_)
          · refine j_iconst 1 eX12_numbered_95 ?_
            refine j_iast ly57 (by omega) eX12_numbered_96 ?_
            refine j_aload_n eX12_numbered_97 rfl ?_
            refine j_getR flX12_41 ly48 rfl eX12_numbered_98 ?_
            refine j_aload_n eX12_numbered_101 rfl ?_
            refine j_getI flX12_92 ly48 rfl eX12_numbered_102 ?_
            refine j_iload_n eX12_numbered_105 rfl ?_
            refine j_iast ly59 (by exact (show 0 ≤ σ 48 16 ∧ σ 48 16 < 120 by omega)) eX12_numbered_106 ?_
            refine j_iload_n eX12_numbered_107 rfl ?_
            refine r_iret rfl eX12_numbered_108 ?_
            first
            | (have k1 : (ntk (σ 56) (σ 48 12) a).1 = 2 := nk.1.trans (if_pos (by omega)); rw [k1]; exact ⟨v, rfl, fun z => absurd (show (2 : Int) = 1 from z) (by decide), by omega, hj, fun z => by omega⟩)
            | (have k1 : (ntk (σ 56) (σ 48 12) a).1 = 1 := nk.1.trans (if_neg (by omega)); rw [k1]; exact ⟨v, rfl, fun _ => nk.2 k1, by omega, hj, fun z => by omega⟩)
          · refine j_iconst 2 eX12_numbered_91 ?_
            refine j_goto eX12_numbered_92 ?_
            refine j_iast ly57 (by omega) eX12_numbered_96 ?_
            refine j_aload_n eX12_numbered_97 rfl ?_
            refine j_getR flX12_41 ly48 rfl eX12_numbered_98 ?_
            refine j_aload_n eX12_numbered_101 rfl ?_
            refine j_getI flX12_92 ly48 rfl eX12_numbered_102 ?_
            refine j_iload_n eX12_numbered_105 rfl ?_
            refine j_iast ly59 (by exact (show 0 ≤ σ 48 16 ∧ σ 48 16 < 120 by omega)) eX12_numbered_106 ?_
            refine j_iload_n eX12_numbered_107 rfl ?_
            refine r_iret rfl eX12_numbered_108 ?_
            first
            | (have k1 : (ntk (σ 56) (σ 48 12) a).1 = 2 := nk.1.trans (if_pos (by omega)); rw [k1]; exact ⟨v, rfl, fun z => absurd (show (2 : Int) = 1 from z) (by decide), by omega, hj, fun z => by omega⟩)
            | (have k1 : (ntk (σ 56) (σ 48 12) a).1 = 1 := nk.1.trans (if_neg (by omega)); rw [k1]; exact ⟨v, rfl, fun _ => nk.2 k1, by omega, hj, fun z => by omega⟩)
    · have le := hL e (by omega) (by omega)
      refine j_aload_n eX12_numbered_12 rfl ?_
      refine j_getR flX12_32 ly48 rfl eX12_numbered_13 ?_
      refine j_iload_n eX12_numbered_16 rfl ?_
      refine j_iald ly56 (by omega) eX12_numbered_17 ?_
      refine j_bipush 48 eX12_numbered_18 (by decide) ?_
      refine j_bipush 57 eX12_numbered_20 (by decide) ?_
      refine j_cS3 zX12_in lkX12_85 ⟨Nat.le_of_ble_eq_true rfl, Nat.le_of_ble_eq_true rfl⟩ (c_X12_in (by omega)) (Nat.le_of_ble_eq_true rfl) eX12_numbered_22 (k_B (fun h22 => ?_) (fun h22 => ?_))
      · refine j_ifeq_1 eX12_numbered_25 ?_
        refine j_iload_n eX12_numbered_28 rfl ?_
        refine j_bipush 100 eX12_numbered_29 (by decide) ?_
        refine j_icmp_ge eX12_numbered_31 (by omega) (fun h31 => ?_) (fun h31 => ?_)
        · refine j_iload_n eX12_numbered_51 rfl ?_
          refine jv_top (b := if v < 100 then 10 * v + σ 56 e - 48 else v) (by omega) ?_
          refine j_istore_n eX12_numbered_52 (Nat.le_of_ble_eq_true rfl) ?_
          refine j_iinc eX12_numbered_53 rfl (Nat.le_of_ble_eq_true rfl) ?_
          refine j_goto eX12_numbered_56 ?_
          refine jv_lv ?_ (ih (e + 1) (if v < 100 then 10 * v + σ 56 e - 48 else v) (by omega) (by omega) (NV_s hv (by omega) (fun j x y => if c : j = e then by rw [c]; exact h22 else hj j x (by omega))) (fun j x y => if c : j = e then by rw [c]; exact h22 else hj j x (by omega)))
          exact lvC rfl (lvC rfl (lvC rfl (lvC rfl (lv0))))
        · refine j_bipush 10 eX12_numbered_34 (by decide) ?_
          refine j_iload_n eX12_numbered_36 rfl ?_
          refine j_imul eX12_numbered_37 ?_
          refine j_aload_n eX12_numbered_38 rfl ?_
          refine j_getR flX12_32 ly48 rfl eX12_numbered_39 ?_
          refine j_iload_n eX12_numbered_42 rfl ?_
          refine j_iald ly56 (by omega) eX12_numbered_43 ?_
          refine j_iadd eX12_numbered_44 ?_
          refine j_bipush 48 eX12_numbered_45 (by decide) ?_
          refine j_isub eX12_numbered_47 ?_
          refine j_goto eX12_numbered_48 ?_
          refine jv_top (b := if v < 100 then 10 * v + σ 56 e - 48 else v) (by omega) ?_
          refine j_istore_n eX12_numbered_52 (Nat.le_of_ble_eq_true rfl) ?_
          refine j_iinc eX12_numbered_53 rfl (Nat.le_of_ble_eq_true rfl) ?_
          refine j_goto eX12_numbered_56 ?_
          refine jv_lv ?_ (ih (e + 1) (if v < 100 then 10 * v + σ 56 e - 48 else v) (by omega) (by omega) (NV_s hv (by omega) (fun j x y => if c : j = e then by rw [c]; exact h22 else hj j x (by omega))) (fun j x y => if c : j = e then by rw [c]; exact h22 else hj j x (by omega)))
          exact lvC rfl (lvC rfl (lvC rfl (lvC rfl (lv0))))
      · refine j_ifeq_0 eX12_numbered_25 ?_
        have ae : a < e := by
          by_cases c : e = a
          · subst c
            exfalso
            omega
          · omega
        have nk := NV_k (len := σ 48 12) hv (by omega) ae (by omega) hj (fun z => by omega)
        have la := hL a (by omega) (by omega)
        refine j_aload_n eX12_numbered_59 rfl ?_
        refine j_getR flX12_35 ly48 rfl eX12_numbered_60 ?_
        refine j_aload_n eX12_numbered_63 rfl ?_
        refine j_getI flX12_92 ly48 rfl eX12_numbered_64 ?_
        refine j_iload_n eX12_numbered_67 rfl ?_
        refine j_bipush 99 eX12_numbered_68 (by decide) ?_
        refine j_icmp_gt eX12_numbered_70 (by omega) (fun h70 => ?_) (fun h70 => ?_)
        · refine j_iconst 2 eX12_numbered_91 ?_
          refine j_goto eX12_numbered_92 ?_
          refine j_iast ly57 (by omega) eX12_numbered_96 ?_
          refine j_aload_n eX12_numbered_97 rfl ?_
          refine j_getR flX12_41 ly48 rfl eX12_numbered_98 ?_
          refine j_aload_n eX12_numbered_101 rfl ?_
          refine j_getI flX12_92 ly48 rfl eX12_numbered_102 ?_
          refine j_iload_n eX12_numbered_105 rfl ?_
          refine j_iast ly59 (by exact (show 0 ≤ σ 48 16 ∧ σ 48 16 < 120 by omega)) eX12_numbered_106 ?_
          refine j_iload_n eX12_numbered_107 rfl ?_
          refine r_iret rfl eX12_numbered_108 ?_
          first
          | (have k1 : (ntk (σ 56) (σ 48 12) a).1 = 2 := nk.1.trans (if_pos (by omega)); rw [k1]; exact ⟨v, rfl, fun z => absurd (show (2 : Int) = 1 from z) (by decide), by omega, hj, fun z => by omega⟩)
          | (have k1 : (ntk (σ 56) (σ 48 12) a).1 = 1 := nk.1.trans (if_neg (by omega)); rw [k1]; exact ⟨v, rfl, fun _ => nk.2 k1, by omega, hj, fun z => by omega⟩)
        · refine j_aload_n eX12_numbered_73 rfl ?_
          refine j_getR flX12_32 ly48 rfl eX12_numbered_74 ?_
          refine j_iload_n eX12_numbered_77 rfl ?_
          refine j_iald ly56 (by omega) eX12_numbered_78 ?_
          refine j_bipush 48 eX12_numbered_79 (by decide) ?_
          refine j_icmp_ne eX12_numbered_81 (by omega) (fun h81 => ?_) (fun h81 => ?_)
          · refine j_iconst 1 eX12_numbered_95 ?_
            refine j_iast ly57 (by omega) eX12_numbered_96 ?_
            refine j_aload_n eX12_numbered_97 rfl ?_
            refine j_getR flX12_41 ly48 rfl eX12_numbered_98 ?_
            refine j_aload_n eX12_numbered_101 rfl ?_
            refine j_getI flX12_92 ly48 rfl eX12_numbered_102 ?_
            refine j_iload_n eX12_numbered_105 rfl ?_
            refine j_iast ly59 (by exact (show 0 ≤ σ 48 16 ∧ σ 48 16 < 120 by omega)) eX12_numbered_106 ?_
            refine j_iload_n eX12_numbered_107 rfl ?_
            refine r_iret rfl eX12_numbered_108 ?_
            first
            | (have k1 : (ntk (σ 56) (σ 48 12) a).1 = 2 := nk.1.trans (if_pos (by omega)); rw [k1]; exact ⟨v, rfl, fun z => absurd (show (2 : Int) = 1 from z) (by decide), by omega, hj, fun z => by omega⟩)
            | (have k1 : (ntk (σ 56) (σ 48 12) a).1 = 1 := nk.1.trans (if_neg (by omega)); rw [k1]; exact ⟨v, rfl, fun _ => nk.2 k1, by omega, hj, fun z => by omega⟩)
          · refine j_iload_n eX12_numbered_84 rfl ?_
            refine j_iload_n eX12_numbered_85 rfl ?_
            refine j_iconst 1 eX12_numbered_86 ?_
            refine j_iadd eX12_numbered_87 ?_
            refine j_icmp_le eX12_numbered_88 (by omega) (fun h88 => ?_) (fun h88 => ?_)
            · refine j_iconst 1 eX12_numbered_95 ?_
              refine j_iast ly57 (by omega) eX12_numbered_96 ?_
              refine j_aload_n eX12_numbered_97 rfl ?_
              refine j_getR flX12_41 ly48 rfl eX12_numbered_98 ?_
              refine j_aload_n eX12_numbered_101 rfl ?_
              refine j_getI flX12_92 ly48 rfl eX12_numbered_102 ?_
              refine j_iload_n eX12_numbered_105 rfl ?_
              refine j_iast ly59 (by exact (show 0 ≤ σ 48 16 ∧ σ 48 16 < 120 by omega)) eX12_numbered_106 ?_
              refine j_iload_n eX12_numbered_107 rfl ?_
              refine r_iret rfl eX12_numbered_108 ?_
              first
              | (have k1 : (ntk (σ 56) (σ 48 12) a).1 = 2 := nk.1.trans (if_pos (by omega)); rw [k1]; exact ⟨v, rfl, fun z => absurd (show (2 : Int) = 1 from z) (by decide), by omega, hj, fun z => by omega⟩)
              | (have k1 : (ntk (σ 56) (σ 48 12) a).1 = 1 := nk.1.trans (if_neg (by omega)); rw [k1]; exact ⟨v, rfl, fun _ => nk.2 k1, by omega, hj, fun z => by omega⟩)
            · refine j_iconst 2 eX12_numbered_91 ?_
              refine j_goto eX12_numbered_92 ?_
              refine j_iast ly57 (by omega) eX12_numbered_96 ?_
              refine j_aload_n eX12_numbered_97 rfl ?_
              refine j_getR flX12_41 ly48 rfl eX12_numbered_98 ?_
              refine j_aload_n eX12_numbered_101 rfl ?_
              refine j_getI flX12_92 ly48 rfl eX12_numbered_102 ?_
              refine j_iload_n eX12_numbered_105 rfl ?_
              refine j_iast ly59 (by exact (show 0 ≤ σ 48 16 ∧ σ 48 16 < 120 by omega)) eX12_numbered_106 ?_
              refine j_iload_n eX12_numbered_107 rfl ?_
              refine r_iret rfl eX12_numbered_108 ?_
              first
              | (have k1 : (ntk (σ 56) (σ 48 12) a).1 = 2 := nk.1.trans (if_pos (by omega)); rw [k1]; exact ⟨v, rfl, fun z => absurd (show (2 : Int) = 1 from z) (by decide), by omega, hj, fun z => by omega⟩)
              | (have k1 : (ntk (σ 56) (σ 48 12) a).1 = 1 := nk.1.trans (if_neg (by omega)); rw [k1]; exact ⟨v, rfl, fun _ => nk.2 k1, by omega, hj, fun z => by omega⟩)
theorem c_X12_numbered {g : Gl} {σ : Sg} {a : Int} (hT : 0 ≤ σ 48 12 ∧ σ 48 12 ≤ 120) (hL : ∀ i, 0 ≤ i → i < σ 48 12 → 0 ≤ σ 56 i ∧ σ 56 i ≤ 255) (ha : 0 ≤ a ∧ a < σ 48 12) (hd : 48 ≤ σ 56 a ∧ σ 56 a ≤ 57) (ht : 0 ≤ σ 48 16 ∧ σ 48 16 < 120) : Ct g mX12_numbered [vr g 48, vi a] σ (PI (fun v σ' => ∃ x, σ' = up (up σ 57 (σ 48 16) (ntk (σ 56) (σ 48 12) a).1) 59 (σ 48 16) x ∧ ((ntk (σ 56) (σ 48 12) a).1 = 1 → x = (ntk (σ 56) (σ 48 12) a).2) ∧ (a < v ∧ v ≤ σ 48 12) ∧ (∀ j, a ≤ j → j < v → 48 ≤ σ 56 j ∧ σ 56 j ≤ 57) ∧ (v < σ 48 12 → ¬ (48 ≤ σ 56 v ∧ σ 56 v ≤ 57)))) := by
  refine Ct.of (by decide +kernel) (Nat.le_of_ble_eq_true rfl) ?_
  show jv g _ _ σ [(0, vr g 48), (1, vi a)] 0 []
  refine j_iload_n eX12_numbered_0 rfl ?_
  refine j_istore_n eX12_numbered_1 (Nat.le_of_ble_eq_true rfl) ?_
  refine j_iconst 0 eX12_numbered_2 ?_
  refine j_istore_n eX12_numbered_3 (Nat.le_of_ble_eq_true rfl) ?_
  refine jv_lv ?_ (l_X12_numbered hT hL ha hd ht 122 a 0 (by omega) (by omega) ⟨fun _ => rfl, fun z => by omega, fun z => by omega, fun z => by omega, by decide, by decide⟩ (fun j x y => by omega))
  exact lvC rfl (lvC rfl (lvC rfl (lvC rfl (lv0))))
theorem ap_cons {α : Type} {L R : List α} {q : α} : (L ++ [q]) ++ R = L ++ q :: R := by rw [List.append_assoc]; rfl
theorem l_X12_split {g : Gl} {σ : Sg} (hT : 0 ≤ σ 48 12 ∧ σ 48 12 ≤ 120) (hL : ∀ i, 0 ≤ i → i < σ 48 12 → 0 ≤ σ 56 i ∧ σ 56 i ≤ 255) {G : List Tk} : ∀ (t : Nat) (k : Int) (τ : Sg) (L : List Tk), σ 48 12 - k < t → (0 ≤ k ∧ k ≤ σ 48 12) → frP σ τ → RT τ L → (L.length : Int) ≤ k → (dg (lat (σ 56) (σ 48 12) k) = true → ¬ dg (lat (σ 56) (σ 48 12) (k - 1)) = true) → L ++ toks (σ 56) (σ 48 12) (σ 48 12 - k).toNat k = G → jv g mX12_split (Fm g (PV (fun σ' => frP σ σ' ∧ RT σ' G))) τ [(0, vr g 48), (1, vi k)] 7 [] := by
  intro t
  induction t with
  | zero =>
    intro k τ L h1 h2
    exfalso
    omega
  | succ t ih =>
    intro k τ L h1 h2 hf hR hl hb hG
    have c56 : τ 56 = σ 56 := hf.1 56 (by decide) (by decide) (by decide) (by decide) (by decide)
    have c12 : τ 48 12 = σ 48 12 := hf.2 12 (by decide) (by decide) (by decide)
    have t16 := hR.1
    refine j_iload_n eX12_split_7 rfl ?_
    refine j_aload_n eX12_split_8 rfl ?_
    refine j_getI flX12_89 ly48 rfl eX12_split_9 ?_
    rw [c12]
    refine j_icmp_ge eX12_split_12 (by omega) (fun h12 => ?_) (fun h12 => ?_)
    · refine r_vret rfl eX12_split_123 ?_
      rw [toks_e (by omega), List.append_nil] at hG
      rw [← hG]
      exact ⟨hf, hR⟩
    · have lk := hL k (by omega) (by omega)
      refine j_aload_n eX12_split_15 rfl ?_
      refine j_getR flX12_32 ly48 rfl eX12_split_16 ?_
      refine j_iload_n eX12_split_19 rfl ?_
      refine j_iald ly56 (by omega) eX12_split_20 ?_
      rw [c56]
      refine j_bipush 32 eX12_split_21 (by decide) ?_
      refine j_icmp_ne eX12_split_23 (by omega) (fun h23 => ?_) (fun h23 => ?_)
      · refine j_aload_n eX12_split_32 rfl ?_
        refine j_getR flX12_38 ly48 rfl eX12_split_33 ?_
        refine j_aload_n eX12_split_36 rfl ?_
        refine j_getI flX12_92 ly48 rfl eX12_split_37 ?_
        refine j_iload_n eX12_split_40 rfl ?_
        refine j_iast ly58 (by omega) eX12_split_41 ?_
        refine j_aload_n eX12_split_42 rfl ?_
        refine j_getR flX12_32 ly48 rfl eX12_split_43 ?_
        refine j_iload_n eX12_split_46 rfl ?_
        refine j_iald ly56 (by omega) eX12_split_47 ?_
        refine jv_top (b := σ 56 k) (by show τ 56 k = _; rw [c56]) ?_
        refine j_istore_n eX12_split_48 (Nat.le_of_ble_eq_true rfl) ?_
        refine j_iload_n eX12_split_49 rfl ?_
        refine j_bipush 48 eX12_split_50 (by decide) ?_
        refine j_bipush 57 eX12_split_52 (by decide) ?_
        refine j_cS3 zX12_in lkX12_85 ⟨Nat.le_of_ble_eq_true rfl, Nat.le_of_ble_eq_true rfl⟩ (c_X12_in (by omega)) (Nat.le_of_ble_eq_true rfl) eX12_split_54 (k_B (fun h54 => ?_) (fun h54 => ?_))
        · refine j_ifeq_1 eX12_split_57 ?_
          refine j_aload_n eX12_split_60 rfl ?_
          refine j_iload_n eX12_split_61 rfl ?_
          refine j_cV1 zX12_numbered lkX12_95 ⟨Nat.le_of_ble_eq_true rfl, Nat.le_of_ble_eq_true rfl⟩ ly48 rfl rfl (c_X12_numbered (by show 0 ≤ τ 48 12 ∧ τ 48 12 ≤ 120; omega) (by show ∀ i, 0 ≤ i → i < τ 48 12 → 0 ≤ τ 56 i ∧ τ 56 i ≤ 255; rw [c12, c56]; exact hL) (by show 0 ≤ k ∧ k < τ 48 12; omega) (by show 48 ≤ τ 56 k ∧ τ 56 k ≤ 57; rw [c56]; exact h54) (by show 0 ≤ τ 48 16 ∧ τ 48 16 < 120; omega)) (Nat.le_of_ble_eq_true rfl) eX12_split_62 (k_I (fun v62 σ62 h62 => ?_))
          have h62 : ∃ x, σ62 = up (up (up τ 58 (τ 48 16) k) 57 (τ 48 16) (ntk (σ 56) (σ 48 12) k).1) 59 (τ 48 16) x ∧ ((ntk (σ 56) (σ 48 12) k).1 = 1 → x = (ntk (σ 56) (σ 48 12) k).2) ∧ (k < v62 ∧ v62 ≤ σ 48 12) ∧ (∀ j, k ≤ j → j < v62 → 48 ≤ σ 56 j ∧ σ 56 j ≤ 57) ∧ (v62 < σ 48 12 → ¬ (48 ≤ σ 56 v62 ∧ σ 56 v62 ≤ 57)) := by
            rw [← c56, ← c12]
            exact h62
          obtain ⟨x, e62, k2, k3, k4, k5⟩ := h62
          subst e62
          refine j_istore_n eX12_split_65 (Nat.le_of_ble_eq_true rfl) ?_
          refine j_goto eX12_split_66 ?_
          refine j_aload_n eX12_split_110 rfl ?_
          refine j_dup rfl eX12_split_111 ?_
          refine j_getI flX12_92 ly48 rfl eX12_split_112 ?_
          refine j_iconst 1 eX12_split_115 ?_
          refine j_iadd eX12_split_116 ?_
          refine j_putI fpX12_92 ly48 rfl eX12_split_117 ?_
          refine j_goto eX12_split_120 ?_
          have nn := tokAt_n (T := σ 56) (len := σ 48 12) (i := k) (by omega) h54 (fun z => hb (dg_iff.mpr (by rw [lat_in (by omega)]; exact h54)) z)
          rw [toks_2 (by omega) nn, toks_skip (e := v62) (by omega) 122 (k + 1) (by omega) (by omega) (fun j x y => tokAt_d (by omega) (k4 j (by omega) y) (k4 (j - 1) (by omega) (by omega))), ← ap_cons] at hG
          refine jv_lv ?_ (ih v62 _ _ (by omega) (by omega) ((((hf.C (by decide)).C (by decide)).C (by decide)).U (by decide)) (RT_push hR rfl rfl rfl (fun j x => up1_ne x) (fun z => (up1_same _ _ _).trans (k2 z))) (by rw [List.length_append]; show (L.length : Int) + 1 ≤ v62; omega) (fun z y => ?_) hG)
          · exact lvC rfl (lvC rfl (lv0))
          · have z := dg_iff.mp z
            unfold lat at z
            by_cases c : v62 < σ 48 12
            · rw [if_pos (by omega)] at z
              exact k5 c z
            · rw [if_neg (by omega)] at z
              omega
        · refine j_ifeq_0 eX12_split_57 ?_
          refine j_aload_n eX12_split_69 rfl ?_
          refine j_getR flX12_35 ly48 rfl eX12_split_70 ?_
          refine j_aload_n eX12_split_73 rfl ?_
          refine j_getI flX12_92 ly48 rfl eX12_split_74 ?_
          refine j_iload_n eX12_split_77 rfl ?_
          refine j_bipush 112 eX12_split_78 (by decide) ?_
          refine j_icmp_eq eX12_split_80 (by omega) (fun h80 => ?_) (fun h80 => ?_)
          · refine j_iload_n eX12_split_101 rfl ?_
            refine j_goto eX12_split_102 ?_
            refine jv_top (b := (if σ 56 k = 112 ∨ σ 56 k = 98 ∨ σ 56 k = 45 ∨ σ 56 k = 59 then σ 56 k else 2)) (by omega) ?_
            refine j_iast ly57 (by exact (show 0 ≤ τ 48 16 ∧ τ 48 16 < 120 by omega)) eX12_split_106 ?_
            refine j_iinc eX12_split_107 rfl (Nat.le_of_ble_eq_true rfl) ?_
            refine j_aload_n eX12_split_110 rfl ?_
            refine j_dup rfl eX12_split_111 ?_
            refine j_getI flX12_92 ly48 rfl eX12_split_112 ?_
            refine j_iconst 1 eX12_split_115 ?_
            refine j_iadd eX12_split_116 ?_
            refine j_putI fpX12_92 ly48 rfl eX12_split_117 ?_
            refine j_goto eX12_split_120 ?_
            have nn := tokAt_c (T := σ 56) (len := σ 48 12) (i := k) (by omega) h54 h23
            rw [toks_2 (by omega) nn, ← ap_cons] at hG
            refine jv_lv ?_ (ih (k + 1) _ _ (by omega) (by omega) (((hf.C (by decide)).C (by decide)).U (by decide)) (RT_push hR rfl rfl rfl (fun j x => rfl) (fun z => ?_)) (by rw [List.length_append]; show (L.length : Int) + 1 ≤ k + 1; omega) (fun z y => ?_) hG)
            · exact lvC rfl (lvC rfl (lv0))
            · exfalso
              have z : (if σ 56 k = 112 ∨ σ 56 k = 98 ∨ σ 56 k = 45 ∨ σ 56 k = 59 then σ 56 k else 2) = 1 := z
              omega
            · rw [show k + 1 - 1 = k from by omega, lat_in (by omega)] at y
              have y := dg_iff.mp y
              omega
          · refine j_iload_n eX12_split_83 rfl ?_
            refine j_bipush 98 eX12_split_84 (by decide) ?_
            refine j_icmp_eq eX12_split_86 (by omega) (fun h86 => ?_) (fun h86 => ?_)
            · refine j_iload_n eX12_split_101 rfl ?_
              refine j_goto eX12_split_102 ?_
              refine jv_top (b := (if σ 56 k = 112 ∨ σ 56 k = 98 ∨ σ 56 k = 45 ∨ σ 56 k = 59 then σ 56 k else 2)) (by omega) ?_
              refine j_iast ly57 (by exact (show 0 ≤ τ 48 16 ∧ τ 48 16 < 120 by omega)) eX12_split_106 ?_
              refine j_iinc eX12_split_107 rfl (Nat.le_of_ble_eq_true rfl) ?_
              refine j_aload_n eX12_split_110 rfl ?_
              refine j_dup rfl eX12_split_111 ?_
              refine j_getI flX12_92 ly48 rfl eX12_split_112 ?_
              refine j_iconst 1 eX12_split_115 ?_
              refine j_iadd eX12_split_116 ?_
              refine j_putI fpX12_92 ly48 rfl eX12_split_117 ?_
              refine j_goto eX12_split_120 ?_
              have nn := tokAt_c (T := σ 56) (len := σ 48 12) (i := k) (by omega) h54 h23
              rw [toks_2 (by omega) nn, ← ap_cons] at hG
              refine jv_lv ?_ (ih (k + 1) _ _ (by omega) (by omega) (((hf.C (by decide)).C (by decide)).U (by decide)) (RT_push hR rfl rfl rfl (fun j x => rfl) (fun z => ?_)) (by rw [List.length_append]; show (L.length : Int) + 1 ≤ k + 1; omega) (fun z y => ?_) hG)
              · exact lvC rfl (lvC rfl (lv0))
              · exfalso
                have z : (if σ 56 k = 112 ∨ σ 56 k = 98 ∨ σ 56 k = 45 ∨ σ 56 k = 59 then σ 56 k else 2) = 1 := z
                omega
              · rw [show k + 1 - 1 = k from by omega, lat_in (by omega)] at y
                have y := dg_iff.mp y
                omega
            · refine j_iload_n eX12_split_89 rfl ?_
              refine j_bipush 45 eX12_split_90 (by decide) ?_
              refine j_icmp_eq eX12_split_92 (by omega) (fun h92 => ?_) (fun h92 => ?_)
              · refine j_iload_n eX12_split_101 rfl ?_
                refine j_goto eX12_split_102 ?_
                refine jv_top (b := (if σ 56 k = 112 ∨ σ 56 k = 98 ∨ σ 56 k = 45 ∨ σ 56 k = 59 then σ 56 k else 2)) (by omega) ?_
                refine j_iast ly57 (by exact (show 0 ≤ τ 48 16 ∧ τ 48 16 < 120 by omega)) eX12_split_106 ?_
                refine j_iinc eX12_split_107 rfl (Nat.le_of_ble_eq_true rfl) ?_
                refine j_aload_n eX12_split_110 rfl ?_
                refine j_dup rfl eX12_split_111 ?_
                refine j_getI flX12_92 ly48 rfl eX12_split_112 ?_
                refine j_iconst 1 eX12_split_115 ?_
                refine j_iadd eX12_split_116 ?_
                refine j_putI fpX12_92 ly48 rfl eX12_split_117 ?_
                refine j_goto eX12_split_120 ?_
                have nn := tokAt_c (T := σ 56) (len := σ 48 12) (i := k) (by omega) h54 h23
                rw [toks_2 (by omega) nn, ← ap_cons] at hG
                refine jv_lv ?_ (ih (k + 1) _ _ (by omega) (by omega) (((hf.C (by decide)).C (by decide)).U (by decide)) (RT_push hR rfl rfl rfl (fun j x => rfl) (fun z => ?_)) (by rw [List.length_append]; show (L.length : Int) + 1 ≤ k + 1; omega) (fun z y => ?_) hG)
                · exact lvC rfl (lvC rfl (lv0))
                · exfalso
                  have z : (if σ 56 k = 112 ∨ σ 56 k = 98 ∨ σ 56 k = 45 ∨ σ 56 k = 59 then σ 56 k else 2) = 1 := z
                  omega
                · rw [show k + 1 - 1 = k from by omega, lat_in (by omega)] at y
                  have y := dg_iff.mp y
                  omega
              · refine j_iload_n eX12_split_95 rfl ?_
                refine j_bipush 59 eX12_split_96 (by decide) ?_
                refine j_icmp_ne eX12_split_98 (by omega) (fun h98 => ?_) (fun h98 => ?_)
                · refine j_iconst 2 eX12_split_105 ?_
                  refine jv_top (b := (if σ 56 k = 112 ∨ σ 56 k = 98 ∨ σ 56 k = 45 ∨ σ 56 k = 59 then σ 56 k else 2)) (by omega) ?_
                  refine j_iast ly57 (by exact (show 0 ≤ τ 48 16 ∧ τ 48 16 < 120 by omega)) eX12_split_106 ?_
                  refine j_iinc eX12_split_107 rfl (Nat.le_of_ble_eq_true rfl) ?_
                  refine j_aload_n eX12_split_110 rfl ?_
                  refine j_dup rfl eX12_split_111 ?_
                  refine j_getI flX12_92 ly48 rfl eX12_split_112 ?_
                  refine j_iconst 1 eX12_split_115 ?_
                  refine j_iadd eX12_split_116 ?_
                  refine j_putI fpX12_92 ly48 rfl eX12_split_117 ?_
                  refine j_goto eX12_split_120 ?_
                  have nn := tokAt_c (T := σ 56) (len := σ 48 12) (i := k) (by omega) h54 h23
                  rw [toks_2 (by omega) nn, ← ap_cons] at hG
                  refine jv_lv ?_ (ih (k + 1) _ _ (by omega) (by omega) (((hf.C (by decide)).C (by decide)).U (by decide)) (RT_push hR rfl rfl rfl (fun j x => rfl) (fun z => ?_)) (by rw [List.length_append]; show (L.length : Int) + 1 ≤ k + 1; omega) (fun z y => ?_) hG)
                  · exact lvC rfl (lvC rfl (lv0))
                  · exfalso
                    have z : (if σ 56 k = 112 ∨ σ 56 k = 98 ∨ σ 56 k = 45 ∨ σ 56 k = 59 then σ 56 k else 2) = 1 := z
                    omega
                  · rw [show k + 1 - 1 = k from by omega, lat_in (by omega)] at y
                    have y := dg_iff.mp y
                    omega
                · refine j_iload_n eX12_split_101 rfl ?_
                  refine j_goto eX12_split_102 ?_
                  refine jv_top (b := (if σ 56 k = 112 ∨ σ 56 k = 98 ∨ σ 56 k = 45 ∨ σ 56 k = 59 then σ 56 k else 2)) (by omega) ?_
                  refine j_iast ly57 (by exact (show 0 ≤ τ 48 16 ∧ τ 48 16 < 120 by omega)) eX12_split_106 ?_
                  refine j_iinc eX12_split_107 rfl (Nat.le_of_ble_eq_true rfl) ?_
                  refine j_aload_n eX12_split_110 rfl ?_
                  refine j_dup rfl eX12_split_111 ?_
                  refine j_getI flX12_92 ly48 rfl eX12_split_112 ?_
                  refine j_iconst 1 eX12_split_115 ?_
                  refine j_iadd eX12_split_116 ?_
                  refine j_putI fpX12_92 ly48 rfl eX12_split_117 ?_
                  refine j_goto eX12_split_120 ?_
                  have nn := tokAt_c (T := σ 56) (len := σ 48 12) (i := k) (by omega) h54 h23
                  rw [toks_2 (by omega) nn, ← ap_cons] at hG
                  refine jv_lv ?_ (ih (k + 1) _ _ (by omega) (by omega) (((hf.C (by decide)).C (by decide)).U (by decide)) (RT_push hR rfl rfl rfl (fun j x => rfl) (fun z => ?_)) (by rw [List.length_append]; show (L.length : Int) + 1 ≤ k + 1; omega) (fun z y => ?_) hG)
                  · exact lvC rfl (lvC rfl (lv0))
                  · exfalso
                    have z : (if σ 56 k = 112 ∨ σ 56 k = 98 ∨ σ 56 k = 45 ∨ σ 56 k = 59 then σ 56 k else 2) = 1 := z
                    omega
                  · rw [show k + 1 - 1 = k from by omega, lat_in (by omega)] at y
                    have y := dg_iff.mp y
                    omega
      · refine j_iinc eX12_split_26 rfl (Nat.le_of_ble_eq_true rfl) ?_
        refine j_goto eX12_split_29 ?_
        have nn := tokAt_b (T := σ 56) (len := σ 48 12) (i := k) (by omega) h23
        rw [toks_1 (by omega) nn] at hG
        refine jv_lv ?_ (ih (k + 1) τ L (by omega) (by omega) hf hR (by omega) (fun z y => ?_) hG)
        · exact lvC rfl (lvC rfl (lv0))
        · rw [show k + 1 - 1 = k from by omega, lat_in (by omega)] at y
          have y := dg_iff.mp y
          omega
theorem c_X12_split {g : Gl} {σ : Sg} (hT : 0 ≤ σ 48 12 ∧ σ 48 12 ≤ 120) (hL : ∀ i, 0 ≤ i → i < σ 48 12 → 0 ≤ σ 56 i ∧ σ 56 i ≤ 255) : Ct g mX12_split [vr g 48] σ (PV (fun σ' => frP σ σ' ∧ RT σ' (toks (σ 56) (σ 48 12) (σ 48 12).toNat 0))) := by
  refine Ct.of (by decide +kernel) (Nat.le_of_ble_eq_true rfl) ?_
  show jv g _ _ σ [(0, vr g 48)] 0 []
  refine j_aload_n eX12_split_0 rfl ?_
  refine j_iconst 0 eX12_split_1 ?_
  refine j_putI fpX12_92 ly48 rfl eX12_split_2 ?_
  refine j_iconst 0 eX12_split_5 ?_
  refine j_istore_n eX12_split_6 (Nat.le_of_ble_eq_true rfl) ?_
  refine jv_lv ?_ (l_X12_split hT hL 122 0 _ [] (by omega) (by omega) ((frP.rf σ).U (by decide)) ⟨rfl, fun i q z => by simp at z⟩ (by decide) (fun _ z => by rw [show (0 : Int) - 1 = -1 from rfl] at z; unfold lat at z; rw [if_neg (by omega)] at z; exact absurd z (by decide)) (by rw [Int.sub_zero]; rfl))
  exact lvC rfl (lvC rfl (lv0))
theorem c_X12_isKind {g : Gl} {σ : Sg} {c : Int} {L : List Tk} (hR : RT σ L) (hO : LO L) (hA : 0 ≤ σ 48 17 ∧ σ 48 17 ≤ 1000) (hc : 0 ≤ c ∧ c ≤ 255) : Ct g mX12_isKind [vr g 48, vi c] σ (PB (KD L (σ 48 17) c) σ) := by
  refine Ct.of (by decide +kernel) (Nat.le_of_ble_eq_true rfl) ?_
  show jv g _ _ σ [(0, vr g 48), (1, vi c)] 0 []
  have e16 := hR.1
  have l1 := hO.1
  refine j_aload_n eX12_isKind_0 rfl ?_
  refine j_getI flX12_99 ly48 rfl eX12_isKind_1 ?_
  refine j_aload_n eX12_isKind_4 rfl ?_
  refine j_getI flX12_92 ly48 rfl eX12_isKind_5 ?_
  refine j_icmp_ge eX12_isKind_8 (by omega) (fun h8 => ?_) (fun h8 => ?_)
  · refine j_iconst 0 eX12_isKind_28 ?_
    exact r_zret (by decide) rfl eX12_isKind_29 (PB_f (by first | exact KD_y hR (by omega) (by omega) (by omega) | exact KD_n hR (by omega) (by omega)))
  · have kb := hR.kb hO (a := σ 48 17) (by omega) (by omega)
    refine j_aload_n eX12_isKind_11 rfl ?_
    refine j_getR flX12_35 ly48 rfl eX12_isKind_12 ?_
    refine j_aload_n eX12_isKind_15 rfl ?_
    refine j_getI flX12_99 ly48 rfl eX12_isKind_16 ?_
    refine j_iald ly57 (by omega) eX12_isKind_19 ?_
    refine j_iload_n eX12_isKind_20 rfl ?_
    refine j_icmp_ne eX12_isKind_21 (by omega) (fun h21 => ?_) (fun h21 => ?_)
    · refine j_iconst 0 eX12_isKind_28 ?_
      exact r_zret (by decide) rfl eX12_isKind_29 (PB_f (by first | exact KD_y hR (by omega) (by omega) (by omega) | exact KD_n hR (by omega) (by omega)))
    · refine j_iconst 1 eX12_isKind_24 ?_
      refine j_goto eX12_isKind_25 ?_
      exact r_zret (by decide) rfl eX12_isKind_29 (PB_t (by first | exact KD_y hR (by omega) (by omega) (by omega) | exact KD_n hR (by omega) (by omega)))
theorem c_X12_takesNumber {g : Gl} {σ : Sg} {lo hi : Int} {L : List Tk} {S : Rst} {len : Int} (hR : RT σ L) (hO : LO L) (hA : 0 ≤ σ 48 17 ∧ σ 48 17 ≤ (L.length : Int)) (hb : -50 ≤ lo ∧ lo ≤ 50 ∧ -50 ≤ hi ∧ hi ≤ 50) (hS : S.2.2.1 = false ∧ room S.1 S.2.1.length) (hI : ∀ x, (lo ≤ x ∧ x ≤ hi) ↔ ((S.1 = 1 → okc x) ∧ (S.1 = 2 → oke S.2.1 x))) (hE : ∀ v, KD L (σ 48 17) 59 → stp S 59 v = none) : Ct g mX12_takesNumber [vr g 48, vi lo, vi hi] σ (PI (fun v σ' => frQ σ σ' ∧ σ' 50 = σ 50 ∧ (0 ≤ σ' 48 17 ∧ σ' 48 17 ≤ (L.length : Int)) ∧ ((v = 1 ∧ rdL len (L.drop (σ 48 17).toNat) S = rdL len (L.drop (σ' 48 17).toNat) (S.1, S.2.1 ++ [σ' 48 18], false, S.2.2.2.1, S.2.2.2.2) ∧ σ 48 17 < σ' 48 17 ∧ lo ≤ σ' 48 18 ∧ σ' 48 18 ≤ hi) ∨ (v = 0 ∧ (rdL len (L.drop (σ 48 17).toNat) S).1 = plc len L (σ' 48 17))))) := by
  refine Ct.of (by decide +kernel) (Nat.le_of_ble_eq_true rfl) ?_
  show jv g _ _ σ [(0, vr g 48), (1, vi lo), (2, vi hi)] 0 []
  have l1 := hO.1
  refine j_aload_n eX12_takesNumber_0 rfl ?_
  refine j_bipush 45 eX12_takesNumber_1 (by decide) ?_
  refine j_cV1 zX12_isKind lkX12_102 ⟨Nat.le_of_ble_eq_true rfl, Nat.le_of_ble_eq_true rfl⟩ ly48 rfl rfl (c_X12_isKind (by exact hR) (by exact hO) (by omega) (by decide)) (Nat.le_of_ble_eq_true rfl) eX12_takesNumber_3 (k_B (fun h3 => ?_) (fun h3 => ?_))
  · refine j_istore_n eX12_takesNumber_6 (Nat.le_of_ble_eq_true rfl) ?_
    refine j_aload_n eX12_takesNumber_7 rfl ?_
    refine j_dup rfl eX12_takesNumber_8 ?_
    refine j_getI flX12_99 ly48 rfl eX12_takesNumber_9 ?_
    refine j_iload_n eX12_takesNumber_12 rfl ?_
    refine j_ifeq_1 eX12_takesNumber_13 ?_
    refine j_iconst 1 eX12_takesNumber_16 ?_
    refine j_goto eX12_takesNumber_17 ?_
    refine j_iadd eX12_takesNumber_21 ?_
    try rw [Int.add_zero]
    refine j_putI fpX12_99 ly48 rfl eX12_takesNumber_22 ?_
    refine j_aload_n eX12_takesNumber_25 rfl ?_
    refine j_aload_n eX12_takesNumber_26 rfl ?_
    refine j_iconst 1 eX12_takesNumber_27 ?_
    refine j_cV1 zX12_isKind lkX12_102 ⟨Nat.le_of_ble_eq_true rfl, Nat.le_of_ble_eq_true rfl⟩ ly48 rfl rfl (c_X12_isKind (by exact hR) (by exact hO) (by first | exact (show 0 ≤ σ 48 17 + 1 ∧ σ 48 17 + 1 ≤ 1000 by omega) | exact (show 0 ≤ σ 48 17 ∧ σ 48 17 ≤ 1000 by omega)) (by decide)) (Nat.le_of_ble_eq_true rfl) eX12_takesNumber_28 (k_B (fun h28 => ?_) (fun h28 => ?_))
    · refine j_ifeq_1 eX12_takesNumber_31 ?_
      refine j_iload_n eX12_takesNumber_34 rfl ?_
      refine j_ifeq_1 eX12_takesNumber_35 ?_
      obtain ⟨q, q1, q2⟩ := id h28
      have q1 : L[(σ 48 17 + 1).toNat]? = some q := q1
      have qq := hR.q (by omega) q1
      have qm := (hO.2 q (List.mem_of_getElem? q1)).2.2 q2
      refine j_aload_n eX12_takesNumber_38 rfl ?_
      refine j_getR flX12_41 ly48 rfl eX12_takesNumber_39 ?_
      refine j_aload_n eX12_takesNumber_42 rfl ?_
      refine j_getI flX12_99 ly48 rfl eX12_takesNumber_43 ?_
      refine j_iald ly59 (by exact (show 0 ≤ σ 48 17 + 1 ∧ σ 48 17 + 1 < 120 by omega)) eX12_takesNumber_46 ?_
      refine jv_top (b := q.2.2) (qq.1.2.2 q2) ?_
      refine j_ineg eX12_takesNumber_47 ?_
      refine j_goto eX12_takesNumber_48 ?_
      refine j_putI fpX12_106 ly48 rfl eX12_takesNumber_64 ?_
      refine j_aload_n eX12_takesNumber_67 rfl ?_
      refine j_iconst 1 eX12_takesNumber_68 ?_
      refine j_cV1 zX12_isKind lkX12_102 ⟨Nat.le_of_ble_eq_true rfl, Nat.le_of_ble_eq_true rfl⟩ ly48 rfl rfl (c_X12_isKind (by exact hR) (by exact hO) (by first | exact (show 0 ≤ σ 48 17 + 1 ∧ σ 48 17 + 1 ≤ 1000 by omega) | exact (show 0 ≤ σ 48 17 ∧ σ 48 17 ≤ 1000 by omega)) (by decide)) (Nat.le_of_ble_eq_true rfl) eX12_takesNumber_69 (k_B (fun h69 => ?_) (fun h69 => ?_))
      · refine j_ifeq_1 eX12_takesNumber_72 ?_
        refine j_aload_n eX12_takesNumber_75 rfl ?_
        refine j_getI flX12_106 ly48 rfl eX12_takesNumber_76 ?_
        first | refine jv_top (b := -q.2.2) rfl ?_ | refine jv_top (b := q.2.2) rfl ?_
        refine j_iload_n eX12_takesNumber_79 rfl ?_
        refine j_iload_n eX12_takesNumber_80 rfl ?_
        refine j_cS3 zX12_in lkX12_85 ⟨Nat.le_of_ble_eq_true rfl, Nat.le_of_ble_eq_true rfl⟩ (c_X12_in (by omega)) (Nat.le_of_ble_eq_true rfl) eX12_takesNumber_81 (k_B (fun h81 => ?_) (fun h81 => ?_))
        · refine j_ifeq_1 eX12_takesNumber_84 ?_
          refine j_iconst 1 eX12_takesNumber_87 ?_
          refine j_goto eX12_takesNumber_88 ?_
          refine j_istore eX12_takesNumber_92 (Nat.le_of_ble_eq_true rfl) ?_
          refine j_aload_n eX12_takesNumber_94 rfl ?_
          refine j_dup rfl eX12_takesNumber_95 ?_
          refine j_getI flX12_99 ly48 rfl eX12_takesNumber_96 ?_
          refine j_iload eX12_takesNumber_99 rfl ?_
          refine j_ifeq_1 eX12_takesNumber_101 ?_
          refine j_iconst 1 eX12_takesNumber_104 ?_
          refine j_goto eX12_takesNumber_105 ?_
          refine j_iadd eX12_takesNumber_109 ?_
          try rw [Int.add_zero]
          refine j_putI fpX12_99 ly48 rfl eX12_takesNumber_110 ?_
          refine j_iload eX12_takesNumber_113 rfl ?_
          refine r_zret (by decide) rfl eX12_takesNumber_115 ?_
          exact ⟨(((frQ.rf σ).U (by decide)).U (by decide)).U (by decide), rfl, (show 0 ≤ σ 48 17 + 1 + 1 ∧ σ 48 17 + 1 + 1 ≤ (L.length : Int) by omega), Or.inl ⟨rfl, tn_2 hA.1 hS hI h3 q1 q2 h81, (show σ 48 17 < σ 48 17 + 1 + 1 by omega), h81⟩⟩
        · refine j_ifeq_0 eX12_takesNumber_84 ?_
          refine j_iconst 0 eX12_takesNumber_91 ?_
          refine j_istore eX12_takesNumber_92 (Nat.le_of_ble_eq_true rfl) ?_
          refine j_aload_n eX12_takesNumber_94 rfl ?_
          refine j_dup rfl eX12_takesNumber_95 ?_
          refine j_getI flX12_99 ly48 rfl eX12_takesNumber_96 ?_
          refine j_iload eX12_takesNumber_99 rfl ?_
          refine j_ifeq_0 eX12_takesNumber_101 ?_
          refine j_iconst 0 eX12_takesNumber_108 ?_
          refine j_iadd eX12_takesNumber_109 ?_
          try rw [Int.add_zero]
          refine j_putI fpX12_99 ly48 rfl eX12_takesNumber_110 ?_
          refine j_iload eX12_takesNumber_113 rfl ?_
          refine r_zret (by decide) rfl eX12_takesNumber_115 ?_
          have k3 : σ 48 17 + 1 ≤ (L.length : Int) := by
            obtain ⟨z, z1, z2⟩ := id h3
            have := (hR.q hA.1 z1).2
            omega
          exact ⟨(((frQ.rf σ).U (by decide)).U (by decide)).U (by decide), rfl, (show 0 ≤ σ 48 17 + 1 ∧ σ 48 17 + 1 ≤ (L.length : Int) by omega), Or.inr ⟨rfl, tn_4 hA.1 hS hI h3 (fun x x1 x2 => by rw [q1] at x1; cases x1; exact h81)⟩⟩
      · exact absurd h28 h69
    · refine j_ifeq_0 eX12_takesNumber_31 ?_
      refine j_iconst 0 eX12_takesNumber_63 ?_
      refine j_putI fpX12_106 ly48 rfl eX12_takesNumber_64 ?_
      refine j_aload_n eX12_takesNumber_67 rfl ?_
      refine j_iconst 1 eX12_takesNumber_68 ?_
      refine j_cV1 zX12_isKind lkX12_102 ⟨Nat.le_of_ble_eq_true rfl, Nat.le_of_ble_eq_true rfl⟩ ly48 rfl rfl (c_X12_isKind (by exact hR) (by exact hO) (by first | exact (show 0 ≤ σ 48 17 + 1 ∧ σ 48 17 + 1 ≤ 1000 by omega) | exact (show 0 ≤ σ 48 17 ∧ σ 48 17 ≤ 1000 by omega)) (by decide)) (Nat.le_of_ble_eq_true rfl) eX12_takesNumber_69 (k_B (fun h69 => ?_) (fun h69 => ?_))
      · exact absurd h69 h28
      · refine j_ifeq_0 eX12_takesNumber_72 ?_
        refine j_iconst 0 eX12_takesNumber_91 ?_
        refine j_istore eX12_takesNumber_92 (Nat.le_of_ble_eq_true rfl) ?_
        refine j_aload_n eX12_takesNumber_94 rfl ?_
        refine j_dup rfl eX12_takesNumber_95 ?_
        refine j_getI flX12_99 ly48 rfl eX12_takesNumber_96 ?_
        refine j_iload eX12_takesNumber_99 rfl ?_
        refine j_ifeq_0 eX12_takesNumber_101 ?_
        refine j_iconst 0 eX12_takesNumber_108 ?_
        refine j_iadd eX12_takesNumber_109 ?_
        try rw [Int.add_zero]
        refine j_putI fpX12_99 ly48 rfl eX12_takesNumber_110 ?_
        refine j_iload eX12_takesNumber_113 rfl ?_
        refine r_zret (by decide) rfl eX12_takesNumber_115 ?_
        have k3 : σ 48 17 + 1 ≤ (L.length : Int) := by
          obtain ⟨z, z1, z2⟩ := id h3
          have := (hR.q hA.1 z1).2
          omega
        exact ⟨(((frQ.rf σ).U (by decide)).U (by decide)).U (by decide), rfl, (show 0 ≤ σ 48 17 + 1 ∧ σ 48 17 + 1 ≤ (L.length : Int) by omega), Or.inr ⟨rfl, tn_4 hA.1 hS hI h3 (fun x x1 x2 => absurd ⟨x, x1, x2⟩ h28)⟩⟩
  · refine j_istore_n eX12_takesNumber_6 (Nat.le_of_ble_eq_true rfl) ?_
    refine j_aload_n eX12_takesNumber_7 rfl ?_
    refine j_dup rfl eX12_takesNumber_8 ?_
    refine j_getI flX12_99 ly48 rfl eX12_takesNumber_9 ?_
    refine j_iload_n eX12_takesNumber_12 rfl ?_
    refine j_ifeq_0 eX12_takesNumber_13 ?_
    refine j_iconst 0 eX12_takesNumber_20 ?_
    refine j_iadd eX12_takesNumber_21 ?_
    try rw [Int.add_zero]
    refine j_putI fpX12_99 ly48 rfl eX12_takesNumber_22 ?_
    refine j_aload_n eX12_takesNumber_25 rfl ?_
    refine j_aload_n eX12_takesNumber_26 rfl ?_
    refine j_iconst 1 eX12_takesNumber_27 ?_
    refine j_cV1 zX12_isKind lkX12_102 ⟨Nat.le_of_ble_eq_true rfl, Nat.le_of_ble_eq_true rfl⟩ ly48 rfl rfl (c_X12_isKind (by exact hR) (by exact hO) (by first | exact (show 0 ≤ σ 48 17 + 1 ∧ σ 48 17 + 1 ≤ 1000 by omega) | exact (show 0 ≤ σ 48 17 ∧ σ 48 17 ≤ 1000 by omega)) (by decide)) (Nat.le_of_ble_eq_true rfl) eX12_takesNumber_28 (k_B (fun h28 => ?_) (fun h28 => ?_))
    · refine j_ifeq_1 eX12_takesNumber_31 ?_
      refine j_iload_n eX12_takesNumber_34 rfl ?_
      refine j_ifeq_0 eX12_takesNumber_35 ?_
      obtain ⟨q, q1, q2⟩ := id h28
      have q1 : L[(σ 48 17).toNat]? = some q := q1
      have qq := hR.q (by omega) q1
      have qm := (hO.2 q (List.mem_of_getElem? q1)).2.2 q2
      refine j_aload_n eX12_takesNumber_51 rfl ?_
      refine j_getR flX12_41 ly48 rfl eX12_takesNumber_52 ?_
      refine j_aload_n eX12_takesNumber_55 rfl ?_
      refine j_getI flX12_99 ly48 rfl eX12_takesNumber_56 ?_
      refine j_iald ly59 (by exact (show 0 ≤ σ 48 17 ∧ σ 48 17 < 120 by omega)) eX12_takesNumber_59 ?_
      refine jv_top (b := q.2.2) (qq.1.2.2 q2) ?_
      refine j_goto eX12_takesNumber_60 ?_
      refine j_putI fpX12_106 ly48 rfl eX12_takesNumber_64 ?_
      refine j_aload_n eX12_takesNumber_67 rfl ?_
      refine j_iconst 1 eX12_takesNumber_68 ?_
      refine j_cV1 zX12_isKind lkX12_102 ⟨Nat.le_of_ble_eq_true rfl, Nat.le_of_ble_eq_true rfl⟩ ly48 rfl rfl (c_X12_isKind (by exact hR) (by exact hO) (by first | exact (show 0 ≤ σ 48 17 + 1 ∧ σ 48 17 + 1 ≤ 1000 by omega) | exact (show 0 ≤ σ 48 17 ∧ σ 48 17 ≤ 1000 by omega)) (by decide)) (Nat.le_of_ble_eq_true rfl) eX12_takesNumber_69 (k_B (fun h69 => ?_) (fun h69 => ?_))
      · refine j_ifeq_1 eX12_takesNumber_72 ?_
        refine j_aload_n eX12_takesNumber_75 rfl ?_
        refine j_getI flX12_106 ly48 rfl eX12_takesNumber_76 ?_
        first | refine jv_top (b := -q.2.2) rfl ?_ | refine jv_top (b := q.2.2) rfl ?_
        refine j_iload_n eX12_takesNumber_79 rfl ?_
        refine j_iload_n eX12_takesNumber_80 rfl ?_
        refine j_cS3 zX12_in lkX12_85 ⟨Nat.le_of_ble_eq_true rfl, Nat.le_of_ble_eq_true rfl⟩ (c_X12_in (by omega)) (Nat.le_of_ble_eq_true rfl) eX12_takesNumber_81 (k_B (fun h81 => ?_) (fun h81 => ?_))
        · refine j_ifeq_1 eX12_takesNumber_84 ?_
          refine j_iconst 1 eX12_takesNumber_87 ?_
          refine j_goto eX12_takesNumber_88 ?_
          refine j_istore eX12_takesNumber_92 (Nat.le_of_ble_eq_true rfl) ?_
          refine j_aload_n eX12_takesNumber_94 rfl ?_
          refine j_dup rfl eX12_takesNumber_95 ?_
          refine j_getI flX12_99 ly48 rfl eX12_takesNumber_96 ?_
          refine j_iload eX12_takesNumber_99 rfl ?_
          refine j_ifeq_1 eX12_takesNumber_101 ?_
          refine j_iconst 1 eX12_takesNumber_104 ?_
          refine j_goto eX12_takesNumber_105 ?_
          refine j_iadd eX12_takesNumber_109 ?_
          try rw [Int.add_zero]
          refine j_putI fpX12_99 ly48 rfl eX12_takesNumber_110 ?_
          refine j_iload eX12_takesNumber_113 rfl ?_
          refine r_zret (by decide) rfl eX12_takesNumber_115 ?_
          exact ⟨(((frQ.rf σ).U (by decide)).U (by decide)).U (by decide), rfl, (show 0 ≤ σ 48 17 + 1 ∧ σ 48 17 + 1 ≤ (L.length : Int) by omega), Or.inl ⟨rfl, tn_1 hA.1 hS hI q1 q2 h81, (show σ 48 17 < σ 48 17 + 1 by omega), h81⟩⟩
        · refine j_ifeq_0 eX12_takesNumber_84 ?_
          refine j_iconst 0 eX12_takesNumber_91 ?_
          refine j_istore eX12_takesNumber_92 (Nat.le_of_ble_eq_true rfl) ?_
          refine j_aload_n eX12_takesNumber_94 rfl ?_
          refine j_dup rfl eX12_takesNumber_95 ?_
          refine j_getI flX12_99 ly48 rfl eX12_takesNumber_96 ?_
          refine j_iload eX12_takesNumber_99 rfl ?_
          refine j_ifeq_0 eX12_takesNumber_101 ?_
          refine j_iconst 0 eX12_takesNumber_108 ?_
          refine j_iadd eX12_takesNumber_109 ?_
          try rw [Int.add_zero]
          refine j_putI fpX12_99 ly48 rfl eX12_takesNumber_110 ?_
          refine j_iload eX12_takesNumber_113 rfl ?_
          refine r_zret (by decide) rfl eX12_takesNumber_115 ?_
          exact ⟨(((frQ.rf σ).U (by decide)).U (by decide)).U (by decide), rfl, (show 0 ≤ σ 48 17 ∧ σ 48 17 ≤ (L.length : Int) by omega), Or.inr ⟨rfl, tn_3 hA.1 hS hI hE h3 (fun x x1 x2 => by rw [q1] at x1; cases x1; exact h81)⟩⟩
      · exact absurd h28 h69
    · refine j_ifeq_0 eX12_takesNumber_31 ?_
      refine j_iconst 0 eX12_takesNumber_63 ?_
      refine j_putI fpX12_106 ly48 rfl eX12_takesNumber_64 ?_
      refine j_aload_n eX12_takesNumber_67 rfl ?_
      refine j_iconst 1 eX12_takesNumber_68 ?_
      refine j_cV1 zX12_isKind lkX12_102 ⟨Nat.le_of_ble_eq_true rfl, Nat.le_of_ble_eq_true rfl⟩ ly48 rfl rfl (c_X12_isKind (by exact hR) (by exact hO) (by first | exact (show 0 ≤ σ 48 17 + 1 ∧ σ 48 17 + 1 ≤ 1000 by omega) | exact (show 0 ≤ σ 48 17 ∧ σ 48 17 ≤ 1000 by omega)) (by decide)) (Nat.le_of_ble_eq_true rfl) eX12_takesNumber_69 (k_B (fun h69 => ?_) (fun h69 => ?_))
      · exact absurd h69 h28
      · refine j_ifeq_0 eX12_takesNumber_72 ?_
        refine j_iconst 0 eX12_takesNumber_91 ?_
        refine j_istore eX12_takesNumber_92 (Nat.le_of_ble_eq_true rfl) ?_
        refine j_aload_n eX12_takesNumber_94 rfl ?_
        refine j_dup rfl eX12_takesNumber_95 ?_
        refine j_getI flX12_99 ly48 rfl eX12_takesNumber_96 ?_
        refine j_iload eX12_takesNumber_99 rfl ?_
        refine j_ifeq_0 eX12_takesNumber_101 ?_
        refine j_iconst 0 eX12_takesNumber_108 ?_
        refine j_iadd eX12_takesNumber_109 ?_
        try rw [Int.add_zero]
        refine j_putI fpX12_99 ly48 rfl eX12_takesNumber_110 ?_
        refine j_iload eX12_takesNumber_113 rfl ?_
        refine r_zret (by decide) rfl eX12_takesNumber_115 ?_
        exact ⟨(((frQ.rf σ).U (by decide)).U (by decide)).U (by decide), rfl, (show 0 ≤ σ 48 17 ∧ σ 48 17 ≤ (L.length : Int) by omega), Or.inr ⟨rfl, tn_3 hA.1 hS hI hE h3 (fun x x1 x2 => absurd ⟨x, x1, x2⟩ h28)⟩⟩
