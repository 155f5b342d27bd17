/-! the text's reader -/
abbrev Rst : Type := Int × List Int × Bool × List (List Int) × List (Int × Int)
def dg (c : Int) : Bool := decide (48 ≤ c) && decide (c ≤ 57)
theorem dg_iff {c : Int} : dg c = true ↔ 48 ≤ c ∧ c ≤ 57 := by
  unfold dg
  rw [Bool.and_eq_true, decide_eq_true_iff, decide_eq_true_iff]
def lat (T : Int → Int) (len i : Int) : Int := if 0 ≤ i ∧ i < len then T i else -9
def room (it : Int) (n : Nat) : Prop := (it = 1 ∧ n < 6) ∨ (it = 2 ∧ n < 2)
def okc (x : Int) : Prop := -50 ≤ x ∧ x ≤ 50
def oke (ns : List Int) (x : Int) : Prop := (-5 ≤ x ∧ x ≤ 5) ∧ ∀ y, ns[0]? = some y → y < x
noncomputable def stp (S : Rst) (k v : Int) : Option Rst :=
  @ite _ (k = 112) (Classical.propDecidable _) (@ite _ (S.1 = 0 ∧ S.2.2.2.1.length < 3) (Classical.propDecidable _) (some (1, [], false, S.2.2.2.1, S.2.2.2.2)) none)
  (@ite _ (k = 98) (Classical.propDecidable _) (@ite _ (S.1 = 0 ∧ S.2.2.2.2.length < 3) (Classical.propDecidable _) (some (2, [], false, S.2.2.2.1, S.2.2.2.2)) none)
  (@ite _ (k = 45) (Classical.propDecidable _) (@ite _ (S.2.2.1 = false ∧ room S.1 S.2.1.length) (Classical.propDecidable _) (some (S.1, S.2.1, true, S.2.2.2.1, S.2.2.2.2)) none)
  (@ite _ (k = 59) (Classical.propDecidable _) (@ite _ (S.2.2.1 = false ∧ S.1 = 1 ∧ S.2.1.length ≠ 0) (Classical.propDecidable _) (some (0, [], false, S.2.2.2.1 ++ [S.2.1], S.2.2.2.2)) (@ite _ (S.2.2.1 = false ∧ S.1 = 2 ∧ S.2.1.length = 2) (Classical.propDecidable _) (some (0, [], false, S.2.2.2.1, S.2.2.2.2 ++ [(S.2.1.getD 0 0, S.2.1.getD 1 0)])) none))
  (@ite _ (k = 1) (Classical.propDecidable _) (@ite _ (room S.1 S.2.1.length ∧ (S.1 = 1 → okc (if S.2.2.1 = true then -v else v)) ∧ (S.1 = 2 → oke S.2.1 (if S.2.2.1 = true then -v else v))) (Classical.propDecidable _) (some (S.1, S.2.1 ++ [if S.2.2.1 = true then -v else v], false, S.2.2.2.1, S.2.2.2.2)) none) none))))
/-- what a number is, from its first letter -/
def ntk (T : Int → Int) (len i : Int) : Int × Int := if dg (lat T len (i + 1)) = true then (if lat T len i - 48 = 0 ∨ dg (lat T len (i + 2)) = true then (2, 0) else (1, (lat T len i - 48) * 10 + lat T len (i + 1) - 48)) else (1, lat T len i - 48)
def tokAt (T : Int → Int) (len i : Int) : Option (Int × Int) := if dg (lat T len i) = true then (if dg (lat T len (i - 1)) = true then none else some (ntk T len i)) else if lat T len i = 32 then none else some (if lat T len i = 112 ∨ lat T len i = 98 ∨ lat T len i = 45 ∨ lat T len i = 59 then (lat T len i, 0) else (2, 0))
noncomputable def rdC (T : Int → Int) (len : Int) : Nat → Int → Rst → Int × Rst
  | 0, _, S => (if S.1 = 0 then -1 else len, S)
  | t + 1, i, S => match tokAt T len i with
    | none => rdC T len t (i + 1) S
    | some q => match stp S q.1 q.2 with
      | none => (i, S)
      | some S' => rdC T len t (i + 1) S'
def aP (S : Rst) : List (List Int) := if S.1 = 1 then S.2.2.2.1 ++ [S.2.1] else S.2.2.2.1
def aB (S : Rst) : List (Int × Int) := if S.1 = 2 ∧ S.2.1.length = 2 then S.2.2.2.2 ++ [(S.2.1.getD 0 0, S.2.1.getD 1 0)] else S.2.2.2.2
/-- a state of the reader is sound -/
def WF (S : Rst) : Prop := (S.1 = 0 ∨ S.1 = 1 ∨ S.1 = 2) ∧ (aP S).length ≤ 3 ∧ (S.2.2.2.2.length ≤ 3) ∧ (S.1 = 2 → S.2.2.2.2.length < 3) ∧ (S.1 = 1 → S.2.1.length ≤ 6) ∧ (S.1 = 2 → S.2.1.length ≤ 2) ∧ (∀ l ∈ S.2.2.2.1, 1 ≤ l.length ∧ l.length ≤ 6) ∧ (∀ l ∈ aP S, ∀ x ∈ l, -50 ≤ x ∧ x ≤ 50) ∧ (S.1 = 2 → ∀ x ∈ S.2.1, -5 ≤ x ∧ x ≤ 5) ∧ (∀ q ∈ aB S, -5 ≤ q.1 ∧ q.1 < q.2 ∧ q.2 ≤ 5)
/-- the memory holds it -/
def AR (σ : Sg) (S : Rst) : Prop := σ 34 1 = S.1 ∧ ((σ 34 3 = 0 ∨ σ 34 3 = 1) ∧ 0 ≤ σ 34 2 ∧ σ 34 2 ≤ 6) ∧ (S.1 ≠ 0 → σ 34 2 = S.2.1.length ∧ (σ 34 3 = 1 ↔ S.2.2.1 = true)) ∧ (S.1 = 2 → ∀ x, S.2.1[0]? = some x → σ 34 4 = x) ∧ σ 18 0 = (aP S).length ∧ σ 18 1 = (aB S).length ∧ (∀ (q : Nat) (l : List Int), (aP S)[q]? = some l → σ 19 q = l.length ∧ σ 21 q = 0 ∧ ∀ (k : Nat) (x : Int), l[k]? = some x → σ 20 ((q : Int) * 6 + k) = x) ∧ (∀ (i : Nat) (q : Int × Int), (aB S)[i]? = some q → σ 22 i = q.1 ∧ σ 23 i = q.2)
theorem iteP {α : Type} {p : Prop} {a b : α} (h : p) : @ite α p (Classical.propDecidable p) a b = a := if_pos h
theorem iteN {α : Type} {p : Prop} {a b : α} (h : ¬ p) : @ite α p (Classical.propDecidable p) a b = b := if_neg h
theorem stp_p (S : Rst) (v : Int) : stp S 112 v = @ite _ (S.1 = 0 ∧ S.2.2.2.1.length < 3) (Classical.propDecidable _) (some (1, [], false, S.2.2.2.1, S.2.2.2.2)) none := iteP rfl
theorem stp_b (S : Rst) (v : Int) : stp S 98 v = @ite _ (S.1 = 0 ∧ S.2.2.2.2.length < 3) (Classical.propDecidable _) (some (2, [], false, S.2.2.2.1, S.2.2.2.2)) none := (iteN (by decide)).trans (iteP rfl)
theorem stp_m (S : Rst) (v : Int) : stp S 45 v = @ite _ (S.2.2.1 = false ∧ room S.1 S.2.1.length) (Classical.propDecidable _) (some (S.1, S.2.1, true, S.2.2.2.1, S.2.2.2.2)) none := (iteN (by decide)).trans ((iteN (by decide)).trans (iteP rfl))
theorem stp_e (S : Rst) (v : Int) : stp S 59 v = @ite _ (S.2.2.1 = false ∧ S.1 = 1 ∧ S.2.1.length ≠ 0) (Classical.propDecidable _) (some (0, [], false, S.2.2.2.1 ++ [S.2.1], S.2.2.2.2)) (@ite _ (S.2.2.1 = false ∧ S.1 = 2 ∧ S.2.1.length = 2) (Classical.propDecidable _) (some (0, [], false, S.2.2.2.1, S.2.2.2.2 ++ [(S.2.1.getD 0 0, S.2.1.getD 1 0)])) none) := (iteN (by decide)).trans ((iteN (by decide)).trans ((iteN (by decide)).trans (iteP rfl)))
theorem stp_n (S : Rst) (v : Int) : stp S 1 v = @ite _ (room S.1 S.2.1.length ∧ (S.1 = 1 → okc (if S.2.2.1 = true then -v else v)) ∧ (S.1 = 2 → oke S.2.1 (if S.2.2.1 = true then -v else v))) (Classical.propDecidable _) (some (S.1, S.2.1 ++ [if S.2.2.1 = true then -v else v], false, S.2.2.2.1, S.2.2.2.2)) none := (iteN (by decide)).trans ((iteN (by decide)).trans ((iteN (by decide)).trans ((iteN (by decide)).trans (iteP rfl))))
theorem stp_i (S : Rst) (v : Int) : stp S 2 v = none := (iteN (by decide)).trans ((iteN (by decide)).trans ((iteN (by decide)).trans ((iteN (by decide)).trans (iteN (by decide)))))
def fr18 (σ σ' : Sg) : Prop := ∀ k, (k < 18 ∨ 23 < k) → k ≠ 34 → σ' k = σ k
/-- what a token does: v = 1 and the state goes on, or v = 0 and it cannot stand -/
def TkQ (σ : Sg) (S : Rst) (k w : Int) (v : Int) (σ' : Sg) : Prop := fr18 σ σ' ∧ ((v = 1 ∧ ∃ S', stp S k w = some S' ∧ AR σ' S' ∧ WF S') ∨ (v = 0 ∧ stp S k w = none ∧ ((σ' 34 3 = 0 ∨ σ' 34 3 = 1) ∧ 0 ≤ σ' 34 2 ∧ σ' 34 2 ≤ 6)))
theorem AR_p {σ : Sg} {S : Rst} (h : AR σ S) (w : WF S) (h0 : S.1 = 0) (hl : S.2.2.2.1.length < 3) : stp S 112 0 = some (1, [], false, S.2.2.2.1, S.2.2.2.2) ∧ AR (up (up (up (up (up (up σ 19 (σ 18 0) 0) 21 (σ 18 0) 0) 18 0 (σ 18 0 + 1)) 34 1 1) 34 2 0) 34 3 0) (1, [], false, S.2.2.2.1, S.2.2.2.2) ∧ WF (1, [], false, S.2.2.2.1, S.2.2.2.2) := by
  obtain ⟨it, ns, ng, ps, bs⟩ := S
  simp only at h0 hl
  subst h0
  obtain ⟨a1, a2, a3, a4, a5, a6, a7, a8⟩ := h
  obtain ⟨w1, w2, w3, w4, w5, w6, w7, w8, w9, w10⟩ := w
  have e1 : aP (0, ns, ng, ps, bs) = ps := rfl
  have e2 : aP (1, ([] : List Int), false, ps, bs) = ps ++ [[]] := rfl
  have e3 : aB (0, ns, ng, ps, bs) = bs := rfl
  have e4 : aB (1, ([] : List Int), false, ps, bs) = bs := rfl
  rw [e1] at a5 a7 w2 w8
  rw [e3] at a6 a8 w10
  refine ⟨(stp_p _ _).trans (iteP ⟨rfl, hl⟩), ⟨rfl, ⟨Or.inl rfl, by show (0 : Int) ≤ 0; omega, by show (0 : Int) ≤ 6; omega⟩, fun _ => ⟨rfl, by show (0 : Int) = 1 ↔ false = true; decide⟩, fun z => absurd (show (1 : Int) = 2 from z) (by decide), ?_, ?_, ?_, ?_⟩, ?_⟩
  · show σ 18 0 + 1 = _
    rw [a5, e2, List.length_append]
    rfl
  · exact a6
  · rw [e2]
    intro q l z
    show up1 (σ 19) (σ 18 0) 0 q = _ ∧ up1 (σ 21) (σ 18 0) 0 q = _ ∧ _
    by_cases hq : q < ps.length
    · rw [List.getElem?_append_left hq] at z
      rw [up1_ne (by omega), up1_ne (by omega)]
      exact a7 q l z
    · rw [List.getElem?_append_right (by omega)] at z
      have hz : q - ps.length < 1 := (List.getElem?_eq_some_iff.mp z).1
      have e : q = ps.length := by omega
      subst e
      rw [Nat.sub_self] at z
      cases z
      rw [a5, up1_same, up1_same]
      exact ⟨rfl, rfl, fun k x z => by simp at z⟩
  · exact a8
  · refine ⟨Or.inr (Or.inl rfl), ?_, w3, fun z => absurd (show (1 : Int) = 2 from z) (by decide), fun _ => by show 0 ≤ 6; omega, fun z => absurd (show (1 : Int) = 2 from z) (by decide), w7, ?_, fun z => absurd (show (1 : Int) = 2 from z) (by decide), w10⟩
    · rw [e2, List.length_append]
      show ps.length + 1 ≤ 3
      omega
    · rw [e2]
      intro l hl x hx
      rcases List.mem_append.mp hl with h | h
      · exact w8 l h x hx
      · rw [List.mem_singleton.mp h] at hx
        cases hx
theorem AR_b {σ : Sg} {S : Rst} (h : AR σ S) (w : WF S) (h0 : S.1 = 0) (hl : S.2.2.2.2.length < 3) : stp S 98 0 = some (2, [], false, S.2.2.2.1, S.2.2.2.2) ∧ AR (up (up (up σ 34 1 2) 34 2 0) 34 3 0) (2, [], false, S.2.2.2.1, S.2.2.2.2) ∧ WF (2, [], false, S.2.2.2.1, S.2.2.2.2) := by
  obtain ⟨it, ns, ng, ps, bs⟩ := S
  simp only at h0 hl
  subst h0
  obtain ⟨a1, a2, a3, a4, a5, a6, a7, a8⟩ := h
  obtain ⟨w1, w2, w3, w4, w5, w6, w7, w8, w9, w10⟩ := w
  refine ⟨(stp_b _ _).trans (iteP ⟨rfl, hl⟩), ⟨rfl, ⟨Or.inl rfl, by show (0 : Int) ≤ 0; omega, by show (0 : Int) ≤ 6; omega⟩, fun _ => ⟨rfl, by show (0 : Int) = 1 ↔ false = true; decide⟩, fun _ x z => by simp at z, a5, a6, a7, a8⟩, ?_⟩
  exact ⟨Or.inr (Or.inr rfl), w2, w3, fun _ => hl, fun z => absurd (show (2 : Int) = 1 from z) (by decide), fun _ => by show 0 ≤ 2; omega, w7, w8, (fun _ x hx => by cases hx), w10⟩
theorem AR_m {σ : Sg} {S : Rst} (h : AR σ S) (w : WF S) (h0 : S.2.2.1 = false) (hr : room S.1 S.2.1.length) : stp S 45 0 = some (S.1, S.2.1, true, S.2.2.2.1, S.2.2.2.2) ∧ AR (up σ 34 3 1) (S.1, S.2.1, true, S.2.2.2.1, S.2.2.2.2) ∧ WF (S.1, S.2.1, true, S.2.2.2.1, S.2.2.2.2) := by
  obtain ⟨it, ns, ng, ps, bs⟩ := S
  obtain ⟨a1, a2, a3, a4, a5, a6, a7, a8⟩ := h
  refine ⟨(stp_m _ _).trans (iteP ⟨h0, hr⟩), ⟨a1, ⟨Or.inr rfl, a2.2⟩, fun z => ⟨(a3 z).1, ⟨fun _ => rfl, fun _ => rfl⟩⟩, a4, a5, a6, a7, a8⟩, w⟩
theorem AR_e1 {σ : Sg} {S : Rst} (h : AR σ S) (w : WF S) (h0 : S.2.2.1 = false) (h1 : S.1 = 1) (h2 : S.2.1.length ≠ 0) : stp S 59 0 = some (0, [], false, S.2.2.2.1 ++ [S.2.1], S.2.2.2.2) ∧ AR (up σ 34 1 0) (0, [], false, S.2.2.2.1 ++ [S.2.1], S.2.2.2.2) ∧ WF (0, [], false, S.2.2.2.1 ++ [S.2.1], S.2.2.2.2) := by
  obtain ⟨it, ns, ng, ps, bs⟩ := S
  simp only at h0 h1 h2
  subst h1
  obtain ⟨a1, a2, a3, a4, a5, a6, a7, a8⟩ := h
  obtain ⟨w1, w2, w3, w4, w5, w6, w7, w8, w9, w10⟩ := w
  refine ⟨(stp_e _ _).trans (iteP ⟨h0, rfl, h2⟩), ⟨rfl, a2, fun z => absurd rfl z, fun z => absurd (show (0 : Int) = 2 from z) (by decide), a5, a6, a7, a8⟩, ?_⟩
  refine ⟨Or.inl rfl, w2, w3, fun z => absurd (show (0 : Int) = 2 from z) (by decide), fun z => absurd (show (0 : Int) = 1 from z) (by decide), fun z => absurd (show (0 : Int) = 2 from z) (by decide), ?_, w8, fun z => absurd (show (0 : Int) = 2 from z) (by decide), w10⟩
  intro l hl
  rcases List.mem_append.mp hl with h | h
  · exact w7 l h
  · rw [List.mem_singleton.mp h]
    have := w5 rfl
    simp only at this
    exact ⟨by show 1 ≤ ns.length; omega, this⟩
theorem AR_e2 {σ : Sg} {S : Rst} (h : AR σ S) (w : WF S) (h0 : S.2.2.1 = false) (h1 : S.1 = 2) (h2 : S.2.1.length = 2) : stp S 59 0 = some (0, [], false, S.2.2.2.1, S.2.2.2.2 ++ [(S.2.1.getD 0 0, S.2.1.getD 1 0)]) ∧ AR (up σ 34 1 0) (0, [], false, S.2.2.2.1, S.2.2.2.2 ++ [(S.2.1.getD 0 0, S.2.1.getD 1 0)]) ∧ WF (0, [], false, S.2.2.2.1, S.2.2.2.2 ++ [(S.2.1.getD 0 0, S.2.1.getD 1 0)]) := by
  obtain ⟨it, ns, ng, ps, bs⟩ := S
  simp only at h0 h1 h2
  subst h1
  obtain ⟨a1, a2, a3, a4, a5, a6, a7, a8⟩ := h
  obtain ⟨w1, w2, w3, w4, w5, w6, w7, w8, w9, w10⟩ := w
  have e3 : aB (2, ns, ng, ps, bs) = bs ++ [(ns.getD 0 0, ns.getD 1 0)] := if_pos ⟨rfl, h2⟩
  have e4 : aB (0, ([] : List Int), false, ps, bs ++ [(ns.getD 0 0, ns.getD 1 0)]) = bs ++ [(ns.getD 0 0, ns.getD 1 0)] := rfl
  rw [e3] at a6 a8 w10
  refine ⟨(stp_e _ _).trans ((iteN (fun z => absurd (show (2 : Int) = 1 from z.2.1) (by decide))).trans (iteP ⟨h0, rfl, h2⟩)), ⟨rfl, a2, fun z => absurd rfl z, fun z => absurd (show (0 : Int) = 2 from z) (by decide), a5, by rw [e4]; exact a6, a7, by rw [e4]; exact a8⟩, ?_⟩
  refine ⟨Or.inl rfl, w2, ?_, fun z => absurd (show (0 : Int) = 2 from z) (by decide), fun z => absurd (show (0 : Int) = 1 from z) (by decide), fun z => absurd (show (0 : Int) = 2 from z) (by decide), w7, w8, fun z => absurd (show (0 : Int) = 2 from z) (by decide), by rw [e4]; exact w10⟩
  show (bs ++ [(ns.getD 0 0, ns.getD 1 0)]).length ≤ 3
  rw [List.length_append]
  have := w4 rfl
  simp only at this
  show bs.length + 1 ≤ 3
  omega
theorem AR_n1 {σ : Sg} {S : Rst} {v x : Int} (h : AR σ S) (w : WF S) (h1 : S.1 = 1) (hr : S.2.1.length < 6) (hx : x = if S.2.2.1 = true then -v else v) (hc : okc x) :
    stp S 1 v = some (1, S.2.1 ++ [x], false, S.2.2.2.1, S.2.2.2.2) ∧ AR (up (up (up (up σ 34 3 0) 34 2 (σ 34 2 + 1)) 20 ((σ 18 0 - 1) * 6 + σ 19 (σ 18 0 - 1)) x) 19 (σ 18 0 - 1) (σ 19 (σ 18 0 - 1) + 1)) (1, S.2.1 ++ [x], false, S.2.2.2.1, S.2.2.2.2) ∧ WF (1, S.2.1 ++ [x], false, S.2.2.2.1, S.2.2.2.2) := by
  obtain ⟨it, ns, ng, ps, bs⟩ := S
  simp only at h1 hr hx
  subst h1
  obtain ⟨a1, a2, a3, a4, a5, a6, a7, a8⟩ := h
  obtain ⟨w1, w2, w3, w4, w5, w6, w7, w8, w9, w10⟩ := w
  have e1 : aP (1, ns, ng, ps, bs) = ps ++ [ns] := rfl
  have e2 : aP (1, ns ++ [x], false, ps, bs) = ps ++ [ns ++ [x]] := rfl
  have e3 : aB (1, ns, ng, ps, bs) = bs := rfl
  have e4 : aB (1, ns ++ [x], false, ps, bs) = bs := rfl
  rw [e1] at a5 a7 w2 w8
  rw [e3] at a6 a8 w10
  have b3 := a3 (show (1 : Int) ≠ 0 by decide)
  simp only at b3
  have nP : σ 18 0 - 1 = (ps.length : Int) := by rw [a5, List.length_append]; show ((ps.length + 1 : Nat) : Int) - 1 = _; omega
  have nz := a7 ps.length ns (by rw [List.getElem?_append_right (Nat.le_refl _), Nat.sub_self]; rfl)
  have wl : ps.length < 3 := by rw [List.length_append] at w2; have : ps.length + 1 ≤ 3 := w2; omega
  refine ⟨?_, ⟨a1, ⟨Or.inl rfl, ?_, ?_⟩, fun _ => ⟨?_, ?_⟩, fun z => absurd (show (1 : Int) = 2 from z) (by decide), ?_, ?_, ?_, ?_⟩, ?_⟩
  · refine (stp_n _ _).trans ?_
    rw [iteP ⟨Or.inl ⟨rfl, hr⟩, fun _ => by show okc (if ng = true then -v else v); rw [← hx]; exact hc, fun z => absurd (show (1 : Int) = 2 from z) (by decide)⟩]
    show some (1, ns ++ [if ng = true then -v else v], false, ps, bs) = _
    rw [← hx]
  · show 0 ≤ σ 34 2 + 1
    omega
  · show σ 34 2 + 1 ≤ 6
    omega
  · show σ 34 2 + 1 = ((ns ++ [x]).length : Int)
    rw [List.length_append, b3.1]
    rfl
  · show (0 : Int) = 1 ↔ false = true
    decide
  · show σ 18 0 = ((ps ++ [ns ++ [x]]).length : Int)
    rw [a5, List.length_append, List.length_append]
    rfl
  · exact a6
  · rw [e2]
    intro q l z
    show up1 (σ 19) (σ 18 0 - 1) (σ 19 (σ 18 0 - 1) + 1) q = _ ∧ σ 21 q = _ ∧ ∀ (k : Nat) (y : Int), l[k]? = some y → up1 (σ 20) ((σ 18 0 - 1) * 6 + σ 19 (σ 18 0 - 1)) x ((q : Int) * 6 + k) = y
    rw [nP, nz.1]
    by_cases hq : q < ps.length
    · rw [List.getElem?_append_left hq] at z
      have z1 := a7 q l (by rw [List.getElem?_append_left hq]; exact z)
      have wq := (w7 l (List.mem_of_getElem? z)).2
      rw [up1_ne (by omega)]
      refine ⟨z1.1, z1.2.1, fun k y hk => ?_⟩
      have hk2 := (List.getElem?_eq_some_iff.mp hk).1
      rw [up1_ne (by omega)]
      exact z1.2.2 k y hk
    · rw [List.getElem?_append_right (by omega)] at z
      have hz : q - ps.length < 1 := (List.getElem?_eq_some_iff.mp z).1
      have e : q = ps.length := by omega
      subst e
      rw [Nat.sub_self] at z
      cases z
      rw [up1_same]
      refine ⟨by rw [List.length_append]; rfl, nz.2.1, fun k y hk => ?_⟩
      by_cases hk2 : k < ns.length
      · rw [List.getElem?_append_left hk2] at hk
        rw [up1_ne (by omega)]
        exact nz.2.2 k y hk
      · rw [List.getElem?_append_right (by omega)] at hk
        have hz3 : k - ns.length < 1 := (List.getElem?_eq_some_iff.mp hk).1
        have e5 : k = ns.length := by omega
        subst e5
        rw [Nat.sub_self] at hk
        cases hk
        exact up1_same _ _ _
  · exact a8
  · refine ⟨w1, ?_, w3, w4, fun _ => ?_, fun z => absurd (show (1 : Int) = 2 from z) (by decide), w7, ?_, fun z => absurd (show (1 : Int) = 2 from z) (by decide), w10⟩
    · rw [e2, List.length_append]
      show ps.length + 1 ≤ 3
      omega
    · show (ns ++ [x]).length ≤ 6
      rw [List.length_append]
      show ns.length + 1 ≤ 6
      omega
    · rw [e2]
      intro l hl y hy
      rcases List.mem_append.mp hl with h | h
      · exact w8 l (List.mem_append_left _ h) y hy
      · rw [List.mem_singleton.mp h] at hy
        rcases List.mem_append.mp hy with h' | h'
        · exact w8 ns (List.mem_append_right _ (List.mem_singleton.mpr rfl)) y h'
        · rw [List.mem_singleton.mp h']
          exact hc
theorem AR_n2a {σ : Sg} {S : Rst} {v x : Int} (h : AR σ S) (w : WF S) (h1 : S.1 = 2) (hr : S.2.1.length = 0) (hx : x = if S.2.2.1 = true then -v else v) (hc : -5 ≤ x ∧ x ≤ 5) :
    stp S 1 v = some (2, S.2.1 ++ [x], false, S.2.2.2.1, S.2.2.2.2) ∧ AR (up (up (up σ 34 3 0) 34 2 (σ 34 2 + 1)) 34 4 x) (2, S.2.1 ++ [x], false, S.2.2.2.1, S.2.2.2.2) ∧ WF (2, S.2.1 ++ [x], false, S.2.2.2.1, S.2.2.2.2) := by
  obtain ⟨it, ns, ng, ps, bs⟩ := S
  simp only at h1 hr hx
  subst h1
  have hn : ns = [] := List.length_eq_zero_iff.mp hr
  subst hn
  obtain ⟨a1, a2, a3, a4, a5, a6, a7, a8⟩ := h
  obtain ⟨w1, w2, w3, w4, w5, w6, w7, w8, w9, w10⟩ := w
  have b3 := a3 (show (2 : Int) ≠ 0 by decide)
  simp only at b3
  have b4 : σ 34 2 = 0 := b3.1
  refine ⟨?_, ⟨a1, ⟨Or.inl rfl, by show 0 ≤ σ 34 2 + 1; omega, by show σ 34 2 + 1 ≤ 6; omega⟩, fun _ => ⟨by show σ 34 2 + 1 = 1; omega, by show (0 : Int) = 1 ↔ false = true; decide⟩, fun _ y z => Option.some.inj z, a5, a6, a7, a8⟩, ?_⟩
  · refine (stp_n _ _).trans ?_
    rw [iteP ⟨Or.inr ⟨rfl, by show 0 < 2; omega⟩, fun z => absurd (show (2 : Int) = 1 from z) (by decide), fun _ => ⟨by show -5 ≤ (if ng = true then -v else v) ∧ (if ng = true then -v else v) ≤ 5; rw [← hx]; exact hc, fun y z => by simp at z⟩⟩]
    show some (2, [] ++ [if ng = true then -v else v], false, ps, bs) = _
    rw [← hx]
  · exact ⟨w1, w2, w3, w4, fun z => absurd (show (2 : Int) = 1 from z) (by decide), fun _ => by show 1 ≤ 2; omega, w7, w8, (fun _ y hy => by rw [List.mem_singleton.mp hy]; exact hc), w10⟩
theorem AR_n2b {σ : Sg} {S : Rst} {v x : Int} (h : AR σ S) (w : WF S) (h1 : S.1 = 2) (hr : S.2.1.length = 1) (hx : x = if S.2.2.1 = true then -v else v) (hc : -5 ≤ x ∧ x ≤ 5) (hl : σ 34 4 < x) :
    stp S 1 v = some (2, S.2.1 ++ [x], false, S.2.2.2.1, S.2.2.2.2) ∧ AR (up (up (up (up (up σ 34 3 0) 34 2 (σ 34 2 + 1)) 22 (σ 18 1) (σ 34 4)) 23 (σ 18 1) x) 18 1 (σ 18 1 + 1)) (2, S.2.1 ++ [x], false, S.2.2.2.1, S.2.2.2.2) ∧ WF (2, S.2.1 ++ [x], false, S.2.2.2.1, S.2.2.2.2) := by
  obtain ⟨it, ns, ng, ps, bs⟩ := S
  simp only at h1 hr hx
  subst h1
  obtain ⟨y, hy⟩ : ∃ y, ns = [y] := List.length_eq_one_iff.mp hr
  subst hy
  obtain ⟨a1, a2, a3, a4, a5, a6, a7, a8⟩ := h
  obtain ⟨w1, w2, w3, w4, w5, w6, w7, w8, w9, w10⟩ := w
  have b3 := a3 (show (2 : Int) ≠ 0 by decide)
  simp only at b3
  have b4 : σ 34 2 = 1 := b3.1
  have b5 : σ 34 4 = y := a4 rfl y rfl
  have w4' := w4 rfl
  simp only at w4'
  have w9' := w9 rfl y (List.mem_singleton.mpr rfl)
  have e3 : aB (2, [y], ng, ps, bs) = bs := rfl
  have e4 : aB (2, [y] ++ [x], false, ps, bs) = bs ++ [(y, x)] := rfl
  rw [e3] at a6 a8 w10
  refine ⟨?_, ⟨a1, ⟨Or.inl rfl, by show 0 ≤ σ 34 2 + 1; omega, by show σ 34 2 + 1 ≤ 6; omega⟩, fun _ => ⟨by show σ 34 2 + 1 = 2; omega, by show (0 : Int) = 1 ↔ false = true; decide⟩, fun _ z q => by cases q; exact b5, a5, ?_, a7, ?_⟩, ?_⟩
  · refine (stp_n _ _).trans ?_
    rw [iteP ⟨Or.inr ⟨rfl, by show 1 < 2; omega⟩, fun z => absurd (show (2 : Int) = 1 from z) (by decide), fun _ => ⟨by show -5 ≤ (if ng = true then -v else v) ∧ (if ng = true then -v else v) ≤ 5; rw [← hx]; exact hc, fun z q => by cases q; show y < (if ng = true then -v else v); rw [← hx]; omega⟩⟩]
    show some (2, [y] ++ [if ng = true then -v else v], false, ps, bs) = _
    rw [← hx]
  · show σ 18 1 + 1 = _
    rw [e4, List.length_append, a6]
    rfl
  · rw [e4]
    intro i q z
    show up1 (σ 22) (σ 18 1) (σ 34 4) i = _ ∧ up1 (σ 23) (σ 18 1) x i = _
    rw [a6, b5]
    by_cases hq : i < bs.length
    · rw [List.getElem?_append_left hq] at z
      rw [up1_ne (by omega), up1_ne (by omega)]
      exact a8 i q z
    · rw [List.getElem?_append_right (by omega)] at z
      have hz : i - bs.length < 1 := (List.getElem?_eq_some_iff.mp z).1
      have e : i = bs.length := by omega
      subst e
      rw [Nat.sub_self] at z
      cases z
      exact ⟨up1_same _ _ _, up1_same _ _ _⟩
  · refine ⟨w1, w2, w3, w4, fun z => absurd (show (2 : Int) = 1 from z) (by decide), fun _ => by show 2 ≤ 2; omega, w7, w8, fun _ z hz => ?_, ?_⟩
    · rcases List.mem_append.mp hz with h' | h'
      · exact w9 rfl z h'
      · rw [List.mem_singleton.mp h']; exact hc
    · rw [e4]
      intro q hq
      rcases List.mem_append.mp hq with h' | h'
      · exact w10 q h'
      · rw [List.mem_singleton.mp h']
        exact ⟨w9'.1, by show y < x; omega, hc.2⟩
theorem stp_n_no {S : Rst} {v x : Int} (hx : x = if S.2.2.1 = true then -v else v) (h : ¬ room S.1 S.2.1.length ∨ (S.1 = 1 ∧ ¬ okc x) ∨ (S.1 = 2 ∧ ¬ oke S.2.1 x)) : stp S 1 v = none := by
  refine (stp_n _ _).trans (iteN ?_)
  rw [← hx]
  intro z
  rcases h with h | h | h
  · exact h z.1
  · exact h.2 (z.2.1 h.1)
  · exact h.2 (z.2.2 h.1)
theorem c_X9_draft {g : Gl} {σ : Sg} : Ct g mX9_draft [vr g 34] σ (PR g 18 σ) := by
  refine Ct.of (by decide +kernel) (Nat.le_of_ble_eq_true rfl) ?_
  show jv g _ _ σ [(0, vr g 34)] 0 []
  refine j_aload_n eX9_draft_0 rfl ?_
  refine j_getR flX9_12 ly34 rfl eX9_draft_1 ?_
  exact r_aret rfl eX9_draft_4
theorem c_X9_isDigit {g : Gl} {σ : Sg} {a : Int} (h : -2147483648 ≤ a ∧ a ≤ 2147483647) : Ct g mX9_isDigit [vi a] σ (PB (48 ≤ a ∧ a ≤ 57) σ) := by
  refine Ct.of (by decide +kernel) (Nat.le_of_ble_eq_true rfl) ?_
  show jv g _ _ σ [(0, vi a)] 0 []
  refine j_iload_n eX9_isDigit_0 rfl ?_
  refine j_bipush 48 eX9_isDigit_1 (by decide) ?_
  refine j_icmp_lt eX9_isDigit_3 (by omega) (fun h3 => ?_) (fun h3 => ?_)
  · refine j_iconst 0 eX9_isDigit_16 ?_
    exact r_zret (by decide) rfl eX9_isDigit_17 (PB_f (by omega))
  · refine j_iload_n eX9_isDigit_6 rfl ?_
    refine j_bipush 57 eX9_isDigit_7 (by decide) ?_
    refine j_icmp_gt eX9_isDigit_9 (by omega) (fun h9 => ?_) (fun h9 => ?_)
    · refine j_iconst 0 eX9_isDigit_16 ?_
      exact r_zret (by decide) rfl eX9_isDigit_17 (PB_f (by omega))
    · refine j_iconst 1 eX9_isDigit_12 ?_
      refine j_goto eX9_isDigit_13 ?_
      exact r_zret (by decide) rfl eX9_isDigit_17 (PB_t (by omega))
theorem c_X9_hasRoom {g : Gl} {σ : Sg} (h : (σ 34 1 = 0 ∨ σ 34 1 = 1 ∨ σ 34 1 = 2) ∧ 0 ≤ σ 34 2 ∧ σ 34 2 ≤ 6) : Ct g mX9_hasRoom [vr g 34] σ (PB ((σ 34 1 = 1 ∧ σ 34 2 < 6) ∨ (σ 34 1 = 2 ∧ σ 34 2 < 2)) σ) := by
  refine Ct.of (by decide +kernel) (Nat.le_of_ble_eq_true rfl) ?_
  show jv g _ _ σ [(0, vr g 34)] 0 []
  refine j_aload_n eX9_hasRoom_0 rfl ?_
  refine j_getI flX9_21 ly34 rfl eX9_hasRoom_1 ?_
  refine j_iconst 1 eX9_hasRoom_4 ?_
  refine j_icmp_ne eX9_hasRoom_5 (by omega) (fun h5 => ?_) (fun h5 => ?_)
  · refine j_aload_n eX9_hasRoom_17 rfl ?_
    refine j_getI flX9_21 ly34 rfl eX9_hasRoom_18 ?_
    refine j_iconst 2 eX9_hasRoom_21 ?_
    refine j_icmp_ne eX9_hasRoom_22 (by omega) (fun h22 => ?_) (fun h22 => ?_)
    · refine j_iconst 0 eX9_hasRoom_37 ?_
      exact r_zret (by decide) rfl eX9_hasRoom_38 (PB_f (by omega))
    · refine j_aload_n eX9_hasRoom_25 rfl ?_
      refine j_getI flX9_75 ly34 rfl eX9_hasRoom_26 ?_
      refine j_iconst 2 eX9_hasRoom_29 ?_
      refine j_icmp_ge eX9_hasRoom_30 (by omega) (fun h30 => ?_) (fun h30 => ?_)
      · refine j_iconst 0 eX9_hasRoom_37 ?_
        exact r_zret (by decide) rfl eX9_hasRoom_38 (PB_f (by omega))
      · refine j_iconst 1 eX9_hasRoom_33 ?_
        refine j_goto eX9_hasRoom_34 ?_
        exact r_zret (by decide) rfl eX9_hasRoom_38 (PB_t (by omega))
  · refine j_aload_n eX9_hasRoom_8 rfl ?_
    refine j_getI flX9_75 ly34 rfl eX9_hasRoom_9 ?_
    refine j_bipush 6 eX9_hasRoom_12 (by decide) ?_
    refine j_icmp_lt eX9_hasRoom_14 (by omega) (fun h14 => ?_) (fun h14 => ?_)
    · refine j_iconst 1 eX9_hasRoom_33 ?_
      refine j_goto eX9_hasRoom_34 ?_
      exact r_zret (by decide) rfl eX9_hasRoom_38 (PB_t (by omega))
    · refine j_aload_n eX9_hasRoom_17 rfl ?_
      refine j_getI flX9_21 ly34 rfl eX9_hasRoom_18 ?_
      refine j_iconst 2 eX9_hasRoom_21 ?_
      refine j_icmp_ne eX9_hasRoom_22 (by omega) (fun h22 => ?_) (fun h22 => ?_)
      · refine j_iconst 0 eX9_hasRoom_37 ?_
        exact r_zret (by decide) rfl eX9_hasRoom_38 (PB_f (by omega))
      · refine j_aload_n eX9_hasRoom_25 rfl ?_
        refine j_getI flX9_75 ly34 rfl eX9_hasRoom_26 ?_
        refine j_iconst 2 eX9_hasRoom_29 ?_
        refine j_icmp_ge eX9_hasRoom_30 (by omega) (fun h30 => ?_) (fun h30 => ?_)
        · refine j_iconst 0 eX9_hasRoom_37 ?_
          exact r_zret (by decide) rfl eX9_hasRoom_38 (PB_f (by omega))
        · refine j_iconst 1 eX9_hasRoom_33 ?_
          refine j_goto eX9_hasRoom_34 ?_
          exact r_zret (by decide) rfl eX9_hasRoom_38 (PB_t (by omega))
theorem c_X9_open {g : Gl} {σ : Sg} {a : Int} : Ct g mX9_open [vr g 34, vi a] σ (PV (fun σ' => σ' = up (up (up σ 34 1 a) 34 2 0) 34 3 0)) := by
  refine Ct.of (by decide +kernel) (Nat.le_of_ble_eq_true rfl) ?_
  show jv g _ _ σ [(0, vr g 34), (1, vi a)] 0 []
  refine j_aload_n eX9_open_0 rfl ?_
  refine j_iload_n eX9_open_1 rfl ?_
  refine j_putI fpX9_21 ly34 rfl eX9_open_2 ?_
  refine j_aload_n eX9_open_5 rfl ?_
  refine j_iconst 0 eX9_open_6 ?_
  refine j_putI fpX9_75 ly34 rfl eX9_open_7 ?_
  refine j_aload_n eX9_open_10 rfl ?_
  refine j_iconst 0 eX9_open_11 ?_
  refine j_putZ (by decide) fpX9_78 ly34 rfl eX9_open_12 ?_
  refine r_vret rfl eX9_open_15 ?_
  first | exact rfl | (exfalso; omega)
theorem c_X9_opensPolynomial {g : Gl} {σ : Sg} {S : Rst} (hA : AR σ S) (hW : WF S) : Ct g mX9_opensPolynomial [vr g 34] σ (PI (TkQ σ S 112 0)) := by
  refine Ct.of (by decide +kernel) (Nat.le_of_ble_eq_true rfl) ?_
  show jv g _ _ σ [(0, vr g 34)] 0 []
  have i1 := hA.1
  have rr := hA.2.1
  have i3 := hA.2.2.1
  have p5 := hA.2.2.2.2.1
  have p6 := hA.2.2.2.2.2.1
  have w1 := hW.1
  have w2 := hW.2.1
  have w3 := hW.2.2.1
  refine j_aload_n eX9_opensPolynomial_0 rfl ?_
  refine j_getI flX9_21 ly34 rfl eX9_opensPolynomial_1 ?_
  refine j_if_ne eX9_opensPolynomial_4 (by omega) (fun h4 => ?_) (fun h4 => ?_)
  · refine j_iconst 0 eX9_opensPolynomial_18 ?_
    refine r_zret (by decide) rfl eX9_opensPolynomial_19 ?_
    refine ⟨fun k _ _ => rfl, Or.inr ⟨rfl, (stp_p _ _).trans (iteN (fun z => ?_)), rr⟩⟩
    first | omega | (have := z.2; omega)
  · refine j_aload_n eX9_opensPolynomial_7 rfl ?_
    refine j_getR flX9_12 ly34 rfl eX9_opensPolynomial_8 ?_
    refine j_cV0 zX10_polynomials lkX9_62 ⟨Nat.le_of_ble_eq_true rfl, Nat.le_of_ble_eq_true rfl⟩ ly18 rfl rfl (c_X10_polynomials_18) (Nat.le_of_ble_eq_true rfl) eX9_opensPolynomial_11 (k_E ?_)
    have eP : aP S = S.2.2.2.1 := if_neg (by omega)
    rw [eP] at p5 w2
    refine j_iconst 3 eX9_opensPolynomial_14 ?_
    refine j_icmp_lt eX9_opensPolynomial_15 (by omega) (fun h15 => ?_) (fun h15 => ?_)
    · refine j_aload_n eX9_opensPolynomial_20 rfl ?_
      refine j_getR flX9_12 ly34 rfl eX9_opensPolynomial_21 ?_
      refine j_cV0 zX10_addPolynomial lkX9_65 ⟨Nat.le_of_ble_eq_true rfl, Nat.le_of_ble_eq_true rfl⟩ ly18 rfl rfl (c_X10_addPolynomial_18 (by omega)) (Nat.le_of_ble_eq_true rfl) eX9_opensPolynomial_24 (k_VE ?_)
      refine j_aload_n eX9_opensPolynomial_27 rfl ?_
      refine j_iconst 1 eX9_opensPolynomial_28 ?_
      refine j_cV1 zX9_open lkX9_68 ⟨Nat.le_of_ble_eq_true rfl, Nat.le_of_ble_eq_true rfl⟩ ly34 rfl rfl (c_X9_open) (Nat.le_of_ble_eq_true rfl) eX9_opensPolynomial_29 (k_VE ?_)
      refine j_iconst 1 eX9_opensPolynomial_32 ?_
      refine r_zret (by decide) rfl eX9_opensPolynomial_33 ?_
      have Q := AR_p hA hW (by omega) (by omega)
      refine ⟨fun k h1 h2 => ?_, Or.inl ⟨rfl, _, Q⟩⟩
      rw [up_ne h2, up_ne h2, up_ne h2, up_ne (by omega), up_ne (by omega), up_ne (by omega)]
    · refine j_iconst 0 eX9_opensPolynomial_18 ?_
      refine r_zret (by decide) rfl eX9_opensPolynomial_19 ?_
      refine ⟨fun k _ _ => rfl, Or.inr ⟨rfl, (stp_p _ _).trans (iteN (fun z => ?_)), rr⟩⟩
      first | omega | (have := z.2; omega)
theorem c_X9_opensBox {g : Gl} {σ : Sg} {S : Rst} (hA : AR σ S) (hW : WF S) : Ct g mX9_opensBox [vr g 34] σ (PI (TkQ σ S 98 0)) := by
  refine Ct.of (by decide +kernel) (Nat.le_of_ble_eq_true rfl) ?_
  show jv g _ _ σ [(0, vr g 34)] 0 []
  have i1 := hA.1
  have rr := hA.2.1
  have i3 := hA.2.2.1
  have p5 := hA.2.2.2.2.1
  have p6 := hA.2.2.2.2.2.1
  have w1 := hW.1
  have w2 := hW.2.1
  have w3 := hW.2.2.1
  refine j_aload_n eX9_opensBox_0 rfl ?_
  refine j_getI flX9_21 ly34 rfl eX9_opensBox_1 ?_
  refine j_if_ne eX9_opensBox_4 (by omega) (fun h4 => ?_) (fun h4 => ?_)
  · refine j_iconst 0 eX9_opensBox_18 ?_
    refine r_zret (by decide) rfl eX9_opensBox_19 ?_
    refine ⟨fun k _ _ => rfl, Or.inr ⟨rfl, (stp_b _ _).trans (iteN (fun z => ?_)), rr⟩⟩
    first | omega | (have := z.2; omega)
  · refine j_aload_n eX9_opensBox_7 rfl ?_
    refine j_getR flX9_12 ly34 rfl eX9_opensBox_8 ?_
    refine j_cV0 zX10_boxes lkX9_72 ⟨Nat.le_of_ble_eq_true rfl, Nat.le_of_ble_eq_true rfl⟩ ly18 rfl rfl (c_X10_boxes_18) (Nat.le_of_ble_eq_true rfl) eX9_opensBox_11 (k_E ?_)
    have eB : aB S = S.2.2.2.2 := if_neg (by omega)
    rw [eB] at p6
    refine j_iconst 3 eX9_opensBox_14 ?_
    refine j_icmp_lt eX9_opensBox_15 (by omega) (fun h15 => ?_) (fun h15 => ?_)
    · refine j_aload_n eX9_opensBox_20 rfl ?_
      refine j_iconst 2 eX9_opensBox_21 ?_
      refine j_cV1 zX9_open lkX9_68 ⟨Nat.le_of_ble_eq_true rfl, Nat.le_of_ble_eq_true rfl⟩ ly34 rfl rfl (c_X9_open) (Nat.le_of_ble_eq_true rfl) eX9_opensBox_22 (k_VE ?_)
      refine j_iconst 1 eX9_opensBox_25 ?_
      refine r_zret (by decide) rfl eX9_opensBox_26 ?_
      have Q := AR_b hA hW (by omega) (by omega)
      refine ⟨fun k h1 h2 => ?_, Or.inl ⟨rfl, _, Q⟩⟩
      rw [up_ne h2, up_ne h2, up_ne h2]
    · refine j_iconst 0 eX9_opensBox_18 ?_
      refine r_zret (by decide) rfl eX9_opensBox_19 ?_
      refine ⟨fun k _ _ => rfl, Or.inr ⟨rfl, (stp_b _ _).trans (iteN (fun z => ?_)), rr⟩⟩
      first | omega | (have := z.2; omega)
theorem c_X9_takesMinus {g : Gl} {σ : Sg} {S : Rst} (hA : AR σ S) (hW : WF S) : Ct g mX9_takesMinus [vr g 34] σ (PI (TkQ σ S 45 0)) := by
  refine Ct.of (by decide +kernel) (Nat.le_of_ble_eq_true rfl) ?_
  show jv g _ _ σ [(0, vr g 34)] 0 []
  have i1 := hA.1
  have rr := hA.2.1
  have i3 := hA.2.2.1
  have p5 := hA.2.2.2.2.1
  have p6 := hA.2.2.2.2.2.1
  have w1 := hW.1
  have w2 := hW.2.1
  have w3 := hW.2.2.1
  refine j_aload_n eX9_takesMinus_0 rfl ?_
  refine j_getI flX9_78 ly34 rfl eX9_takesMinus_1 ?_
  refine j_if_ne eX9_takesMinus_4 (by omega) (fun h4 => ?_) (fun h4 => ?_)
  · refine j_iconst 0 eX9_takesMinus_14 ?_
    refine r_zret (by decide) rfl eX9_takesMinus_15 ?_
    refine ⟨fun k _ _ => rfl, Or.inr ⟨rfl, (stp_m _ _).trans (iteN (fun z => ?_)), rr⟩⟩
    unfold room at z
    first | (have z3 := i3 (by omega); have z4 := z3.2; rw [z.1] at z4; simp at z4; omega) | (have z3 := i3 (by omega); omega)
  · refine j_aload_n eX9_takesMinus_7 rfl ?_
    refine j_cV0 zX9_hasRoom lkX9_82 ⟨Nat.le_of_ble_eq_true rfl, Nat.le_of_ble_eq_true rfl⟩ ly34 rfl rfl (c_X9_hasRoom (by omega)) (Nat.le_of_ble_eq_true rfl) eX9_takesMinus_8 (k_B (fun h8 => ?_) (fun h8 => ?_))
    · refine j_ifne_1 eX9_takesMinus_11 ?_
      refine j_aload_n eX9_takesMinus_16 rfl ?_
      refine j_iconst 1 eX9_takesMinus_17 ?_
      refine j_putZ (by decide) fpX9_78 ly34 rfl eX9_takesMinus_18 ?_
      refine j_iconst 1 eX9_takesMinus_21 ?_
      refine r_zret (by decide) rfl eX9_takesMinus_22 ?_
      have z3 := i3 (by omega)
      have ng : S.2.2.1 = false := Bool.eq_false_iff.mpr (fun y => by have := z3.2.mpr y; omega)
      have Q := AR_m hA hW ng (by unfold room; omega)
      refine ⟨fun k h1 h2 => up_ne h2, Or.inl ⟨rfl, _, Q⟩⟩
    · refine j_ifne_0 eX9_takesMinus_11 ?_
      refine j_iconst 0 eX9_takesMinus_14 ?_
      refine r_zret (by decide) rfl eX9_takesMinus_15 ?_
      refine ⟨fun k _ _ => rfl, Or.inr ⟨rfl, (stp_m _ _).trans (iteN (fun z => ?_)), rr⟩⟩
      unfold room at z
      first | (have z3 := i3 (by omega); have z4 := z3.2; rw [z.1] at z4; simp at z4; omega) | (have z3 := i3 (by omega); omega)
theorem c_X9_closes {g : Gl} {σ : Sg} {S : Rst} (hA : AR σ S) (hW : WF S) : Ct g mX9_closes [vr g 34] σ (PI (TkQ σ S 59 0)) := by
  refine Ct.of (by decide +kernel) (Nat.le_of_ble_eq_true rfl) ?_
  show jv g _ _ σ [(0, vr g 34)] 0 []
  have i1 := hA.1
  have rr := hA.2.1
  have i3 := hA.2.2.1
  have p5 := hA.2.2.2.2.1
  have p6 := hA.2.2.2.2.2.1
  have w1 := hW.1
  have w2 := hW.2.1
  have w3 := hW.2.2.1
  have w6 := hW.2.2.2.2.2.1
  refine j_aload_n eX9_closes_0 rfl ?_
  refine j_getI flX9_78 ly34 rfl eX9_closes_1 ?_
  refine j_if_ne eX9_closes_4 (by omega) (fun h4 => ?_) (fun h4 => ?_)
  · refine j_iconst 0 eX9_closes_45 ?_
    refine r_zret (by decide) rfl eX9_closes_46 ?_
    refine ⟨fun k _ _ => rfl, Or.inr ⟨rfl, (stp_e _ _).trans ((iteN (fun z => ?_)).trans (iteN (fun z => ?_))), rr⟩⟩
    · have z3 := i3 (by omega)
      have z4 := z3.2
      rw [z.1] at z4
      have z5 : ¬ σ 34 3 = 1 := fun y => by simpa using z4.mp y
      omega
    · have z3 := i3 (by omega)
      have z4 := z3.2
      rw [z.1] at z4
      have z5 : ¬ σ 34 3 = 1 := fun y => by simpa using z4.mp y
      omega
  · refine j_aload_n eX9_closes_7 rfl ?_
    refine j_getI flX9_21 ly34 rfl eX9_closes_8 ?_
    refine j_if_eq eX9_closes_11 (by omega) (fun h11 => ?_) (fun h11 => ?_)
    · refine j_iconst 0 eX9_closes_45 ?_
      refine r_zret (by decide) rfl eX9_closes_46 ?_
      refine ⟨fun k _ _ => rfl, Or.inr ⟨rfl, (stp_e _ _).trans ((iteN (fun z => ?_)).trans (iteN (fun z => ?_))), rr⟩⟩
      · have z3 := i3 (by omega)
        have z4 := z3.2
        rw [z.1] at z4
        have z5 : ¬ σ 34 3 = 1 := fun y => by simpa using z4.mp y
        omega
      · have z3 := i3 (by omega)
        have z4 := z3.2
        rw [z.1] at z4
        have z5 : ¬ σ 34 3 = 1 := fun y => by simpa using z4.mp y
        omega
    · refine j_aload_n eX9_closes_14 rfl ?_
      refine j_getI flX9_21 ly34 rfl eX9_closes_15 ?_
      refine j_iconst 1 eX9_closes_18 ?_
      refine j_icmp_ne eX9_closes_19 (by omega) (fun h19 => ?_) (fun h19 => ?_)
      · refine j_aload_n eX9_closes_29 rfl ?_
        refine j_getI flX9_21 ly34 rfl eX9_closes_30 ?_
        refine j_iconst 2 eX9_closes_33 ?_
        refine j_icmp_ne eX9_closes_34 (by omega) (fun h34 => ?_) (fun h34 => ?_)
        · refine j_aload_n eX9_closes_47 rfl ?_
          refine j_iconst 0 eX9_closes_48 ?_
          refine j_putI fpX9_21 ly34 rfl eX9_closes_49 ?_
          refine j_iconst 1 eX9_closes_52 ?_
          refine r_zret (by decide) rfl eX9_closes_53 ?_
          have z3 := i3 (by omega)
          have ng : S.2.2.1 = false := Bool.eq_false_iff.mpr (fun y => by have := z3.2.mpr y; omega)
          first
          | (exfalso; omega)
          | (have Q := AR_e1 hA hW ng (by omega) (by omega)
             exact ⟨fun k h1 h2 => up_ne h2, Or.inl ⟨rfl, _, Q⟩⟩)
          | (have w7 := w6 (by omega)
             have Q := AR_e2 hA hW ng (by omega) (by omega)
             exact ⟨fun k h1 h2 => up_ne h2, Or.inl ⟨rfl, _, Q⟩⟩)
        · refine j_aload_n eX9_closes_37 rfl ?_
          refine j_getI flX9_75 ly34 rfl eX9_closes_38 ?_
          refine j_iconst 2 eX9_closes_41 ?_
          refine j_icmp_ge eX9_closes_42 (by omega) (fun h42 => ?_) (fun h42 => ?_)
          · refine j_aload_n eX9_closes_47 rfl ?_
            refine j_iconst 0 eX9_closes_48 ?_
            refine j_putI fpX9_21 ly34 rfl eX9_closes_49 ?_
            refine j_iconst 1 eX9_closes_52 ?_
            refine r_zret (by decide) rfl eX9_closes_53 ?_
            have z3 := i3 (by omega)
            have ng : S.2.2.1 = false := Bool.eq_false_iff.mpr (fun y => by have := z3.2.mpr y; omega)
            first
            | (exfalso; omega)
            | (have Q := AR_e1 hA hW ng (by omega) (by omega)
               exact ⟨fun k h1 h2 => up_ne h2, Or.inl ⟨rfl, _, Q⟩⟩)
            | (have w7 := w6 (by omega)
               have Q := AR_e2 hA hW ng (by omega) (by omega)
               exact ⟨fun k h1 h2 => up_ne h2, Or.inl ⟨rfl, _, Q⟩⟩)
          · refine j_iconst 0 eX9_closes_45 ?_
            refine r_zret (by decide) rfl eX9_closes_46 ?_
            refine ⟨fun k _ _ => rfl, Or.inr ⟨rfl, (stp_e _ _).trans ((iteN (fun z => ?_)).trans (iteN (fun z => ?_))), rr⟩⟩
            · have z3 := i3 (by omega)
              have z4 := z3.2
              rw [z.1] at z4
              have z5 : ¬ σ 34 3 = 1 := fun y => by simpa using z4.mp y
              omega
            · have z3 := i3 (by omega)
              have z4 := z3.2
              rw [z.1] at z4
              have z5 : ¬ σ 34 3 = 1 := fun y => by simpa using z4.mp y
              omega
      · refine j_aload_n eX9_closes_22 rfl ?_
        refine j_getI flX9_75 ly34 rfl eX9_closes_23 ?_
        refine j_if_eq eX9_closes_26 (by omega) (fun h26 => ?_) (fun h26 => ?_)
        · refine j_iconst 0 eX9_closes_45 ?_
          refine r_zret (by decide) rfl eX9_closes_46 ?_
          refine ⟨fun k _ _ => rfl, Or.inr ⟨rfl, (stp_e _ _).trans ((iteN (fun z => ?_)).trans (iteN (fun z => ?_))), rr⟩⟩
          · have z3 := i3 (by omega)
            have z4 := z3.2
            rw [z.1] at z4
            have z5 : ¬ σ 34 3 = 1 := fun y => by simpa using z4.mp y
            omega
          · have z3 := i3 (by omega)
            have z4 := z3.2
            rw [z.1] at z4
            have z5 : ¬ σ 34 3 = 1 := fun y => by simpa using z4.mp y
            omega
        · refine j_aload_n eX9_closes_29 rfl ?_
          refine j_getI flX9_21 ly34 rfl eX9_closes_30 ?_
          refine j_iconst 2 eX9_closes_33 ?_
          refine j_icmp_ne eX9_closes_34 (by omega) (fun h34 => ?_) (fun h34 => ?_)
          · refine j_aload_n eX9_closes_47 rfl ?_
            refine j_iconst 0 eX9_closes_48 ?_
            refine j_putI fpX9_21 ly34 rfl eX9_closes_49 ?_
            refine j_iconst 1 eX9_closes_52 ?_
            refine r_zret (by decide) rfl eX9_closes_53 ?_
            have z3 := i3 (by omega)
            have ng : S.2.2.1 = false := Bool.eq_false_iff.mpr (fun y => by have := z3.2.mpr y; omega)
            first
            | (exfalso; omega)
            | (have Q := AR_e1 hA hW ng (by omega) (by omega)
               exact ⟨fun k h1 h2 => up_ne h2, Or.inl ⟨rfl, _, Q⟩⟩)
            | (have w7 := w6 (by omega)
               have Q := AR_e2 hA hW ng (by omega) (by omega)
               exact ⟨fun k h1 h2 => up_ne h2, Or.inl ⟨rfl, _, Q⟩⟩)
          · refine j_aload_n eX9_closes_37 rfl ?_
            refine j_getI flX9_75 ly34 rfl eX9_closes_38 ?_
            refine j_iconst 2 eX9_closes_41 ?_
            refine j_icmp_ge eX9_closes_42 (by omega) (fun h42 => ?_) (fun h42 => ?_)
            · refine j_aload_n eX9_closes_47 rfl ?_
              refine j_iconst 0 eX9_closes_48 ?_
              refine j_putI fpX9_21 ly34 rfl eX9_closes_49 ?_
              refine j_iconst 1 eX9_closes_52 ?_
              refine r_zret (by decide) rfl eX9_closes_53 ?_
              have z3 := i3 (by omega)
              have ng : S.2.2.1 = false := Bool.eq_false_iff.mpr (fun y => by have := z3.2.mpr y; omega)
              first
              | (exfalso; omega)
              | (have Q := AR_e1 hA hW ng (by omega) (by omega)
                 exact ⟨fun k h1 h2 => up_ne h2, Or.inl ⟨rfl, _, Q⟩⟩)
              | (have w7 := w6 (by omega)
                 have Q := AR_e2 hA hW ng (by omega) (by omega)
                 exact ⟨fun k h1 h2 => up_ne h2, Or.inl ⟨rfl, _, Q⟩⟩)
            · refine j_iconst 0 eX9_closes_45 ?_
              refine r_zret (by decide) rfl eX9_closes_46 ?_
              refine ⟨fun k _ _ => rfl, Or.inr ⟨rfl, (stp_e _ _).trans ((iteN (fun z => ?_)).trans (iteN (fun z => ?_))), rr⟩⟩
              · have z3 := i3 (by omega)
                have z4 := z3.2
                rw [z.1] at z4
                have z5 : ¬ σ 34 3 = 1 := fun y => by simpa using z4.mp y
                omega
              · have z3 := i3 (by omega)
                have z4 := z3.2
                rw [z.1] at z4
                have z5 : ¬ σ 34 3 = 1 := fun y => by simpa using z4.mp y
                omega
theorem c_X9_takesCoefficient {g : Gl} {σ : Sg} {x : Int} (hx : -2147483648 ≤ x ∧ x ≤ 2147483647) (h : 1 ≤ σ 18 0 ∧ σ 18 0 ≤ 3) (h2 : 0 ≤ σ 19 (σ 18 0 - 1) ∧ σ 19 (σ 18 0 - 1) < 6) : Ct g mX9_takesCoefficient [vr g 34, vi x] σ (PI (fun v σ' => (okc x ∧ v = 1 ∧ σ' = up (up σ 20 ((σ 18 0 - 1) * 6 + σ 19 (σ 18 0 - 1)) x) 19 (σ 18 0 - 1) (σ 19 (σ 18 0 - 1) + 1)) ∨ (¬ okc x ∧ v = 0 ∧ σ' = σ))) := by
  refine Ct.of (by decide +kernel) (Nat.le_of_ble_eq_true rfl) ?_
  show jv g _ _ σ [(0, vr g 34), (1, vi x)] 0 []
  refine j_iload_n eX9_takesCoefficient_0 rfl ?_
  refine j_cSN1 zX11_isCoefficient lkX9_91 ⟨Nat.le_of_ble_eq_true rfl, Nat.le_of_ble_eq_true rfl⟩ (c_X11_isCoefficient (by omega)) (Nat.le_of_ble_eq_true rfl) eX9_takesCoefficient_1 (k_B (fun h1 => ?_) (fun h1 => ?_))
  · refine j_ifne_1 eX9_takesCoefficient_4 ?_
    refine j_aload_n eX9_takesCoefficient_9 rfl ?_
    refine j_getR flX9_12 ly34 rfl eX9_takesCoefficient_10 ?_
    refine j_iload_n eX9_takesCoefficient_13 rfl ?_
    refine j_cV1 zX10_addCoefficient lkX9_94 ⟨Nat.le_of_ble_eq_true rfl, Nat.le_of_ble_eq_true rfl⟩ ly18 rfl rfl (c_X10_addCoefficient_18 (by exact h) (by exact h2)) (Nat.le_of_ble_eq_true rfl) eX9_takesCoefficient_14 (k_VE ?_)
    refine j_iconst 1 eX9_takesCoefficient_17 ?_
    refine r_zret (by decide) rfl eX9_takesCoefficient_18 ?_
    exact Or.inl ⟨h1, rfl, rfl⟩
  · refine j_ifne_0 eX9_takesCoefficient_4 ?_
    refine j_iconst 0 eX9_takesCoefficient_7 ?_
    refine r_zret (by decide) rfl eX9_takesCoefficient_8 ?_
    exact Or.inr ⟨h1, rfl, rfl⟩
theorem c_X9_takesEnd {g : Gl} {σ : Sg} {x : Int} (hx : -2147483648 ≤ x ∧ x ≤ 2147483647) (hn : 0 ≤ σ 34 2 ∧ σ 34 2 ≤ 6) (hl : σ 34 2 ≠ 1 → -5 ≤ σ 34 4 ∧ σ 34 4 ≤ 5 ∧ 0 ≤ σ 18 1 ∧ σ 18 1 < 3) : Ct g mX9_takesEnd [vr g 34, vi x] σ (PI (fun v σ' => ((-5 ≤ x ∧ x ≤ 5) ∧ σ 34 2 = 1 ∧ v = 1 ∧ σ' = up σ 34 4 x) ∨ ((-5 ≤ x ∧ x ≤ 5) ∧ σ 34 2 ≠ 1 ∧ σ 34 4 < x ∧ v = 1 ∧ σ' = up (up (up σ 22 (σ 18 1) (σ 34 4)) 23 (σ 18 1) x) 18 1 (σ 18 1 + 1)) ∨ ((¬ (-5 ≤ x ∧ x ≤ 5) ∨ (σ 34 2 ≠ 1 ∧ ¬ σ 34 4 < x)) ∧ v = 0 ∧ σ' = σ))) := by
  refine Ct.of (by decide +kernel) (Nat.le_of_ble_eq_true rfl) ?_
  show jv g _ _ σ [(0, vr g 34), (1, vi x)] 0 []
  refine j_iload_n eX9_takesEnd_0 rfl ?_
  refine j_cSN1 zX11_isPlace lkX9_97 ⟨Nat.le_of_ble_eq_true rfl, Nat.le_of_ble_eq_true rfl⟩ (c_X11_isPlace (by omega)) (Nat.le_of_ble_eq_true rfl) eX9_takesEnd_1 (k_B (fun h1 => ?_) (fun h1 => ?_))
  · refine j_ifne_1 eX9_takesEnd_4 ?_
    refine j_aload_n eX9_takesEnd_9 rfl ?_
    refine j_getI flX9_75 ly34 rfl eX9_takesEnd_10 ?_
    refine j_iconst 1 eX9_takesEnd_13 ?_
    refine j_icmp_ne eX9_takesEnd_14 (by omega) (fun h14 => ?_) (fun h14 => ?_)
    · refine j_iload_n eX9_takesEnd_24 rfl ?_
      refine j_aload_n eX9_takesEnd_25 rfl ?_
      refine j_getI flX9_100 ly34 rfl eX9_takesEnd_26 ?_
      refine j_icmp_gt eX9_takesEnd_29 (by omega) (fun h29 => ?_) (fun h29 => ?_)
      · refine j_aload_n eX9_takesEnd_34 rfl ?_
        refine j_getR flX9_12 ly34 rfl eX9_takesEnd_35 ?_
        refine j_aload_n eX9_takesEnd_38 rfl ?_
        refine j_getI flX9_100 ly34 rfl eX9_takesEnd_39 ?_
        refine j_iload_n eX9_takesEnd_42 rfl ?_
        refine j_cV2 zX10_addBox lkX9_103 ⟨Nat.le_of_ble_eq_true rfl, Nat.le_of_ble_eq_true rfl⟩ ly18 rfl rfl (c_X10_addBox_18 (by omega)) (Nat.le_of_ble_eq_true rfl) eX9_takesEnd_43 (k_VE ?_)
        refine j_iconst 1 eX9_takesEnd_46 ?_
        refine r_zret (by decide) rfl eX9_takesEnd_47 ?_
        exact Or.inr (Or.inl ⟨h1, by omega, by omega, rfl, rfl⟩)
      · refine j_iconst 0 eX9_takesEnd_32 ?_
        refine r_zret (by decide) rfl eX9_takesEnd_33 ?_
        exact Or.inr (Or.inr ⟨Or.inr ⟨by omega, by omega⟩, rfl, rfl⟩)
    · refine j_aload_n eX9_takesEnd_17 rfl ?_
      refine j_iload_n eX9_takesEnd_18 rfl ?_
      refine j_putI fpX9_100 ly34 rfl eX9_takesEnd_19 ?_
      refine j_iconst 1 eX9_takesEnd_22 ?_
      refine r_zret (by decide) rfl eX9_takesEnd_23 ?_
      exact Or.inl ⟨h1, by omega, rfl, rfl⟩
  · refine j_ifne_0 eX9_takesEnd_4 ?_
    refine j_iconst 0 eX9_takesEnd_7 ?_
    refine r_zret (by decide) rfl eX9_takesEnd_8 ?_
    exact Or.inr (Or.inr ⟨Or.inl h1, rfl, rfl⟩)
