/-! the reference's draft -/
def AD (f : Int → Int) (ps : List (List Int)) (bs : List (Int × Int)) : Prop := f 0 = ps.length ∧ f 1 = bs.length ∧ (∀ (q : Nat) (l : List Int), ps[q]? = some l → f (2 + q) = (l.length : Int) - 1 ∧ ∀ (k : Nat) (x : Int), l[k]? = some x → f (5 + 6 * q + k) = x) ∧ (∀ (i : Nat) (q : Int × Int), bs[i]? = some q → f (23 + i) = q.1 ∧ f (26 + i) = q.2) ∧ (∀ j, 29 ≤ j → j < 32 → f j = 0) ∧ (ps.length ≤ 3 ∧ bs.length ≤ 3) ∧ ∀ l ∈ ps, l.length ≤ 6
theorem AD.of {f h : Int → Int} {ps : List (List Int)} {bs : List (Int × Int)} (a : AD f ps bs) (e : ∀ j, 0 ≤ j → j < 32 → h j = f j) : AD h ps bs := by
  obtain ⟨a1, a2, a3, a4, a5, a6, a7⟩ := a
  refine ⟨by rw [e 0 (by decide) (by decide)]; exact a1, by rw [e 1 (by decide) (by decide)]; exact a2, fun q l z => ?_, fun i q z => ?_, fun j x y => by rw [e j (by omega) y]; exact a5 j x y, a6, a7⟩
  · have hq := (List.getElem?_eq_some_iff.mp z).1
    have hl := a7 l (List.mem_of_getElem? z)
    have w := a3 q l z
    refine ⟨by rw [e _ (by omega) (by omega)]; exact w.1, fun k x y => ?_⟩
    have hk := (List.getElem?_eq_some_iff.mp y).1
    rw [e _ (by omega) (by omega)]
    exact w.2 k x y
  · have hq := (List.getElem?_eq_some_iff.mp z).1
    rw [e _ (by omega) (by omega), e _ (by omega) (by omega)]
    exact a4 i q z
theorem AD_c {f : Int → Int} {ps : List (List Int)} {bs : List (Int × Int)} {n x : Int} (a : AD f ps bs) (hp : ps.length < 3) (hn : 0 ≤ n ∧ n < 6) : AD (up1 f (5 + 6 * (ps.length : Int) + n) x) ps bs := by
  obtain ⟨a1, a2, a3, a4, a5, a6, a7⟩ := a
  refine ⟨by rw [up1_ne (by omega)]; exact a1, by rw [up1_ne (by omega)]; exact a2, fun q l z => ?_, fun i q z => ?_, fun j x y => by rw [up1_ne (by omega)]; exact a5 j x y, a6, a7⟩
  · have hq := (List.getElem?_eq_some_iff.mp z).1
    have hl := a7 l (List.mem_of_getElem? z)
    have w := a3 q l z
    refine ⟨by rw [up1_ne (by omega)]; exact w.1, fun k x y => ?_⟩
    have hk := (List.getElem?_eq_some_iff.mp y).1
    rw [up1_ne (by omega)]
    exact w.2 k x y
  · have hq := (List.getElem?_eq_some_iff.mp z).1
    rw [up1_ne (by omega), up1_ne (by omega)]
    exact a4 i q z
theorem last_at {α : Type} {L : List α} {x y : α} {k : Nat} (z : (L ++ [x])[k]? = some y) : (k < L.length ∧ L[k]? = some y) ∨ (k = L.length ∧ y = x) := by
  by_cases hk : k < L.length
  · rw [List.getElem?_append_left hk] at z
    exact Or.inl ⟨hk, z⟩
  · rw [List.getElem?_append_right (by omega)] at z
    have hz : k - L.length < 1 := (List.getElem?_eq_some_iff.mp z).1
    have e : k = L.length := by omega
    subst e
    rw [Nat.sub_self] at z
    cases z
    exact Or.inr ⟨rfl, rfl⟩
theorem AD_P {f h : Int → Int} {ps : List (List Int)} {bs : List (Int × Int)} {ns : List Int} (a : AD f ps bs) (hp : ps.length < 3) (hn : ns.length ≤ 6) (hc : ∀ (k : Nat) (x : Int), ns[k]? = some x → f (5 + 6 * (ps.length : Int) + k) = x) (eh : h = up1 f (2 + (ps.length : Int)) ((ns.length : Int) - 1)) : AD (up1 h 0 (h 0 + 1)) (ps ++ [ns]) bs := by
  obtain ⟨a1, a2, a3, a4, a5, a6, a7⟩ := a
  subst eh
  refine ⟨?_, by rw [up1_ne (by omega), up1_ne (by omega)]; exact a2, fun q l z => ?_, fun i q z => ?_, fun j x y => by rw [up1_ne (by omega), up1_ne (by omega)]; exact a5 j x y, ⟨by rw [List.length_append]; show ps.length + 1 ≤ 3; omega, a6.2⟩, fun l hl => ?_⟩
  · rw [up1_same, up1_ne (by omega), a1, List.length_append]
    simp
  · rw [up1_ne (by omega)]
    rcases last_at z with ⟨z1, z2⟩ | ⟨z1, z2⟩
    · have hl := a7 l (List.mem_of_getElem? z2)
      have w := a3 q l z2
      refine ⟨by rw [up1_ne (by omega)]; exact w.1, fun k x y => ?_⟩
      have hk := (List.getElem?_eq_some_iff.mp y).1
      rw [up1_ne (by omega), up1_ne (by omega)]
      exact w.2 k x y
    · subst z1 z2
      refine ⟨up1_same _ _ _, fun k x y => ?_⟩
      have hk := (List.getElem?_eq_some_iff.mp y).1
      rw [up1_ne (by omega), up1_ne (by omega)]
      exact hc k x y
  · have hq := (List.getElem?_eq_some_iff.mp z).1
    rw [up1_ne (by omega), up1_ne (by omega), up1_ne (by omega), up1_ne (by omega)]
    exact a4 i q z
  · rcases List.mem_append.mp hl with z | z
    · exact a7 l z
    · rw [List.mem_singleton.mp z]
      exact hn
theorem AD_B {f h : Int → Int} {ps : List (List Int)} {bs : List (Int × Int)} {x y : Int} (a : AD f ps bs) (hb : bs.length < 3) (eh : h = up1 (up1 f (23 + (bs.length : Int)) x) (26 + (bs.length : Int)) y) : AD (up1 h 1 (h 1 + 1)) ps (bs ++ [(x, y)]) := by
  obtain ⟨a1, a2, a3, a4, a5, a6, a7⟩ := a
  subst eh
  refine ⟨by rw [up1_ne (by omega), up1_ne (by omega), up1_ne (by omega)]; exact a1, ?_, fun q l z => ?_, fun i q z => ?_, fun j x y => by rw [up1_ne (by omega), up1_ne (by omega), up1_ne (by omega)]; exact a5 j x y, ⟨a6.1, by rw [List.length_append]; show bs.length + 1 ≤ 3; omega⟩, a7⟩
  · rw [up1_same, up1_ne (by omega), up1_ne (by omega), a2, List.length_append]
    simp
  · have hq := (List.getElem?_eq_some_iff.mp z).1
    have hl := a7 l (List.mem_of_getElem? z)
    have w := a3 q l z
    refine ⟨by rw [up1_ne (by omega), up1_ne (by omega), up1_ne (by omega)]; exact w.1, fun k x y => ?_⟩
    have hk := (List.getElem?_eq_some_iff.mp y).1
    rw [up1_ne (by omega), up1_ne (by omega), up1_ne (by omega)]
    exact w.2 k x y
  · rw [up1_ne (i := 23 + (i : Int)) (by omega), up1_ne (i := 26 + (i : Int)) (by omega)]
    rcases last_at z with ⟨z1, z2⟩ | ⟨z1, z2⟩
    · rw [up1_ne (by omega), up1_ne (by omega), up1_ne (by omega), up1_ne (by omega)]
      exact a4 i q z2
    · subst z1 z2
      rw [up1_ne (i := 23 + (bs.length : Int)) (by omega), up1_same, up1_same]
      exact ⟨rfl, rfl⟩
theorem hc_push {f : Int → Int} {ns : List Int} {b x : Int} (hc : ∀ (k : Nat) (y : Int), ns[k]? = some y → f (b + k) = y) : ∀ (k : Nat) (y : Int), (ns ++ [x])[k]? = some y → up1 f (b + (ns.length : Int)) x (b + k) = y := by
  intro k y z
  rcases last_at z with ⟨z1, z2⟩ | ⟨z1, z2⟩
  · rw [up1_ne (by omega)]
    exact hc k y z2
  · subst z1 z2
    exact up1_same _ _ _
/-! items -/
theorem op_p {len a : Int} {L : List Tk} {ps : List (List Int)} {bs : List (Int × Int)} (h0 : 0 ≤ a) (hK : KD L a 112) (hp : ps.length < 3) : rdL len (L.drop a.toNat) (0, [], false, ps, bs) = rdL len (L.drop (a + 1).toNat) (1, [], false, ps, bs) := by
  obtain ⟨q, q1, q2⟩ := hK
  have hl := (List.getElem?_eq_some_iff.mp q1).1
  obtain ⟨q', q3, _, q4⟩ := tk_at (L := L) h0 (by omega)
  rw [q1] at q3
  cases q3
  rw [q4]
  refine rdL_s ?_
  rw [q2, stp_p]
  exact iteP ⟨rfl, hp⟩
theorem op_b {len a : Int} {L : List Tk} {ps : List (List Int)} {bs : List (Int × Int)} (h0 : 0 ≤ a) (hK : KD L a 98) (hp : bs.length < 3) : rdL len (L.drop a.toNat) (0, [], false, ps, bs) = rdL len (L.drop (a + 1).toNat) (2, [], false, ps, bs) := by
  obtain ⟨q, q1, q2⟩ := hK
  have hl := (List.getElem?_eq_some_iff.mp q1).1
  obtain ⟨q', q3, _, q4⟩ := tk_at (L := L) h0 (by omega)
  rw [q1] at q3
  cases q3
  rw [q4]
  refine rdL_s ?_
  rw [q2, stp_b]
  exact iteP ⟨rfl, hp⟩
theorem rdL_g {len a : Int} {L : List Tk} {S : Rst} (h0 : 0 ≤ a) (h1 : a < L.length) (h : ∀ q, L[a.toNat]? = some q → stp S q.2.1 q.2.2 = none) : (rdL len (L.drop a.toNat) S).1 = plc len L a := by
  obtain ⟨q, q1, _, q3⟩ := tk_at (L := L) h0 h1
  rw [q3, rdL_n (h q q1), plc_s q1]
theorem op_n {len a : Int} {L : List Tk} {ps : List (List Int)} {bs : List (Int × Int)} (h0 : 0 ≤ a) (h1 : a < L.length) (hp : KD L a 112 → ¬ ps.length < 3) (hb : KD L a 98 → ¬ bs.length < 3) : (rdL len (L.drop a.toNat) (0, [], false, ps, bs)).1 = plc len L a := by
  refine rdL_g h0 h1 (fun q hq => ?_)
  have nr : ¬ room 0 0 := by
    unfold room
    omega
  by_cases c1 : q.2.1 = 112
  · rw [c1, stp_p]
    exact iteN (fun z => hp ⟨q, hq, c1⟩ z.2)
  by_cases c2 : q.2.1 = 98
  · rw [c2, stp_b]
    exact iteN (fun z => hb ⟨q, hq, c2⟩ z.2)
  by_cases c3 : q.2.1 = 45
  · rw [c3, stp_m]
    exact iteN (fun z => nr z.2)
  by_cases c4 : q.2.1 = 59
  · rw [c4, stp_e]
    exact (iteN (fun z => absurd (show (0 : Int) = 1 from z.2.1) (by decide))).trans (iteN (fun z => absurd (show (0 : Int) = 2 from z.2.1) (by decide)))
  by_cases c5 : q.2.1 = 1
  · rw [c5, stp_n]
    exact iteN (fun z => nr z.1)
  exact (iteN c1).trans ((iteN c2).trans ((iteN c3).trans ((iteN c4).trans (iteN c5))))
theorem cl_p {len a : Int} {L : List Tk} {ps : List (List Int)} {bs : List (Int × Int)} {ns : List Int} (h0 : 0 ≤ a) (hK : KD L a 59) (hn : 1 ≤ ns.length) : rdL len (L.drop a.toNat) (1, ns, false, ps, bs) = rdL len (L.drop (a + 1).toNat) (0, [], false, ps ++ [ns], bs) := by
  obtain ⟨q, q1, q2⟩ := hK
  have hl := (List.getElem?_eq_some_iff.mp q1).1
  obtain ⟨q', q3, _, q4⟩ := tk_at (L := L) h0 (by omega)
  rw [q1] at q3
  cases q3
  rw [q4]
  refine rdL_s ?_
  rw [q2, stp_e]
  exact iteP ⟨rfl, rfl, (show ns.length ≠ 0 by omega)⟩
theorem cl_b {len a : Int} {L : List Tk} {ps : List (List Int)} {bs : List (Int × Int)} {x y : Int} (h0 : 0 ≤ a) (hK : KD L a 59) : rdL len (L.drop a.toNat) (2, [x, y], false, ps, bs) = rdL len (L.drop (a + 1).toNat) (0, [], false, ps, bs ++ [(x, y)]) := by
  obtain ⟨q, q1, q2⟩ := hK
  have hl := (List.getElem?_eq_some_iff.mp q1).1
  obtain ⟨q', q3, _, q4⟩ := tk_at (L := L) h0 (by omega)
  rw [q1] at q3
  cases q3
  rw [q4]
  refine rdL_s ?_
  rw [q2, stp_e]
  exact (iteN (fun z => absurd (show (2 : Int) = 1 from z.2.1) (by decide))).trans (iteP ⟨rfl, rfl, rfl⟩)
theorem cl_p0 {len a : Int} {L : List Tk} {ps : List (List Int)} {bs : List (Int × Int)} {ns : List Int} (h0 : 0 ≤ a) (hK : ¬ KD L a 59) (hn : ns.length = 6) : (rdL len (L.drop a.toNat) (1, ns, false, ps, bs)).1 = plc len L a := by
  have nr : ¬ room 1 ns.length := by
    unfold room
    omega
  refine rdL_f h0 (show ¬ (1 : Int) = 0 by decide) (fun q hq => stp_o (show ¬ (1 : Int) = 0 by decide) (fun _ z => nr z.2) (fun z => absurd ⟨q, hq, z⟩ hK) (fun _ => ?_))
  rw [stp_n]
  exact iteN (fun z => nr z.1)
theorem cl_b0 {len a : Int} {L : List Tk} {ps : List (List Int)} {bs : List (Int × Int)} {x y : Int} (h0 : 0 ≤ a) (hK : ¬ KD L a 59) : (rdL len (L.drop a.toNat) (2, [x, y], false, ps, bs)).1 = plc len L a := by
  have nr : ¬ room 2 2 := by
    unfold room
    omega
  refine rdL_f h0 (show ¬ (2 : Int) = 0 by decide) (fun q hq => stp_o (show ¬ (2 : Int) = 0 by decide) (fun _ z => nr z.2) (fun z => absurd ⟨q, hq, z⟩ hK) (fun _ => ?_))
  rw [stp_n]
  exact iteN (fun z => nr z.1)
theorem plc_b {len a : Int} {L : List Tk} (hO : LO L) (hl : 0 ≤ len) : 0 ≤ plc len L a := by
  unfold plc
  cases h : L[a.toNat]? with
  | none => exact hl
  | some q => exact (hO.2 q (List.mem_of_getElem? h)).1
def HsM (σ σ' : Sg) (S : Rst) : Prop := AD (σ' 49) S.2.2.2.1 S.2.2.2.2 ∧ σ' 48 12 = 0 ∧ σ' 48 5 = 0 ∧ σ' 48 6 = 0 ∧ σ' 48 7 = 0 ∧ σ' 48 10 = 0 ∧ σ' 52 0 = 0 ∧ σ' 52 1 = 0 ∧ ∀ k, k < 48 → σ' k = σ k
theorem l_X12_polynomial {g : Gl} {σ : Sg} {L : List Tk} {ps : List (List Int)} {bs : List (Int × Int)} {len : Int} (hR : RT σ L) (hO : LO L) (hA : 0 ≤ σ 48 17 ∧ σ 48 17 ≤ 120) (hK : KD L (σ 48 17) 112) (hD : AD (σ 50) ps bs) (hp : ps.length < 3) : ∀ (t : Nat) (ns : List Int) (τ : Sg), 6 - (ns.length : Int) < t → ns.length ≤ 6 → frQ σ τ → (σ 48 17 < τ 48 17 ∧ τ 48 17 ≤ (L.length : Int)) → AD (τ 50) ps bs → (∀ (k : Nat) (x : Int), ns[k]? = some x → τ 50 (5 + 6 * (ps.length : Int) + k) = x) → rdL len (L.drop (σ 48 17).toNat) (0, [], false, ps, bs) = rdL len (L.drop (τ 48 17).toNat) (1, ns, false, ps, bs) → jv g mX12_polynomial (Fm g (PI (fun v σ' => frQ σ σ' ∧ (0 ≤ σ' 48 17 ∧ σ' 48 17 ≤ (L.length : Int)) ∧ ((v = 1 ∧ ∃ ns : List Int, (1 ≤ ns.length ∧ ns.length ≤ 6) ∧ (ns.length = 6 ∨ KD L (σ' 48 17) 59) ∧ rdL len (L.drop (σ 48 17).toNat) (0, [], false, ps, bs) = rdL len (L.drop (σ' 48 17).toNat) (1, ns, false, ps, bs) ∧ σ 48 17 < σ' 48 17 ∧ AD (σ' 50) (ps ++ [ns]) bs) ∨ (v = 0 ∧ (rdL len (L.drop (σ 48 17).toNat) (0, [], false, ps, bs)).1 = plc len L (σ' 48 17)))))) τ [(0, vr g 48), (1, vi (ps.length : Int)), (2, vi (ns.length : Int))] 26 [] := by
  have l1 := hO.1
  intro t
  induction t with
  | zero =>
    intro ns τ h1 h2
    exfalso
    omega
  | succ t ih =>
    intro ns τ h1 h2 hf ha hd hc hG
    refine j_iload_n eX12_polynomial_26 rfl ?_
    refine j_bipush 6 eX12_polynomial_27 (by decide) ?_
    refine j_icmp_ge eX12_polynomial_29 (by omega) (fun h29 => ?_) (fun h29 => ?_)
    · refine j_aload_n eX12_polynomial_81 rfl ?_
      refine j_getR flX12_13 ly48 rfl eX12_polynomial_82 ?_
      refine j_iconst 2 eX12_polynomial_85 ?_
      refine j_iload_n eX12_polynomial_86 rfl ?_
      refine j_iadd eX12_polynomial_87 ?_
      refine j_iload_n eX12_polynomial_88 rfl ?_
      refine j_iconst 1 eX12_polynomial_89 ?_
      refine j_isub eX12_polynomial_90 ?_
      refine j_iast ly50 (by omega) eX12_polynomial_91 ?_
      refine j_aload_n eX12_polynomial_92 rfl ?_
      refine j_getR flX12_13 ly48 rfl eX12_polynomial_93 ?_
      refine j_iconst 0 eX12_polynomial_96 ?_
      refine j_dup2 rfl rfl eX12_polynomial_97 ?_
      refine j_iald ly50 (by omega) eX12_polynomial_98 ?_
      refine j_iconst 1 eX12_polynomial_99 ?_
      refine j_iadd eX12_polynomial_100 ?_
      refine j_iast ly50 (by omega) eX12_polynomial_101 ?_
      refine j_iconst 1 eX12_polynomial_102 ?_
      refine r_zret (by decide) rfl eX12_polynomial_103 ?_
      exact ⟨hf.C.C, (show 0 ≤ τ 48 17 ∧ τ 48 17 ≤ (L.length : Int) by omega), Or.inl ⟨rfl, ns, ⟨by omega, h2⟩, Or.inl (by omega), hG, ha.1, AD_P hd hp h2 hc rfl⟩⟩
    · have t1 := hR.Q hf
      refine j_iload_n eX12_polynomial_32 rfl ?_
      refine j_if_eq eX12_polynomial_33 (by omega) (fun h33 => ?_) (fun h33 => ?_)
      · refine j_aload_n eX12_polynomial_45 rfl ?_
        refine j_bipush (-50) eX12_polynomial_46 (by decide) ?_
        refine j_bipush 50 eX12_polynomial_48 (by decide) ?_
        refine j_cV2 zX12_takesNumber lkX12_109 ⟨Nat.le_of_ble_eq_true rfl, Nat.le_of_ble_eq_true rfl⟩ ly48 rfl rfl (c_X12_takesNumber (L := L) (S := (1, ns, false, ps, bs)) (len := len) (by exact t1) (by exact hO) (by omega) (by decide) (by exact ⟨rfl, Or.inl ⟨rfl, (show ns.length < 6 by omega)⟩⟩) (by exact fun x => ⟨fun z => ⟨fun _ => z, fun y => absurd (show (1 : Int) = 2 from y) (by decide)⟩, fun z => z.1 rfl⟩) (by first | exact fun v z => absurd z h39 | exact fun v _ => (stp_e _ _).trans ((iteN (fun w => w.2.2 (show ns.length = 0 by omega))).trans (iteN (fun w => absurd (show (1 : Int) = 2 from w.2.1) (by decide)))))) (Nat.le_of_ble_eq_true rfl) eX12_polynomial_50 (k_I (fun v50 σ50 h50 => ?_))
        refine j_if_ne eX12_polynomial_53 (by rcases h50.2.2.2 with h | h <;> omega) (fun h53 => ?_) (fun h53 => ?_)
        · have b50 := h50.2.2.2
          refine j_aload_n eX12_polynomial_58 rfl ?_
          refine j_getR flX12_13 ly48 rfl eX12_polynomial_59 ?_
          refine j_iconst 5 eX12_polynomial_62 ?_
          refine j_bipush 6 eX12_polynomial_63 (by decide) ?_
          refine j_iload_n eX12_polynomial_65 rfl ?_
          refine j_imul eX12_polynomial_66 ?_
          refine j_iadd eX12_polynomial_67 ?_
          refine j_iload_n eX12_polynomial_68 rfl ?_
          refine j_iadd eX12_polynomial_69 ?_
          refine j_aload_n eX12_polynomial_70 rfl ?_
          refine j_getI flX12_106 ly48 rfl eX12_polynomial_71 ?_
          refine j_iast ly50 (by omega) eX12_polynomial_74 ?_
          refine j_iinc eX12_polynomial_75 rfl (Nat.le_of_ble_eq_true rfl) ?_
          refine j_goto eX12_polynomial_78 ?_
          have q := (h50.2.2.2.resolve_right (fun z => by have := z.1; omega)).2
          have d50 : AD (σ50 50) ps bs := by rw [h50.2.1]; exact hd
          have el : (((ns ++ [σ50 48 18]).length : Nat) : Int) = (ns.length : Int) + 1 := by simp
          have e := ih (ns ++ [σ50 48 18]) (up σ50 50 (5 + 6 * (ps.length : Int) + (ns.length : Int)) (σ50 48 18)) (by rw [el]; omega) (by rw [List.length_append]; show ns.length + 1 ≤ 6; omega) (hf.trans h50.1).C ⟨show σ 48 17 < σ50 48 17 by omega, h50.2.2.1.2⟩ (AD_c d50 hp (by omega)) (hc_push (by rw [h50.2.1]; exact hc)) (hG.trans q.1)
          rw [el] at e
          refine jv_lv ?_ e
          exact lvC rfl (lvC rfl (lvC rfl (lv0)))
        · refine j_iconst 0 eX12_polynomial_56 ?_
          refine r_zret (by decide) rfl eX12_polynomial_57 ?_
          refine ⟨hf.trans h50.1, h50.2.2.1, Or.inr ⟨rfl, ?_⟩⟩
          rw [hG]
          exact (h50.2.2.2.resolve_left (fun z => by have := z.1; omega)).2
      · refine j_aload_n eX12_polynomial_36 rfl ?_
        refine j_bipush 59 eX12_polynomial_37 (by decide) ?_
        refine j_cV1 zX12_isKind lkX12_102 ⟨Nat.le_of_ble_eq_true rfl, Nat.le_of_ble_eq_true rfl⟩ ly48 rfl rfl (c_X12_isKind (L := L) (by exact t1) (by exact hO) (by omega) (by decide)) (Nat.le_of_ble_eq_true rfl) eX12_polynomial_39 (k_B (fun h39 => ?_) (fun h39 => ?_))
        · refine j_ifne_1 eX12_polynomial_42 ?_
          refine j_aload_n eX12_polynomial_81 rfl ?_
          refine j_getR flX12_13 ly48 rfl eX12_polynomial_82 ?_
          refine j_iconst 2 eX12_polynomial_85 ?_
          refine j_iload_n eX12_polynomial_86 rfl ?_
          refine j_iadd eX12_polynomial_87 ?_
          refine j_iload_n eX12_polynomial_88 rfl ?_
          refine j_iconst 1 eX12_polynomial_89 ?_
          refine j_isub eX12_polynomial_90 ?_
          refine j_iast ly50 (by omega) eX12_polynomial_91 ?_
          refine j_aload_n eX12_polynomial_92 rfl ?_
          refine j_getR flX12_13 ly48 rfl eX12_polynomial_93 ?_
          refine j_iconst 0 eX12_polynomial_96 ?_
          refine j_dup2 rfl rfl eX12_polynomial_97 ?_
          refine j_iald ly50 (by omega) eX12_polynomial_98 ?_
          refine j_iconst 1 eX12_polynomial_99 ?_
          refine j_iadd eX12_polynomial_100 ?_
          refine j_iast ly50 (by omega) eX12_polynomial_101 ?_
          refine j_iconst 1 eX12_polynomial_102 ?_
          refine r_zret (by decide) rfl eX12_polynomial_103 ?_
          exact ⟨hf.C.C, (show 0 ≤ τ 48 17 ∧ τ 48 17 ≤ (L.length : Int) by omega), Or.inl ⟨rfl, ns, ⟨by omega, h2⟩, Or.inr h39, hG, ha.1, AD_P hd hp h2 hc rfl⟩⟩
        · refine j_ifne_0 eX12_polynomial_42 ?_
          refine j_aload_n eX12_polynomial_45 rfl ?_
          refine j_bipush (-50) eX12_polynomial_46 (by decide) ?_
          refine j_bipush 50 eX12_polynomial_48 (by decide) ?_
          refine j_cV2 zX12_takesNumber lkX12_109 ⟨Nat.le_of_ble_eq_true rfl, Nat.le_of_ble_eq_true rfl⟩ ly48 rfl rfl (c_X12_takesNumber (L := L) (S := (1, ns, false, ps, bs)) (len := len) (by exact t1) (by exact hO) (by omega) (by decide) (by exact ⟨rfl, Or.inl ⟨rfl, (show ns.length < 6 by omega)⟩⟩) (by exact fun x => ⟨fun z => ⟨fun _ => z, fun y => absurd (show (1 : Int) = 2 from y) (by decide)⟩, fun z => z.1 rfl⟩) (by first | exact fun v z => absurd z h39 | exact fun v _ => (stp_e _ _).trans ((iteN (fun w => w.2.2 (show ns.length = 0 by omega))).trans (iteN (fun w => absurd (show (1 : Int) = 2 from w.2.1) (by decide)))))) (Nat.le_of_ble_eq_true rfl) eX12_polynomial_50 (k_I (fun v50 σ50 h50 => ?_))
          refine j_if_ne eX12_polynomial_53 (by rcases h50.2.2.2 with h | h <;> omega) (fun h53 => ?_) (fun h53 => ?_)
          · have b50 := h50.2.2.2
            refine j_aload_n eX12_polynomial_58 rfl ?_
            refine j_getR flX12_13 ly48 rfl eX12_polynomial_59 ?_
            refine j_iconst 5 eX12_polynomial_62 ?_
            refine j_bipush 6 eX12_polynomial_63 (by decide) ?_
            refine j_iload_n eX12_polynomial_65 rfl ?_
            refine j_imul eX12_polynomial_66 ?_
            refine j_iadd eX12_polynomial_67 ?_
            refine j_iload_n eX12_polynomial_68 rfl ?_
            refine j_iadd eX12_polynomial_69 ?_
            refine j_aload_n eX12_polynomial_70 rfl ?_
            refine j_getI flX12_106 ly48 rfl eX12_polynomial_71 ?_
            refine j_iast ly50 (by omega) eX12_polynomial_74 ?_
            refine j_iinc eX12_polynomial_75 rfl (Nat.le_of_ble_eq_true rfl) ?_
            refine j_goto eX12_polynomial_78 ?_
            have q := (h50.2.2.2.resolve_right (fun z => by have := z.1; omega)).2
            have d50 : AD (σ50 50) ps bs := by rw [h50.2.1]; exact hd
            have el : (((ns ++ [σ50 48 18]).length : Nat) : Int) = (ns.length : Int) + 1 := by simp
            have e := ih (ns ++ [σ50 48 18]) (up σ50 50 (5 + 6 * (ps.length : Int) + (ns.length : Int)) (σ50 48 18)) (by rw [el]; omega) (by rw [List.length_append]; show ns.length + 1 ≤ 6; omega) (hf.trans h50.1).C ⟨show σ 48 17 < σ50 48 17 by omega, h50.2.2.1.2⟩ (AD_c d50 hp (by omega)) (hc_push (by rw [h50.2.1]; exact hc)) (hG.trans q.1)
            rw [el] at e
            refine jv_lv ?_ e
            exact lvC rfl (lvC rfl (lvC rfl (lv0)))
          · refine j_iconst 0 eX12_polynomial_56 ?_
            refine r_zret (by decide) rfl eX12_polynomial_57 ?_
            refine ⟨hf.trans h50.1, h50.2.2.1, Or.inr ⟨rfl, ?_⟩⟩
            rw [hG]
            exact (h50.2.2.2.resolve_left (fun z => by have := z.1; omega)).2
theorem c_X12_polynomial {g : Gl} {σ : Sg} {L : List Tk} {ps : List (List Int)} {bs : List (Int × Int)} {len : Int} (hR : RT σ L) (hO : LO L) (hA : 0 ≤ σ 48 17 ∧ σ 48 17 ≤ 120) (hK : KD L (σ 48 17) 112) (hD : AD (σ 50) ps bs) : Ct g mX12_polynomial [vr g 48] σ (PI (fun v σ' => frQ σ σ' ∧ (0 ≤ σ' 48 17 ∧ σ' 48 17 ≤ (L.length : Int)) ∧ ((v = 1 ∧ ∃ ns : List Int, (1 ≤ ns.length ∧ ns.length ≤ 6) ∧ (ns.length = 6 ∨ KD L (σ' 48 17) 59) ∧ rdL len (L.drop (σ 48 17).toNat) (0, [], false, ps, bs) = rdL len (L.drop (σ' 48 17).toNat) (1, ns, false, ps, bs) ∧ σ 48 17 < σ' 48 17 ∧ AD (σ' 50) (ps ++ [ns]) bs) ∨ (v = 0 ∧ (rdL len (L.drop (σ 48 17).toNat) (0, [], false, ps, bs)).1 = plc len L (σ' 48 17))))) := by
  refine Ct.of (by decide +kernel) (Nat.le_of_ble_eq_true rfl) ?_
  show jv g _ _ σ [(0, vr g 48)] 0 []
  have l1 := hO.1
  have kl : σ 48 17 < (L.length : Int) := by
    obtain ⟨z, z1, z2⟩ := id hK
    exact (hR.q hA.1 z1).2
  refine j_aload_n eX12_polynomial_0 rfl ?_
  refine j_getR flX12_13 ly48 rfl eX12_polynomial_1 ?_
  refine j_iconst 0 eX12_polynomial_4 ?_
  refine j_iald ly50 (by omega) eX12_polynomial_5 ?_
  refine jv_top (b := (ps.length : Int)) hD.1 ?_
  have p3 := hD.2.2.2.2.2.1
  refine j_istore_n eX12_polynomial_6 (Nat.le_of_ble_eq_true rfl) ?_
  refine j_iload_n eX12_polynomial_7 rfl ?_
  refine j_iconst 3 eX12_polynomial_8 ?_
  refine j_icmp_ne eX12_polynomial_9 (by omega) (fun h9 => ?_) (fun h9 => ?_)
  · refine j_aload_n eX12_polynomial_14 rfl ?_
    refine j_dup rfl eX12_polynomial_15 ?_
    refine j_getI flX12_99 ly48 rfl eX12_polynomial_16 ?_
    refine j_iconst 1 eX12_polynomial_19 ?_
    refine j_iadd eX12_polynomial_20 ?_
    refine j_putI fpX12_99 ly48 rfl eX12_polynomial_21 ?_
    refine j_iconst 0 eX12_polynomial_24 ?_
    refine j_istore_n eX12_polynomial_25 (Nat.le_of_ble_eq_true rfl) ?_
    have e := l_X12_polynomial (g := g) (len := len) hR hO hA hK hD (by omega) 8 [] (up σ 48 17 (σ 48 17 + 1)) (by decide) (by decide) ((frQ.rf σ).U (by decide)) (show σ 48 17 < σ 48 17 + 1 ∧ σ 48 17 + 1 ≤ (L.length : Int) by omega) hD (fun k x z => by simp at z) (op_p hA.1 hK (by omega))
    refine jv_lv ?_ e
    exact lvC rfl (lvC rfl (lvC rfl (lv0)))
  · refine j_iconst 0 eX12_polynomial_12 ?_
    refine r_zret (by decide) rfl eX12_polynomial_13 ?_
    exact ⟨frQ.rf σ, (show 0 ≤ σ 48 17 ∧ σ 48 17 ≤ (L.length : Int) by omega), Or.inr ⟨rfl, op_n hA.1 kl (fun _ => by omega) (fun z => by obtain ⟨x, x1, x2⟩ := id hK; obtain ⟨y, y1, y2⟩ := z; rw [x1] at y1; cases y1; omega)⟩⟩
theorem c_X12_boxTold {g : Gl} {σ : Sg} {L : List Tk} {ps : List (List Int)} {bs : List (Int × Int)} {len : Int} (hR : RT σ L) (hO : LO L) (hA : 0 ≤ σ 48 17 ∧ σ 48 17 ≤ 120) (hK : KD L (σ 48 17) 98) (hD : AD (σ 50) ps bs) : Ct g mX12_boxTold [vr g 48] σ (PI (fun v σ' => frQ σ σ' ∧ (0 ≤ σ' 48 17 ∧ σ' 48 17 ≤ (L.length : Int)) ∧ ((v = 1 ∧ ∃ x y : Int, rdL len (L.drop (σ 48 17).toNat) (0, [], false, ps, bs) = rdL len (L.drop (σ' 48 17).toNat) (2, [x, y], false, ps, bs) ∧ σ 48 17 < σ' 48 17 ∧ AD (σ' 50) ps (bs ++ [(x, y)])) ∨ (v = 0 ∧ (rdL len (L.drop (σ 48 17).toNat) (0, [], false, ps, bs)).1 = plc len L (σ' 48 17))))) := by
  refine Ct.of (by decide +kernel) (Nat.le_of_ble_eq_true rfl) ?_
  show jv g _ _ σ [(0, vr g 48)] 0 []
  have l1 := hO.1
  have kl : σ 48 17 < (L.length : Int) := by
    obtain ⟨z, z1, z2⟩ := id hK
    exact (hR.q hA.1 z1).2
  refine j_aload_n eX12_boxTold_0 rfl ?_
  refine j_getR flX12_13 ly48 rfl eX12_boxTold_1 ?_
  refine j_iconst 1 eX12_boxTold_4 ?_
  refine j_iald ly50 (by omega) eX12_boxTold_5 ?_
  refine jv_top (b := (bs.length : Int)) hD.2.1 ?_
  have p3 := hD.2.2.2.2.2.1
  refine j_istore_n eX12_boxTold_6 (Nat.le_of_ble_eq_true rfl) ?_
  refine j_iload_n eX12_boxTold_7 rfl ?_
  refine j_iconst 3 eX12_boxTold_8 ?_
  refine j_icmp_ne eX12_boxTold_9 (by omega) (fun h9 => ?_) (fun h9 => ?_)
  · refine j_aload_n eX12_boxTold_14 rfl ?_
    refine j_dup rfl eX12_boxTold_15 ?_
    refine j_getI flX12_99 ly48 rfl eX12_boxTold_16 ?_
    refine j_iconst 1 eX12_boxTold_19 ?_
    refine j_iadd eX12_boxTold_20 ?_
    refine j_putI fpX12_99 ly48 rfl eX12_boxTold_21 ?_
    have b3 : bs.length < 3 := by omega
    have g0 := op_b (len := len) (ps := ps) hA.1 hK b3
    refine j_aload_n eX12_boxTold_24 rfl ?_
    refine j_bipush (-5) eX12_boxTold_25 (by decide) ?_
    refine j_iconst 5 eX12_boxTold_27 ?_
    refine j_cV2 zX12_takesNumber lkX12_109 ⟨Nat.le_of_ble_eq_true rfl, Nat.le_of_ble_eq_true rfl⟩ ly48 rfl rfl (c_X12_takesNumber (L := L) (S := (2, [], false, ps, bs)) (len := len) (by exact hR) (by exact hO) (by exact (show 0 ≤ σ 48 17 + 1 ∧ σ 48 17 + 1 ≤ (L.length : Int) by omega)) (by decide) (by exact ⟨rfl, Or.inr ⟨rfl, (show 0 < 2 by decide)⟩⟩) (by exact fun x => ⟨fun z => ⟨fun y => absurd (show (2 : Int) = 1 from y) (by decide), fun _ => ⟨z, fun y w => by simp at w⟩⟩, fun z => (z.2 rfl).1⟩) (by exact fun v _ => (stp_e _ _).trans ((iteN (fun w => absurd (show (2 : Int) = 1 from w.2.1) (by decide))).trans (iteN (fun w => absurd (show 0 = 2 from w.2.2) (by decide)))))) (Nat.le_of_ble_eq_true rfl) eX12_boxTold_28 (k_I (fun v28 σ28 h28 => ?_))
    refine j_if_ne eX12_boxTold_31 (by rcases h28.2.2.2 with h | h <;> omega) (fun h31 => ?_) (fun h31 => ?_)
    · have q28 := (h28.2.2.2.resolve_right (fun z => by have := z.1; omega)).2
      have f28 := ((frQ.rf σ).U (j := 17) (v := σ 48 17 + 1) (by decide)).trans h28.1
      refine j_aload_n eX12_boxTold_36 rfl ?_
      refine j_getR flX12_13 ly48 rfl eX12_boxTold_37 ?_
      refine j_bipush 23 eX12_boxTold_40 (by decide) ?_
      refine j_iload_n eX12_boxTold_42 rfl ?_
      refine j_iadd eX12_boxTold_43 ?_
      refine j_aload_n eX12_boxTold_44 rfl ?_
      refine j_getI flX12_106 ly48 rfl eX12_boxTold_45 ?_
      refine j_iast ly50 (by omega) eX12_boxTold_48 ?_
      generalize hρ : up σ28 50 (23 + (bs.length : Int)) (σ28 48 18) = ρ
      have fρ : frQ σ ρ := hρ ▸ f28.C
      have r17 : ρ 48 17 = σ28 48 17 := by rw [← hρ]; rfl
      have r18 : ρ 48 18 = σ28 48 18 := by rw [← hρ]; rfl
      have r50 : ρ 50 = up1 (σ 50) (23 + (bs.length : Int)) (σ28 48 18) := by
        rw [← hρ]
        show up1 (σ28 50) _ _ = _
        rw [h28.2.1]
        rfl
      have l28 : σ 48 17 + 1 < σ28 48 17 := q28.2.1
      have x1 := q28.2.2
      refine j_aload_n eX12_boxTold_49 rfl ?_
      refine j_aload_n eX12_boxTold_50 rfl ?_
      refine j_getI flX12_106 ly48 rfl eX12_boxTold_51 ?_
      refine j_iconst 1 eX12_boxTold_54 ?_
      refine j_iadd eX12_boxTold_55 ?_
      refine j_iconst 5 eX12_boxTold_56 ?_
      refine j_cV2 zX12_takesNumber lkX12_109 ⟨Nat.le_of_ble_eq_true rfl, Nat.le_of_ble_eq_true rfl⟩ ly48 rfl rfl (c_X12_takesNumber (L := L) (S := (2, [ρ 48 18], false, ps, bs)) (len := len) (by exact hR.Q fρ) (by exact hO) (by omega) (by omega) (by exact ⟨rfl, Or.inr ⟨rfl, (show 1 < 2 by decide)⟩⟩) (by exact fun x => ⟨fun z => ⟨fun y => absurd (show (2 : Int) = 1 from y) (by decide), fun _ => ⟨by omega, fun y w => by have w : some (ρ 48 18) = some y := w; cases w; omega⟩⟩, fun z => by have u := z.2 rfl; have u1 := u.1; have u2 := u.2 (ρ 48 18) rfl; omega⟩) (by exact fun v _ => (stp_e _ _).trans ((iteN (fun w => absurd (show (2 : Int) = 1 from w.2.1) (by decide))).trans (iteN (fun w => absurd (show 1 = 2 from w.2.2) (by decide)))))) (Nat.le_of_ble_eq_true rfl) eX12_boxTold_57 (k_I (fun v57 σ57 h57 => ?_))
      refine j_if_ne eX12_boxTold_60 (by rcases h57.2.2.2 with h | h <;> omega) (fun h60 => ?_) (fun h60 => ?_)
      · have q57 := (h57.2.2.2.resolve_right (fun z => by have := z.1; omega)).2
        refine j_aload_n eX12_boxTold_65 rfl ?_
        refine j_getR flX12_13 ly48 rfl eX12_boxTold_66 ?_
        refine j_bipush 26 eX12_boxTold_69 (by decide) ?_
        refine j_iload_n eX12_boxTold_71 rfl ?_
        refine j_iadd eX12_boxTold_72 ?_
        refine j_aload_n eX12_boxTold_73 rfl ?_
        refine j_getI flX12_106 ly48 rfl eX12_boxTold_74 ?_
        refine j_iast ly50 (by omega) eX12_boxTold_77 ?_
        refine j_aload_n eX12_boxTold_78 rfl ?_
        refine j_getR flX12_13 ly48 rfl eX12_boxTold_79 ?_
        refine j_iconst 1 eX12_boxTold_82 ?_
        refine j_dup2 rfl rfl eX12_boxTold_83 ?_
        refine j_iald ly50 (by omega) eX12_boxTold_84 ?_
        refine j_iconst 1 eX12_boxTold_85 ?_
        refine j_iadd eX12_boxTold_86 ?_
        refine j_iast ly50 (by omega) eX12_boxTold_87 ?_
        refine j_iconst 1 eX12_boxTold_88 ?_
        refine r_zret (by decide) rfl eX12_boxTold_89 ?_
        have g1 : rdL len (L.drop (σ 48 17 + 1).toNat) (2, [], false, ps, bs) = rdL len (L.drop (ρ 48 17).toNat) (2, [ρ 48 18], false, ps, bs) := by
          rw [r17, r18]
          exact q28.1
        exact ⟨(fρ.trans h57.1).C.C, h57.2.2.1, Or.inl ⟨rfl, ρ 48 18, σ57 48 18, g0.trans (g1.trans q57.1), (show σ 48 17 < σ57 48 17 by omega), AD_B hD b3 (by rw [r18]; show up1 (σ57 50) _ _ = _; rw [h57.2.1, r50])⟩⟩
      · refine j_iconst 0 eX12_boxTold_63 ?_
        refine r_zret (by decide) rfl eX12_boxTold_64 ?_
        refine ⟨fρ.trans h57.1, h57.2.2.1, Or.inr ⟨rfl, ?_⟩⟩
        have g1 : rdL len (L.drop (σ 48 17 + 1).toNat) (2, [], false, ps, bs) = rdL len (L.drop (ρ 48 17).toNat) (2, [ρ 48 18], false, ps, bs) := by
          rw [r17, r18]
          exact q28.1
        rw [g0, g1]
        exact (h57.2.2.2.resolve_left (fun z => by have := z.1; omega)).2
    · refine j_iconst 0 eX12_boxTold_34 ?_
      refine r_zret (by decide) rfl eX12_boxTold_35 ?_
      refine ⟨((frQ.rf σ).U (j := 17) (v := σ 48 17 + 1) (by decide)).trans h28.1, h28.2.2.1, Or.inr ⟨rfl, ?_⟩⟩
      rw [g0]
      exact (h28.2.2.2.resolve_left (fun z => by have := z.1; omega)).2
  · refine j_iconst 0 eX12_boxTold_12 ?_
    refine r_zret (by decide) rfl eX12_boxTold_13 ?_
    exact ⟨frQ.rf σ, (show 0 ≤ σ 48 17 ∧ σ 48 17 ≤ (L.length : Int) by omega), Or.inr ⟨rfl, op_n hA.1 kl (fun z => by obtain ⟨x, x1, x2⟩ := id hK; obtain ⟨y, y1, y2⟩ := z; rw [x1] at y1; cases y1; omega) (fun _ => by omega)⟩⟩
theorem f_X12_house {g : Gl} {S : Sg} {L : List Tk} {len i : Int} {Q : Int → Sg → Prop} (hR : RT S L) (hO : LO L) (hA : 0 ≤ S 48 17 ∧ S 48 17 ≤ 1000) (h12 : S 48 12 = len) (q : Q (-10 - plc len L (S 48 17)) S) : jv g mX12_house (Fm g (PI Q)) S [(0, vr g 48), (1, vi i)] 94 [] := by
  have e16 := hR.1
  have l1 := hO.1
  refine j_bipush (-10) eX12_house_94 (by decide) ?_
  refine j_aload_n eX12_house_96 rfl ?_
  refine j_getI flX12_99 ly48 rfl eX12_house_97 ?_
  refine j_aload_n eX12_house_100 rfl ?_
  refine j_getI flX12_92 ly48 rfl eX12_house_101 ?_
  refine j_icmp_ge eX12_house_104 (by omega) (fun h104 => ?_) (fun h104 => ?_)
  · refine j_aload_n eX12_house_119 rfl ?_
    refine j_getI flX12_89 ly48 rfl eX12_house_120 ?_
    refine jv_top (b := plc len L (S 48 17)) (by rw [plc_n (tk_no (by omega)).1]; exact h12) ?_
    refine j_isub eX12_house_123 ?_
    refine r_iret rfl eX12_house_124 ?_
    exact q
  · obtain ⟨q0, q1, q2, q3⟩ := tk_at (L := L) (a := S 48 17) hA.1 (by omega)
    have qq := hR.q hA.1 q1
    refine j_aload_n eX12_house_107 rfl ?_
    refine j_getR flX12_38 ly48 rfl eX12_house_108 ?_
    refine j_aload_n eX12_house_111 rfl ?_
    refine j_getI flX12_99 ly48 rfl eX12_house_112 ?_
    refine j_iald ly58 (by omega) eX12_house_115 ?_
    refine j_goto eX12_house_116 ?_
    refine jv_top (b := plc len L (S 48 17)) (by rw [plc_s q1]; exact qq.1.1) ?_
    refine j_isub eX12_house_123 ?_
    refine r_iret rfl eX12_house_124 ?_
    exact q
theorem z_X12_house {g : Gl} {S : Sg} {F : Ex} (kk : ∀ τ, (∀ c, c ≠ 50 → τ c = S c) → (∀ j, 0 ≤ j → j < 32 → τ 50 j = 0) → jv g mX12_house F τ [(0, vr g 48)] 25 []) : ∀ (t : Nat) (k : Int) (τ : Sg), 32 - k < t → (0 ≤ k ∧ k ≤ 32) → (∀ c, c ≠ 50 → τ c = S c) → (∀ j, 0 ≤ j → j < k → τ 50 j = 0) → jv g mX12_house F τ [(0, vr g 48), (1, vi k)] 6 [] := by
  intro t
  induction t with
  | zero =>
    intro k τ h1 h2
    exfalso
    omega
  | succ t ih =>
    intro k τ h1 h2 e1 e2
    refine j_iload_n eX12_house_6 rfl ?_
    refine j_bipush 32 eX12_house_7 (by decide) ?_
    refine j_icmp_ge eX12_house_9 (by omega) (fun h9 => ?_) (fun h9 => ?_)
    · refine jv_lv ?_ (kk τ e1 (fun j x y => e2 j x (by omega)))
      exact lvC rfl (lv0)
    · refine j_aload_n eX12_house_12 rfl ?_
      refine j_getR flX12_13 ly48 rfl eX12_house_13 ?_
      refine j_iload_n eX12_house_16 rfl ?_
      refine j_iconst 0 eX12_house_17 ?_
      refine j_iast ly50 (by omega) eX12_house_18 ?_
      refine j_iinc eX12_house_19 rfl (Nat.le_of_ble_eq_true rfl) ?_
      refine j_goto eX12_house_22 ?_
      refine jv_lv ?_ (ih (k + 1) _ (by omega) (by omega) (fun c hc => by rw [up_ne hc]; exact e1 c hc) (fun j x y => ?_))
      · exact lvC rfl (lvC rfl (lv0))
      · show up1 (τ 50) k 0 j = 0
        by_cases c : j = k
        · rw [c, up1_same]
        · rw [up1_ne c]
          exact e2 j x (by omega)
theorem l_X12_house {g : Gl} {σ : Sg} (hT : 0 ≤ σ 48 12 ∧ σ 48 12 ≤ 120) {L : List Tk} (hO : LO L) {G : Int × Rst} : ∀ (t : Nat) (τ : Sg) (ps : List (List Int)) (bs : List (Int × Int)), (L.length : Int) - τ 48 17 < t → (0 ≤ τ 48 17 ∧ τ 48 17 ≤ (L.length : Int)) → frP σ τ → RT τ L → AD (τ 50) ps bs → rdL (σ 48 12) (L.drop (τ 48 17).toNat) (0, [], false, ps, bs) = G → jv g mX12_house (Fm g (PI (fun v σ' => (G.1 ≠ -1 ∧ v = -10 - G.1 ∧ frP σ σ') ∨ (G.1 = -1 ∧ v = (G.2.2.2.2.1.length : Int) + G.2.2.2.2.2.length ∧ HsM σ σ' G.2)))) τ [(0, vr g 48), (1, vi ((ps.length : Int) + (bs.length : Int)))] 32 [] := by
  intro t
  induction t with
  | zero =>
    intro τ ps bs h1 h2
    exfalso
    omega
  | succ t ih =>
    intro τ ps bs h1 ha hf hR hd hG
    have e16 := hR.1
    have l1 := hO.1
    refine j_aload_n eX12_house_32 rfl ?_
    refine j_getI flX12_99 ly48 rfl eX12_house_33 ?_
    refine j_aload_n eX12_house_36 rfl ?_
    refine j_getI flX12_92 ly48 rfl eX12_house_37 ?_
    refine j_icmp_ge eX12_house_40 (by omega) (fun h40 => ?_) (fun h40 => ?_)
    · refine j_aload_n eX12_house_141 rfl ?_
      refine j_cV0 zX12_becomes lkX12_69 ⟨Nat.le_of_ble_eq_true rfl, Nat.le_of_ble_eq_true rfl⟩ ly48 rfl rfl (c_X12_becomes) (Nat.le_of_ble_eq_true rfl) eX12_house_142 (k_V (fun σ142 h142 => ?_))
      refine j_aload_n eX12_house_145 rfl ?_
      refine j_iconst 0 eX12_house_146 ?_
      refine j_putI fpX12_89 ly48 rfl eX12_house_147 ?_
      refine j_iload_n eX12_house_150 rfl ?_
      refine r_iret rfl eX12_house_151 ?_
      have w := tk_no (L := L) (a := τ 48 17) (by omega)
      rw [w.2] at hG
      have hG : ((-1 : Int), ((0, [], false, ps, bs) : Rst)) = G := hG
      rw [← hG]
      refine Or.inr ⟨rfl, rfl, hd.of (fun j x y => h142.2.1 j x y), rfl, h142.2.2.2.2.1, h142.2.2.2.2.2.1, h142.2.2.2.2.2.2.1, h142.2.2.2.2.2.2.2, h142.2.2.1.1, h142.2.2.1.2, fun k hk => ?_⟩
      rw [up_ne (by omega), h142.1 k (by omega) (by omega) (by omega), hf.1 k (by omega) (by omega) (by omega) (by omega) (by omega)]
    · refine j_aload_n eX12_house_43 rfl ?_
      refine j_bipush 112 eX12_house_44 (by decide) ?_
      refine j_cV1 zX12_isKind lkX12_102 ⟨Nat.le_of_ble_eq_true rfl, Nat.le_of_ble_eq_true rfl⟩ ly48 rfl rfl (c_X12_isKind (L := L) (by exact hR) (by exact hO) (by omega) (by decide)) (Nat.le_of_ble_eq_true rfl) eX12_house_46 (k_B (fun h46 => ?_) (fun h46 => ?_))
      · refine j_ifeq_1 eX12_house_49 ?_
        refine j_aload_n eX12_house_52 rfl ?_
        refine j_cV0 zX12_polynomial lkX12_116 ⟨Nat.le_of_ble_eq_true rfl, Nat.le_of_ble_eq_true rfl⟩ ly48 rfl rfl (c_X12_polynomial (L := L) (ps := ps) (bs := bs) (len := σ 48 12) (by exact hR) (by exact hO) (by omega) (by exact h46) (by exact hd)) (Nat.le_of_ble_eq_true rfl) eX12_house_53 (k_I (fun v53 σ53 h53 => ?_))
        have b53 := h53.2.2
        have c53 := h53.2.1
        refine j_goto eX12_house_56 ?_
        refine j_istore_n eX12_house_80 (Nat.le_of_ble_eq_true rfl) ?_
        refine j_iload_n eX12_house_81 rfl ?_
        refine j_if_eq eX12_house_82 (by rcases h53.2.2 with h | h <;> omega) (fun h82 => ?_) (fun h82 => ?_)
        · have c53 := h53.2.1
          have gp : G.1 = plc (σ 48 12) L (σ53 48 17) := by
            rw [← hG]
            exact (h53.2.2.resolve_left (fun z => by have := z.1; omega)).2
          refine jv_lv ?_ (f_X12_house (S := σ53) (i := (ps.length : Int) + (bs.length : Int)) (L := L) (len := σ 48 12) (hR.Q h53.1) hO (by omega) ((hf.Q h53.1).2 12 (by decide) (by decide) (by decide)) (Or.inl ⟨?_, ?_, (hf.Q h53.1)⟩))
          · exact lvC rfl (lvC rfl (lv0))
          · rw [gp]
            have := plc_b (len := σ 48 12) (a := σ53 48 17) hO hT.1
            omega
          · rw [gp]
        · refine j_aload_n eX12_house_85 rfl ?_
          refine j_bipush 59 eX12_house_86 (by decide) ?_
          refine j_cV1 zX12_isKind lkX12_102 ⟨Nat.le_of_ble_eq_true rfl, Nat.le_of_ble_eq_true rfl⟩ ly48 rfl rfl (c_X12_isKind (L := L) (by first | exact hR.Q h53.1 | exact hR.Q h69.1 | exact hR) (by exact hO) (by omega) (by decide)) (Nat.le_of_ble_eq_true rfl) eX12_house_88 (k_B (fun h88 => ?_) (fun h88 => ?_))
          · refine j_ifne_1 eX12_house_91 ?_
            refine j_aload_n eX12_house_125 rfl ?_
            refine j_dup rfl eX12_house_126 ?_
            refine j_getI flX12_99 ly48 rfl eX12_house_127 ?_
            refine j_iconst 1 eX12_house_130 ?_
            refine j_iadd eX12_house_131 ?_
            refine j_putI fpX12_99 ly48 rfl eX12_house_132 ?_
            refine j_iinc eX12_house_135 rfl (Nat.le_of_ble_eq_true rfl) ?_
            refine j_goto eX12_house_138 ?_
            have e16 := hR.1
            have l1 := hO.1
            have c53 := h53.2.1
            obtain ⟨_, ns, n1, n2, n3, n4, n5⟩ := h53.2.2.resolve_right (fun z => by have := z.1; omega)
            have k88 : σ53 48 17 < (L.length : Int) := by
              obtain ⟨z, z1, z2⟩ := id h88
              exact ((hR.Q h53.1).q h53.2.1.1 z1).2
            have el : (((ps ++ [ns]).length : Nat) : Int) + (bs.length : Int) = (ps.length : Int) + (bs.length : Int) + 1 := by
              rw [List.length_append]
              show ((ps.length + 1 : Nat) : Int) + _ = _
              omega
            have e := ih (up σ53 48 17 (σ53 48 17 + 1)) (ps ++ [ns]) bs (show (L.length : Int) - (σ53 48 17 + 1) < t by omega) (show 0 ≤ σ53 48 17 + 1 ∧ σ53 48 17 + 1 ≤ (L.length : Int) by omega) ((hf.Q h53.1).U (by decide)) (hR.Q (h53.1.U (by decide))) n5 ((cl_p h53.2.1.1 h88 n1.1).symm.trans (n3.symm.trans hG))
            rw [el] at e
            refine jv_lv ?_ e
            exact lvC rfl (lvC rfl (lv0))
          · refine j_ifne_0 eX12_house_91 ?_
            have c53 := h53.2.1
            obtain ⟨_, ns, n1, n2, n3, n4, n5⟩ := h53.2.2.resolve_right (fun z => by have := z.1; omega)
            have gp : G.1 = plc (σ 48 12) L (σ53 48 17) := by
              rw [← hG, n3]
              exact cl_p0 h53.2.1.1 h88 (n2.resolve_right h88)
            refine jv_lv ?_ (f_X12_house (S := σ53) (i := (ps.length : Int) + (bs.length : Int)) (L := L) (len := σ 48 12) (hR.Q h53.1) hO (by omega) ((hf.Q h53.1).2 12 (by decide) (by decide) (by decide)) (Or.inl ⟨?_, ?_, (hf.Q h53.1)⟩))
            · exact lvC rfl (lvC rfl (lv0))
            · rw [gp]
              have := plc_b (len := σ 48 12) (a := σ53 48 17) hO hT.1
              omega
            · rw [gp]
      · refine j_ifeq_0 eX12_house_49 ?_
        refine j_aload_n eX12_house_59 rfl ?_
        refine j_bipush 98 eX12_house_60 (by decide) ?_
        refine j_cV1 zX12_isKind lkX12_102 ⟨Nat.le_of_ble_eq_true rfl, Nat.le_of_ble_eq_true rfl⟩ ly48 rfl rfl (c_X12_isKind (L := L) (by exact hR) (by exact hO) (by omega) (by decide)) (Nat.le_of_ble_eq_true rfl) eX12_house_62 (k_B (fun h62 => ?_) (fun h62 => ?_))
        · refine j_ifeq_1 eX12_house_65 ?_
          refine j_aload_n eX12_house_68 rfl ?_
          refine j_cV0 zX12_boxTold lkX12_120 ⟨Nat.le_of_ble_eq_true rfl, Nat.le_of_ble_eq_true rfl⟩ ly48 rfl rfl (c_X12_boxTold (L := L) (ps := ps) (bs := bs) (len := σ 48 12) (by exact hR) (by exact hO) (by omega) (by exact h62) (by exact hd)) (Nat.le_of_ble_eq_true rfl) eX12_house_69 (k_I (fun v69 σ69 h69 => ?_))
          have c69 := h69.2.1
          refine j_if_eq eX12_house_72 (by rcases h69.2.2 with h | h <;> omega) (fun h72 => ?_) (fun h72 => ?_)
          · refine j_iconst 0 eX12_house_79 ?_
            refine j_istore_n eX12_house_80 (Nat.le_of_ble_eq_true rfl) ?_
            refine j_iload_n eX12_house_81 rfl ?_
            refine j_ifeq_0 eX12_house_82 ?_
            have c69 := h69.2.1
            have gp : G.1 = plc (σ 48 12) L (σ69 48 17) := by
              rw [← hG]
              exact (h69.2.2.resolve_left (fun z => by have := z.1; omega)).2
            refine jv_lv ?_ (f_X12_house (S := σ69) (i := (ps.length : Int) + (bs.length : Int)) (L := L) (len := σ 48 12) (hR.Q h69.1) hO (by omega) ((hf.Q h69.1).2 12 (by decide) (by decide) (by decide)) (Or.inl ⟨?_, ?_, (hf.Q h69.1)⟩))
            · exact lvC rfl (lvC rfl (lv0))
            · rw [gp]
              have := plc_b (len := σ 48 12) (a := σ69 48 17) hO hT.1
              omega
            · rw [gp]
          · refine j_iconst 1 eX12_house_75 ?_
            refine j_goto eX12_house_76 ?_
            refine j_istore_n eX12_house_80 (Nat.le_of_ble_eq_true rfl) ?_
            refine j_iload_n eX12_house_81 rfl ?_
            refine j_ifeq_1 eX12_house_82 ?_
            refine j_aload_n eX12_house_85 rfl ?_
            refine j_bipush 59 eX12_house_86 (by decide) ?_
            refine j_cV1 zX12_isKind lkX12_102 ⟨Nat.le_of_ble_eq_true rfl, Nat.le_of_ble_eq_true rfl⟩ ly48 rfl rfl (c_X12_isKind (L := L) (by first | exact hR.Q h53.1 | exact hR.Q h69.1 | exact hR) (by exact hO) (by omega) (by decide)) (Nat.le_of_ble_eq_true rfl) eX12_house_88 (k_B (fun h88 => ?_) (fun h88 => ?_))
            · refine j_ifne_1 eX12_house_91 ?_
              refine j_aload_n eX12_house_125 rfl ?_
              refine j_dup rfl eX12_house_126 ?_
              refine j_getI flX12_99 ly48 rfl eX12_house_127 ?_
              refine j_iconst 1 eX12_house_130 ?_
              refine j_iadd eX12_house_131 ?_
              refine j_putI fpX12_99 ly48 rfl eX12_house_132 ?_
              refine j_iinc eX12_house_135 rfl (Nat.le_of_ble_eq_true rfl) ?_
              refine j_goto eX12_house_138 ?_
              have e16 := hR.1
              have l1 := hO.1
              have c69 := h69.2.1
              obtain ⟨_, x, y, n3, n4, n5⟩ := h69.2.2.resolve_right (fun z => by have := z.1; omega)
              have k88 : σ69 48 17 < (L.length : Int) := by
                obtain ⟨z, z1, z2⟩ := id h88
                exact ((hR.Q h69.1).q h69.2.1.1 z1).2
              have el : (ps.length : Int) + (((bs ++ [(x, y)]).length : Nat) : Int) = (ps.length : Int) + (bs.length : Int) + 1 := by
                rw [List.length_append]
                show _ + ((bs.length + 1 : Nat) : Int) = _
                omega
              have e := ih (up σ69 48 17 (σ69 48 17 + 1)) ps (bs ++ [(x, y)]) (show (L.length : Int) - (σ69 48 17 + 1) < t by omega) (show 0 ≤ σ69 48 17 + 1 ∧ σ69 48 17 + 1 ≤ (L.length : Int) by omega) ((hf.Q h69.1).U (by decide)) (hR.Q (h69.1.U (by decide))) n5 ((cl_b h69.2.1.1 h88).symm.trans (n3.symm.trans hG))
              rw [el] at e
              refine jv_lv ?_ e
              exact lvC rfl (lvC rfl (lv0))
            · refine j_ifne_0 eX12_house_91 ?_
              have c69 := h69.2.1
              obtain ⟨_, x, y, n3, n4, n5⟩ := h69.2.2.resolve_right (fun z => by have := z.1; omega)
              have gp : G.1 = plc (σ 48 12) L (σ69 48 17) := by
                rw [← hG, n3]
                exact cl_b0 h69.2.1.1 h88
              refine jv_lv ?_ (f_X12_house (S := σ69) (i := (ps.length : Int) + (bs.length : Int)) (L := L) (len := σ 48 12) (hR.Q h69.1) hO (by omega) ((hf.Q h69.1).2 12 (by decide) (by decide) (by decide)) (Or.inl ⟨?_, ?_, (hf.Q h69.1)⟩))
              · exact lvC rfl (lvC rfl (lv0))
              · rw [gp]
                have := plc_b (len := σ 48 12) (a := σ69 48 17) hO hT.1
                omega
              · rw [gp]
        · refine j_ifeq_0 eX12_house_65 ?_
          refine j_iconst 0 eX12_house_79 ?_
          refine j_istore_n eX12_house_80 (Nat.le_of_ble_eq_true rfl) ?_
          refine j_iload_n eX12_house_81 rfl ?_
          refine j_ifeq_0 eX12_house_82 ?_
          have gp : G.1 = plc (σ 48 12) L (τ 48 17) := by
            rw [← hG]
            exact op_n ha.1 (by omega) (fun z => absurd z h46) (fun z => absurd z h62)
          refine jv_lv ?_ (f_X12_house (S := τ) (i := (ps.length : Int) + (bs.length : Int)) (L := L) (len := σ 48 12) (hR) hO (by omega) (hf.2 12 (by decide) (by decide) (by decide)) (Or.inl ⟨?_, ?_, hf⟩))
          · exact lvC rfl (lvC rfl (lv0))
          · rw [gp]
            have := plc_b (len := σ 48 12) (a := τ 48 17) hO hT.1
            omega
          · rw [gp]
theorem c_X12_house {g : Gl} {σ : Sg} (hT : 0 ≤ σ 48 12 ∧ σ 48 12 ≤ 120) (hL : ∀ i, 0 ≤ i → i < σ 48 12 → 0 ≤ σ 56 i ∧ σ 56 i ≤ 255) : Ct g mX12_house [vr g 48] σ (PI (fun v σ' => ((rdC (σ 56) (σ 48 12) (σ 48 12).toNat 0 (0, [], false, [], [])).1 ≠ -1 ∧ v = -10 - (rdC (σ 56) (σ 48 12) (σ 48 12).toNat 0 (0, [], false, [], [])).1 ∧ frP σ σ') ∨ ((rdC (σ 56) (σ 48 12) (σ 48 12).toNat 0 (0, [], false, [], [])).1 = -1 ∧ v = ((rdC (σ 56) (σ 48 12) (σ 48 12).toNat 0 (0, [], false, [], [])).2.2.2.2.1.length : Int) + (rdC (σ 56) (σ 48 12) (σ 48 12).toNat 0 (0, [], false, [], [])).2.2.2.2.2.length ∧ HsM σ σ' (rdC (σ 56) (σ 48 12) (σ 48 12).toNat 0 (0, [], false, [], [])).2))) := by
  refine Ct.of (by decide +kernel) (Nat.le_of_ble_eq_true rfl) ?_
  show jv g _ _ σ [(0, vr g 48)] 0 []
  refine j_aload_n eX12_house_0 rfl ?_
  refine j_cV0 zX12_split lkX12_113 ⟨Nat.le_of_ble_eq_true rfl, Nat.le_of_ble_eq_true rfl⟩ ly48 rfl rfl (c_X12_split (by exact hT) (by exact hL)) (Nat.le_of_ble_eq_true rfl) eX12_house_1 (k_V (fun σ1 h1 => ?_))
  refine j_iconst 0 eX12_house_4 ?_
  refine j_istore_n eX12_house_5 (Nat.le_of_ble_eq_true rfl) ?_
  refine jv_lv ?_ (z_X12_house (S := σ1) (fun τ e1 e2 => ?_) 34 0 σ1 (by decide) (by decide) (fun c _ => rfl) (fun j x y => by omega))
  · exact lvC rfl (lvC rfl (lv0))
  · refine j_aload_n eX12_house_25 rfl ?_
    refine j_iconst 0 eX12_house_26 ?_
    refine j_putI fpX12_99 ly48 rfl eX12_house_27 ?_
    refine j_iconst 0 eX12_house_30 ?_
    refine j_istore_n eX12_house_31 (Nat.le_of_ble_eq_true rfl) ?_
    have hO : LO (toks (σ 56) (σ 48 12) (σ 48 12).toNat 0) := by
      have w := toks_O hL (σ 48 12).toNat 0 (by decide) (by omega)
      exact ⟨by omega, w.2⟩
    have c48 : τ 48 = σ1 48 := e1 48 (by decide)
    have R1 : RT (up τ 48 17 0) (toks (σ 56) (σ 48 12) (σ 48 12).toNat 0) := by
      unfold RT
      show τ 48 16 = _ ∧ ∀ (i : Nat) (q : Tk), _ → τ 58 i = _ ∧ τ 57 i = _ ∧ (_ → τ 59 i = _)
      rw [c48, e1 57 (by decide), e1 58 (by decide), e1 59 (by decide)]
      exact h1.2
    have f1 : frP σ (up τ 48 17 0) := by
      refine ⟨fun k a b c d e => ?_, fun j a b c => ?_⟩
      · rw [up_ne a, e1 k b]
        exact h1.1.1 k a b c d e
      · rw [up_same, up1_ne b, c48]
        exact h1.1.2 j a b c
    have A1 : AD ((up τ 48 17 0) 50) [] [] := ⟨e2 0 (by decide) (by decide), e2 1 (by decide) (by decide), fun q l z => by simp at z, fun q l z => by simp at z, fun j x y => e2 j (by omega) y, by decide, fun l z => by cases z⟩
    rw [rdC_L]
    refine jv_lv ?_ (l_X12_house hT hO ((toks (σ 56) (σ 48 12) (σ 48 12).toNat 0).length + 1) (up τ 48 17 0) [] [] (show ((toks (σ 56) (σ 48 12) (σ 48 12).toNat 0).length : Int) - 0 < (((toks (σ 56) (σ 48 12) (σ 48 12).toNat 0).length + 1 : Nat) : Int) by omega) (show 0 ≤ (0 : Int) ∧ (0 : Int) ≤ ((toks (σ 56) (σ 48 12) (σ 48 12).toNat 0).length : Int) by omega) f1 R1 A1 rfl)
    exact lvC rfl (lvC rfl (lv0))
