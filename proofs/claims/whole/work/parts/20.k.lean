theorem jv_top {g : Gl} {y : Mt} {F : Ex} {σ : Sg} {lv : List (Nat × Value)} {pc : Nat} {st : List Value} {a b : Int} (h : a = b) (k : jv g y F σ lv pc (vi b :: st)) : jv g y F σ lv pc (vi a :: st) := h ▸ k
/-! a number's way through the reader -/
theorem lat_in {T : Int → Int} {len i : Int} (h : 0 ≤ i ∧ i < len) : lat T len i = T i := if_pos h
theorem AR.num {σ : Sg} {S : Rst} (h : AR σ S) (w : WF S) (h1 : S.1 = 1) : (1 ≤ σ 18 0 ∧ σ 18 0 ≤ 3) ∧ 0 ≤ σ 19 (σ 18 0 - 1) ∧ σ 19 (σ 18 0 - 1) = S.2.1.length ∧ σ 34 2 = S.2.1.length := by
  obtain ⟨it, ns, ng, ps, bs⟩ := S
  simp only at h1
  subst h1
  obtain ⟨a1, a2, a3, a4, a5, a6, a7, a8⟩ := h
  have e1 : aP (1, ns, ng, ps, bs) = ps ++ [ns] := rfl
  have w2 := w.2.1
  rw [e1] at a5 a7 w2
  rw [List.length_append] at a5 w2
  have a5' : σ 18 0 = (ps.length : Int) + 1 := a5
  have w2' : ps.length + 1 ≤ 3 := w2
  have nz := a7 ps.length ns (by rw [List.getElem?_append_right (Nat.le_refl _), Nat.sub_self]; rfl)
  have e2 : σ 18 0 - 1 = (ps.length : Int) := by omega
  rw [e2, nz.1]
  exact ⟨by omega, by omega, rfl, (a3 (show (1 : Int) ≠ 0 by decide)).1⟩
theorem AR.box {σ : Sg} {S : Rst} (h : AR σ S) (w : WF S) (h1 : S.1 = 2) (hl : S.2.1.length < 2) : (0 ≤ σ 18 1 ∧ σ 18 1 < 3) ∧ σ 34 2 = S.2.1.length ∧ (S.2.1.length = 1 → -5 ≤ σ 34 4 ∧ σ 34 4 ≤ 5 ∧ S.2.1[0]? = some (σ 34 4)) := by
  obtain ⟨it, ns, ng, ps, bs⟩ := S
  simp only at h1 hl
  subst h1
  obtain ⟨a1, a2, a3, a4, a5, a6, a7, a8⟩ := h
  have e3 : aB (2, ns, ng, ps, bs) = bs := if_neg (fun z => by have : ns.length = 2 := z.2; omega)
  rw [e3] at a6
  have w4 := w.2.2.2.1 rfl
  simp only at w4
  refine ⟨by omega, (a3 (show (2 : Int) ≠ 0 by decide)).1, fun z => ?_⟩
  obtain ⟨y, hy⟩ : ∃ y, ns = [y] := List.length_eq_one_iff.mp z
  subst hy
  have b5 : σ 34 4 = y := a4 rfl y rfl
  have w9 := w.2.2.2.2.2.2.2.2.1 rfl y (List.mem_singleton.mpr rfl)
  rw [b5]
  exact ⟨w9.1, w9.2, rfl⟩
theorem c_X9_takesSign {g : Gl} {σ : Sg} {a : Int} {S : Rst} (hA : AR σ S) (hW : WF S) (ha : -2147483648 ≤ a ∧ a ≤ 2147483647) : Ct g mX9_takesSign [vr g 34, vi a] σ (PI (TkQ σ S (if a = 112 ∨ a = 98 ∨ a = 45 ∨ a = 59 then a else 2) 0)) := by
  refine Ct.of (by decide +kernel) (Nat.le_of_ble_eq_true rfl) ?_
  show jv g _ _ σ [(0, vr g 34), (1, vi a)] 0 []
  refine j_iload_n eX9_takesSign_0 rfl ?_
  rcases (show a = 45 ∨ a = 59 ∨ a = 98 ∨ a = 112 ∨ (¬ a = 45 ∧ ¬ a = 59 ∧ ¬ a = 98 ∧ ¬ a = 112) by omega) with s1 | s1 | s1 | s1 | s1
  · refine j_lsw eX9_takesSign_1.1 rfl (by omega) (off := 53) (tgt := 54) (by rw [s1]; rfl) (by decide) ?_
    refine j_aload_n eX9_takesSign_54 rfl ?_
    refine j_cV0 zX9_takesMinus lkX9_56 ⟨Nat.le_of_ble_eq_true rfl, Nat.le_of_ble_eq_true rfl⟩ ly34 rfl rfl (c_X9_takesMinus (by exact hA) (by exact hW)) (Nat.le_of_ble_eq_true rfl) eX9_takesSign_55 (k_I (fun v55 σ55 h55 => ?_))
    refine r_zret (by rcases h55.2 with h | h <;> omega) rfl eX9_takesSign_58 ?_
    rw [if_pos (by omega), s1]
    exact h55
  · refine j_lsw eX9_takesSign_1.1 rfl (by omega) (off := 58) (tgt := 59) (by rw [s1]; rfl) (by decide) ?_
    refine j_aload_n eX9_takesSign_59 rfl ?_
    refine j_cV0 zX9_closes lkX9_59 ⟨Nat.le_of_ble_eq_true rfl, Nat.le_of_ble_eq_true rfl⟩ ly34 rfl rfl (c_X9_closes (by exact hA) (by exact hW)) (Nat.le_of_ble_eq_true rfl) eX9_takesSign_60 (k_I (fun v60 σ60 h60 => ?_))
    refine r_zret (by rcases h60.2 with h | h <;> omega) rfl eX9_takesSign_63 ?_
    rw [if_pos (by omega), s1]
    exact h60
  · refine j_lsw eX9_takesSign_1.1 rfl (by omega) (off := 48) (tgt := 49) (by rw [s1]; rfl) (by decide) ?_
    refine j_aload_n eX9_takesSign_49 rfl ?_
    refine j_cV0 zX9_opensBox lkX9_53 ⟨Nat.le_of_ble_eq_true rfl, Nat.le_of_ble_eq_true rfl⟩ ly34 rfl rfl (c_X9_opensBox (by exact hA) (by exact hW)) (Nat.le_of_ble_eq_true rfl) eX9_takesSign_50 (k_I (fun v50 σ50 h50 => ?_))
    refine r_zret (by rcases h50.2 with h | h <;> omega) rfl eX9_takesSign_53 ?_
    rw [if_pos (by omega), s1]
    exact h50
  · refine j_lsw eX9_takesSign_1.1 rfl (by omega) (off := 43) (tgt := 44) (by rw [s1]; rfl) (by decide) ?_
    refine j_aload_n eX9_takesSign_44 rfl ?_
    refine j_cV0 zX9_opensPolynomial lkX9_49 ⟨Nat.le_of_ble_eq_true rfl, Nat.le_of_ble_eq_true rfl⟩ ly34 rfl rfl (c_X9_opensPolynomial (by exact hA) (by exact hW)) (Nat.le_of_ble_eq_true rfl) eX9_takesSign_45 (k_I (fun v45 σ45 h45 => ?_))
    refine r_zret (by rcases h45.2 with h | h <;> omega) rfl eX9_takesSign_48 ?_
    rw [if_pos (by omega), s1]
    exact h45
  · refine j_lsw eX9_takesSign_1.1 rfl (by omega) (off := 63) (tgt := 64) (by show Op.lookupswitch.offset [(45, 53), (59, 58), (98, 48), (112, 43)] 63 _ = 63; rw [Op.lookupswitch.offset_cons, if_neg (by omega)]; rw [Op.lookupswitch.offset_cons, if_neg (by omega)]; rw [Op.lookupswitch.offset_cons, if_neg (by omega)]; rw [Op.lookupswitch.offset_cons, if_neg (by omega)]; rfl) (by decide) ?_
    refine j_iconst 0 eX9_takesSign_64 ?_
    refine r_zret (by decide) rfl eX9_takesSign_65 ?_
    rw [if_neg (by omega)]
    exact ⟨fun k _ _ => rfl, Or.inr ⟨rfl, stp_i _ _, hA.2.1⟩⟩
theorem q_X9_takesNumber {g : Gl} {σ : Sg} {S : Rst} {n : Int} (hA : AR σ S) (hW : WF S) (hn : 0 ≤ n ∧ n ≤ 99) : jv g mX9_takesNumber (Fm g (PI (TkQ σ S 1 n))) σ [(0, vr g 34), (3, vi n)] 56 [] := by
  have i1 := hA.1
  have rr := hA.2.1
  have i3 := hA.2.2.1
  have w1 := hW.1
  have w5 := hW.2.2.2.2.1
  have w6 := hW.2.2.2.2.2.1
  refine j_aload_n eX9_takesNumber_56 rfl ?_
  refine j_cV0 zX9_hasRoom lkX9_82 ⟨Nat.le_of_ble_eq_true rfl, Nat.le_of_ble_eq_true rfl⟩ ly34 rfl rfl (c_X9_hasRoom (by omega)) (Nat.le_of_ble_eq_true rfl) eX9_takesNumber_57 (k_B (fun h57 => ?_) (fun h57 => ?_))
  · refine j_ifne_1 eX9_takesNumber_60 ?_
    have z3 := i3 (by omega)
    have rm : room S.1 S.2.1.length := by unfold room; omega
    refine j_aload_n eX9_takesNumber_65 rfl ?_
    refine j_getI flX9_78 ly34 rfl eX9_takesNumber_66 ?_
    refine j_if_eq eX9_takesNumber_69 (by omega) (fun h69 => ?_) (fun h69 => ?_)
    · refine j_iload_n eX9_takesNumber_77 rfl ?_
      obtain ⟨x, hxx, exx, hxb⟩ : ∃ x, n = x ∧ x = (if S.2.2.1 = true then -n else n) ∧ -99 ≤ x ∧ x ≤ 99 := ⟨_, rfl, (if_neg (fun y => by have := z3.2.mpr y; omega)).symm, by omega, by omega⟩
      refine jv_top hxx ?_
      refine j_istore eX9_takesNumber_78 (Nat.le_of_ble_eq_true rfl) ?_
      refine j_aload_n eX9_takesNumber_80 rfl ?_
      refine j_iconst 0 eX9_takesNumber_81 ?_
      refine j_putZ (by omega) fpX9_78 ly34 rfl eX9_takesNumber_82 ?_
      refine j_aload_n eX9_takesNumber_85 rfl ?_
      refine j_dup rfl eX9_takesNumber_86 ?_
      refine j_getI flX9_75 ly34 rfl eX9_takesNumber_87 ?_
      refine j_iconst 1 eX9_takesNumber_90 ?_
      refine j_iadd eX9_takesNumber_91 ?_
      refine j_putI fpX9_75 ly34 rfl eX9_takesNumber_92 ?_
      show jv g _ _ (up (up σ 34 3 0) 34 2 (σ 34 2 + 1)) _ _ _
      refine j_aload_n eX9_takesNumber_95 rfl ?_
      refine j_getI flX9_21 ly34 rfl eX9_takesNumber_96 ?_
      show jv g _ _ (up (up σ 34 3 0) 34 2 (σ 34 2 + 1)) _ _ (vi (σ 34 1) :: _)
      refine j_iconst 1 eX9_takesNumber_99 ?_
      refine j_icmp_ne eX9_takesNumber_100 (by omega) (fun h100 => ?_) (fun h100 => ?_)
      · refine j_aload_n eX9_takesNumber_112 rfl ?_
        refine j_iload eX9_takesNumber_113 rfl ?_
        refine j_cV1 zX9_takesEnd lkX9_88 ⟨Nat.le_of_ble_eq_true rfl, Nat.le_of_ble_eq_true rfl⟩ ly34 rfl rfl (c_X9_takesEnd (by omega) (by have q := hA.box hW (by omega) (by unfold room at rm; omega); exact ⟨by show 0 ≤ σ 34 2 + 1; omega, by show σ 34 2 + 1 ≤ 6; unfold room at rm; omega⟩) (by intro y; have q := hA.box hW (by omega) (by unfold room at rm; omega); have y2 : σ 34 2 + 1 ≠ 1 := y; have q3 := q.2.2 (by unfold room at rm; omega); exact ⟨q3.1, q3.2.1, q.1⟩)) (Nat.le_of_ble_eq_true rfl) eX9_takesNumber_115 (k_I (fun v115 σ115 h115 => ?_))
        refine r_zret (by first | (rcases h106 with h | h <;> omega) | (rcases h115 with h | h | h <;> omega)) rfl eX9_takesNumber_118 ?_
        have cq := hA.box hW (by omega) (by unfold room at rm; omega)
        have n2 : (up (up σ 34 3 0) 34 2 (σ 34 2 + 1)) 34 2 = σ 34 2 + 1 := rfl
        have n4 : (up (up σ 34 3 0) 34 2 (σ 34 2 + 1)) 34 4 = σ 34 4 := rfl
        rcases h115 with ⟨o1, o2, rfl, rfl⟩ | ⟨o1, o2, o3, rfl, rfl⟩ | ⟨o1, rfl, rfl⟩
        · have Q := AR_n2a hA hW (by omega) (by omega) exx o1
          refine ⟨fun k h1 h2 => ?_, Or.inl ⟨rfl, _, Q⟩⟩
          rw [up_ne h2, up_ne h2, up_ne h2]
        · have Q := AR_n2b hA hW (by omega) (by unfold room at rm; omega) exx o1 (by omega)
          refine ⟨fun k h1 h2 => ?_, Or.inl ⟨rfl, _, Q⟩⟩
          rw [up_ne (by omega), up_ne (by omega), up_ne (by omega), up_ne h2, up_ne h2]
        · refine ⟨fun k h1 h2 => by rw [up_ne h2, up_ne h2], Or.inr ⟨rfl, stp_n_no exx (Or.inr (Or.inr ⟨by omega, fun y => ?_⟩)), Or.inl rfl, by show 0 ≤ σ 34 2 + 1; omega, by show σ 34 2 + 1 ≤ 6; unfold room at rm; omega⟩⟩
          unfold oke at y
          rcases o1 with o1 | o1
          · exact o1 y.1
          · have q3 := cq.2.2 (by unfold room at rm; omega)
            have := y.2 _ q3.2.2
            omega
      · refine j_aload_n eX9_takesNumber_103 rfl ?_
        refine j_iload eX9_takesNumber_104 rfl ?_
        refine j_cV1 zX9_takesCoefficient lkX9_85 ⟨Nat.le_of_ble_eq_true rfl, Nat.le_of_ble_eq_true rfl⟩ ly34 rfl rfl (c_X9_takesCoefficient (by omega) (by exact (hA.num hW (by omega)).1) (by have q := hA.num hW (by omega); unfold room at rm; exact ⟨q.2.1, by show σ 19 (σ 18 0 - 1) < 6; omega⟩)) (Nat.le_of_ble_eq_true rfl) eX9_takesNumber_106 (k_I (fun v106 σ106 h106 => ?_))
        refine j_goto eX9_takesNumber_109 ?_
        refine r_zret (by first | (rcases h106 with h | h <;> omega) | (rcases h115 with h | h | h <;> omega)) rfl eX9_takesNumber_118 ?_
        have cq := hA.num hW (by omega)
        rcases h106 with ⟨o1, rfl, rfl⟩ | ⟨o1, rfl, rfl⟩
        · have Q := AR_n1 hA hW (by omega) (by unfold room at rm; omega) exx o1
          have e1 : S.1 = 1 := by omega
          refine ⟨fun k h1 h2 => ?_, Or.inl ⟨rfl, _, Q⟩⟩
          rw [up_ne (by omega), up_ne (by omega), up_ne h2, up_ne h2]
        · exact ⟨fun k h1 h2 => by rw [up_ne h2, up_ne h2], Or.inr ⟨rfl, stp_n_no exx (Or.inr (Or.inl ⟨by omega, o1⟩)), Or.inl rfl, by show 0 ≤ σ 34 2 + 1; omega, by show σ 34 2 + 1 ≤ 6; unfold room at rm; omega⟩⟩
    · refine j_iload_n eX9_takesNumber_72 rfl ?_
      refine j_ineg eX9_takesNumber_73 ?_
      refine j_goto eX9_takesNumber_74 ?_
      obtain ⟨x, hxx, exx, hxb⟩ : ∃ x, -n = x ∧ x = (if S.2.2.1 = true then -n else n) ∧ -99 ≤ x ∧ x ≤ 99 := ⟨_, rfl, (if_pos (z3.2.mp (by omega))).symm, by omega, by omega⟩
      refine jv_top hxx ?_
      refine j_istore eX9_takesNumber_78 (Nat.le_of_ble_eq_true rfl) ?_
      refine j_aload_n eX9_takesNumber_80 rfl ?_
      refine j_iconst 0 eX9_takesNumber_81 ?_
      refine j_putZ (by omega) fpX9_78 ly34 rfl eX9_takesNumber_82 ?_
      refine j_aload_n eX9_takesNumber_85 rfl ?_
      refine j_dup rfl eX9_takesNumber_86 ?_
      refine j_getI flX9_75 ly34 rfl eX9_takesNumber_87 ?_
      refine j_iconst 1 eX9_takesNumber_90 ?_
      refine j_iadd eX9_takesNumber_91 ?_
      refine j_putI fpX9_75 ly34 rfl eX9_takesNumber_92 ?_
      show jv g _ _ (up (up σ 34 3 0) 34 2 (σ 34 2 + 1)) _ _ _
      refine j_aload_n eX9_takesNumber_95 rfl ?_
      refine j_getI flX9_21 ly34 rfl eX9_takesNumber_96 ?_
      show jv g _ _ (up (up σ 34 3 0) 34 2 (σ 34 2 + 1)) _ _ (vi (σ 34 1) :: _)
      refine j_iconst 1 eX9_takesNumber_99 ?_
      refine j_icmp_ne eX9_takesNumber_100 (by omega) (fun h100 => ?_) (fun h100 => ?_)
      · refine j_aload_n eX9_takesNumber_112 rfl ?_
        refine j_iload eX9_takesNumber_113 rfl ?_
        refine j_cV1 zX9_takesEnd lkX9_88 ⟨Nat.le_of_ble_eq_true rfl, Nat.le_of_ble_eq_true rfl⟩ ly34 rfl rfl (c_X9_takesEnd (by omega) (by have q := hA.box hW (by omega) (by unfold room at rm; omega); exact ⟨by show 0 ≤ σ 34 2 + 1; omega, by show σ 34 2 + 1 ≤ 6; unfold room at rm; omega⟩) (by intro y; have q := hA.box hW (by omega) (by unfold room at rm; omega); have y2 : σ 34 2 + 1 ≠ 1 := y; have q3 := q.2.2 (by unfold room at rm; omega); exact ⟨q3.1, q3.2.1, q.1⟩)) (Nat.le_of_ble_eq_true rfl) eX9_takesNumber_115 (k_I (fun v115 σ115 h115 => ?_))
        refine r_zret (by first | (rcases h106 with h | h <;> omega) | (rcases h115 with h | h | h <;> omega)) rfl eX9_takesNumber_118 ?_
        have cq := hA.box hW (by omega) (by unfold room at rm; omega)
        have n2 : (up (up σ 34 3 0) 34 2 (σ 34 2 + 1)) 34 2 = σ 34 2 + 1 := rfl
        have n4 : (up (up σ 34 3 0) 34 2 (σ 34 2 + 1)) 34 4 = σ 34 4 := rfl
        rcases h115 with ⟨o1, o2, rfl, rfl⟩ | ⟨o1, o2, o3, rfl, rfl⟩ | ⟨o1, rfl, rfl⟩
        · have Q := AR_n2a hA hW (by omega) (by omega) exx o1
          refine ⟨fun k h1 h2 => ?_, Or.inl ⟨rfl, _, Q⟩⟩
          rw [up_ne h2, up_ne h2, up_ne h2]
        · have Q := AR_n2b hA hW (by omega) (by unfold room at rm; omega) exx o1 (by omega)
          refine ⟨fun k h1 h2 => ?_, Or.inl ⟨rfl, _, Q⟩⟩
          rw [up_ne (by omega), up_ne (by omega), up_ne (by omega), up_ne h2, up_ne h2]
        · refine ⟨fun k h1 h2 => by rw [up_ne h2, up_ne h2], Or.inr ⟨rfl, stp_n_no exx (Or.inr (Or.inr ⟨by omega, fun y => ?_⟩)), Or.inl rfl, by show 0 ≤ σ 34 2 + 1; omega, by show σ 34 2 + 1 ≤ 6; unfold room at rm; omega⟩⟩
          unfold oke at y
          rcases o1 with o1 | o1
          · exact o1 y.1
          · have q3 := cq.2.2 (by unfold room at rm; omega)
            have := y.2 _ q3.2.2
            omega
      · refine j_aload_n eX9_takesNumber_103 rfl ?_
        refine j_iload eX9_takesNumber_104 rfl ?_
        refine j_cV1 zX9_takesCoefficient lkX9_85 ⟨Nat.le_of_ble_eq_true rfl, Nat.le_of_ble_eq_true rfl⟩ ly34 rfl rfl (c_X9_takesCoefficient (by omega) (by exact (hA.num hW (by omega)).1) (by have q := hA.num hW (by omega); unfold room at rm; exact ⟨q.2.1, by show σ 19 (σ 18 0 - 1) < 6; omega⟩)) (Nat.le_of_ble_eq_true rfl) eX9_takesNumber_106 (k_I (fun v106 σ106 h106 => ?_))
        refine j_goto eX9_takesNumber_109 ?_
        refine r_zret (by first | (rcases h106 with h | h <;> omega) | (rcases h115 with h | h | h <;> omega)) rfl eX9_takesNumber_118 ?_
        have cq := hA.num hW (by omega)
        rcases h106 with ⟨o1, rfl, rfl⟩ | ⟨o1, rfl, rfl⟩
        · have Q := AR_n1 hA hW (by omega) (by unfold room at rm; omega) exx o1
          have e1 : S.1 = 1 := by omega
          refine ⟨fun k h1 h2 => ?_, Or.inl ⟨rfl, _, Q⟩⟩
          rw [up_ne (by omega), up_ne (by omega), up_ne h2, up_ne h2]
        · exact ⟨fun k h1 h2 => by rw [up_ne h2, up_ne h2], Or.inr ⟨rfl, stp_n_no exx (Or.inr (Or.inl ⟨by omega, o1⟩)), Or.inl rfl, by show 0 ≤ σ 34 2 + 1; omega, by show σ 34 2 + 1 ≤ 6; unfold room at rm; omega⟩⟩
  · refine j_ifne_0 eX9_takesNumber_60 ?_
    refine j_iconst 0 eX9_takesNumber_63 ?_
    refine r_zret (by decide) rfl eX9_takesNumber_64 ?_
    refine ⟨fun k _ _ => rfl, Or.inr ⟨rfl, stp_n_no rfl (Or.inl ?_), rr⟩⟩
    unfold room
    intro y
    have z3 := i3 (by omega)
    omega
theorem c_X9_takesNumber {g : Gl} {σ : Sg} {i : Int} {S : Rst} (hA : AR σ S) (hW : WF S) (hT : 0 ≤ σ 25 1 ∧ σ 25 1 ≤ 120) (hi : 0 ≤ i ∧ i < σ 25 1) (hL : ∀ j, 0 ≤ j → j < σ 25 1 → 0 ≤ σ 26 j ∧ σ 26 j ≤ 255) (hd : 48 ≤ σ 26 i ∧ σ 26 i ≤ 57) : Ct g mX9_takesNumber [vr g 34, vr g 25, vi i] σ (PI (TkQ σ S (ntk (σ 26) (σ 25 1) i).1 (ntk (σ 26) (σ 25 1) i).2)) := by
  refine Ct.of (by decide +kernel) (Nat.le_of_ble_eq_true rfl) ?_
  show jv g _ _ σ [(0, vr g 34), (1, vr g 25), (2, vi i)] 0 []
  have lb : ∀ j, -9 ≤ lat (σ 26) (σ 25 1) j ∧ lat (σ 26) (σ 25 1) j ≤ 255 := fun j => by
    unfold lat
    split
    · have := hL j (by omega) (by omega)
      omega
    · omega
  have l0 : lat (σ 26) (σ 25 1) i = σ 26 i := lat_in hi
  have l1 := lb (i + 1)
  have l2 := lb (i + 2)
  have l3 := lb i
  refine j_aload_n eX9_takesNumber_0 rfl ?_
  refine j_iload_n eX9_takesNumber_1 rfl ?_
  refine j_cV1 zX8_at lkX9_35 ⟨Nat.le_of_ble_eq_true rfl, Nat.le_of_ble_eq_true rfl⟩ ly25 rfl rfl (c_X8_at (by omega) (by exact hT)) (Nat.le_of_ble_eq_true rfl) eX9_takesNumber_2 (k_E ?_)
  show jv g _ _ σ _ _ (vi (lat (σ 26) (σ 25 1) i) :: _)
  refine j_bipush 48 eX9_takesNumber_5 (by decide) ?_
  refine j_isub eX9_takesNumber_7 ?_
  refine j_istore_n eX9_takesNumber_8 (Nat.le_of_ble_eq_true rfl) ?_
  refine j_aload_n eX9_takesNumber_9 rfl ?_
  refine j_iload_n eX9_takesNumber_10 rfl ?_
  refine j_iconst 1 eX9_takesNumber_11 ?_
  refine j_iadd eX9_takesNumber_12 ?_
  refine j_cV1 zX8_at lkX9_35 ⟨Nat.le_of_ble_eq_true rfl, Nat.le_of_ble_eq_true rfl⟩ ly25 rfl rfl (c_X8_at (by omega) (by exact hT)) (Nat.le_of_ble_eq_true rfl) eX9_takesNumber_13 (k_E ?_)
  show jv g _ _ σ _ _ (vi (lat (σ 26) (σ 25 1) (i + 1)) :: _)
  refine j_istore eX9_takesNumber_16 (Nat.le_of_ble_eq_true rfl) ?_
  refine j_iload eX9_takesNumber_18 rfl ?_
  refine j_cS1 zX9_isDigit lkX9_39 ⟨Nat.le_of_ble_eq_true rfl, Nat.le_of_ble_eq_true rfl⟩ (c_X9_isDigit (by omega)) (Nat.le_of_ble_eq_true rfl) eX9_takesNumber_20 (k_B (fun h20 => ?_) (fun h20 => ?_))
  · refine j_ifeq_1 eX9_takesNumber_23 ?_
    refine j_iload_n eX9_takesNumber_26 rfl ?_
    refine j_if_eq eX9_takesNumber_27 (by omega) (fun h27 => ?_) (fun h27 => ?_)
    · refine j_iconst 0 eX9_takesNumber_43 ?_
      refine r_zret (by decide) rfl eX9_takesNumber_44 ?_
      have eN : (ntk (σ 26) (σ 25 1) i) = (2, 0) := by
        unfold ntk
        rw [if_pos (dg_iff.mpr h20)]
        first | (rw [if_pos (Or.inl (by omega))]; done) | (rw [if_pos (Or.inr (dg_iff.mpr h37))]; done)
      rw [eN]
      exact ⟨fun k _ _ => rfl, Or.inr ⟨rfl, stp_i _ _, hA.2.1⟩⟩
    · refine j_aload_n eX9_takesNumber_30 rfl ?_
      refine j_iload_n eX9_takesNumber_31 rfl ?_
      refine j_iconst 2 eX9_takesNumber_32 ?_
      refine j_iadd eX9_takesNumber_33 ?_
      refine j_cV1 zX8_at lkX9_35 ⟨Nat.le_of_ble_eq_true rfl, Nat.le_of_ble_eq_true rfl⟩ ly25 rfl rfl (c_X8_at (by omega) (by exact hT)) (Nat.le_of_ble_eq_true rfl) eX9_takesNumber_34 (k_E ?_)
      show jv g _ _ σ _ _ (vi (lat (σ 26) (σ 25 1) (i + 2)) :: _)
      refine j_cS1 zX9_isDigit lkX9_39 ⟨Nat.le_of_ble_eq_true rfl, Nat.le_of_ble_eq_true rfl⟩ (c_X9_isDigit (by omega)) (Nat.le_of_ble_eq_true rfl) eX9_takesNumber_37 (k_B (fun h37 => ?_) (fun h37 => ?_))
      · refine j_ifeq_1 eX9_takesNumber_40 ?_
        refine j_iconst 0 eX9_takesNumber_43 ?_
        refine r_zret (by decide) rfl eX9_takesNumber_44 ?_
        have eN : (ntk (σ 26) (σ 25 1) i) = (2, 0) := by
          unfold ntk
          rw [if_pos (dg_iff.mpr h20)]
          first | (rw [if_pos (Or.inl (by omega))]; done) | (rw [if_pos (Or.inr (dg_iff.mpr h37))]; done)
        rw [eN]
        exact ⟨fun k _ _ => rfl, Or.inr ⟨rfl, stp_i _ _, hA.2.1⟩⟩
      · refine j_ifeq_0 eX9_takesNumber_40 ?_
        refine j_iload_n eX9_takesNumber_45 rfl ?_
        refine j_bipush 10 eX9_takesNumber_46 (by decide) ?_
        refine j_imul eX9_takesNumber_48 ?_
        refine j_iload eX9_takesNumber_49 rfl ?_
        refine j_iadd eX9_takesNumber_51 ?_
        refine j_bipush 48 eX9_takesNumber_52 (by decide) ?_
        refine j_isub eX9_takesNumber_54 ?_
        refine j_istore_n eX9_takesNumber_55 (Nat.le_of_ble_eq_true rfl) ?_
        first
        | (have eN : (ntk (σ 26) (σ 25 1) i) = (1, (lat (σ 26) (σ 25 1) (i) - 48) * 10 + lat (σ 26) (σ 25 1) (i + 1) - 48) := by
             unfold ntk
             rw [if_pos (dg_iff.mpr h20), if_neg (fun z => z.elim (fun y => by omega) (fun y => h37 (dg_iff.mp y)))]
           rw [eN]
           refine jv_lv ?_ (q_X9_takesNumber hA hW (by omega))
           exact lvC rfl (lvC rfl (lv0)))
        | (have eN : (ntk (σ 26) (σ 25 1) i) = (1, lat (σ 26) (σ 25 1) (i) - 48) := by
             unfold ntk
             rw [if_neg (fun z => h20 (dg_iff.mp z))]
           rw [eN]
           refine jv_lv ?_ (q_X9_takesNumber hA hW (by omega))
           exact lvC rfl (lvC rfl (lv0)))
  · refine j_ifeq_0 eX9_takesNumber_23 ?_
    first
    | (have eN : (ntk (σ 26) (σ 25 1) i) = (1, (lat (σ 26) (σ 25 1) (i) - 48) * 10 + lat (σ 26) (σ 25 1) (i + 1) - 48) := by
         unfold ntk
         rw [if_pos (dg_iff.mpr h20), if_neg (fun z => z.elim (fun y => by omega) (fun y => h37 (dg_iff.mp y)))]
       rw [eN]
       refine jv_lv ?_ (q_X9_takesNumber hA hW (by omega))
       exact lvC rfl (lvC rfl (lv0)))
    | (have eN : (ntk (σ 26) (σ 25 1) i) = (1, lat (σ 26) (σ 25 1) (i) - 48) := by
         unfold ntk
         rw [if_neg (fun z => h20 (dg_iff.mp z))]
       rw [eN]
       refine jv_lv ?_ (q_X9_takesNumber hA hW (by omega))
       exact lvC rfl (lvC rfl (lv0)))
