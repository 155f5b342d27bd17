theorem c_X9_stands {g : Gl} {σ : Sg} {i : Int} {S : Rst} (hA : AR σ S) (hW : WF S) (hT : 0 ≤ σ 25 1 ∧ σ 25 1 ≤ 120) (hi : 0 ≤ i ∧ i < σ 25 1) (hL : ∀ j, 0 ≤ j → j < σ 25 1 → 0 ≤ σ 26 j ∧ σ 26 j ≤ 255) : Ct g mX9_stands [vr g 34, vr g 25, vi i] σ (PI (fun v σ' => fr18 σ σ' ∧ ((v = 1 ∧ ∃ S', ((tokAt (σ 26) (σ 25 1) i = none ∧ S' = S) ∨ ∃ q, tokAt (σ 26) (σ 25 1) i = some q ∧ stp S q.1 q.2 = some S') ∧ AR σ' S' ∧ WF S') ∨ (v = 0 ∧ (∃ q, tokAt (σ 26) (σ 25 1) i = some q ∧ stp S q.1 q.2 = none) ∧ ((σ' 34 3 = 0 ∨ σ' 34 3 = 1) ∧ 0 ≤ σ' 34 2 ∧ σ' 34 2 ≤ 6))))) := by
  refine Ct.of (by decide +kernel) (Nat.le_of_ble_eq_true rfl) ?_
  show jv g _ _ σ [(0, vr g 34), (1, vr g 25), (2, vi i)] 0 []
  have lb : ∀ j, -9 ≤ lat (σ 26) (σ 25 1) j ∧ lat (σ 26) (σ 25 1) j ≤ 255 := fun j => by
    unfold lat
    split
    · have := hL j (by omega) (by omega)
      omega
    · omega
  have l0 : lat (σ 26) (σ 25 1) i = σ 26 i := lat_in hi
  have l1 := lb (i - 1)
  have l3 := lb i
  refine j_aload_n eX9_stands_0 rfl ?_
  refine j_iload_n eX9_stands_1 rfl ?_
  refine j_cV1 zX8_at lkX9_35 ⟨Nat.le_of_ble_eq_true rfl, Nat.le_of_ble_eq_true rfl⟩ ly25 rfl rfl (c_X8_at (by omega) (by exact hT)) (Nat.le_of_ble_eq_true rfl) eX9_stands_2 (k_E ?_)
  show jv g _ _ σ _ _ (vi (lat (σ 26) (σ 25 1) i) :: _)
  refine j_istore_n eX9_stands_5 (Nat.le_of_ble_eq_true rfl) ?_
  refine j_iload_n eX9_stands_6 rfl ?_
  refine j_cS1 zX9_isDigit lkX9_39 ⟨Nat.le_of_ble_eq_true rfl, Nat.le_of_ble_eq_true rfl⟩ (c_X9_isDigit (by omega)) (Nat.le_of_ble_eq_true rfl) eX9_stands_7 (k_B (fun h7 => ?_) (fun h7 => ?_))
  · refine j_ifeq_1 eX9_stands_10 ?_
    refine j_aload_n eX9_stands_13 rfl ?_
    refine j_iload_n eX9_stands_14 rfl ?_
    refine j_iconst 1 eX9_stands_15 ?_
    refine j_isub eX9_stands_16 ?_
    refine j_cV1 zX8_at lkX9_35 ⟨Nat.le_of_ble_eq_true rfl, Nat.le_of_ble_eq_true rfl⟩ ly25 rfl rfl (c_X8_at (by omega) (by exact hT)) (Nat.le_of_ble_eq_true rfl) eX9_stands_17 (k_E ?_)
    show jv g _ _ σ _ _ (vi (lat (σ 26) (σ 25 1) (i - 1)) :: _)
    refine j_cS1 zX9_isDigit lkX9_39 ⟨Nat.le_of_ble_eq_true rfl, Nat.le_of_ble_eq_true rfl⟩ (c_X9_isDigit (by omega)) (Nat.le_of_ble_eq_true rfl) eX9_stands_20 (k_B (fun h20 => ?_) (fun h20 => ?_))
    · refine j_ifne_1 eX9_stands_23 ?_
      refine j_iconst 1 eX9_stands_35 ?_
      refine j_goto eX9_stands_36 ?_
      refine r_zret (by decide) rfl eX9_stands_40 ?_
      first
      | (have eT : tokAt (σ 26) (σ 25 1) i = none := (if_pos (dg_iff.mpr h7)).trans (if_pos (dg_iff.mpr h20))
         exact ⟨fun k _ _ => rfl, Or.inl ⟨rfl, S, Or.inl ⟨eT, rfl⟩, hA, hW⟩⟩)
      | (have eT : tokAt (σ 26) (σ 25 1) i = some (ntk (σ 26) (σ 25 1) i) := (if_pos (dg_iff.mpr h7)).trans (if_neg (fun z => h20 (dg_iff.mp z)))
         obtain ⟨fr, o⟩ := h29
         rcases o with ⟨o1, S2, o2, o3, o4⟩ | ⟨o1, o2, o3⟩
         · first | (exfalso; omega) | exact ⟨fr, Or.inl ⟨rfl, S2, Or.inr ⟨_, eT, o2⟩, o3, o4⟩⟩
         · first | (exfalso; omega) | exact ⟨fr, Or.inr ⟨rfl, ⟨_, eT, o2⟩, o3⟩⟩
         done)
    · refine j_ifne_0 eX9_stands_23 ?_
      refine j_aload_n eX9_stands_26 rfl ?_
      refine j_aload_n eX9_stands_27 rfl ?_
      refine j_iload_n eX9_stands_28 rfl ?_
      refine j_cV2 zX9_takesNumber lkX9_43 ⟨Nat.le_of_ble_eq_true rfl, Nat.le_of_ble_eq_true rfl⟩ ly34 rfl rfl (c_X9_takesNumber (by exact hA) (by exact hW) (by exact hT) (by exact hi) (by exact hL) (by omega)) (Nat.le_of_ble_eq_true rfl) eX9_stands_29 (k_I (fun v29 σ29 h29 => ?_))
      refine j_if_eq eX9_stands_32 (by rcases h29.2 with h | h <;> omega) (fun h32 => ?_) (fun h32 => ?_)
      · refine j_iconst 0 eX9_stands_39 ?_
        refine r_zret (by decide) rfl eX9_stands_40 ?_
        first
        | (have eT : tokAt (σ 26) (σ 25 1) i = none := (if_pos (dg_iff.mpr h7)).trans (if_pos (dg_iff.mpr h20))
           exact ⟨fun k _ _ => rfl, Or.inl ⟨rfl, S, Or.inl ⟨eT, rfl⟩, hA, hW⟩⟩)
        | (have eT : tokAt (σ 26) (σ 25 1) i = some (ntk (σ 26) (σ 25 1) i) := (if_pos (dg_iff.mpr h7)).trans (if_neg (fun z => h20 (dg_iff.mp z)))
           obtain ⟨fr, o⟩ := h29
           rcases o with ⟨o1, S2, o2, o3, o4⟩ | ⟨o1, o2, o3⟩
           · first | (exfalso; omega) | exact ⟨fr, Or.inl ⟨rfl, S2, Or.inr ⟨_, eT, o2⟩, o3, o4⟩⟩
           · first | (exfalso; omega) | exact ⟨fr, Or.inr ⟨rfl, ⟨_, eT, o2⟩, o3⟩⟩
           done)
      · refine j_iconst 1 eX9_stands_35 ?_
        refine j_goto eX9_stands_36 ?_
        refine r_zret (by decide) rfl eX9_stands_40 ?_
        first
        | (have eT : tokAt (σ 26) (σ 25 1) i = none := (if_pos (dg_iff.mpr h7)).trans (if_pos (dg_iff.mpr h20))
           exact ⟨fun k _ _ => rfl, Or.inl ⟨rfl, S, Or.inl ⟨eT, rfl⟩, hA, hW⟩⟩)
        | (have eT : tokAt (σ 26) (σ 25 1) i = some (ntk (σ 26) (σ 25 1) i) := (if_pos (dg_iff.mpr h7)).trans (if_neg (fun z => h20 (dg_iff.mp z)))
           obtain ⟨fr, o⟩ := h29
           rcases o with ⟨o1, S2, o2, o3, o4⟩ | ⟨o1, o2, o3⟩
           · first | (exfalso; omega) | exact ⟨fr, Or.inl ⟨rfl, S2, Or.inr ⟨_, eT, o2⟩, o3, o4⟩⟩
           · first | (exfalso; omega) | exact ⟨fr, Or.inr ⟨rfl, ⟨_, eT, o2⟩, o3⟩⟩
           done)
  · refine j_ifeq_0 eX9_stands_10 ?_
    refine j_iload_n eX9_stands_41 rfl ?_
    refine j_bipush 32 eX9_stands_42 (by decide) ?_
    refine j_icmp_eq eX9_stands_44 (by omega) (fun h44 => ?_) (fun h44 => ?_)
    · refine j_iconst 1 eX9_stands_55 ?_
      refine j_goto eX9_stands_56 ?_
      refine r_zret (by decide) rfl eX9_stands_60 ?_
      first
      | (have eT : tokAt (σ 26) (σ 25 1) i = none := (if_neg (fun z => h7 (dg_iff.mp z))).trans (if_pos h44)
         exact ⟨fun k _ _ => rfl, Or.inl ⟨rfl, S, Or.inl ⟨eT, rfl⟩, hA, hW⟩⟩)
      | (have eT : tokAt (σ 26) (σ 25 1) i = some (if lat (σ 26) (σ 25 1) i = 112 ∨ lat (σ 26) (σ 25 1) i = 98 ∨ lat (σ 26) (σ 25 1) i = 45 ∨ lat (σ 26) (σ 25 1) i = 59 then (lat (σ 26) (σ 25 1) i, 0) else (2, 0)) := (if_neg (fun z => h7 (dg_iff.mp z))).trans (if_neg h44)
         have eP : ∀ c : Int, (if c = 112 ∨ c = 98 ∨ c = 45 ∨ c = 59 then (c, (0 : Int)) else (2, 0)) = (if c = 112 ∨ c = 98 ∨ c = 45 ∨ c = 59 then c else 2, 0) := fun c => by split <;> rfl
         rw [eP] at eT
         obtain ⟨fr, o⟩ := h49
         rcases o with ⟨o1, S2, o2, o3, o4⟩ | ⟨o1, o2, o3⟩
         · first | (exfalso; omega) | exact ⟨fr, Or.inl ⟨rfl, S2, Or.inr ⟨_, eT, o2⟩, o3, o4⟩⟩
         · first | (exfalso; omega) | exact ⟨fr, Or.inr ⟨rfl, ⟨_, eT, o2⟩, o3⟩⟩
         done)
    · refine j_aload_n eX9_stands_47 rfl ?_
      refine j_iload_n eX9_stands_48 rfl ?_
      refine j_cV1 zX9_takesSign lkX9_46 ⟨Nat.le_of_ble_eq_true rfl, Nat.le_of_ble_eq_true rfl⟩ ly34 rfl rfl (c_X9_takesSign (by exact hA) (by exact hW) (by omega)) (Nat.le_of_ble_eq_true rfl) eX9_stands_49 (k_I (fun v49 σ49 h49 => ?_))
      refine j_if_eq eX9_stands_52 (by rcases h49.2 with h | h <;> omega) (fun h52 => ?_) (fun h52 => ?_)
      · refine j_iconst 0 eX9_stands_59 ?_
        refine r_zret (by decide) rfl eX9_stands_60 ?_
        first
        | (have eT : tokAt (σ 26) (σ 25 1) i = none := (if_neg (fun z => h7 (dg_iff.mp z))).trans (if_pos h44)
           exact ⟨fun k _ _ => rfl, Or.inl ⟨rfl, S, Or.inl ⟨eT, rfl⟩, hA, hW⟩⟩)
        | (have eT : tokAt (σ 26) (σ 25 1) i = some (if lat (σ 26) (σ 25 1) i = 112 ∨ lat (σ 26) (σ 25 1) i = 98 ∨ lat (σ 26) (σ 25 1) i = 45 ∨ lat (σ 26) (σ 25 1) i = 59 then (lat (σ 26) (σ 25 1) i, 0) else (2, 0)) := (if_neg (fun z => h7 (dg_iff.mp z))).trans (if_neg h44)
           have eP : ∀ c : Int, (if c = 112 ∨ c = 98 ∨ c = 45 ∨ c = 59 then (c, (0 : Int)) else (2, 0)) = (if c = 112 ∨ c = 98 ∨ c = 45 ∨ c = 59 then c else 2, 0) := fun c => by split <;> rfl
           rw [eP] at eT
           obtain ⟨fr, o⟩ := h49
           rcases o with ⟨o1, S2, o2, o3, o4⟩ | ⟨o1, o2, o3⟩
           · first | (exfalso; omega) | exact ⟨fr, Or.inl ⟨rfl, S2, Or.inr ⟨_, eT, o2⟩, o3, o4⟩⟩
           · first | (exfalso; omega) | exact ⟨fr, Or.inr ⟨rfl, ⟨_, eT, o2⟩, o3⟩⟩
           done)
      · refine j_iconst 1 eX9_stands_55 ?_
        refine j_goto eX9_stands_56 ?_
        refine r_zret (by decide) rfl eX9_stands_60 ?_
        first
        | (have eT : tokAt (σ 26) (σ 25 1) i = none := (if_neg (fun z => h7 (dg_iff.mp z))).trans (if_pos h44)
           exact ⟨fun k _ _ => rfl, Or.inl ⟨rfl, S, Or.inl ⟨eT, rfl⟩, hA, hW⟩⟩)
        | (have eT : tokAt (σ 26) (σ 25 1) i = some (if lat (σ 26) (σ 25 1) i = 112 ∨ lat (σ 26) (σ 25 1) i = 98 ∨ lat (σ 26) (σ 25 1) i = 45 ∨ lat (σ 26) (σ 25 1) i = 59 then (lat (σ 26) (σ 25 1) i, 0) else (2, 0)) := (if_neg (fun z => h7 (dg_iff.mp z))).trans (if_neg h44)
           have eP : ∀ c : Int, (if c = 112 ∨ c = 98 ∨ c = 45 ∨ c = 59 then (c, (0 : Int)) else (2, 0)) = (if c = 112 ∨ c = 98 ∨ c = 45 ∨ c = 59 then c else 2, 0) := fun c => by split <;> rfl
           rw [eP] at eT
           obtain ⟨fr, o⟩ := h49
           rcases o with ⟨o1, S2, o2, o3, o4⟩ | ⟨o1, o2, o3⟩
           · first | (exfalso; omega) | exact ⟨fr, Or.inl ⟨rfl, S2, Or.inr ⟨_, eT, o2⟩, o3, o4⟩⟩
           · first | (exfalso; omega) | exact ⟨fr, Or.inr ⟨rfl, ⟨_, eT, o2⟩, o3⟩⟩
           done)
theorem l_X9_read {g : Gl} {σ : Sg} (hR : (σ 34 3 = 0 ∨ σ 34 3 = 1) ∧ 0 ≤ σ 34 2 ∧ σ 34 2 ≤ 6) (hT : 0 ≤ σ 25 1 ∧ σ 25 1 ≤ 120) (hL : ∀ j, 0 ≤ j → j < σ 25 1 → 0 ≤ σ 26 j ∧ σ 26 j ≤ 255) : ∀ (t : Nat) (S : Rst) (τ : Sg), (t : Int) ≤ σ 25 1 → AR τ S → WF S → fr18 σ τ → jv g mX9_read (Fm g (PI (fun v σ' => fr18 σ σ' ∧ v = (rdC (σ 26) (σ 25 1) t (σ 25 1 - (t : Int)) S).1 ∧ (v = -1 → AR σ' (rdC (σ 26) (σ 25 1) t (σ 25 1 - (t : Int)) S).2 ∧ WF (rdC (σ 26) (σ 25 1) t (σ 25 1 - (t : Int)) S).2 ∧ (rdC (σ 26) (σ 25 1) t (σ 25 1 - (t : Int)) S).2.1 = 0) ∧ ((σ' 34 3 = 0 ∨ σ' 34 3 = 1) ∧ 0 ≤ σ' 34 2 ∧ σ' 34 2 ≤ 6)))) τ [(0, vr g 34), (1, vr g 25), (2, vi (σ 25 1 - (t : Int)))] 14 [] := by
  intro t
  induction t with
  | zero =>
    intro S τ h1 hA hW h3
    have c25 : τ 25 = σ 25 := h3 25 (by omega) (by decide)
    have i1 := hA.1
    have w1 := hW.1
    have eT : rdC (σ 26) (σ 25 1) 0 (σ 25 1 - ((0 : Nat) : Int)) S = (if S.1 = 0 then -1 else σ 25 1, S) := rfl
    rw [eT]
    refine j_iload_n eX9_read_14 rfl ?_
    refine j_aload_n eX9_read_15 rfl ?_
    refine j_cV0 zX8_length lkX9_25 ⟨Nat.le_of_ble_eq_true rfl, Nat.le_of_ble_eq_true rfl⟩ ly25 rfl rfl c_X8_length (Nat.le_of_ble_eq_true rfl) eX9_read_16 (k_E ?_)
    refine j_icmp_ge eX9_read_19 (by rw [c25]; omega) (fun h => ?_) (fun h => absurd (by rw [c25]; omega) h)
    refine j_aload_n eX9_read_39 rfl ?_
    refine j_getI flX9_21 ly34 rfl eX9_read_40 ?_
    refine j_if_ne eX9_read_43 (by omega) (fun h43 => ?_) (fun h43 => ?_)
    · refine j_aload_n eX9_read_50 rfl ?_
      refine j_cV0 zX8_length lkX9_25 ⟨Nat.le_of_ble_eq_true rfl, Nat.le_of_ble_eq_true rfl⟩ ly25 rfl rfl c_X8_length (Nat.le_of_ble_eq_true rfl) eX9_read_51 (k_E ?_)
      refine r_iret rfl eX9_read_54 ⟨h3, ?_, fun z => ?_, hA.2.1⟩
      · rw [c25, if_neg (by omega)]
      · rw [c25] at z
        omega
    · refine j_iconst (-1) eX9_read_46 ?_
      refine j_goto eX9_read_47 ?_
      exact r_iret rfl eX9_read_54 ⟨h3, (if_pos (by omega)).symm, fun _ => ⟨hA, hW, by show S.1 = 0; omega⟩, hA.2.1⟩
  | succ t ih =>
    intro S τ h1 hA hW h3
    have c25 : τ 25 = σ 25 := h3 25 (by omega) (by decide)
    have c26 : τ 26 = σ 26 := h3 26 (by omega) (by decide)
    refine j_iload_n eX9_read_14 rfl ?_
    refine j_aload_n eX9_read_15 rfl ?_
    refine j_cV0 zX8_length lkX9_25 ⟨Nat.le_of_ble_eq_true rfl, Nat.le_of_ble_eq_true rfl⟩ ly25 rfl rfl (c_X8_length) (Nat.le_of_ble_eq_true rfl) eX9_read_16 (k_E ?_)
    refine j_icmp_ge eX9_read_19 (by rw [c25]; omega) (fun h19 => absurd h19 (by rw [c25]; omega)) (fun h19 => ?_)
    have ii : 0 ≤ (σ 25 1 - ((t + 1 : Nat) : Int)) ∧ (σ 25 1 - ((t + 1 : Nat) : Int)) < σ 25 1 := by omega
    refine j_aload_n eX9_read_22 rfl ?_
    refine j_aload_n eX9_read_23 rfl ?_
    refine j_iload_n eX9_read_24 rfl ?_
    refine j_cV2 zX9_stands lkX9_31 ⟨Nat.le_of_ble_eq_true rfl, Nat.le_of_ble_eq_true rfl⟩ ly34 rfl rfl (c_X9_stands (by exact hA) (by exact hW) (by rw [c25]; exact hT) (by rw [c25]; exact ii) (by rw [c25, c26]; exact hL)) (Nat.le_of_ble_eq_true rfl) eX9_read_25 (k_I (fun v25 σ25 h25 => ?_))
    rw [c26, c25] at h25
    obtain ⟨fr0, o⟩ := h25
    have fr : fr18 σ σ25 := fun k a b => (fr0 k a b).trans (h3 k a b)
    have h25 : True ∧ (v25 = 1 ∨ v25 = 0) := ⟨trivial, by rcases o with o | o <;> omega⟩
    refine j_if_ne eX9_read_28 (by rcases h25.2 with h | h <;> omega) (fun h28 => ?_) (fun h28 => ?_)
    · refine j_iinc eX9_read_33 rfl (Nat.le_of_ble_eq_true rfl) ?_
      refine j_goto eX9_read_36 ?_
      rcases o with ⟨o1, S2, o2, o3, o4⟩ | ⟨o1, o2⟩
      · have eT : rdC (σ 26) (σ 25 1) (t + 1) (σ 25 1 - ((t + 1 : Nat) : Int)) S = rdC (σ 26) (σ 25 1) t ((σ 25 1 - ((t + 1 : Nat) : Int)) + 1) S2 := by
          show (match tokAt (σ 26) (σ 25 1) (σ 25 1 - ((t + 1 : Nat) : Int)) with | none => _ | some q => _) = _
          rcases o2 with ⟨o2, o5⟩ | ⟨q, o2, o5⟩
          · rw [o2, o5]
          · rw [o2]
            show (match stp S q.1 q.2 with | none => _ | some S2 => _) = _
            rw [o5]
        have e1 : (σ 25 1 - ((t + 1 : Nat) : Int)) + 1 = σ 25 1 - (t : Int) := by omega
        rw [eT, e1]
        refine jv_lv ?_ (ih S2 σ25 (by omega) o3 o4 fr)
        exact lvC rfl (lvC rfl (lvC rfl (lv0)))
      · exfalso; omega
    · refine j_iload_n eX9_read_31 rfl ?_
      refine r_iret rfl eX9_read_32 ?_
      rcases o with ⟨o1, o2⟩ | ⟨o1, ⟨q, o2, o4⟩, o3⟩
      · exfalso; omega
      · have eT : rdC (σ 26) (σ 25 1) (t + 1) (σ 25 1 - ((t + 1 : Nat) : Int)) S = ((σ 25 1 - ((t + 1 : Nat) : Int)), S) := by
          show (match tokAt (σ 26) (σ 25 1) (σ 25 1 - ((t + 1 : Nat) : Int)) with | none => _ | some q => _) = _
          rw [o2]
          show (match stp S q.1 q.2 with | none => _ | some S2 => _) = _
          rw [o4]
        rw [eT]
        exact ⟨fr, rfl, fun z => by omega, o3⟩
theorem c_X9_read {g : Gl} {σ : Sg} (hR : (σ 34 3 = 0 ∨ σ 34 3 = 1) ∧ 0 ≤ σ 34 2 ∧ σ 34 2 ≤ 6) (hT : 0 ≤ σ 25 1 ∧ σ 25 1 ≤ 120) (hL : ∀ j, 0 ≤ j → j < σ 25 1 → 0 ≤ σ 26 j ∧ σ 26 j ≤ 255) : Ct g mX9_read [vr g 34, vr g 25] σ (PI (fun v σ' => fr18 σ σ' ∧ v = (rdC (σ 26) (σ 25 1) (σ 25 1).toNat 0 (0, [], false, [], [])).1 ∧ (v = -1 → AR σ' (rdC (σ 26) (σ 25 1) (σ 25 1).toNat 0 (0, [], false, [], [])).2 ∧ WF (rdC (σ 26) (σ 25 1) (σ 25 1).toNat 0 (0, [], false, [], [])).2 ∧ (rdC (σ 26) (σ 25 1) (σ 25 1).toNat 0 (0, [], false, [], [])).2.1 = 0) ∧ ((σ' 34 3 = 0 ∨ σ' 34 3 = 1) ∧ 0 ≤ σ' 34 2 ∧ σ' 34 2 ≤ 6))) := by
  refine Ct.of (by decide +kernel) (Nat.le_of_ble_eq_true rfl) ?_
  show jv g _ _ σ [(0, vr g 34), (1, vr g 25)] 0 []
  refine j_aload_n eX9_read_0 rfl ?_
  refine j_getR flX9_12 ly34 rfl eX9_read_1 ?_
  refine j_cV0 zX10_empty lkX9_18 ⟨Nat.le_of_ble_eq_true rfl, Nat.le_of_ble_eq_true rfl⟩ ly18 rfl rfl (c_X10_empty_18) (Nat.le_of_ble_eq_true rfl) eX9_read_4 (k_VE ?_)
  refine j_aload_n eX9_read_7 rfl ?_
  refine j_iconst 0 eX9_read_8 ?_
  refine j_putI fpX9_21 ly34 rfl eX9_read_9 ?_
  refine j_iconst 0 eX9_read_12 ?_
  refine j_istore_n eX9_read_13 (Nat.le_of_ble_eq_true rfl) ?_
  have e0 : (0 : Int) = σ 25 1 - (((σ 25 1).toNat : Nat) : Int) := by omega
  have A0 : AR (up (up (up σ 18 0 0) 18 1 0) 34 1 0) (0, [], false, [], []) := ⟨rfl, hR, fun z => absurd rfl z, fun z => absurd (show (0 : Int) = 2 from z) (by decide), rfl, rfl, fun q l z => by simp [aP] at z, fun q l z => by simp [aB] at z⟩
  have W0 : WF (0, [], false, [], []) := ⟨Or.inl rfl, by decide, by decide, fun z => absurd (show (0 : Int) = 2 from z) (by decide), fun z => absurd (show (0 : Int) = 1 from z) (by decide), fun z => absurd (show (0 : Int) = 2 from z) (by decide), fun l z => (by cases z), fun l z => (by cases z), fun z => absurd (show (0 : Int) = 2 from z) (by decide), fun l z => (by cases z)⟩
  have e1 := l_X9_read (g := g) hR hT hL (σ 25 1).toNat (0, [], false, [], []) _ (by omega) A0 W0 (fun k a b => by rw [up_ne b, up_ne (by omega), up_ne (by omega)])
  rw [← e0] at e1
  refine jv_lv ?_ e1
  exact lvC rfl (lvC rfl (lvC rfl (lv0)))
