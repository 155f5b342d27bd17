/-! the reference's paper -/
def FGm (σ : Sg) (a : Int) : Int := LF (fun j => ABM σ (σ 48 6) a (j : Int) 1)
def SLm (σ : Sg) (a : Int) : Int := sgn (NMp σ (σ 48 6) a (0 : Int).toNat 0)
def SHm (σ : Sg) (a : Int) : Int := sgn (NMp σ (σ 48 6) a (0 : Int).toNat (σ 49 (2 + σ 48 6)))
def hiM (σ : Sg) (a : Int) : Int := loM σ a + wdM σ a
theorem frM.lo {σ τ : Sg} (h : frM σ τ) (a : Int) : loM τ a = loM σ a := by
  unfold loM
  rw [h.1 49 (by omega) (by omega), h.2 7 (by omega)]
theorem frM.hi {σ τ : Sg} (h : frM σ τ) (a : Int) : loM τ a + wdM τ a = hiM σ a := by
  unfold hiM loM wdM
  rw [h.1 49 (by omega) (by omega), h.2 7 (by omega)]
theorem frM.A {σ τ : Sg} (h : frM σ τ) {p a r s : Int} : ABM τ p a r s = ABM σ p a r s := by
  unfold ABM
  rw [h.N, h.1 49 (by omega) (by omega)]
theorem FGm_3 {σ : Sg} {a : Int} (h : ∀ j : Nat, (j : Int) < 3 → ¬ ABM σ (σ 48 6) a (j : Int) 1 = true) : FGm σ a = -9 := by
  unfold FGm LF
  rw [if_neg (h 0 (by omega)), if_neg (h 1 (by omega)), if_neg (h 2 (by omega))]
theorem FGm_r {σ : Sg} {a r : Int} (hr : 0 ≤ r ∧ r < 3) (h : ∀ j : Nat, (j : Int) < r → ¬ ABM σ (σ 48 6) a (j : Int) 1 = true) (h2 : ABM σ (σ 48 6) a r 1 = true) : FGm σ a = r := by
  unfold FGm LF
  obtain rfl | rfl | rfl : r = 0 ∨ r = 1 ∨ r = 2 := by omega
  · exact if_pos h2
  · rw [if_neg (h 0 (by omega))]
    exact if_pos h2
  · rw [if_neg (h 0 (by omega)), if_neg (h 1 (by omega))]
    exact if_pos h2
theorem FGm_b (σ : Sg) (a : Int) : FGm σ a = -9 ∨ (0 ≤ FGm σ a ∧ FGm σ a ≤ 2) := by
  unfold FGm LF
  split <;> (try split) <;> (try split) <;> omega
theorem sg_le {x : Int} (h : x ≤ 0) : sgn x ≤ 0 := by
  unfold sgn
  split
  · omega
  · split <;> omega
theorem sg_gt {x : Int} (h : ¬ x ≤ 0) : ¬ sgn x ≤ 0 := by
  rw [show sgn x = 1 from sg_is (by omega)]
  omega
theorem c_X12_brackets {g : Gl} {σ : Sg} (hM : TM σ) (hk : (0 ≤ σ 48 6 ∧ σ 48 6 ≤ 2) ∧ 0 ≤ σ 48 7 ∧ σ 48 7 ≤ 2) : Ct g mX12_brackets [vr g 48] σ (PI (fun v σ' => frM σ σ' ∧ ((¬ ((0 ≤ σ 48 6 ∧ σ 48 6 < σ 49 0) ∧ 0 ≤ σ 48 7 ∧ σ 48 7 < σ 49 1) ∧ v = -2) ∨ (((0 ≤ σ 48 6 ∧ σ 48 6 < σ 49 0) ∧ 0 ≤ σ 48 7 ∧ σ 48 7 < σ 49 1) ∧ v = (trB (VMd σ) (ZMd σ) 127 1 []).length)))) := by
  refine Ct.of (by decide +kernel) (Nat.le_of_ble_eq_true rfl) ?_
  show jv g _ _ σ [(0, vr g 48)] 0 []
  refine j_aload_n eX12_brackets_0 rfl ?_
  refine j_cV0 zX12_isTaken lkX12_175 ⟨Nat.le_of_ble_eq_true rfl, Nat.le_of_ble_eq_true rfl⟩ ly48 rfl rfl (c_X12_isTaken (by exact hM) (by exact hk)) (Nat.le_of_ble_eq_true rfl) eX12_brackets_1 (k_B (fun h1 => ?_) (fun h1 => ?_))
  · refine j_ifne_1 eX12_brackets_4 ?_
    refine j_aload_n eX12_brackets_10 rfl ?_
    refine j_cV0 zX12_brings lkX12_206 ⟨Nat.le_of_ble_eq_true rfl, Nat.le_of_ble_eq_true rfl⟩ ly48 rfl rfl (c_X12_brings (by exact hM) (by exact h1)) (Nat.le_of_ble_eq_true rfl) eX12_brackets_11 (k_V (fun σ11 h11 => ?_))
    refine j_aload_n eX12_brackets_14 rfl ?_
    refine j_getI flX12_196 ly48 rfl eX12_brackets_15 ?_
    refine r_iret rfl eX12_brackets_18 ?_
    exact ⟨h11.1, Or.inr ⟨h1, h11.2.1.1⟩⟩
  · refine j_ifne_0 eX12_brackets_4 ?_
    refine j_bipush (-2) eX12_brackets_7 (by decide) ?_
    refine r_iret rfl eX12_brackets_9 ?_
    exact ⟨frM.rf σ, Or.inl ⟨h1, rfl⟩⟩
theorem c_X12_bracket {g : Gl} {σ : Sg} {a w : Int} (h : -2147483648 ≤ a ∧ a ≤ 2147483647 ∧ -2147483648 ≤ w ∧ w ≤ 2147483647) (hM : TM σ) (hk : (0 ≤ σ 48 6 ∧ σ 48 6 ≤ 2) ∧ 0 ≤ σ 48 7 ∧ σ 48 7 ≤ 2) : Ct g mX12_bracket [vr g 48, vi a, vi w] σ (PI (fun v σ' => frM σ σ' ∧ ((¬ (0 ≤ a ∧ 0 ≤ w ∧ w ≤ 1) ∧ v = -1) ∨ (((0 ≤ a ∧ 0 ≤ w ∧ w ≤ 1) ∧ ¬ ((0 ≤ σ 48 6 ∧ σ 48 6 < σ 49 0) ∧ 0 ≤ σ 48 7 ∧ σ 48 7 < σ 49 1)) ∧ v = -2) ∨ (((0 ≤ a ∧ 0 ≤ w ∧ w ≤ 1) ∧ ((0 ≤ σ 48 6 ∧ σ 48 6 < σ 49 0) ∧ 0 ≤ σ 48 7 ∧ σ 48 7 < σ 49 1)) ∧ (((trB (VMd σ) (ZMd σ) 127 1 []).length ≤ a ∧ v = -9) ∨ ∃ q, (trB (VMd σ) (ZMd σ) 127 1 [])[a.toNat]? = some q ∧ v = if w = 0 then q.1 else q.2))))) := by
  refine Ct.of (by decide +kernel) (Nat.le_of_ble_eq_true rfl) ?_
  show jv g _ _ σ [(0, vr g 48), (1, vi a), (2, vi w)] 0 []
  refine j_iload_n eX12_bracket_0 rfl ?_
  refine j_if_lt eX12_bracket_1 (by omega) (fun h1 => ?_) (fun h1 => ?_)
  · refine j_iconst (-1) eX12_bracket_13 ?_
    refine r_iret rfl eX12_bracket_14 ?_
    exact ⟨frM.rf σ, Or.inl ⟨by omega, rfl⟩⟩
  · refine j_iload_n eX12_bracket_4 rfl ?_
    refine j_iconst 0 eX12_bracket_5 ?_
    refine j_iconst 1 eX12_bracket_6 ?_
    refine j_cS3 zX12_in lkX12_85 ⟨Nat.le_of_ble_eq_true rfl, Nat.le_of_ble_eq_true rfl⟩ (c_X12_in (by omega)) (Nat.le_of_ble_eq_true rfl) eX12_bracket_7 (k_B (fun h7 => ?_) (fun h7 => ?_))
    · refine j_ifne_1 eX12_bracket_10 ?_
      refine j_aload_n eX12_bracket_15 rfl ?_
      refine j_cV0 zX12_isTaken lkX12_175 ⟨Nat.le_of_ble_eq_true rfl, Nat.le_of_ble_eq_true rfl⟩ ly48 rfl rfl (c_X12_isTaken (by exact hM) (by exact hk)) (Nat.le_of_ble_eq_true rfl) eX12_bracket_16 (k_B (fun h16 => ?_) (fun h16 => ?_))
      · refine j_ifne_1 eX12_bracket_19 ?_
        refine j_aload_n eX12_bracket_25 rfl ?_
        refine j_cV0 zX12_brings lkX12_206 ⟨Nat.le_of_ble_eq_true rfl, Nat.le_of_ble_eq_true rfl⟩ ly48 rfl rfl (c_X12_brings (by exact hM) (by exact h16)) (Nat.le_of_ble_eq_true rfl) eX12_bracket_26 (k_V (fun σ26 h26 => ?_))
        have rb := h26.2.1.1
        have rl := h26.2.2
        refine j_iload_n eX12_bracket_29 rfl ?_
        refine j_aload_n eX12_bracket_30 rfl ?_
        refine j_getI flX12_196 ly48 rfl eX12_bracket_31 ?_
        refine j_icmp_lt eX12_bracket_34 (by omega) (fun h34 => ?_) (fun h34 => ?_)
        · obtain ⟨q, hq⟩ : ∃ q, (trB (VMd σ) (ZMd σ) 127 1 [])[a.toNat]? = some q := ⟨_, List.getElem?_eq_getElem (by omega)⟩
          have rq := h26.2.1.2 a.toNat q hq
          rw [show ((a.toNat : Nat) : Int) = a from by omega] at rq
          refine j_iload_n eX12_bracket_42 rfl ?_
          refine j_if_ne eX12_bracket_43 (by omega) (fun h43 => ?_) (fun h43 => ?_)
          · refine j_aload_n eX12_bracket_55 rfl ?_
            refine j_getR flX12_57 ly48 rfl eX12_bracket_56 ?_
            refine j_iload_n eX12_bracket_59 rfl ?_
            refine j_iald ly64 (by omega) eX12_bracket_60 ?_
            refine r_iret rfl eX12_bracket_61 ?_
            first | exact ⟨h26.1, Or.inr (Or.inr ⟨by omega, Or.inl ⟨by omega, rfl⟩⟩)⟩ | (refine ⟨h26.1, Or.inr (Or.inr ⟨by omega, Or.inr ⟨q, hq, ?_⟩⟩)⟩; first | (rw [if_pos (show w = 0 by omega)]; exact rq.1) | (rw [if_neg (show ¬ w = 0 by omega)]; exact rq.2))
          · refine j_aload_n eX12_bracket_46 rfl ?_
            refine j_getR flX12_54 ly48 rfl eX12_bracket_47 ?_
            refine j_iload_n eX12_bracket_50 rfl ?_
            refine j_iald ly63 (by omega) eX12_bracket_51 ?_
            refine j_goto eX12_bracket_52 ?_
            refine r_iret rfl eX12_bracket_61 ?_
            first | exact ⟨h26.1, Or.inr (Or.inr ⟨by omega, Or.inl ⟨by omega, rfl⟩⟩)⟩ | (refine ⟨h26.1, Or.inr (Or.inr ⟨by omega, Or.inr ⟨q, hq, ?_⟩⟩)⟩; first | (rw [if_pos (show w = 0 by omega)]; exact rq.1) | (rw [if_neg (show ¬ w = 0 by omega)]; exact rq.2))
        · refine j_bipush (-9) eX12_bracket_37 (by decide) ?_
          refine j_goto eX12_bracket_39 ?_
          refine r_iret rfl eX12_bracket_61 ?_
          first | exact ⟨h26.1, Or.inr (Or.inr ⟨by omega, Or.inl ⟨by omega, rfl⟩⟩)⟩ | (refine ⟨h26.1, Or.inr (Or.inr ⟨by omega, Or.inr ⟨q, hq, ?_⟩⟩)⟩; first | (rw [if_pos (show w = 0 by omega)]; exact rq.1) | (rw [if_neg (show ¬ w = 0 by omega)]; exact rq.2))
      · refine j_ifne_0 eX12_bracket_19 ?_
        refine j_bipush (-2) eX12_bracket_22 (by decide) ?_
        refine r_iret rfl eX12_bracket_24 ?_
        exact ⟨frM.rf σ, Or.inr (Or.inl ⟨by omega, rfl⟩)⟩
    · refine j_ifne_0 eX12_bracket_10 ?_
      refine j_iconst (-1) eX12_bracket_13 ?_
      refine r_iret rfl eX12_bracket_14 ?_
      exact ⟨frM.rf σ, Or.inl ⟨by omega, rfl⟩⟩
theorem trP_0 {fg sl sh lo hi : Int → Int} (t : Nat) (L : List Int) : trP fg sl sh lo hi t 0 L = ((L.length : Int), 0, L) := by
  cases t with
  | zero => rfl
  | succ t => exact if_pos rfl
theorem RL1.lets {τ ρ : Sg} {L : List Int} (h : RL1 τ 48 65 29 L) (e : ρ 48 29 = τ 48 29) (e2 : ρ 65 = τ 65) : RL1 ρ 48 65 29 L := by
  unfold RL1 at h ⊢
  rw [e, e2]
  exact h
theorem RL1.letL {τ ρ : Sg} {L : List Int} (h : RL1 τ 48 65 29 L) (f : frL τ ρ) : RL1 ρ 48 65 29 L := h.lets (f.2 29 (by decide) (by decide)) (f.1 65 (by decide) (by decide) (by decide))
theorem RL1.letp {τ : Sg} {L : List Int} {x : Int} (h : RL1 τ 48 65 29 L) : RL1 (up (up τ 65 (τ 48 29) x) 48 29 (τ 48 29 + 1)) 48 65 29 (L ++ [x]) := h.push rfl rfl
theorem x_X12_writes {g : Gl} {S : Sg} {Q : Int → Sg → Prop} (h : RL1 S 48 62 24 []) (q : Q (S 48 29) S) : jv g mX12_writes (Fm g (PI Q)) S [(0, vr g 48)] 15 [] := by
  have e : S 48 24 = 0 := h.1
  refine j_aload_n eX12_writes_15 rfl ?_
  refine j_getI flX12_193 ly48 rfl eX12_writes_16 ?_
  refine j_if_le eX12_writes_19 (by omega) (fun h19 => ?_) (fun h19 => absurd (by omega) h19)
  refine j_aload_n eX12_writes_211 rfl ?_
  refine j_getI flX12_209 ly48 rfl eX12_writes_212 ?_
  exact r_iret rfl eX12_writes_215 q
theorem f_X12_writes {g : Gl} {σ S : Sg} {t : Nat} {a : Int} {L : List Int} (na : 1 ≤ a ∧ a ≤ 127) (hk : rk a ≤ t + 1) (hl : L.length + t ≤ 127) (fr : frM σ S) (r1 : RL1 S 48 62 24 (PN_ a)) (rb : RL1 S 48 65 29 L) (ih : ∀ (a : Int) (L : List Int) (τ : Sg), rk a ≤ t → 1 ≤ a ∧ a ≤ 127 → L.length + t ≤ 127 → frM σ τ → RL1 τ 48 62 24 (PN_ a ++ [a]) → RL1 τ 48 65 29 L → jv g mX12_writes (Fm g (PI (fun v σ' => frM σ σ' ∧ v = (trP (FGm σ) (SLm σ) (SHm σ) (loM σ) (hiM σ) t a L).1 ∧ (v = -7 → σ' 48 30 = (trP (FGm σ) (SLm σ) (SHm σ) (loM σ) (hiM σ) t a L).2.1) ∧ RL1 σ' 48 65 29 (trP (FGm σ) (SLm σ) (SHm σ) (loM σ) (hiM σ) t a L).2.2))) τ [(0, vr g 48)] 15 []) : jv g mX12_writes (Fm g (PI (fun v σ' => frM σ σ' ∧ v = (trP (FGm σ) (SLm σ) (SHm σ) (loM σ) (hiM σ) t (bhd a) L).1 ∧ (v = -7 → σ' 48 30 = (trP (FGm σ) (SLm σ) (SHm σ) (loM σ) (hiM σ) t (bhd a) L).2.1) ∧ RL1 σ' 48 65 29 (trP (FGm σ) (SLm σ) (SHm σ) (loM σ) (hiM σ) t (bhd a) L).2.2))) S [(0, vr g 48)] 15 [] := by
  have w := rk_of na
  have pb := PN_of na
  by_cases z : bhd a = 0
  · rw [pb.1 z] at r1
    rw [z, trP_0]
    exact x_X12_writes r1 ⟨fr, rb.1, fun x => by have := rb.1; omega, rb⟩
  · have w2 := w.2.2.2.2 z
    rw [pb.2.1 z] at r1
    exact ih (bhd a) L S (by omega) (by omega) hl fr r1 rb
theorem tk_fr {σ τ : Sg} (h : frM σ τ) (vt : VTm σ) (hM : TM σ) : 0 ≤ τ 48 7 ∧ τ 48 7 ≤ 2 := by
  have a := vt.2
  have b := hM.2.1
  rw [h.2 7 (by omega)]
  omega
theorem i_X12_writes {g : Gl} {σ : Sg} (hM : TM σ) (vt : VTm σ) {F : Ex} {τ : Sg} {a : Int} (na : 1 ≤ a ∧ a ≤ 127) (hf : frM σ τ) (kk : ∀ S ρ, frL τ S → frM σ S → ((FGm σ a = -9 ∧ ρ = 3) ∨ (¬ FGm σ a = -9 ∧ ρ = FGm σ a)) → jv g mX12_writes F S [(0, vr g 48), (1, vi a), (2, vi ρ)] 69 []) : ∀ (t : Nat) (r : Int) (S : Sg), 3 - r < t → 0 ≤ r ∧ r ≤ 3 → frL τ S → frM σ S → (∀ j : Nat, (j : Int) < r → ¬ ABM σ (σ 48 6) a (j : Int) 1 = true) → jv g mX12_writes F S [(0, vr g 48), (1, vi a), (2, vi r)] 44 [] := by
  intro t
  induction t with
  | zero =>
    intro r S h1 h2
    exfalso
    omega
  | succ t ih =>
    intro r S h1 h2 fL fS hq
    refine j_iload_n eX12_writes_44 rfl ?_
    refine j_iconst 3 eX12_writes_45 ?_
    refine j_icmp_ge eX12_writes_46 (by omega) (fun h46 => ?_) (fun h46 => ?_)
    · first
      | (have _ := h57
         rw [fS.A, fS.2 6 (by decide)] at h57
         have e := FGm_r (by omega) hq (h57.2.resolve_right (by omega)).1
         refine jv_lv ?_ (kk σ57 r (fL.trans h57.1) (fS.L h57.1) (Or.inr ⟨by omega, by omega⟩))
         exact lvC rfl (lvC rfl (lvC rfl (lv0))))
      | (have c : r = 3 := (by omega); refine jv_lv ?_ (kk S r fL fS (Or.inl ⟨FGm_3 (fun j x => hq j (by omega)), by omega⟩)); exact lvC rfl (lvC rfl (lvC rfl (lv0))))
    · have M1 := fS.TM hM
      have V1 := fS.VT vt
      refine j_aload_n eX12_writes_49 rfl ?_
      refine j_aload_n eX12_writes_50 rfl ?_
      refine j_getI flX12_79 ly48 rfl eX12_writes_51 ?_
      refine j_iload_n eX12_writes_54 rfl ?_
      refine j_iload_n eX12_writes_55 rfl ?_
      refine j_iconst 1 eX12_writes_56 ?_
      refine j_cV4 zX12_isAbove lkX12_212 ⟨Nat.le_of_ble_eq_true rfl, Nat.le_of_ble_eq_true rfl⟩ ly48 rfl rfl (c_X12_isAbove (by exact M1) (by exact V1.1) (by exact na) (by exact V1.2) (by omega) (by omega)) (Nat.le_of_ble_eq_true rfl) eX12_writes_57 (k_I (fun v57 σ57 h57 => ?_))
      refine j_if_ne eX12_writes_60 (by omega) (fun h60 => ?_) (fun h60 => ?_)
      · first
        | (have _ := h57
           rw [fS.A, fS.2 6 (by decide)] at h57
           have e := FGm_r (by omega) hq (h57.2.resolve_right (by omega)).1
           refine jv_lv ?_ (kk σ57 r (fL.trans h57.1) (fS.L h57.1) (Or.inr ⟨by omega, by omega⟩))
           exact lvC rfl (lvC rfl (lvC rfl (lv0))))
        | (have c : r = 3 := (by omega); refine jv_lv ?_ (kk S r fL fS (Or.inl ⟨FGm_3 (fun j x => hq j (by omega)), by omega⟩)); exact lvC rfl (lvC rfl (lvC rfl (lv0))))
      · refine j_iinc eX12_writes_63 rfl (Nat.le_of_ble_eq_true rfl) ?_
        refine j_goto eX12_writes_66 ?_
        rw [fS.A, fS.2 6 (by decide)] at h57
        refine jv_lv ?_ (ih (r + 1) σ57 (by omega) (by omega) (fL.trans h57.1) (fS.L h57.1) (fun j x => if z : (j : Int) = r then by rw [z]; exact (h57.2.resolve_left (by omega)).1 else hq j (by omega)))
        exact lvC rfl (lvC rfl (lvC rfl (lv0)))
theorem l_X12_writes {g : Gl} {σ : Sg} (hM : TM σ) (vt : VTm σ) : ∀ (t : Nat) (a : Int) (L : List Int) (τ : Sg), rk a ≤ t → 1 ≤ a ∧ a ≤ 127 → L.length + t ≤ 127 → frM σ τ → RL1 τ 48 62 24 (PN_ a ++ [a]) → RL1 τ 48 65 29 L → jv g mX12_writes (Fm g (PI (fun v σ' => frM σ σ' ∧ v = (trP (FGm σ) (SLm σ) (SHm σ) (loM σ) (hiM σ) t a L).1 ∧ (v = -7 → σ' 48 30 = (trP (FGm σ) (SLm σ) (SHm σ) (loM σ) (hiM σ) t a L).2.1) ∧ RL1 σ' 48 65 29 (trP (FGm σ) (SLm σ) (SHm σ) (loM σ) (hiM σ) t a L).2.2))) τ [(0, vr g 48)] 15 [] := by
  intro t
  induction t with
  | zero =>
    intro a L τ h1 na
    have w := rk_of na
    exfalso
    omega
  | succ t ih =>
    intro a L τ h1 na h2 hf hp hr
    have w := rk_of na
    have pb := PN_of na
    have p0 := hp.pop.2.2.2
    refine j_aload_n eX12_writes_15 rfl ?_
    refine j_getI flX12_193 ly48 rfl eX12_writes_16 ?_
    refine j_if_le eX12_writes_19 (by omega) (fun h19 => absurd h19 (by omega)) (fun h19 => ?_)
    refine j_aload_n eX12_writes_22 rfl ?_
    refine j_dup rfl eX12_writes_23 ?_
    refine j_getI flX12_193 ly48 rfl eX12_writes_24 ?_
    refine j_iconst 1 eX12_writes_27 ?_
    refine j_isub eX12_writes_28 ?_
    refine j_putI fpX12_193 ly48 rfl eX12_writes_29 ?_
    obtain ⟨p1, p2, p3, p4⟩ := hp.pop
    generalize hτ1 : up τ 48 24 (τ 48 24 - 1) = τ1 at *
    have f1 : frM σ τ1 := hτ1 ▸ hf.U (by decide)
    have b1 : RL1 τ1 48 65 29 L := hτ1 ▸ hr.lets rfl rfl
    have M1 := f1.TM hM
    have V1 := f1.VT vt
    refine j_aload_n eX12_writes_32 rfl ?_
    refine j_getR flX12_51 ly48 rfl eX12_writes_33 ?_
    refine j_aload_n eX12_writes_36 rfl ?_
    refine j_getI flX12_193 ly48 rfl eX12_writes_37 ?_
    refine j_iald ly62 (by omega) eX12_writes_40 ?_
    rw [p2]
    refine j_istore_n eX12_writes_41 (Nat.le_of_ble_eq_true rfl) ?_
    refine j_iconst 0 eX12_writes_42 ?_
    refine j_istore_n eX12_writes_43 (Nat.le_of_ble_eq_true rfl) ?_
    refine jv_lv ?_ (i_X12_writes hM vt (τ := τ1) (a := a) na f1 (fun S ρ fL fS hρ => ?_) 4 0 τ1 (by omega) (by omega) (frL.rf τ1) f1 (fun j x => by omega))
    · exact lvC rfl (lvC rfl (lvC rfl (lv0)))
    · have MS := fS.TM hM
      have VS := fS.VT vt
      have fb := FGm_b σ a
      rcases hρ with ⟨hρ1, hρ2⟩ | ⟨hρ1, hρ2⟩
      · refine j_aload_n eX12_writes_69 rfl ?_
        refine j_aload_n eX12_writes_70 rfl ?_
        refine j_getI flX12_79 ly48 rfl eX12_writes_71 ?_
        refine j_iload_n eX12_writes_74 rfl ?_
        refine j_iconst 0 eX12_writes_75 ?_
        refine j_cV3 zX12_lays lkX12_178 ⟨Nat.le_of_ble_eq_true rfl, Nat.le_of_ble_eq_true rfl⟩ ly48 rfl rfl (c_X12_lays (by exact MS) (by exact VS.1) (by exact na) (by exact VS.2) (by omega)) (Nat.le_of_ble_eq_true rfl) eX12_writes_76 (k_V (fun σ76 h76 => ?_))
        have f2 := fS.L h76.fr
        have r1 := (p1.L fL).L h76.fr
        have rb := (b1.letL fL).letL h76.fr
        have g4 := rb.1
        have r0 := r1.1
        have t1 := h76.2.2.1
        have qn := MS.2.2.1 _ VS.1.1 VS.1.2
        have sr := h76.S MS VS.1 VS.2 na (by omega)
        have s0 := sr 0 (by omega) (by omega)
        have s1 := sr _ (show (0 : Int) ≤ S 49 (2 + S 48 6) from qn.1) (by omega)
        rw [Int.add_zero] at t1
        rw [fS.N, fS.2 6 (by decide)] at s0 s1
        rw [fS.1 49 (by decide) (by decide), fS.2 6 (by decide)] at t1
        rw [fS.1 49 (by decide) (by decide)] at s1 qn
        rw [fS.2 6 (by decide)] at qn
        have e0 : SLm σ a = sgn (σ76 60 0) := s0.1.symm
        have e1 : SHm σ a = sgn (σ76 60 (σ 49 (2 + σ 48 6))) := s1.1.symm
        have s1b := s1.2.1
        refine j_iload_n eX12_writes_79 rfl ?_
        refine j_iconst 3 eX12_writes_80 ?_
        refine j_icmp_ne eX12_writes_81 (by omega) (fun h81 => absurd h81 (by omega)) (fun h81 => ?_)
        refine j_aload_n eX12_writes_84 rfl ?_
        refine j_getR flX12_44 ly48 rfl eX12_writes_85 ?_
        refine j_iconst 0 eX12_writes_88 ?_
        refine j_lald ly60 (by omega) eX12_writes_89 ?_
        refine j_lconst0 eX12_writes_90 ?_
        refine j_lc_le eX12_writes_91 eX12_writes_92 (by omega) (fun h91 => ?_) (fun h91 => ?_)
        · refine j_aload_n eX12_writes_109 rfl ?_
          refine j_aload_n eX12_writes_110 rfl ?_
          refine j_getR flX12_44 ly48 rfl eX12_writes_111 ?_
          refine j_iconst 0 eX12_writes_114 ?_
          refine j_lald ly60 (by omega) eX12_writes_115 ?_
          refine j_lconst0 eX12_writes_116 ?_
          refine j_lc_gt eX12_writes_117 eX12_writes_118 (by omega) (fun h117 => ?_) (fun h117 => ?_)
          · refine j_aload_n eX12_writes_129 rfl ?_
            refine j_iload_n eX12_writes_130 rfl ?_
            refine j_cV1 zX12_highOf lkX12_190 ⟨Nat.le_of_ble_eq_true rfl, Nat.le_of_ble_eq_true rfl⟩ ly48 rfl rfl (c_X12_highOf (by exact na) (by exact tk_fr f2 vt hM)) (Nat.le_of_ble_eq_true rfl) eX12_writes_131 (k_E ?_)
            refine j_putI fpX12_216 ly48 rfl eX12_writes_134 ?_
            refine j_bipush (-7) eX12_writes_137 (by decide) ?_
            refine r_iret rfl eX12_writes_139 ?_
            first
            | (exfalso; omega)
            | (have eT : trP (FGm σ) (SLm σ) (SHm σ) (loM σ) (hiM σ) (t + 1) a L = (-7, loM σ a, L) := (if_neg (by omega)).trans ((if_neg (by omega)).trans (if_pos (by rw [e0]; exact sg_le (by omega)))); rw [eT]; exact ⟨f2.U (by decide), rfl, fun _ => rfl, rb.lets rfl rfl⟩)
            | (have eT : trP (FGm σ) (SLm σ) (SHm σ) (loM σ) (hiM σ) (t + 1) a L = (-7, hiM σ a, L) := (if_neg (by omega)).trans ((if_neg (by omega)).trans ((if_neg (by rw [e0]; exact sg_gt (by omega))).trans (if_pos (by rw [e1]; exact sg_le (by omega))))); rw [eT]; exact ⟨f2.U (by decide), rfl, fun _ => f2.hi a, rb.lets rfl rfl⟩)
          · refine j_aload_n eX12_writes_121 rfl ?_
            refine j_iload_n eX12_writes_122 rfl ?_
            refine j_cV1 zX12_lowOf lkX12_145 ⟨Nat.le_of_ble_eq_true rfl, Nat.le_of_ble_eq_true rfl⟩ ly48 rfl rfl (c_X12_lowOf (by exact na) (by exact tk_fr f2 vt hM)) (Nat.le_of_ble_eq_true rfl) eX12_writes_123 (k_E ?_)
            rw [f2.lo a]
            refine j_goto eX12_writes_126 ?_
            refine j_putI fpX12_216 ly48 rfl eX12_writes_134 ?_
            refine j_bipush (-7) eX12_writes_137 (by decide) ?_
            refine r_iret rfl eX12_writes_139 ?_
            first
            | (exfalso; omega)
            | (have eT : trP (FGm σ) (SLm σ) (SHm σ) (loM σ) (hiM σ) (t + 1) a L = (-7, loM σ a, L) := (if_neg (by omega)).trans ((if_neg (by omega)).trans (if_pos (by rw [e0]; exact sg_le (by omega)))); rw [eT]; exact ⟨f2.U (by decide), rfl, fun _ => rfl, rb.lets rfl rfl⟩)
            | (have eT : trP (FGm σ) (SLm σ) (SHm σ) (loM σ) (hiM σ) (t + 1) a L = (-7, hiM σ a, L) := (if_neg (by omega)).trans ((if_neg (by omega)).trans ((if_neg (by rw [e0]; exact sg_gt (by omega))).trans (if_pos (by rw [e1]; exact sg_le (by omega))))); rw [eT]; exact ⟨f2.U (by decide), rfl, fun _ => f2.hi a, rb.lets rfl rfl⟩)
        · refine j_aload_n eX12_writes_95 rfl ?_
          refine j_getR flX12_44 ly48 rfl eX12_writes_96 ?_
          refine j_aload_n eX12_writes_99 rfl ?_
          refine j_getI flX12_161 ly48 rfl eX12_writes_100 ?_
          rw [t1]
          refine j_lald ly60 (by omega) eX12_writes_103 ?_
          refine j_lconst0 eX12_writes_104 ?_
          refine j_lc_gt eX12_writes_105 eX12_writes_106 (by omega) (fun h105 => ?_) (fun h105 => ?_)
          · refine j_iload_n eX12_writes_140 rfl ?_
            refine j_iconst 3 eX12_writes_141 ?_
            refine j_icmp_ne eX12_writes_142 (by omega) (fun h142 => absurd h142 (by omega)) (fun h142 => ?_)
            refine j_iload_n eX12_writes_145 rfl ?_
            refine j_bipush 64 eX12_writes_146 (by decide) ?_
            refine j_icmp_lt eX12_writes_148 (by omega) (fun h148 => ?_) (fun h148 => ?_)
            · refine j_aload_n eX12_writes_154 rfl ?_
              refine j_getR flX12_60 ly48 rfl eX12_writes_155 ?_
              refine j_aload_n eX12_writes_158 rfl ?_
              refine j_getI flX12_209 ly48 rfl eX12_writes_159 ?_
              refine j_iload_n eX12_writes_162 rfl ?_
              refine j_iconst 3 eX12_writes_163 ?_
              refine j_icmp_ne eX12_writes_164 (by omega) (fun h164 => absurd h164 (by omega)) (fun h164 => ?_)
              refine j_bipush 115 eX12_writes_167 (by decide) ?_
              refine j_goto eX12_writes_169 ?_
              refine j_iast ly65 (by omega) eX12_writes_176 ?_
              refine j_aload_n eX12_writes_177 rfl ?_
              refine j_dup rfl eX12_writes_178 ?_
              refine j_getI flX12_209 ly48 rfl eX12_writes_179 ?_
              refine j_iconst 1 eX12_writes_182 ?_
              refine j_iadd eX12_writes_183 ?_
              refine j_putI fpX12_209 ly48 rfl eX12_writes_184 ?_
              generalize hκ : up (up σ76 65 (σ76 48 29) (115)) 48 29 ((up σ76 65 (σ76 48 29) (115)) 48 29 + 1) = κ
              have k1 : RL1 κ 48 62 24 (PN_ a) := hκ ▸ r1.of rfl rfl
              have k2 : RL1 κ 48 65 29 (L ++ [115]) := hκ ▸ rb.letp
              have k3 : frM σ κ := hκ ▸ (f2.C (by decide)).U (by decide)
              have k0 := k1.1
              refine j_iload_n eX12_writes_187 rfl ?_
              refine j_iconst 3 eX12_writes_188 ?_
              refine j_icmp_ne eX12_writes_189 (by omega) (fun h189 => absurd h189 (by omega)) (fun h189 => ?_)
              refine j_aload_n eX12_writes_192 rfl ?_
              refine j_iconst 2 eX12_writes_193 ?_
              refine j_iload_n eX12_writes_194 rfl ?_
              refine j_imul eX12_writes_195 ?_
              refine j_iconst 1 eX12_writes_196 ?_
              refine j_iadd eX12_writes_197 ?_
              refine j_cV1 zX12_puts lkX12_199 ⟨Nat.le_of_ble_eq_true rfl, Nat.le_of_ble_eq_true rfl⟩ ly48 rfl rfl (c_X12_puts (by omega)) (Nat.le_of_ble_eq_true rfl) eX12_writes_198 (k_VE ?_)
              generalize hρ1 : up (up κ 62 (κ 48 24) (2 * a + 1)) 48 24 (κ 48 24 + 1) = ρ1
              have y1 : RL1 ρ1 48 62 24 (PN_ a ++ [2 * a + 1]) := hρ1 ▸ k1.put
              have e3 := y1.1
              rw [List.length_append] at e3
              have e3 : ρ1 48 24 = ((PN_ a).length + 1 : Nat) := e3
              have fr1 : frM σ ρ1 := hρ1 ▸ (k3.C (by decide)).U (by decide)
              have rb1 : RL1 ρ1 48 65 29 (L ++ [115]) := hρ1 ▸ k2.lets rfl rfl
              refine j_aload_n eX12_writes_201 rfl ?_
              refine j_iconst 2 eX12_writes_202 ?_
              refine j_iload_n eX12_writes_203 rfl ?_
              refine j_imul eX12_writes_204 ?_
              refine j_cV1 zX12_puts lkX12_199 ⟨Nat.le_of_ble_eq_true rfl, Nat.le_of_ble_eq_true rfl⟩ ly48 rfl rfl (c_X12_puts (by omega)) (Nat.le_of_ble_eq_true rfl) eX12_writes_205 (k_VE ?_)
              refine j_goto eX12_writes_208 ?_
              have eT : trP (FGm σ) (SLm σ) (SHm σ) (loM σ) (hiM σ) (t + 1) a L = trP (FGm σ) (SLm σ) (SHm σ) (loM σ) (hiM σ) t (2 * a) (L ++ [115]) := (if_neg (by omega)).trans ((if_neg (by omega)).trans ((if_neg (by rw [e0]; exact sg_gt (by omega))).trans ((if_neg (by rw [e1]; exact sg_gt (by omega))).trans (if_neg (by omega)))))
              rw [eT]
              generalize hρ2 : up (up ρ1 62 (ρ1 48 24) (2 * a)) 48 24 (ρ1 48 24 + 1) = ρ2
              have y2 : RL1 ρ2 48 62 24 ((PN_ a ++ [2 * a + 1]) ++ [2 * a]) := hρ2 ▸ y1.put
              rw [← pb.2.2.1 (by omega)] at y2
              have w2 := w.2.1 (by omega)
              refine jv_lv ?_ (ih (2 * a) (L ++ [115]) ρ2 (by omega) (by omega) (by rw [List.length_append]; show L.length + 1 + t ≤ 127; omega) (hρ2 ▸ (fr1.C (by decide)).U (by decide)) y2 (hρ2 ▸ rb1.lets rfl rfl))
              exact lvC rfl (lv0)
            · refine j_bipush (-8) eX12_writes_151 (by decide) ?_
              refine r_iret rfl eX12_writes_153 ?_
              have eT : trP (FGm σ) (SLm σ) (SHm σ) (loM σ) (hiM σ) (t + 1) a L = (-8, 0, L) := (if_neg (by omega)).trans ((if_neg (by omega)).trans ((if_neg (by rw [e0]; exact sg_gt (by omega))).trans ((if_neg (by rw [e1]; exact sg_gt (by omega))).trans (if_pos (by omega)))))
              rw [eT]
              exact ⟨f2, rfl, fun x => absurd x (by decide), rb⟩
          · refine j_aload_n eX12_writes_109 rfl ?_
            refine j_aload_n eX12_writes_110 rfl ?_
            refine j_getR flX12_44 ly48 rfl eX12_writes_111 ?_
            refine j_iconst 0 eX12_writes_114 ?_
            refine j_lald ly60 (by omega) eX12_writes_115 ?_
            refine j_lconst0 eX12_writes_116 ?_
            refine j_lc_gt eX12_writes_117 eX12_writes_118 (by omega) (fun h117 => ?_) (fun h117 => ?_)
            · refine j_aload_n eX12_writes_129 rfl ?_
              refine j_iload_n eX12_writes_130 rfl ?_
              refine j_cV1 zX12_highOf lkX12_190 ⟨Nat.le_of_ble_eq_true rfl, Nat.le_of_ble_eq_true rfl⟩ ly48 rfl rfl (c_X12_highOf (by exact na) (by exact tk_fr f2 vt hM)) (Nat.le_of_ble_eq_true rfl) eX12_writes_131 (k_E ?_)
              refine j_putI fpX12_216 ly48 rfl eX12_writes_134 ?_
              refine j_bipush (-7) eX12_writes_137 (by decide) ?_
              refine r_iret rfl eX12_writes_139 ?_
              first
              | (exfalso; omega)
              | (have eT : trP (FGm σ) (SLm σ) (SHm σ) (loM σ) (hiM σ) (t + 1) a L = (-7, loM σ a, L) := (if_neg (by omega)).trans ((if_neg (by omega)).trans (if_pos (by rw [e0]; exact sg_le (by omega)))); rw [eT]; exact ⟨f2.U (by decide), rfl, fun _ => rfl, rb.lets rfl rfl⟩)
              | (have eT : trP (FGm σ) (SLm σ) (SHm σ) (loM σ) (hiM σ) (t + 1) a L = (-7, hiM σ a, L) := (if_neg (by omega)).trans ((if_neg (by omega)).trans ((if_neg (by rw [e0]; exact sg_gt (by omega))).trans (if_pos (by rw [e1]; exact sg_le (by omega))))); rw [eT]; exact ⟨f2.U (by decide), rfl, fun _ => f2.hi a, rb.lets rfl rfl⟩)
            · refine j_aload_n eX12_writes_121 rfl ?_
              refine j_iload_n eX12_writes_122 rfl ?_
              refine j_cV1 zX12_lowOf lkX12_145 ⟨Nat.le_of_ble_eq_true rfl, Nat.le_of_ble_eq_true rfl⟩ ly48 rfl rfl (c_X12_lowOf (by exact na) (by exact tk_fr f2 vt hM)) (Nat.le_of_ble_eq_true rfl) eX12_writes_123 (k_E ?_)
              rw [f2.lo a]
              refine j_goto eX12_writes_126 ?_
              refine j_putI fpX12_216 ly48 rfl eX12_writes_134 ?_
              refine j_bipush (-7) eX12_writes_137 (by decide) ?_
              refine r_iret rfl eX12_writes_139 ?_
              first
              | (exfalso; omega)
              | (have eT : trP (FGm σ) (SLm σ) (SHm σ) (loM σ) (hiM σ) (t + 1) a L = (-7, loM σ a, L) := (if_neg (by omega)).trans ((if_neg (by omega)).trans (if_pos (by rw [e0]; exact sg_le (by omega)))); rw [eT]; exact ⟨f2.U (by decide), rfl, fun _ => rfl, rb.lets rfl rfl⟩)
              | (have eT : trP (FGm σ) (SLm σ) (SHm σ) (loM σ) (hiM σ) (t + 1) a L = (-7, hiM σ a, L) := (if_neg (by omega)).trans ((if_neg (by omega)).trans ((if_neg (by rw [e0]; exact sg_gt (by omega))).trans (if_pos (by rw [e1]; exact sg_le (by omega))))); rw [eT]; exact ⟨f2.U (by decide), rfl, fun _ => f2.hi a, rb.lets rfl rfl⟩)
      · refine j_aload_n eX12_writes_69 rfl ?_
        refine j_aload_n eX12_writes_70 rfl ?_
        refine j_getI flX12_79 ly48 rfl eX12_writes_71 ?_
        refine j_iload_n eX12_writes_74 rfl ?_
        refine j_iconst 0 eX12_writes_75 ?_
        refine j_cV3 zX12_lays lkX12_178 ⟨Nat.le_of_ble_eq_true rfl, Nat.le_of_ble_eq_true rfl⟩ ly48 rfl rfl (c_X12_lays (by exact MS) (by exact VS.1) (by exact na) (by exact VS.2) (by omega)) (Nat.le_of_ble_eq_true rfl) eX12_writes_76 (k_V (fun σ76 h76 => ?_))
        have f2 := fS.L h76.fr
        have r1 := (p1.L fL).L h76.fr
        have rb := (b1.letL fL).letL h76.fr
        have g4 := rb.1
        have r0 := r1.1
        have t1 := h76.2.2.1
        have qn := MS.2.2.1 _ VS.1.1 VS.1.2
        have sr := h76.S MS VS.1 VS.2 na (by omega)
        have s0 := sr 0 (by omega) (by omega)
        have s1 := sr _ (show (0 : Int) ≤ S 49 (2 + S 48 6) from qn.1) (by omega)
        rw [Int.add_zero] at t1
        rw [fS.N, fS.2 6 (by decide)] at s0 s1
        rw [fS.1 49 (by decide) (by decide), fS.2 6 (by decide)] at t1
        rw [fS.1 49 (by decide) (by decide)] at s1 qn
        rw [fS.2 6 (by decide)] at qn
        have e0 : SLm σ a = sgn (σ76 60 0) := s0.1.symm
        have e1 : SHm σ a = sgn (σ76 60 (σ 49 (2 + σ 48 6))) := s1.1.symm
        have s1b := s1.2.1
        refine j_iload_n eX12_writes_79 rfl ?_
        refine j_iconst 3 eX12_writes_80 ?_
        refine j_icmp_ne eX12_writes_81 (by omega) (fun h81 => ?_) (fun h81 => absurd h81 (by omega))
        refine j_iload_n eX12_writes_140 rfl ?_
        refine j_iconst 3 eX12_writes_141 ?_
        refine j_icmp_ne eX12_writes_142 (by omega) (fun h142 => ?_) (fun h142 => absurd h142 (by omega))
        refine j_aload_n eX12_writes_154 rfl ?_
        refine j_getR flX12_60 ly48 rfl eX12_writes_155 ?_
        refine j_aload_n eX12_writes_158 rfl ?_
        refine j_getI flX12_209 ly48 rfl eX12_writes_159 ?_
        refine j_iload_n eX12_writes_162 rfl ?_
        refine j_iconst 3 eX12_writes_163 ?_
        refine j_icmp_ne eX12_writes_164 (by omega) (fun h164 => ?_) (fun h164 => absurd h164 (by omega))
        refine j_bipush 48 eX12_writes_172 (by decide) ?_
        refine j_iload_n eX12_writes_174 rfl ?_
        refine j_iadd eX12_writes_175 ?_
        refine j_iast ly65 (by omega) eX12_writes_176 ?_
        refine j_aload_n eX12_writes_177 rfl ?_
        refine j_dup rfl eX12_writes_178 ?_
        refine j_getI flX12_209 ly48 rfl eX12_writes_179 ?_
        refine j_iconst 1 eX12_writes_182 ?_
        refine j_iadd eX12_writes_183 ?_
        refine j_putI fpX12_209 ly48 rfl eX12_writes_184 ?_
        generalize hκ : up (up σ76 65 (σ76 48 29) (48 + ρ)) 48 29 ((up σ76 65 (σ76 48 29) (48 + ρ)) 48 29 + 1) = κ
        have k1 : RL1 κ 48 62 24 (PN_ a) := hκ ▸ r1.of rfl rfl
        have k2 : RL1 κ 48 65 29 (L ++ [48 + ρ]) := hκ ▸ rb.letp
        have k3 : frM σ κ := hκ ▸ (f2.C (by decide)).U (by decide)
        have k0 := k1.1
        refine j_iload_n eX12_writes_187 rfl ?_
        refine j_iconst 3 eX12_writes_188 ?_
        refine j_icmp_ne eX12_writes_189 (by omega) (fun h189 => ?_) (fun h189 => absurd h189 (by omega))
        refine j_goto eX12_writes_208 ?_
        have eT : trP (FGm σ) (SLm σ) (SHm σ) (loM σ) (hiM σ) (t + 1) a L = trP (FGm σ) (SLm σ) (SHm σ) (loM σ) (hiM σ) t (bhd a) (L ++ [48 + FGm σ a]) := (if_neg (by omega)).trans (if_pos (by omega))
        rw [eT, ← hρ2]
        refine jv_lv ?_ (f_X12_writes (a := a) (L := L ++ [48 + ρ]) na (by omega) (by rw [List.length_append]; show L.length + 1 + t ≤ 127; omega) k3 k1 k2 ih)
        exact lvC rfl (lv0)
theorem c_X12_writes {g : Gl} {σ : Sg} (hM : TM σ) (vt : VTm σ) : Ct g mX12_writes [vr g 48] σ (PI (fun v σ' => frM σ σ' ∧ v = (trP (FGm σ) (SLm σ) (SHm σ) (loM σ) (hiM σ) 127 1 []).1 ∧ (v = -7 → σ' 48 30 = (trP (FGm σ) (SLm σ) (SHm σ) (loM σ) (hiM σ) 127 1 []).2.1) ∧ RL1 σ' 48 65 29 (trP (FGm σ) (SLm σ) (SHm σ) (loM σ) (hiM σ) 127 1 []).2.2)) := by
  refine Ct.of (by decide +kernel) (Nat.le_of_ble_eq_true rfl) ?_
  show jv g _ _ σ [(0, vr g 48)] 0 []
  refine j_aload_n eX12_writes_0 rfl ?_
  refine j_iconst 0 eX12_writes_1 ?_
  refine j_putI fpX12_209 ly48 rfl eX12_writes_2 ?_
  refine j_aload_n eX12_writes_5 rfl ?_
  refine j_iconst 0 eX12_writes_6 ?_
  refine j_putI fpX12_193 ly48 rfl eX12_writes_7 ?_
  refine j_aload_n eX12_writes_10 rfl ?_
  refine j_iconst 1 eX12_writes_11 ?_
  refine j_cV1 zX12_puts lkX12_199 ⟨Nat.le_of_ble_eq_true rfl, Nat.le_of_ble_eq_true rfl⟩ ly48 rfl rfl (c_X12_puts (by exact (show (0 : Int) ≤ 0 ∧ (0 : Int) < 400 by decide))) (Nat.le_of_ble_eq_true rfl) eX12_writes_12 (k_VE ?_)
  generalize hρ1 : up (up (up (up σ 48 29 0) 48 24 0) 62 ((up (up σ 48 29 0) 48 24 0) 48 24) 1) 48 24 ((up (up σ 48 29 0) 48 24 0) 48 24 + 1) = ρ1
  refine jv_lv ?_ (l_X12_writes hM vt 127 1 [] ρ1 (by decide) (by decide) (by decide) ?_ ?_ ?_)
  · exact lvC rfl (lv0)
  · rw [← hρ1]; exact ((((frM.rf σ).U (by decide)).U (by decide)).C (by decide)).U (by decide)
  · rw [← hρ1, show PN_ 1 = [] from by decide]; exact RL1.put (P := []) (τ := up (up σ 48 29 0) 48 24 0) (RL1_0 rfl)
  · rw [← hρ1]; exact RL1_0 rfl
