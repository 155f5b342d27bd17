theorem l_X12_isHeld {g : Gl} {σ : Sg} {a : Int} (hM : TM σ) (tb : 0 ≤ σ 48 7 ∧ σ 48 7 < σ 49 1) (nd : 1 ≤ a ∧ a ≤ 127) : ∀ (t : Nat) (p b : Int) (τ : Sg), σ 49 0 - p < t → (0 ≤ p ∧ p ≤ σ 49 0) → frL σ τ → ((b = 1 ∧ ∀ q, 0 ≤ q → q < p → σ 49 (29 + q) = 0 ∨ ABM σ q a 0 (σ 49 (29 + q)) = true) ∨ (b = 0 ∧ ∃ q, 0 ≤ q ∧ q < σ 49 0 ∧ ¬ (σ 49 (29 + q) = 0 ∨ ABM σ q a 0 (σ 49 (29 + q)) = true))) → jv g mX12_isHeld (Fm g (PI (fun v σ' => frL σ σ' ∧ ((HLD σ a ∧ v = 1) ∨ (¬ HLD σ a ∧ v = 0))))) τ [(0, vr g 48), (1, vi a), (2, vi b), (3, vi p)] 4 [] := by
  intro t
  induction t with
  | zero =>
    intro p b τ h1 h2
    exfalso
    omega
  | succ t ih =>
    intro p b τ h1 h2 fL hq
    have bb : b = 0 ∨ b = 1 := by omega
    have m0 := hM.1
    have fM := fL.M
    have e49 := fM.1 49 (by decide) (by decide)
    have M1 := fM.TM hM
    have T1 : 0 ≤ τ 48 7 ∧ τ 48 7 < τ 49 1 := by rw [e49, fM.2 7 (by decide)]; exact tb
    refine j_iload_n eX12_isHeld_4 rfl ?_
    refine j_aload_n eX12_isHeld_5 rfl ?_
    refine j_getR flX12_7 ly48 rfl eX12_isHeld_6 ?_
    refine j_iconst 0 eX12_isHeld_9 ?_
    refine j_iald ly49 (by omega) eX12_isHeld_10 ?_
    rw [e49]
    refine j_icmp_ge eX12_isHeld_11 (by omega) (fun h11 => ?_) (fun h11 => ?_)
    · refine j_iload_n eX12_isHeld_61 rfl ?_
      refine r_zret (by omega) rfl eX12_isHeld_62 ?_
      rcases hq with ⟨rfl, q⟩ | ⟨rfl, q, q0, q1, q2⟩
      · exact ⟨fL, Or.inl ⟨fun p x z => q p x (by omega), rfl⟩⟩
      · exact ⟨fL, Or.inr ⟨fun z => q2 (z q q0 q1), rfl⟩⟩
    · refine j_iload_n eX12_isHeld_14 rfl ?_
      refine j_if_eq eX12_isHeld_15 (by omega) (fun h15 => ?_) (fun h15 => ?_)
      · refine j_iconst 0 eX12_isHeld_53 ?_
        refine j_istore_n eX12_isHeld_54 (Nat.le_of_ble_eq_true rfl) ?_
        refine j_iinc eX12_isHeld_55 rfl (Nat.le_of_ble_eq_true rfl) ?_
        refine j_goto eX12_isHeld_58 ?_
        first
        | (exfalso; omega)
        | (have c0 : b = 0 := by omega
           refine jv_lv ?_ (ih (p + 1) 0 τ (by omega) (by omega) fL (Or.inr ⟨rfl, (hq.resolve_left (by omega)).2⟩))
           exact lvC rfl (lvC rfl (lvC rfl (lvC rfl (lv0)))))
        | (have c0 : σ 49 (29 + p) = 0 := by omega
           refine jv_lv ?_ (ih (p + 1) 1 τ (by omega) (by omega) fL (Or.inl ⟨rfl, fun q x z => if w : q = p then by rw [w]; exact Or.inl c0 else (hq.resolve_right (by omega)).2 q x (by omega)⟩))
           exact lvC rfl (lvC rfl (lvC rfl (lvC rfl (lv0)))))
        | (have c1 := (h43.2.resolve_right (by omega)).1
           refine jv_lv ?_ (ih (p + 1) 1 σ43 (by omega) (by omega) (fL.trans h43.1) (Or.inl ⟨rfl, fun q x z => if w : q = p then by rw [w]; exact Or.inr c1 else (hq.resolve_right (by omega)).2 q x (by omega)⟩))
           exact lvC rfl (lvC rfl (lvC rfl (lvC rfl (lv0)))))
        | (have c1 := (h43.2.resolve_left (by omega)).1
           refine jv_lv ?_ (ih (p + 1) 0 σ43 (by omega) (by omega) (fL.trans h43.1) (Or.inr ⟨rfl, p, by omega, by omega, fun z => z.elim (by omega) c1⟩))
           exact lvC rfl (lvC rfl (lvC rfl (lvC rfl (lv0)))))
      · have wb := hM.2.2.2.2.1 p (by omega) (by omega)
        refine j_aload_n eX12_isHeld_18 rfl ?_
        refine j_getR flX12_7 ly48 rfl eX12_isHeld_19 ?_
        refine j_bipush 29 eX12_isHeld_22 (by decide) ?_
        refine j_iload_n eX12_isHeld_24 rfl ?_
        refine j_iadd eX12_isHeld_25 ?_
        refine j_iald ly49 (by omega) eX12_isHeld_26 ?_
        rw [e49]
        refine j_if_eq eX12_isHeld_27 (by omega) (fun h27 => ?_) (fun h27 => ?_)
        · refine j_iconst 1 eX12_isHeld_49 ?_
          refine j_goto eX12_isHeld_50 ?_
          refine j_istore_n eX12_isHeld_54 (Nat.le_of_ble_eq_true rfl) ?_
          refine j_iinc eX12_isHeld_55 rfl (Nat.le_of_ble_eq_true rfl) ?_
          refine j_goto eX12_isHeld_58 ?_
          first
          | (exfalso; omega)
          | (have c0 : b = 0 := by omega
             refine jv_lv ?_ (ih (p + 1) 0 τ (by omega) (by omega) fL (Or.inr ⟨rfl, (hq.resolve_left (by omega)).2⟩))
             exact lvC rfl (lvC rfl (lvC rfl (lvC rfl (lv0)))))
          | (have c0 : σ 49 (29 + p) = 0 := by omega
             refine jv_lv ?_ (ih (p + 1) 1 τ (by omega) (by omega) fL (Or.inl ⟨rfl, fun q x z => if w : q = p then by rw [w]; exact Or.inl c0 else (hq.resolve_right (by omega)).2 q x (by omega)⟩))
             exact lvC rfl (lvC rfl (lvC rfl (lvC rfl (lv0)))))
          | (have c1 := (h43.2.resolve_right (by omega)).1
             refine jv_lv ?_ (ih (p + 1) 1 σ43 (by omega) (by omega) (fL.trans h43.1) (Or.inl ⟨rfl, fun q x z => if w : q = p then by rw [w]; exact Or.inr c1 else (hq.resolve_right (by omega)).2 q x (by omega)⟩))
             exact lvC rfl (lvC rfl (lvC rfl (lvC rfl (lv0)))))
          | (have c1 := (h43.2.resolve_left (by omega)).1
             refine jv_lv ?_ (ih (p + 1) 0 σ43 (by omega) (by omega) (fL.trans h43.1) (Or.inr ⟨rfl, p, by omega, by omega, fun z => z.elim (by omega) c1⟩))
             exact lvC rfl (lvC rfl (lvC rfl (lvC rfl (lv0)))))
        · refine j_aload_n eX12_isHeld_30 rfl ?_
          refine j_iload_n eX12_isHeld_31 rfl ?_
          refine j_iload_n eX12_isHeld_32 rfl ?_
          refine j_iconst 0 eX12_isHeld_33 ?_
          refine j_aload_n eX12_isHeld_34 rfl ?_
          refine j_getR flX12_7 ly48 rfl eX12_isHeld_35 ?_
          refine j_bipush 29 eX12_isHeld_38 (by decide) ?_
          refine j_iload_n eX12_isHeld_40 rfl ?_
          refine j_iadd eX12_isHeld_41 ?_
          refine j_iald ly49 (by omega) eX12_isHeld_42 ?_
          rw [e49]
          refine j_cV4 zX12_isAbove lkX12_212 ⟨Nat.le_of_ble_eq_true rfl, Nat.le_of_ble_eq_true rfl⟩ ly48 rfl rfl (c_X12_isAbove (by exact M1) (by rw [e49]; omega) (by exact nd) (by exact T1) (by omega) (by omega)) (Nat.le_of_ble_eq_true rfl) eX12_isHeld_43 (k_I (fun v43 σ43 h43 => ?_))
          rw [fM.A] at h43
          refine j_if_eq eX12_isHeld_46 (by omega) (fun h46 => ?_) (fun h46 => ?_)
          · refine j_iconst 0 eX12_isHeld_53 ?_
            refine j_istore_n eX12_isHeld_54 (Nat.le_of_ble_eq_true rfl) ?_
            refine j_iinc eX12_isHeld_55 rfl (Nat.le_of_ble_eq_true rfl) ?_
            refine j_goto eX12_isHeld_58 ?_
            first
            | (exfalso; omega)
            | (have c0 : b = 0 := by omega
               refine jv_lv ?_ (ih (p + 1) 0 τ (by omega) (by omega) fL (Or.inr ⟨rfl, (hq.resolve_left (by omega)).2⟩))
               exact lvC rfl (lvC rfl (lvC rfl (lvC rfl (lv0)))))
            | (have c0 : σ 49 (29 + p) = 0 := by omega
               refine jv_lv ?_ (ih (p + 1) 1 τ (by omega) (by omega) fL (Or.inl ⟨rfl, fun q x z => if w : q = p then by rw [w]; exact Or.inl c0 else (hq.resolve_right (by omega)).2 q x (by omega)⟩))
               exact lvC rfl (lvC rfl (lvC rfl (lvC rfl (lv0)))))
            | (have c1 := (h43.2.resolve_right (by omega)).1
               refine jv_lv ?_ (ih (p + 1) 1 σ43 (by omega) (by omega) (fL.trans h43.1) (Or.inl ⟨rfl, fun q x z => if w : q = p then by rw [w]; exact Or.inr c1 else (hq.resolve_right (by omega)).2 q x (by omega)⟩))
               exact lvC rfl (lvC rfl (lvC rfl (lvC rfl (lv0)))))
            | (have c1 := (h43.2.resolve_left (by omega)).1
               refine jv_lv ?_ (ih (p + 1) 0 σ43 (by omega) (by omega) (fL.trans h43.1) (Or.inr ⟨rfl, p, by omega, by omega, fun z => z.elim (by omega) c1⟩))
               exact lvC rfl (lvC rfl (lvC rfl (lvC rfl (lv0)))))
          · refine j_iconst 1 eX12_isHeld_49 ?_
            refine j_goto eX12_isHeld_50 ?_
            refine j_istore_n eX12_isHeld_54 (Nat.le_of_ble_eq_true rfl) ?_
            refine j_iinc eX12_isHeld_55 rfl (Nat.le_of_ble_eq_true rfl) ?_
            refine j_goto eX12_isHeld_58 ?_
            first
            | (exfalso; omega)
            | (have c0 : b = 0 := by omega
               refine jv_lv ?_ (ih (p + 1) 0 τ (by omega) (by omega) fL (Or.inr ⟨rfl, (hq.resolve_left (by omega)).2⟩))
               exact lvC rfl (lvC rfl (lvC rfl (lvC rfl (lv0)))))
            | (have c0 : σ 49 (29 + p) = 0 := by omega
               refine jv_lv ?_ (ih (p + 1) 1 τ (by omega) (by omega) fL (Or.inl ⟨rfl, fun q x z => if w : q = p then by rw [w]; exact Or.inl c0 else (hq.resolve_right (by omega)).2 q x (by omega)⟩))
               exact lvC rfl (lvC rfl (lvC rfl (lvC rfl (lv0)))))
            | (have c1 := (h43.2.resolve_right (by omega)).1
               refine jv_lv ?_ (ih (p + 1) 1 σ43 (by omega) (by omega) (fL.trans h43.1) (Or.inl ⟨rfl, fun q x z => if w : q = p then by rw [w]; exact Or.inr c1 else (hq.resolve_right (by omega)).2 q x (by omega)⟩))
               exact lvC rfl (lvC rfl (lvC rfl (lvC rfl (lv0)))))
            | (have c1 := (h43.2.resolve_left (by omega)).1
               refine jv_lv ?_ (ih (p + 1) 0 σ43 (by omega) (by omega) (fL.trans h43.1) (Or.inr ⟨rfl, p, by omega, by omega, fun z => z.elim (by omega) c1⟩))
               exact lvC rfl (lvC rfl (lvC rfl (lvC rfl (lv0)))))
theorem c_X12_isHeld {g : Gl} {σ : Sg} {a : Int} (hM : TM σ) (tb : 0 ≤ σ 48 7 ∧ σ 48 7 < σ 49 1) (nd : 1 ≤ a ∧ a ≤ 127) : Ct g mX12_isHeld [vr g 48, vi a] σ (PI (fun v σ' => frL σ σ' ∧ ((HLD σ a ∧ v = 1) ∨ (¬ HLD σ a ∧ v = 0)))) := by
  refine Ct.of (by decide +kernel) (Nat.le_of_ble_eq_true rfl) ?_
  show jv g _ _ σ [(0, vr g 48), (1, vi a)] 0 []
  refine j_iconst 1 eX12_isHeld_0 ?_
  refine j_istore_n eX12_isHeld_1 (Nat.le_of_ble_eq_true rfl) ?_
  refine j_iconst 0 eX12_isHeld_2 ?_
  refine j_istore_n eX12_isHeld_3 (Nat.le_of_ble_eq_true rfl) ?_
  have m0 := hM.1
  refine jv_lv ?_ (l_X12_isHeld hM tb nd 5 0 1 σ (by omega) (by omega) (frL.rf σ) (Or.inl ⟨rfl, fun q x z => by omega⟩))
  exact lvC rfl (lvC rfl (lvC rfl (lvC rfl (lv0))))
theorem l_X12_isBroken {g : Gl} {σ : Sg} {a : Int} (hM : TM σ) (tb : 0 ≤ σ 48 7 ∧ σ 48 7 < σ 49 1) (nd : 1 ≤ a ∧ a ≤ 127) : ∀ (t : Nat) (p b : Int) (τ : Sg), σ 49 0 - p < t → (0 ≤ p ∧ p ≤ σ 49 0) → frL σ τ → ((b = 0 ∧ ∀ q, 0 ≤ q → q < p → ¬ (σ 49 (29 + q) ≠ 0 ∧ ABM σ q a 0 (-(σ 49 (29 + q))) = true)) ∨ (b = 1 ∧ ∃ q, 0 ≤ q ∧ q < σ 49 0 ∧ σ 49 (29 + q) ≠ 0 ∧ ABM σ q a 0 (-(σ 49 (29 + q))) = true)) → jv g mX12_isBroken (Fm g (PI (fun v σ' => frL σ σ' ∧ ((BRK σ a ∧ v = 1) ∨ (¬ BRK σ a ∧ v = 0))))) τ [(0, vr g 48), (1, vi a), (2, vi b), (3, vi p)] 4 [] := by
  intro t
  induction t with
  | zero =>
    intro p b τ h1 h2
    exfalso
    omega
  | succ t ih =>
    intro p b τ h1 h2 fL hq
    have bb : b = 0 ∨ b = 1 := by omega
    have m0 := hM.1
    have fM := fL.M
    have e49 := fM.1 49 (by decide) (by decide)
    have M1 := fM.TM hM
    have T1 : 0 ≤ τ 48 7 ∧ τ 48 7 < τ 49 1 := by rw [e49, fM.2 7 (by decide)]; exact tb
    refine j_iload_n eX12_isBroken_4 rfl ?_
    refine j_aload_n eX12_isBroken_5 rfl ?_
    refine j_getR flX12_7 ly48 rfl eX12_isBroken_6 ?_
    refine j_iconst 0 eX12_isBroken_9 ?_
    refine j_iald ly49 (by omega) eX12_isBroken_10 ?_
    rw [e49]
    refine j_icmp_ge eX12_isBroken_11 (by omega) (fun h11 => ?_) (fun h11 => ?_)
    · refine j_iload_n eX12_isBroken_62 rfl ?_
      refine r_zret (by omega) rfl eX12_isBroken_63 ?_
      rcases hq with ⟨rfl, q⟩ | ⟨rfl, q, q0, q1, q2⟩
      · exact ⟨fL, Or.inr ⟨fun ⟨p, x, z, y⟩ => q p x (by omega) y, rfl⟩⟩
      · exact ⟨fL, Or.inl ⟨⟨q, q0, q1, q2⟩, rfl⟩⟩
    · refine j_iload_n eX12_isBroken_14 rfl ?_
      refine j_if_ne eX12_isBroken_15 (by omega) (fun h15 => ?_) (fun h15 => ?_)
      · refine j_iconst 1 eX12_isBroken_50 ?_
        refine j_goto eX12_isBroken_51 ?_
        refine j_istore_n eX12_isBroken_55 (Nat.le_of_ble_eq_true rfl) ?_
        refine j_iinc eX12_isBroken_56 rfl (Nat.le_of_ble_eq_true rfl) ?_
        refine j_goto eX12_isBroken_59 ?_
        first
        | (exfalso; omega)
        | (have c0 : b = 1 := by omega
           refine jv_lv ?_ (ih (p + 1) 1 τ (by omega) (by omega) fL (Or.inr ⟨rfl, (hq.resolve_left (by omega)).2⟩))
           exact lvC rfl (lvC rfl (lvC rfl (lvC rfl (lv0)))))
        | (have c0 : σ 49 (29 + p) = 0 := by omega
           refine jv_lv ?_ (ih (p + 1) 0 τ (by omega) (by omega) fL (Or.inl ⟨rfl, fun q x z => if w : q = p then by rw [w]; exact fun y => y.1 c0 else (hq.resolve_right (by omega)).2 q x (by omega)⟩))
           exact lvC rfl (lvC rfl (lvC rfl (lvC rfl (lv0)))))
        | (have c1 := (h44.2.resolve_left (by omega)).1
           refine jv_lv ?_ (ih (p + 1) 0 σ44 (by omega) (by omega) (fL.trans h44.1) (Or.inl ⟨rfl, fun q x z => if w : q = p then by rw [w]; exact fun y => c1 y.2 else (hq.resolve_right (by omega)).2 q x (by omega)⟩))
           exact lvC rfl (lvC rfl (lvC rfl (lvC rfl (lv0)))))
        | (have c1 := (h44.2.resolve_right (by omega)).1
           refine jv_lv ?_ (ih (p + 1) 1 σ44 (by omega) (by omega) (fL.trans h44.1) (Or.inr ⟨rfl, p, by omega, by omega, by omega, c1⟩))
           exact lvC rfl (lvC rfl (lvC rfl (lvC rfl (lv0)))))
      · have wb := hM.2.2.2.2.1 p (by omega) (by omega)
        refine j_aload_n eX12_isBroken_18 rfl ?_
        refine j_getR flX12_7 ly48 rfl eX12_isBroken_19 ?_
        refine j_bipush 29 eX12_isBroken_22 (by decide) ?_
        refine j_iload_n eX12_isBroken_24 rfl ?_
        refine j_iadd eX12_isBroken_25 ?_
        refine j_iald ly49 (by omega) eX12_isBroken_26 ?_
        rw [e49]
        refine j_if_eq eX12_isBroken_27 (by omega) (fun h27 => ?_) (fun h27 => ?_)
        · refine j_iconst 0 eX12_isBroken_54 ?_
          refine j_istore_n eX12_isBroken_55 (Nat.le_of_ble_eq_true rfl) ?_
          refine j_iinc eX12_isBroken_56 rfl (Nat.le_of_ble_eq_true rfl) ?_
          refine j_goto eX12_isBroken_59 ?_
          first
          | (exfalso; omega)
          | (have c0 : b = 1 := by omega
             refine jv_lv ?_ (ih (p + 1) 1 τ (by omega) (by omega) fL (Or.inr ⟨rfl, (hq.resolve_left (by omega)).2⟩))
             exact lvC rfl (lvC rfl (lvC rfl (lvC rfl (lv0)))))
          | (have c0 : σ 49 (29 + p) = 0 := by omega
             refine jv_lv ?_ (ih (p + 1) 0 τ (by omega) (by omega) fL (Or.inl ⟨rfl, fun q x z => if w : q = p then by rw [w]; exact fun y => y.1 c0 else (hq.resolve_right (by omega)).2 q x (by omega)⟩))
             exact lvC rfl (lvC rfl (lvC rfl (lvC rfl (lv0)))))
          | (have c1 := (h44.2.resolve_left (by omega)).1
             refine jv_lv ?_ (ih (p + 1) 0 σ44 (by omega) (by omega) (fL.trans h44.1) (Or.inl ⟨rfl, fun q x z => if w : q = p then by rw [w]; exact fun y => c1 y.2 else (hq.resolve_right (by omega)).2 q x (by omega)⟩))
             exact lvC rfl (lvC rfl (lvC rfl (lvC rfl (lv0)))))
          | (have c1 := (h44.2.resolve_right (by omega)).1
             refine jv_lv ?_ (ih (p + 1) 1 σ44 (by omega) (by omega) (fL.trans h44.1) (Or.inr ⟨rfl, p, by omega, by omega, by omega, c1⟩))
             exact lvC rfl (lvC rfl (lvC rfl (lvC rfl (lv0)))))
        · refine j_aload_n eX12_isBroken_30 rfl ?_
          refine j_iload_n eX12_isBroken_31 rfl ?_
          refine j_iload_n eX12_isBroken_32 rfl ?_
          refine j_iconst 0 eX12_isBroken_33 ?_
          refine j_aload_n eX12_isBroken_34 rfl ?_
          refine j_getR flX12_7 ly48 rfl eX12_isBroken_35 ?_
          refine j_bipush 29 eX12_isBroken_38 (by decide) ?_
          refine j_iload_n eX12_isBroken_40 rfl ?_
          refine j_iadd eX12_isBroken_41 ?_
          refine j_iald ly49 (by omega) eX12_isBroken_42 ?_
          rw [e49]
          refine j_ineg eX12_isBroken_43 ?_
          refine j_cV4 zX12_isAbove lkX12_212 ⟨Nat.le_of_ble_eq_true rfl, Nat.le_of_ble_eq_true rfl⟩ ly48 rfl rfl (c_X12_isAbove (by exact M1) (by rw [e49]; omega) (by exact nd) (by exact T1) (by omega) (by omega)) (Nat.le_of_ble_eq_true rfl) eX12_isBroken_44 (k_I (fun v44 σ44 h44 => ?_))
          rw [fM.A] at h44
          refine j_if_eq eX12_isBroken_47 (by omega) (fun h47 => ?_) (fun h47 => ?_)
          · refine j_iconst 0 eX12_isBroken_54 ?_
            refine j_istore_n eX12_isBroken_55 (Nat.le_of_ble_eq_true rfl) ?_
            refine j_iinc eX12_isBroken_56 rfl (Nat.le_of_ble_eq_true rfl) ?_
            refine j_goto eX12_isBroken_59 ?_
            first
            | (exfalso; omega)
            | (have c0 : b = 1 := by omega
               refine jv_lv ?_ (ih (p + 1) 1 τ (by omega) (by omega) fL (Or.inr ⟨rfl, (hq.resolve_left (by omega)).2⟩))
               exact lvC rfl (lvC rfl (lvC rfl (lvC rfl (lv0)))))
            | (have c0 : σ 49 (29 + p) = 0 := by omega
               refine jv_lv ?_ (ih (p + 1) 0 τ (by omega) (by omega) fL (Or.inl ⟨rfl, fun q x z => if w : q = p then by rw [w]; exact fun y => y.1 c0 else (hq.resolve_right (by omega)).2 q x (by omega)⟩))
               exact lvC rfl (lvC rfl (lvC rfl (lvC rfl (lv0)))))
            | (have c1 := (h44.2.resolve_left (by omega)).1
               refine jv_lv ?_ (ih (p + 1) 0 σ44 (by omega) (by omega) (fL.trans h44.1) (Or.inl ⟨rfl, fun q x z => if w : q = p then by rw [w]; exact fun y => c1 y.2 else (hq.resolve_right (by omega)).2 q x (by omega)⟩))
               exact lvC rfl (lvC rfl (lvC rfl (lvC rfl (lv0)))))
            | (have c1 := (h44.2.resolve_right (by omega)).1
               refine jv_lv ?_ (ih (p + 1) 1 σ44 (by omega) (by omega) (fL.trans h44.1) (Or.inr ⟨rfl, p, by omega, by omega, by omega, c1⟩))
               exact lvC rfl (lvC rfl (lvC rfl (lvC rfl (lv0)))))
          · refine j_iconst 1 eX12_isBroken_50 ?_
            refine j_goto eX12_isBroken_51 ?_
            refine j_istore_n eX12_isBroken_55 (Nat.le_of_ble_eq_true rfl) ?_
            refine j_iinc eX12_isBroken_56 rfl (Nat.le_of_ble_eq_true rfl) ?_
            refine j_goto eX12_isBroken_59 ?_
            first
            | (exfalso; omega)
            | (have c0 : b = 1 := by omega
               refine jv_lv ?_ (ih (p + 1) 1 τ (by omega) (by omega) fL (Or.inr ⟨rfl, (hq.resolve_left (by omega)).2⟩))
               exact lvC rfl (lvC rfl (lvC rfl (lvC rfl (lv0)))))
            | (have c0 : σ 49 (29 + p) = 0 := by omega
               refine jv_lv ?_ (ih (p + 1) 0 τ (by omega) (by omega) fL (Or.inl ⟨rfl, fun q x z => if w : q = p then by rw [w]; exact fun y => y.1 c0 else (hq.resolve_right (by omega)).2 q x (by omega)⟩))
               exact lvC rfl (lvC rfl (lvC rfl (lvC rfl (lv0)))))
            | (have c1 := (h44.2.resolve_left (by omega)).1
               refine jv_lv ?_ (ih (p + 1) 0 σ44 (by omega) (by omega) (fL.trans h44.1) (Or.inl ⟨rfl, fun q x z => if w : q = p then by rw [w]; exact fun y => c1 y.2 else (hq.resolve_right (by omega)).2 q x (by omega)⟩))
               exact lvC rfl (lvC rfl (lvC rfl (lvC rfl (lv0)))))
            | (have c1 := (h44.2.resolve_right (by omega)).1
               refine jv_lv ?_ (ih (p + 1) 1 σ44 (by omega) (by omega) (fL.trans h44.1) (Or.inr ⟨rfl, p, by omega, by omega, by omega, c1⟩))
               exact lvC rfl (lvC rfl (lvC rfl (lvC rfl (lv0)))))
theorem c_X12_isBroken {g : Gl} {σ : Sg} {a : Int} (hM : TM σ) (tb : 0 ≤ σ 48 7 ∧ σ 48 7 < σ 49 1) (nd : 1 ≤ a ∧ a ≤ 127) : Ct g mX12_isBroken [vr g 48, vi a] σ (PI (fun v σ' => frL σ σ' ∧ ((BRK σ a ∧ v = 1) ∨ (¬ BRK σ a ∧ v = 0)))) := by
  refine Ct.of (by decide +kernel) (Nat.le_of_ble_eq_true rfl) ?_
  show jv g _ _ σ [(0, vr g 48), (1, vi a)] 0 []
  refine j_iconst 0 eX12_isBroken_0 ?_
  refine j_istore_n eX12_isBroken_1 (Nat.le_of_ble_eq_true rfl) ?_
  refine j_iconst 0 eX12_isBroken_2 ?_
  refine j_istore_n eX12_isBroken_3 (Nat.le_of_ble_eq_true rfl) ?_
  have m0 := hM.1
  refine jv_lv ?_ (l_X12_isBroken hM tb nd 5 0 0 σ (by omega) (by omega) (frL.rf σ) (Or.inl ⟨rfl, fun q x z => by omega⟩))
  exact lvC rfl (lvC rfl (lvC rfl (lvC rfl (lv0))))
theorem l_X12_first {g : Gl} {σ : Sg} (hM : TM σ) (hk : (0 ≤ σ 48 6 ∧ σ 48 6 ≤ 2) ∧ 0 ≤ σ 48 7 ∧ σ 48 7 ≤ 2) (tb : (0 ≤ σ 48 7 ∧ σ 48 7 < σ 49 1)) : ∀ (t : Nat) (a : Int) (τ : Sg), 128 - a < t → (1 ≤ a ∧ a ≤ 128) → frL σ τ → jv g mX12_first (Fm g (PI (fun v σ' => frL σ σ' ∧ ((¬ (0 ≤ σ 48 7 ∧ σ 48 7 < σ 49 1) ∧ v = -2) ∨ ((0 ≤ σ 48 7 ∧ σ 48 7 < σ 49 1) ∧ v = frs (JM σ) (128 - a).toNat a))))) τ [(0, vr g 48), (1, vi a)] 16 [] := by
  intro t
  induction t with
  | zero =>
    intro a τ h1 h2
    exfalso
    omega
  | succ t ih =>
    intro a τ h1 h2 fL
    have fM := fL.M
    have e49 := fM.1 49 (by decide) (by decide)
    have M1 := fM.TM hM
    have T1 : 0 ≤ τ 48 7 ∧ τ 48 7 < τ 49 1 := by rw [e49, fM.2 7 (by decide)]; exact tb
    refine j_iload_n eX12_first_16 rfl ?_
    refine j_bipush 127 eX12_first_17 (by decide) ?_
    refine j_icmp_gt eX12_first_19 (by omega) (fun h19 => ?_) (fun h19 => ?_)
    · refine j_iload_n eX12_first_36 rfl ?_
      refine j_bipush 127 eX12_first_37 (by decide) ?_
      refine j_icmp_le eX12_first_39 (by omega) (fun h39 => ?_) (fun h39 => ?_)
      · refine j_iload_n eX12_first_47 rfl ?_
        refine r_iret rfl eX12_first_48 ?_
        first
        | (exfalso; omega)
        | (have z : (128 - a).toNat = 0 := (by omega); rw [z]; exact ⟨fL, Or.inr ⟨tb, rfl⟩⟩)
        | (have c1 := (h24.2.resolve_right (by omega)).1; rw [show (128 - a).toNat = (128 - (a + 1)).toNat + 1 from by omega]; exact ⟨fL.trans h24.1, Or.inr ⟨tb, (if_pos (JM_0 c1)).symm⟩⟩)
      · refine j_bipush (-9) eX12_first_42 (by decide) ?_
        refine j_goto eX12_first_44 ?_
        refine r_iret rfl eX12_first_48 ?_
        first
        | (exfalso; omega)
        | (have z : (128 - a).toNat = 0 := (by omega); rw [z]; exact ⟨fL, Or.inr ⟨tb, rfl⟩⟩)
        | (have c1 := (h24.2.resolve_right (by omega)).1; rw [show (128 - a).toNat = (128 - (a + 1)).toNat + 1 from by omega]; exact ⟨fL.trans h24.1, Or.inr ⟨tb, (if_pos (JM_0 c1)).symm⟩⟩)
    · refine j_aload_n eX12_first_22 rfl ?_
      refine j_iload_n eX12_first_23 rfl ?_
      refine j_cV1 zX12_isHeld lkX12_232 ⟨Nat.le_of_ble_eq_true rfl, Nat.le_of_ble_eq_true rfl⟩ ly48 rfl rfl (c_X12_isHeld (by exact M1) (by exact T1) (by omega)) (Nat.le_of_ble_eq_true rfl) eX12_first_24 (k_I (fun v24 σ24 h24 => ?_))
      rw [fM.H] at h24
      refine j_if_ne eX12_first_27 (by omega) (fun h27 => ?_) (fun h27 => ?_)
      · refine j_iload_n eX12_first_36 rfl ?_
        refine j_bipush 127 eX12_first_37 (by decide) ?_
        refine j_icmp_le eX12_first_39 (by omega) (fun h39 => ?_) (fun h39 => ?_)
        · refine j_iload_n eX12_first_47 rfl ?_
          refine r_iret rfl eX12_first_48 ?_
          first
          | (exfalso; omega)
          | (have z : (128 - a).toNat = 0 := (by omega); rw [z]; exact ⟨fL, Or.inr ⟨tb, rfl⟩⟩)
          | (have c1 := (h24.2.resolve_right (by omega)).1; rw [show (128 - a).toNat = (128 - (a + 1)).toNat + 1 from by omega]; exact ⟨fL.trans h24.1, Or.inr ⟨tb, (if_pos (JM_0 c1)).symm⟩⟩)
        · refine j_bipush (-9) eX12_first_42 (by decide) ?_
          refine j_goto eX12_first_44 ?_
          refine r_iret rfl eX12_first_48 ?_
          first
          | (exfalso; omega)
          | (have z : (128 - a).toNat = 0 := (by omega); rw [z]; exact ⟨fL, Or.inr ⟨tb, rfl⟩⟩)
          | (have c1 := (h24.2.resolve_right (by omega)).1; rw [show (128 - a).toNat = (128 - (a + 1)).toNat + 1 from by omega]; exact ⟨fL.trans h24.1, Or.inr ⟨tb, (if_pos (JM_0 c1)).symm⟩⟩)
      · refine j_iinc eX12_first_30 rfl (Nat.le_of_ble_eq_true rfl) ?_
        refine j_goto eX12_first_33 ?_
        have c1 := (h24.2.resolve_left (by omega)).1
        have c2 : ¬ JM σ a = 0 := fun z => c1 (by
          by_cases y : BRK σ a
          · rw [JM_1 c1 y] at z; omega
          · rw [JM_2 c1 y] at z; omega)
        rw [show (128 - a).toNat = (128 - (a + 1)).toNat + 1 from by omega, show frs (JM σ) ((128 - (a + 1)).toNat + 1) a = frs (JM σ) (128 - (a + 1)).toNat (a + 1) from if_neg c2]
        refine jv_lv ?_ (ih (a + 1) σ24 (by omega) (by omega) (fL.trans h24.1))
        exact lvC rfl (lvC rfl (lv0))
theorem c_X12_first {g : Gl} {σ : Sg} (hM : TM σ) (hk : (0 ≤ σ 48 6 ∧ σ 48 6 ≤ 2) ∧ 0 ≤ σ 48 7 ∧ σ 48 7 ≤ 2) : Ct g mX12_first [vr g 48] σ (PI (fun v σ' => frL σ σ' ∧ ((¬ (0 ≤ σ 48 7 ∧ σ 48 7 < σ 49 1) ∧ v = -2) ∨ ((0 ≤ σ 48 7 ∧ σ 48 7 < σ 49 1) ∧ v = frs (JM σ) 127 1)))) := by
  refine Ct.of (by decide +kernel) (Nat.le_of_ble_eq_true rfl) ?_
  show jv g _ _ σ [(0, vr g 48)] 0 []
  refine j_aload_n eX12_first_0 rfl ?_
  refine j_aload_n eX12_first_1 rfl ?_
  refine j_getI flX12_82 ly48 rfl eX12_first_2 ?_
  refine j_cV1 zX12_isBox lkX12_126 ⟨Nat.le_of_ble_eq_true rfl, Nat.le_of_ble_eq_true rfl⟩ ly48 rfl rfl (c_X12_isBox (by omega) (by exact hM.2.1)) (Nat.le_of_ble_eq_true rfl) eX12_first_5 (k_B (fun h5 => ?_) (fun h5 => ?_))
  · refine j_ifne_1 eX12_first_8 ?_
    refine j_iconst 1 eX12_first_14 ?_
    refine j_istore_n eX12_first_15 (Nat.le_of_ble_eq_true rfl) ?_
    refine jv_lv ?_ (l_X12_first hM hk h5 128 1 σ (by omega) (by omega) (frL.rf σ))
    exact lvC rfl (lvC rfl (lv0))
  · refine j_ifne_0 eX12_first_8 ?_
    refine j_bipush (-2) eX12_first_11 (by decide) ?_
    refine r_iret rfl eX12_first_13 ?_
    exact ⟨frL.rf σ, Or.inl ⟨h5, rfl⟩⟩
