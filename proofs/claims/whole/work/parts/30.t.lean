/-! the reference: rows above, least numbers -/
def ABM (σ : Sg) (p a r s : Int) : Bool := abv (NMp σ p a r.toNat) s (σ 49 (2 + p) + r + 1).toNat
theorem sg_ne {x s : Int} (h : (s = 1 ∧ x ≤ 0) ∨ (s = -1 ∧ 0 ≤ x)) : sgn x ≠ s := by
  unfold sgn
  split
  · omega
  · split <;> omega
theorem RowM.A {σ σ' : Sg} {p a r s : Int} (hM : TM σ) (hp : 0 ≤ p ∧ p < σ 49 0) (hb : 0 ≤ σ 48 7 ∧ σ 48 7 < σ 49 1) (na : 1 ≤ a ∧ a ≤ 127) (hr : 0 ≤ r ∧ r ≤ 2) (h : RowM σ σ' p a r) : (∀ i, 0 ≤ i → i ≤ σ' 48 20 → sgn (σ' 60 i) = s) ↔ ABM σ p a r s = true := by
  have qn := hM.2.2.1 p hp.1 hp.2
  have sr := h.S hM hp hb na hr
  unfold ABM
  rw [abv_iff, h.2.2.1]
  constructor
  · intro z i h0 h1
    rw [← (sr i h0 (by omega)).1]
    exact z i h0 (by omega)
  · intro z i h0 h1
    rw [(sr i h0 h1).1]
    exact z i h0 (by omega)
theorem mnf_0 {f : Int → Int} {N i m : Int} (h : N < i) : mnf f (N + 1 - i).toNat i m = m := by
  rw [show (N + 1 - i).toNat = 0 from by omega]
  rfl
theorem mnf_1 {f : Int → Int} {N i m : Int} (h : i ≤ N) : mnf f (N + 1 - i).toNat i m = mnf f (N + 1 - (i + 1)).toNat (i + 1) (if f i < m then f i else m) := by
  rw [show (N + 1 - i).toNat = (N + 1 - (i + 1)).toNat + 1 from by omega]
  rfl
theorem l_X12_isAbove {g : Gl} {p a r s : Int} (hs : s = 1 ∨ s = -1) {Q : Int → Sg → Prop} {τ : Sg} (hN : 0 ≤ τ 48 20 ∧ τ 48 20 ≤ 7) (hB : ∀ i, 0 ≤ i → i ≤ τ 48 20 → -4611686018427387904 ≤ τ 60 i ∧ τ 60 i ≤ 4611686018427387904) (q1 : (∀ k, 0 ≤ k → k ≤ τ 48 20 → sgn (τ 60 k) = s) → Q 1 τ) (q0 : (∃ k, 0 ≤ k ∧ k ≤ τ 48 20 ∧ sgn (τ 60 k) ≠ s) → Q 0 τ) : ∀ (t : Nat) (i b : Int), τ 48 20 + 1 - i < t → (0 ≤ i ∧ i ≤ τ 48 20 + 1) → ((b = 1 ∧ ∀ k, 0 ≤ k → k < i → sgn (τ 60 k) = s) ∨ (b = 0 ∧ ∃ k, 0 ≤ k ∧ k ≤ τ 48 20 ∧ sgn (τ 60 k) ≠ s)) → jv g mX12_isAbove (Fm g (PI Q)) τ [(0, vr g 48), (1, vi p), (2, vi a), (3, vi r), (4, vi s), (5, vi b), (6, vi i)] 13 [] := by
  intro t
  induction t with
  | zero =>
    intro i b h1 h2 hq
    exfalso
    omega
  | succ t ih =>
    intro i b h1 h2 hq
    have bb : b = 0 ∨ b = 1 := by omega
    refine j_iload eX12_isAbove_13 rfl ?_
    refine j_aload_n eX12_isAbove_15 rfl ?_
    refine j_getI flX12_161 ly48 rfl eX12_isAbove_16 ?_
    refine j_icmp_gt eX12_isAbove_19 (by omega) (fun h19 => ?_) (fun h19 => ?_)
    · refine j_iload eX12_isAbove_72 rfl ?_
      refine r_zret (by omega) rfl eX12_isAbove_74 ?_
      rcases hq with ⟨rfl, q⟩ | ⟨rfl, q⟩
      · exact q1 (fun k x z => q k x (by omega))
      · exact q0 q
    · have rb := hB i (by omega) (by omega)
      refine j_iload eX12_isAbove_22 rfl ?_
      refine j_if_eq eX12_isAbove_24 (by omega) (fun h24 => ?_) (fun h24 => ?_)
      · refine j_iconst 0 eX12_isAbove_63 ?_
        refine j_istore eX12_isAbove_64 (Nat.le_of_ble_eq_true rfl) ?_
        refine j_iinc eX12_isAbove_66 rfl (Nat.le_of_ble_eq_true rfl) ?_
        refine j_goto eX12_isAbove_69 ?_
        first
        | (exfalso; omega)
        | (have q := (hq.resolve_right (by omega)).2; refine jv_lv ?_ (ih (i + 1) 1 (by omega) (by omega) (Or.inl ⟨rfl, fun k x z => if w : k = i then by rw [w]; exact sg_is (by omega) else q k x (by omega)⟩)); exact lvC rfl (lvC rfl (lvC rfl (lvC rfl (lvC rfl (lvC rfl (lvC rfl (lv0))))))))
        | (refine jv_lv ?_ (ih (i + 1) 0 (by omega) (by omega) (Or.inr ⟨rfl, i, by omega, by omega, sg_ne (by omega)⟩)); exact lvC rfl (lvC rfl (lvC rfl (lvC rfl (lvC rfl (lvC rfl (lvC rfl (lv0))))))))
        | (refine jv_lv ?_ (ih (i + 1) 0 (by omega) (by omega) (Or.inr ⟨rfl, (hq.resolve_left (by omega)).2⟩)); exact lvC rfl (lvC rfl (lvC rfl (lvC rfl (lvC rfl (lvC rfl (lvC rfl (lv0))))))))
      · refine j_iload eX12_isAbove_27 rfl ?_
        refine j_if_le eX12_isAbove_29 (by omega) (fun h29 => ?_) (fun h29 => ?_)
        · refine j_aload_n eX12_isAbove_47 rfl ?_
          refine j_getR flX12_44 ly48 rfl eX12_isAbove_48 ?_
          refine j_iload eX12_isAbove_51 rfl ?_
          refine j_lald ly60 (by omega) eX12_isAbove_53 ?_
          refine j_lconst0 eX12_isAbove_54 ?_
          refine j_lc_ge eX12_isAbove_55 eX12_isAbove_56 (by omega) (fun h55 => ?_) (fun h55 => ?_)
          · refine j_iconst 0 eX12_isAbove_63 ?_
            refine j_istore eX12_isAbove_64 (Nat.le_of_ble_eq_true rfl) ?_
            refine j_iinc eX12_isAbove_66 rfl (Nat.le_of_ble_eq_true rfl) ?_
            refine j_goto eX12_isAbove_69 ?_
            first
            | (exfalso; omega)
            | (have q := (hq.resolve_right (by omega)).2; refine jv_lv ?_ (ih (i + 1) 1 (by omega) (by omega) (Or.inl ⟨rfl, fun k x z => if w : k = i then by rw [w]; exact sg_is (by omega) else q k x (by omega)⟩)); exact lvC rfl (lvC rfl (lvC rfl (lvC rfl (lvC rfl (lvC rfl (lvC rfl (lv0))))))))
            | (refine jv_lv ?_ (ih (i + 1) 0 (by omega) (by omega) (Or.inr ⟨rfl, i, by omega, by omega, sg_ne (by omega)⟩)); exact lvC rfl (lvC rfl (lvC rfl (lvC rfl (lvC rfl (lvC rfl (lvC rfl (lv0))))))))
            | (refine jv_lv ?_ (ih (i + 1) 0 (by omega) (by omega) (Or.inr ⟨rfl, (hq.resolve_left (by omega)).2⟩)); exact lvC rfl (lvC rfl (lvC rfl (lvC rfl (lvC rfl (lvC rfl (lvC rfl (lv0))))))))
          · refine j_iconst 1 eX12_isAbove_59 ?_
            refine j_goto eX12_isAbove_60 ?_
            refine j_istore eX12_isAbove_64 (Nat.le_of_ble_eq_true rfl) ?_
            refine j_iinc eX12_isAbove_66 rfl (Nat.le_of_ble_eq_true rfl) ?_
            refine j_goto eX12_isAbove_69 ?_
            first
            | (exfalso; omega)
            | (have q := (hq.resolve_right (by omega)).2; refine jv_lv ?_ (ih (i + 1) 1 (by omega) (by omega) (Or.inl ⟨rfl, fun k x z => if w : k = i then by rw [w]; exact sg_is (by omega) else q k x (by omega)⟩)); exact lvC rfl (lvC rfl (lvC rfl (lvC rfl (lvC rfl (lvC rfl (lvC rfl (lv0))))))))
            | (refine jv_lv ?_ (ih (i + 1) 0 (by omega) (by omega) (Or.inr ⟨rfl, i, by omega, by omega, sg_ne (by omega)⟩)); exact lvC rfl (lvC rfl (lvC rfl (lvC rfl (lvC rfl (lvC rfl (lvC rfl (lv0))))))))
            | (refine jv_lv ?_ (ih (i + 1) 0 (by omega) (by omega) (Or.inr ⟨rfl, (hq.resolve_left (by omega)).2⟩)); exact lvC rfl (lvC rfl (lvC rfl (lvC rfl (lvC rfl (lvC rfl (lvC rfl (lv0))))))))
        · refine j_aload_n eX12_isAbove_32 rfl ?_
          refine j_getR flX12_44 ly48 rfl eX12_isAbove_33 ?_
          refine j_iload eX12_isAbove_36 rfl ?_
          refine j_lald ly60 (by omega) eX12_isAbove_38 ?_
          refine j_lconst0 eX12_isAbove_39 ?_
          refine j_lc_le eX12_isAbove_40 eX12_isAbove_41 (by omega) (fun h40 => ?_) (fun h40 => ?_)
          · refine j_iconst 0 eX12_isAbove_63 ?_
            refine j_istore eX12_isAbove_64 (Nat.le_of_ble_eq_true rfl) ?_
            refine j_iinc eX12_isAbove_66 rfl (Nat.le_of_ble_eq_true rfl) ?_
            refine j_goto eX12_isAbove_69 ?_
            first
            | (exfalso; omega)
            | (have q := (hq.resolve_right (by omega)).2; refine jv_lv ?_ (ih (i + 1) 1 (by omega) (by omega) (Or.inl ⟨rfl, fun k x z => if w : k = i then by rw [w]; exact sg_is (by omega) else q k x (by omega)⟩)); exact lvC rfl (lvC rfl (lvC rfl (lvC rfl (lvC rfl (lvC rfl (lvC rfl (lv0))))))))
            | (refine jv_lv ?_ (ih (i + 1) 0 (by omega) (by omega) (Or.inr ⟨rfl, i, by omega, by omega, sg_ne (by omega)⟩)); exact lvC rfl (lvC rfl (lvC rfl (lvC rfl (lvC rfl (lvC rfl (lvC rfl (lv0))))))))
            | (refine jv_lv ?_ (ih (i + 1) 0 (by omega) (by omega) (Or.inr ⟨rfl, (hq.resolve_left (by omega)).2⟩)); exact lvC rfl (lvC rfl (lvC rfl (lvC rfl (lvC rfl (lvC rfl (lvC rfl (lv0))))))))
          · refine j_goto eX12_isAbove_44 ?_
            refine j_iconst 1 eX12_isAbove_59 ?_
            refine j_goto eX12_isAbove_60 ?_
            refine j_istore eX12_isAbove_64 (Nat.le_of_ble_eq_true rfl) ?_
            refine j_iinc eX12_isAbove_66 rfl (Nat.le_of_ble_eq_true rfl) ?_
            refine j_goto eX12_isAbove_69 ?_
            first
            | (exfalso; omega)
            | (have q := (hq.resolve_right (by omega)).2; refine jv_lv ?_ (ih (i + 1) 1 (by omega) (by omega) (Or.inl ⟨rfl, fun k x z => if w : k = i then by rw [w]; exact sg_is (by omega) else q k x (by omega)⟩)); exact lvC rfl (lvC rfl (lvC rfl (lvC rfl (lvC rfl (lvC rfl (lvC rfl (lv0))))))))
            | (refine jv_lv ?_ (ih (i + 1) 0 (by omega) (by omega) (Or.inr ⟨rfl, i, by omega, by omega, sg_ne (by omega)⟩)); exact lvC rfl (lvC rfl (lvC rfl (lvC rfl (lvC rfl (lvC rfl (lvC rfl (lv0))))))))
            | (refine jv_lv ?_ (ih (i + 1) 0 (by omega) (by omega) (Or.inr ⟨rfl, (hq.resolve_left (by omega)).2⟩)); exact lvC rfl (lvC rfl (lvC rfl (lvC rfl (lvC rfl (lvC rfl (lvC rfl (lv0))))))))
theorem c_X12_isAbove {g : Gl} {σ : Sg} {p a r s : Int} (hM : TM σ) (vp : 0 ≤ p ∧ p < σ 49 0) (nd : 1 ≤ a ∧ a ≤ 127) (tb : 0 ≤ σ 48 7 ∧ σ 48 7 < σ 49 1) (hr : 0 ≤ r ∧ r ≤ 2) (hs : s = 1 ∨ s = -1) : Ct g mX12_isAbove [vr g 48, vi p, vi a, vi r, vi s] σ (PI (fun v σ' => frL σ σ' ∧ ((ABM σ p a r s = true ∧ v = 1) ∨ (¬ ABM σ p a r s = true ∧ v = 0)))) := by
  refine Ct.of (by decide +kernel) (Nat.le_of_ble_eq_true rfl) ?_
  show jv g _ _ σ [(0, vr g 48), (1, vi p), (2, vi a), (3, vi r), (4, vi s)] 0 []
  have qn := hM.2.2.1 p vp.1 vp.2
  refine j_aload_n eX12_isAbove_0 rfl ?_
  refine j_iload_n eX12_isAbove_1 rfl ?_
  refine j_iload_n eX12_isAbove_2 rfl ?_
  refine j_iload_n eX12_isAbove_3 rfl ?_
  refine j_cV3 zX12_lays lkX12_178 ⟨Nat.le_of_ble_eq_true rfl, Nat.le_of_ble_eq_true rfl⟩ ly48 rfl rfl (c_X12_lays (by exact hM) (by exact vp) (by exact nd) (by exact tb) (by exact hr)) (Nat.le_of_ble_eq_true rfl) eX12_isAbove_4 (k_V (fun σ4 h4 => ?_))
  have sr := h4.S hM vp tb nd hr
  have t1 := h4.2.2.1
  have am := h4.A (s := s) hM vp tb nd hr
  refine j_iconst 1 eX12_isAbove_7 ?_
  refine j_istore eX12_isAbove_8 (Nat.le_of_ble_eq_true rfl) ?_
  refine j_iconst 0 eX12_isAbove_10 ?_
  refine j_istore eX12_isAbove_11 (Nat.le_of_ble_eq_true rfl) ?_
  refine jv_lv ?_ (l_X12_isAbove (p := p) (a := a) (r := r) hs (τ := σ4) (by omega) (fun i x z => (sr i x (by omega)).2.1) (fun z => ⟨h4.fr, Or.inl ⟨am.mp z, rfl⟩⟩) (fun z => ⟨h4.fr, Or.inr ⟨fun w => ?_, rfl⟩⟩) 9 0 1 (by omega) (by omega) (Or.inl ⟨rfl, fun k x z => by omega⟩))
  · exact lvC rfl (lvC rfl (lvC rfl (lvC rfl (lvC rfl (lvC rfl (lvC rfl (lv0)))))))
  · obtain ⟨k, k0, k1, k2⟩ := z
    exact k2 (am.mpr w k k0 k1)
theorem l_X12_leastOf {g : Gl} {a : Int} {Q : Int → Sg → Prop} {τ : Sg} (hN : 0 ≤ τ 48 20 ∧ τ 48 20 ≤ 7) (hB : ∀ i, 0 ≤ i → i ≤ τ 48 20 → -4611686018427387904 ≤ τ 60 i ∧ τ 60 i ≤ 4611686018427387904) : ∀ (t : Nat) (i m : Int), τ 48 20 + 1 - i < t → (0 ≤ i ∧ i ≤ τ 48 20 + 1) → (-4611686018427387904 ≤ m ∧ m ≤ 4611686018427387904) → Q (mnf (τ 60) (τ 48 20 + 1 - i).toNat i m) τ → jv g mX12_leastOf (Fm g (PL Q)) τ [(0, vr g 48), (1, vi a), (2, vl m), (4, vi i)] 20 [] := by
  intro t
  induction t with
  | zero =>
    intro i m h1 h2 h3 hq
    exfalso
    omega
  | succ t ih =>
    intro i m h1 h2 h3 hq
    refine j_iload eX12_leastOf_20 rfl ?_
    refine j_aload_n eX12_leastOf_22 rfl ?_
    refine j_getI flX12_161 ly48 rfl eX12_leastOf_23 ?_
    refine j_icmp_gt eX12_leastOf_26 (by omega) (fun h26 => ?_) (fun h26 => ?_)
    · refine j_lload_n eX12_leastOf_59 rfl ?_
      refine r_lret rfl eX12_leastOf_60 ?_
      rw [mnf_0 (by omega)] at hq
      exact hq
    · have rb := hB i (by omega) (by omega)
      refine j_aload_n eX12_leastOf_29 rfl ?_
      refine j_getR flX12_44 ly48 rfl eX12_leastOf_30 ?_
      refine j_iload eX12_leastOf_33 rfl ?_
      refine j_lald ly60 (by omega) eX12_leastOf_35 ?_
      refine j_lload_n eX12_leastOf_36 rfl ?_
      refine j_lc_ge eX12_leastOf_37 eX12_leastOf_38 (by omega) (fun h37 => ?_) (fun h37 => ?_)
      · refine j_lload_n eX12_leastOf_51 rfl ?_
        refine j_lstore_n eX12_leastOf_52 (Nat.le_of_ble_eq_true rfl) ?_
        refine j_iinc eX12_leastOf_53 rfl (Nat.le_of_ble_eq_true rfl) ?_
        refine j_goto eX12_leastOf_56 ?_
        first
        | (rw [mnf_1 (by omega), if_pos (by omega)] at hq; refine jv_lv ?_ (ih (i + 1) _ (by omega) (by omega) (by omega) hq); exact lvC rfl (lvC rfl (lvC rfl (lvC rfl (lv0)))))
        | (rw [mnf_1 (by omega), if_neg (by omega)] at hq; refine jv_lv ?_ (ih (i + 1) _ (by omega) (by omega) (by omega) hq); exact lvC rfl (lvC rfl (lvC rfl (lvC rfl (lv0)))))
      · refine j_aload_n eX12_leastOf_41 rfl ?_
        refine j_getR flX12_44 ly48 rfl eX12_leastOf_42 ?_
        refine j_iload eX12_leastOf_45 rfl ?_
        refine j_lald ly60 (by omega) eX12_leastOf_47 ?_
        refine j_goto eX12_leastOf_48 ?_
        refine j_lstore_n eX12_leastOf_52 (Nat.le_of_ble_eq_true rfl) ?_
        refine j_iinc eX12_leastOf_53 rfl (Nat.le_of_ble_eq_true rfl) ?_
        refine j_goto eX12_leastOf_56 ?_
        first
        | (rw [mnf_1 (by omega), if_pos (by omega)] at hq; refine jv_lv ?_ (ih (i + 1) _ (by omega) (by omega) (by omega) hq); exact lvC rfl (lvC rfl (lvC rfl (lvC rfl (lv0)))))
        | (rw [mnf_1 (by omega), if_neg (by omega)] at hq; refine jv_lv ?_ (ih (i + 1) _ (by omega) (by omega) (by omega) hq); exact lvC rfl (lvC rfl (lvC rfl (lvC rfl (lv0)))))
theorem c_X12_leastOf {g : Gl} {σ : Sg} {a : Int} (hM : TM σ) (vt : VTm σ) (nd : 1 ≤ a ∧ a ≤ 127) : Ct g mX12_leastOf [vr g 48, vi a] σ (PL (fun v σ' => RowM σ σ' (σ 48 6) a 0 ∧ v = mnf (σ' 60) (σ 49 (2 + σ 48 6)).toNat 1 (σ' 60 0))) := by
  refine Ct.of (by decide +kernel) (Nat.le_of_ble_eq_true rfl) ?_
  show jv g _ _ σ [(0, vr g 48), (1, vi a)] 0 []
  have qn := hM.2.2.1 (σ 48 6) vt.1.1 vt.1.2
  refine j_aload_n eX12_leastOf_0 rfl ?_
  refine j_aload_n eX12_leastOf_1 rfl ?_
  refine j_getI flX12_79 ly48 rfl eX12_leastOf_2 ?_
  refine j_iload_n eX12_leastOf_5 rfl ?_
  refine j_iconst 0 eX12_leastOf_6 ?_
  refine j_cV3 zX12_lays lkX12_178 ⟨Nat.le_of_ble_eq_true rfl, Nat.le_of_ble_eq_true rfl⟩ ly48 rfl rfl (c_X12_lays (by exact hM) (by exact vt.1) (by exact nd) (by exact vt.2) (by omega)) (Nat.le_of_ble_eq_true rfl) eX12_leastOf_7 (k_V (fun σ7 h7 => ?_))
  have sr := h7.S hM vt.1 vt.2 nd (by omega)
  have t1 := h7.2.2.1
  refine j_aload_n eX12_leastOf_10 rfl ?_
  refine j_getR flX12_44 ly48 rfl eX12_leastOf_11 ?_
  refine j_iconst 0 eX12_leastOf_14 ?_
  refine j_lald ly60 (by omega) eX12_leastOf_15 ?_
  refine j_lstore_n eX12_leastOf_16 (Nat.le_of_ble_eq_true rfl) ?_
  refine j_iconst 1 eX12_leastOf_17 ?_
  refine j_istore eX12_leastOf_18 (Nat.le_of_ble_eq_true rfl) ?_
  refine jv_lv ?_ (l_X12_leastOf (a := a) (τ := σ7) (by omega) (fun i x z => (sr i x (by omega)).2.1) 9 1 (σ7 60 0) (by omega) (by omega) (sr 0 (by omega) (by omega)).2.1 ⟨h7, ?_⟩)
  · exact lvC rfl (lvC rfl (lvC rfl (lvC rfl (lv0))))
  · rw [t1, show (σ 49 (2 + σ 48 6)) + 0 + 1 - 1 = (σ 49 (2 + σ 48 6)) from by omega]
