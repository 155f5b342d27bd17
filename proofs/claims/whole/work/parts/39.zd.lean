/-! the reference: bounds narrowed -/
theorem jv_topl {g : Gl} {y : Mt} {F : Ex} {σ : Sg} {lv : List (Nat × Value)} {pc : Nat} {st : List Value} {a b : Int} (h : a = b) (k : jv g y F σ lv pc (vl b :: st)) : jv g y F σ lv pc (vl a :: st) := h ▸ k
def RW0 (σ : Sg) (a i : Int) : Int := RWv σ (σ 48 6) a 0 i
def mM (σ : Sg) (a : Int) : Int := mnf (RW0 σ a) (σ 49 (2 + σ 48 6)).toNat 1 (RW0 σ a 0)
def eM (σ : Sg) (a : Int) : Int := if RW0 σ a (σ 49 (2 + σ 48 6)) < RW0 σ a 0 then RW0 σ a (σ 49 (2 + σ 48 6)) else RW0 σ a 0
theorem frM.rw0 {σ τ : Sg} (h : frM σ τ) (a i : Int) : RW0 τ a i = RW0 σ a i := by
  unfold RW0 RWv fM loM wdM
  rw [h.1 49 (by omega) (by omega), h.2 6 (by omega), h.2 7 (by omega)]
theorem frM.mm {σ τ : Sg} (h : frM σ τ) (a : Int) : mM τ a = mM σ a := by
  unfold mM
  rw [show RW0 τ a = RW0 σ a from funext (h.rw0 a), h.1 49 (by omega) (by omega), h.2 6 (by omega)]
theorem RowM.R {σ σ' : Sg} {a i : Int} (h : RowM σ σ' (σ 48 6) a 0) (h0 : 0 ≤ i) (h1 : i ≤ σ 49 (2 + σ 48 6)) : σ' 60 i = RW0 σ a i := h.2.2.2.2 i h0 (by omega)
theorem RowM.m {σ σ' : Sg} {a : Int} (h : RowM σ σ' (σ 48 6) a 0) (q : 0 ≤ σ 49 (2 + σ 48 6)) : mnf (σ' 60) (σ 49 (2 + σ 48 6)).toNat 1 (σ' 60 0) = mM σ a := by
  unfold mM
  rw [h.R (i := 0) (by omega) q]
  exact mnf_congr _ _ _ (fun j x y => h.R (by omega) (by omega))
theorem RW0_S {σ : Sg} {a : Int} (hM : TM σ) (vt : VTm σ) (na : 1 ≤ a ∧ a ≤ 127) : ∀ i, 0 ≤ i → i ≤ σ 49 (2 + σ 48 6) → (-4611686018427387904 ≤ RW0 σ a i ∧ RW0 σ a i ≤ 4611686018427387904) ∧ RW0 σ a i * bnZ (σ 49 (2 + σ 48 6)) i = lcf (σ 49 (2 + σ 48 6)) (σ 49 (2 + σ 48 6)) * NMp σ (σ 48 6) a 0 i := by
  intro i h0 h1
  have h : RowM σ (setc (up (up σ 48 20 (σ 49 (2 + σ 48 6) + 0)) 48 21 (lcf (σ 49 (2 + σ 48 6) + 0) (σ 49 (2 + σ 48 6)) * 64 ^ (σ 49 (2 + σ 48 6)).toNat)) 60 (RW0 σ a)) (σ 48 6) a 0 := by
    refine ⟨fun k x y z => ?_, fun j x y => ?_, rfl, rfl, fun i _ _ => rfl⟩
    · unfold setc
      rw [if_neg y, up_ne x, up_ne x]
    · show up1 (up1 (σ 48) 20 _) 21 _ j = _
      rw [up1_ne y, up1_ne x]
  have s := (h.S hM vt.1 vt.2 na (by omega) i h0 (by omega)).2
  rw [Int.add_zero] at s
  exact s
theorem mM_b {σ : Sg} {a : Int} (hM : TM σ) (vt : VTm σ) (na : 1 ≤ a ∧ a ≤ 127) : -4611686018427387904 ≤ mM σ a ∧ mM σ a ≤ 4611686018427387904 := by
  have qn := hM.2.2.1 (σ 48 6) vt.1.1 vt.1.2
  have s0 := (RW0_S hM vt na 0 (by omega) (by omega)).1
  exact mnf_b _ _ _ (fun j x y => (RW0_S hM vt na j (by omega) (by omega)).1) s0.1 s0.2
theorem lws_0 {h : Int → Int} {N i b : Int} (c : N ≤ i) : lws h (N - i).toNat i b = b := by
  rw [show (N - i).toNat = 0 from by omega]
  rfl
theorem lws_t {h : Int → Int} {N i b : Int} (c : i < N) (d : h i < h b) : lws h (N - i).toNat i b = lws h (N - (i + 1)).toNat (i + 1) i := by
  rw [show (N - i).toNat = (N - (i + 1)).toNat + 1 from by omega]
  show lws h _ _ (if h i < h b then i else b) = _
  rw [if_pos d]
theorem lws_f {h : Int → Int} {N i b : Int} (c : i < N) (d : ¬ h i < h b) : lws h (N - i).toNat i b = lws h (N - (i + 1)).toNat (i + 1) b := by
  rw [show (N - i).toNat = (N - (i + 1)).toNat + 1 from by omega]
  show lws h _ _ (if h i < h b then i else b) = _
  rw [if_neg d]
theorem mnf_z {f : Int → Int} {N i m : Int} (h : N ≤ i) : mnf f (N - i).toNat i m = m := by
  rw [show (N - i).toNat = 0 from by omega]
  rfl
theorem mnf_s {f : Int → Int} {N i m m' : Int} (h : i < N) (e : (if f i < m then f i else m) = m') : mnf f (N - i).toNat i m = mnf f (N - (i + 1)).toNat (i + 1) m' := by
  rw [show (N - i).toNat = (N - (i + 1)).toNat + 1 from by omega]
  show mnf f _ _ (if f i < m then f i else m) = _
  rw [e]
theorem nrF_0 {mx : Int → Int} {n k sz : Int} {f : Int → Int} (h : n ≤ k) : nrF mx (n - k).toNat sz f = (sz, f) := by
  rw [show (n - k).toNat = 0 from by omega]
  rfl
theorem nrF_t {mx : Int → Int} {n k sz : Int} {f : Int → Int} (h : k < n) (c : 64 ≤ f (lws (fun j => mx (f j)) (sz - 1).toNat 1 0)) : nrF mx (n - k).toNat sz f = (sz, f) := by
  rw [show (n - k).toNat = (n - (k + 1)).toNat + 1 from by omega]
  exact if_pos c
theorem nrF_f {mx : Int → Int} {n k sz : Int} {f : Int → Int} (h : k < n) (c : ¬ 64 ≤ f (lws (fun j => mx (f j)) (sz - 1).toNat 1 0)) : nrF mx (n - k).toNat sz f = nrF mx (n - (k + 1)).toNat (sz + 1) (insN f (lws (fun j => mx (f j)) (sz - 1).toNat 1 0)) := by
  rw [show (n - k).toNat = (n - (k + 1)).toNat + 1 from by omega]
  exact if_neg c
def MN (σ τ : Sg) (sz : Int) (f : Int → Int) : Prop := frM σ τ ∧ τ 48 32 = sz ∧ (1 ≤ sz ∧ sz ≤ 21) ∧ ∀ j, 0 ≤ j → j < sz → τ 66 j = f j ∧ 1 ≤ f j ∧ f j ≤ 127
theorem MN.L {σ τ ρ : Sg} {sz : Int} {f : Int → Int} (h : MN σ τ sz f) (h2 : frL τ ρ) : MN σ ρ sz f := ⟨h.1.L h2, (h2.2 32 (by decide) (by decide)).trans h.2.1, h.2.2.1, fun j x y => by rw [h2.1 66 (by decide) (by decide) (by decide)]; exact h.2.2.2 j x y⟩
theorem MN_ins {σ τ ρ : Sg} {sz b : Int} {f : Int → Int} (hf : frM σ ρ) (e : τ 48 32 = sz) (hs : 1 ≤ sz ∧ sz ≤ 20) (hb : 0 ≤ b ∧ b < sz) (h1 : ∀ i, 0 ≤ i → i ≤ b → τ 66 i = f i) (h2 : ∀ i, b + 1 < i → i ≤ sz → τ 66 i = f (i - 1)) (hr : ∀ i, 0 ≤ i → i < sz → 1 ≤ f i ∧ f i ≤ 127) (h64 : f b < 64) (e1 : ρ 66 = up1 (up1 (τ 66) (b + 1) (2 * τ 66 b + 1)) b (2 * up1 (τ 66) (b + 1) (2 * τ 66 b + 1) b)) (e2 : ρ 48 32 = τ 48 32 + 1) : MN σ ρ (sz + 1) (insN f b) := by
  refine ⟨hf, by omega, by omega, fun j x y => ?_⟩
  have hbb := h1 b hb.1 (by omega)
  have rb := hr b hb.1 hb.2
  unfold insN
  rw [e1]
  by_cases c1 : j < b
  · rw [if_pos c1, up1_ne (by omega), up1_ne (by omega)]
    exact ⟨h1 j x (by omega), hr j x (by omega)⟩
  · rw [if_neg c1]
    by_cases c2 : j = b
    · rw [if_pos c2, c2, up1_same, up1_ne (by omega), hbb]
      omega
    · rw [if_neg c2, up1_ne c2]
      by_cases c3 : j = b + 1
      · rw [if_pos c3, c3, up1_same, hbb]
        omega
      · rw [if_neg c3, up1_ne c3]
        exact ⟨h2 j (by omega) (by omega), hr (j - 1) (by omega) (by omega)⟩
theorem i_X12_narrows {g : Gl} {σ : Sg} {n : Int} (hM : TM σ) (vt : VTm σ) {F : Ex} {on k sz B : Int} {f : Int → Int} (kk : ∀ τ, MN σ τ sz f → jv g mX12_narrows F τ [(0, vr g 48), (1, vi n), (2, vi on), (3, vi k), (4, vi B)] 105 []) : ∀ (t : Nat) (j b : Int) (τ : Sg), sz - j < t → (1 ≤ j ∧ j ≤ sz) → (0 ≤ b ∧ b < sz) → lws (fun j => mM σ (f j)) (sz - j).toNat j b = B → MN σ τ sz f → jv g mX12_narrows F τ [(0, vr g 48), (1, vi n), (2, vi on), (3, vi k), (4, vi b), (5, vl (mM σ (f b))), (7, vi j)] 43 [] := by
  intro t
  induction t with
  | zero =>
    intro j b τ h1 h2
    exfalso
    omega
  | succ t ih =>
    intro j b τ h1 h2 h3 hB hN
    have sz1 := hN.2.1
    have sz2 := hN.2.2.1
    refine j_iload eX12_narrows_43 rfl ?_
    refine j_aload_n eX12_narrows_45 rfl ?_
    refine j_getI flX12_222 ly48 rfl eX12_narrows_46 ?_
    refine j_icmp_ge eX12_narrows_49 (by omega) (fun h49 => ?_) (fun h49 => ?_)
    · rw [lws_0 (by omega)] at hB
      subst hB
      refine jv_lv ?_ (kk τ hN)
      exact lvC rfl (lvC rfl (lvC rfl (lvC rfl (lvC rfl (lv0)))))
    · have e66 := hN.2.2.2 j (by omega) (by omega)
      have e67 := hN.2.2.2 b (by omega) (by omega)
      have T1 := hN.1.TM hM
      have V1 := hN.1.VT vt
      have q1 := T1.2.2.1 _ V1.1.1 V1.1.2
      have mb := mM_b (a := f j) hM vt (by omega)
      have mc := mM_b (a := f b) hM vt (by omega)
      refine j_aload_n eX12_narrows_52 rfl ?_
      refine j_aload_n eX12_narrows_53 rfl ?_
      refine j_getR flX12_63 ly48 rfl eX12_narrows_54 ?_
      refine j_iload eX12_narrows_57 rfl ?_
      refine j_iald ly66 (by omega) eX12_narrows_59 ?_
      refine j_cV1 zX12_leastOf lkX12_225 ⟨Nat.le_of_ble_eq_true rfl, Nat.le_of_ble_eq_true rfl⟩ ly48 rfl rfl (c_X12_leastOf (by exact T1) (by exact V1) (by omega)) (Nat.le_of_ble_eq_true rfl) eX12_narrows_60 (k_L (fun v60 σ60 h60 => ?_))
      have N60 := hN.L h60.1.fr
      have m60 : v60 = mM σ (f j) := by rw [h60.2, h60.1.m q1.1, hN.1.mm, e66.1]
      subst m60
      refine j_lstore eX12_narrows_63 (Nat.le_of_ble_eq_true rfl) ?_
      refine j_lload eX12_narrows_65 rfl ?_
      refine j_lload eX12_narrows_67 rfl ?_
      refine j_lc_ge eX12_narrows_69 eX12_narrows_70 (by omega) (fun h69 => ?_) (fun h69 => ?_)
      · refine j_iload eX12_narrows_78 rfl ?_
        refine j_istore eX12_narrows_80 (Nat.le_of_ble_eq_true rfl) ?_
        refine j_lload eX12_narrows_82 rfl ?_
        refine j_lload eX12_narrows_84 rfl ?_
        refine j_lc_ge eX12_narrows_86 eX12_narrows_87 (by omega) (fun h86 => ?_) (fun h86 => ?_)
        · refine j_lload eX12_narrows_95 rfl ?_
          refine j_lstore eX12_narrows_97 (Nat.le_of_ble_eq_true rfl) ?_
          refine j_iinc eX12_narrows_99 rfl (Nat.le_of_ble_eq_true rfl) ?_
          refine j_goto eX12_narrows_102 ?_
          first
          | (exfalso; omega)
          | (rw [lws_f (h := fun j => mM σ (f j)) (by omega) (show ¬ mM σ (f j) < mM σ (f b) by omega)] at hB; refine jv_lv ?_ (ih (j + 1) b σ60 (by omega) (by omega) (by omega) hB N60); exact lvC rfl (lvC rfl (lvC rfl (lvC rfl (lvC rfl (lvC rfl (lvC rfl (lv0))))))))
          | (rw [lws_t (h := fun j => mM σ (f j)) (by omega) (show mM σ (f j) < mM σ (f b) by omega)] at hB; refine jv_lv ?_ (ih (j + 1) j σ60 (by omega) (by omega) (by omega) hB N60); exact lvC rfl (lvC rfl (lvC rfl (lvC rfl (lvC rfl (lvC rfl (lvC rfl (lv0))))))))
        · refine j_lload eX12_narrows_90 rfl ?_
          refine j_goto eX12_narrows_92 ?_
          refine j_lstore eX12_narrows_97 (Nat.le_of_ble_eq_true rfl) ?_
          refine j_iinc eX12_narrows_99 rfl (Nat.le_of_ble_eq_true rfl) ?_
          refine j_goto eX12_narrows_102 ?_
          first
          | (exfalso; omega)
          | (rw [lws_f (h := fun j => mM σ (f j)) (by omega) (show ¬ mM σ (f j) < mM σ (f b) by omega)] at hB; refine jv_lv ?_ (ih (j + 1) b σ60 (by omega) (by omega) (by omega) hB N60); exact lvC rfl (lvC rfl (lvC rfl (lvC rfl (lvC rfl (lvC rfl (lvC rfl (lv0))))))))
          | (rw [lws_t (h := fun j => mM σ (f j)) (by omega) (show mM σ (f j) < mM σ (f b) by omega)] at hB; refine jv_lv ?_ (ih (j + 1) j σ60 (by omega) (by omega) (by omega) hB N60); exact lvC rfl (lvC rfl (lvC rfl (lvC rfl (lvC rfl (lvC rfl (lvC rfl (lv0))))))))
      · refine j_iload eX12_narrows_73 rfl ?_
        refine j_goto eX12_narrows_75 ?_
        refine j_istore eX12_narrows_80 (Nat.le_of_ble_eq_true rfl) ?_
        refine j_lload eX12_narrows_82 rfl ?_
        refine j_lload eX12_narrows_84 rfl ?_
        refine j_lc_ge eX12_narrows_86 eX12_narrows_87 (by omega) (fun h86 => ?_) (fun h86 => ?_)
        · refine j_lload eX12_narrows_95 rfl ?_
          refine j_lstore eX12_narrows_97 (Nat.le_of_ble_eq_true rfl) ?_
          refine j_iinc eX12_narrows_99 rfl (Nat.le_of_ble_eq_true rfl) ?_
          refine j_goto eX12_narrows_102 ?_
          first
          | (exfalso; omega)
          | (rw [lws_f (h := fun j => mM σ (f j)) (by omega) (show ¬ mM σ (f j) < mM σ (f b) by omega)] at hB; refine jv_lv ?_ (ih (j + 1) b σ60 (by omega) (by omega) (by omega) hB N60); exact lvC rfl (lvC rfl (lvC rfl (lvC rfl (lvC rfl (lvC rfl (lvC rfl (lv0))))))))
          | (rw [lws_t (h := fun j => mM σ (f j)) (by omega) (show mM σ (f j) < mM σ (f b) by omega)] at hB; refine jv_lv ?_ (ih (j + 1) j σ60 (by omega) (by omega) (by omega) hB N60); exact lvC rfl (lvC rfl (lvC rfl (lvC rfl (lvC rfl (lvC rfl (lvC rfl (lv0))))))))
        · refine j_lload eX12_narrows_90 rfl ?_
          refine j_goto eX12_narrows_92 ?_
          refine j_lstore eX12_narrows_97 (Nat.le_of_ble_eq_true rfl) ?_
          refine j_iinc eX12_narrows_99 rfl (Nat.le_of_ble_eq_true rfl) ?_
          refine j_goto eX12_narrows_102 ?_
          first
          | (exfalso; omega)
          | (rw [lws_f (h := fun j => mM σ (f j)) (by omega) (show ¬ mM σ (f j) < mM σ (f b) by omega)] at hB; refine jv_lv ?_ (ih (j + 1) b σ60 (by omega) (by omega) (by omega) hB N60); exact lvC rfl (lvC rfl (lvC rfl (lvC rfl (lvC rfl (lvC rfl (lvC rfl (lv0))))))))
          | (rw [lws_t (h := fun j => mM σ (f j)) (by omega) (show mM σ (f j) < mM σ (f b) by omega)] at hB; refine jv_lv ?_ (ih (j + 1) j σ60 (by omega) (by omega) (by omega) hB N60); exact lvC rfl (lvC rfl (lvC rfl (lvC rfl (lvC rfl (lvC rfl (lvC rfl (lv0))))))))
theorem j_X12_narrows {g : Gl} {σ : Sg} {n : Int} {F : Ex} {on k b sz : Int} {f : Int → Int} (hb : 0 ≤ b ∧ b < sz) (hs : sz ≤ 21) (kk : ∀ τ, frM σ τ → τ 48 32 = sz → (∀ i, 0 ≤ i → i ≤ b → τ 66 i = f i) → (∀ i, b + 1 < i → i ≤ sz → τ 66 i = f (i - 1)) → jv g mX12_narrows F τ [(0, vr g 48), (1, vi n), (2, vi on), (3, vi k), (4, vi b)] 164 []) : ∀ (t : Nat) (j : Int) (τ : Sg), j < t → (b + 1 ≤ j ∧ j ≤ sz) → frM σ τ → τ 48 32 = sz → (∀ i, 0 ≤ i → i < j → i < sz → τ 66 i = f i) → (∀ i, j < i → i ≤ sz → τ 66 i = f (i - 1)) → jv g mX12_narrows F τ [(0, vr g 48), (1, vi n), (2, vi on), (3, vi k), (4, vi b), (7, vi j)] 133 [] := by
  intro t
  induction t with
  | zero =>
    intro j τ h1 h2
    exfalso
    omega
  | succ t ih =>
    intro j τ h1 h2 hf hz g1 g2
    refine j_iload eX12_narrows_133 rfl ?_
    refine j_iload eX12_narrows_135 rfl ?_
    refine j_iconst 1 eX12_narrows_137 ?_
    refine j_iadd eX12_narrows_138 ?_
    refine j_icmp_le eX12_narrows_139 (by omega) (fun h139 => ?_) (fun h139 => ?_)
    · refine jv_lv ?_ (kk τ hf hz (fun i x y => g1 i x (by omega) (by omega)) (fun i x y => g2 i (by omega) y))
      exact lvC rfl (lvC rfl (lvC rfl (lvC rfl (lvC rfl (lv0)))))
    · refine j_aload_n eX12_narrows_142 rfl ?_
      refine j_getR flX12_63 ly48 rfl eX12_narrows_143 ?_
      refine j_iload eX12_narrows_146 rfl ?_
      refine j_aload_n eX12_narrows_148 rfl ?_
      refine j_getR flX12_63 ly48 rfl eX12_narrows_149 ?_
      refine j_iload eX12_narrows_152 rfl ?_
      refine j_iconst 1 eX12_narrows_154 ?_
      refine j_isub eX12_narrows_155 ?_
      refine j_iald ly66 (by omega) eX12_narrows_156 ?_
      refine j_iast ly66 (by omega) eX12_narrows_157 ?_
      refine j_iinc eX12_narrows_158 rfl (Nat.le_of_ble_eq_true rfl) ?_
      refine j_goto eX12_narrows_161 ?_
      refine jv_lv ?_ (ih (j - 1) _ (by omega) (by omega) (hf.C (by decide)) hz (fun i x y z => ?_) (fun i x y => ?_))
      · exact lvC rfl (lvC rfl (lvC rfl (lvC rfl (lvC rfl (lvC rfl (lv0))))))
      · show up1 (τ 66) j (τ 66 (j - 1)) i = f i
        rw [up1_ne (by omega)]
        exact g1 i x (by omega) z
      · show up1 (τ 66) j (τ 66 (j - 1)) i = f (i - 1)
        by_cases c : i = j
        · rw [c, up1_same]
          exact g1 (j - 1) (by omega) (by omega) (by omega)
        · rw [up1_ne c]
          exact g2 i (by omega) y
theorem l_X12_narrows {g : Gl} {σ : Sg} {n : Int} (hM : TM σ) (vt : VTm σ) (hn : 0 ≤ n ∧ n ≤ 20) {G : Int × (Int → Int)} : ∀ (t : Nat) (k on sz : Int) (f : Int → Int) (τ : Sg), n - k < t → (0 ≤ k ∧ k ≤ n) → sz ≤ k + 1 → ((on = 1 ∧ nrF (mM σ) (n - k).toNat sz f = G) ∨ (on = 0 ∧ (sz, f) = G)) → MN σ τ sz f → jv g mX12_narrows (Fm g (PV (fun σ' => MN σ σ' G.1 G.2))) τ [(0, vr g 48), (1, vi n), (2, vi on), (3, vi k)] 16 [] := by
  intro t
  induction t with
  | zero =>
    intro k on sz f τ h1 h2
    exfalso
    omega
  | succ t ih =>
    intro k on sz f τ h1 h2 h3 hq hN
    have sz1 := hN.2.1
    have sz2 := hN.2.2.1
    have bb : on = 0 ∨ on = 1 := by
      rcases hq with h | h
      · exact Or.inr h.1
      · exact Or.inl h.1
    refine j_iload_n eX12_narrows_16 rfl ?_
    refine j_iload_n eX12_narrows_17 rfl ?_
    refine j_icmp_ge eX12_narrows_18 (by omega) (fun h18 => ?_) (fun h18 => ?_)
    · refine r_vret rfl eX12_narrows_216 ?_
      have q : (sz, f) = G := by
        rcases hq with ⟨q1, q2⟩ | ⟨q1, q2⟩
        · first | (exfalso; omega) | (rw [nrF_0 (by omega)] at q2; exact q2)
        · exact q2
      rw [← q]
      exact hN
    · refine j_iload_n eX12_narrows_21 rfl ?_
      refine j_if_eq eX12_narrows_22 (by omega) (fun h22 => ?_) (fun h22 => ?_)
      · refine r_vret rfl eX12_narrows_216 ?_
        have q : (sz, f) = G := by
          rcases hq with ⟨q1, q2⟩ | ⟨q1, q2⟩
          · first | (exfalso; omega) | (rw [nrF_0 (by omega)] at q2; exact q2)
          · exact q2
        rw [← q]
        exact hN
      · have e66 := hN.2.2.2 0 (by omega) (by omega)
        have T1 := hN.1.TM hM
        have V1 := hN.1.VT vt
        have q1 := T1.2.2.1 _ V1.1.1 V1.1.2
        refine j_iconst 0 eX12_narrows_25 ?_
        refine j_istore eX12_narrows_26 (Nat.le_of_ble_eq_true rfl) ?_
        refine j_aload_n eX12_narrows_28 rfl ?_
        refine j_aload_n eX12_narrows_29 rfl ?_
        refine j_getR flX12_63 ly48 rfl eX12_narrows_30 ?_
        refine j_iconst 0 eX12_narrows_33 ?_
        refine j_iald ly66 (by omega) eX12_narrows_34 ?_
        refine j_cV1 zX12_leastOf lkX12_225 ⟨Nat.le_of_ble_eq_true rfl, Nat.le_of_ble_eq_true rfl⟩ ly48 rfl rfl (c_X12_leastOf (by exact T1) (by exact V1) (by omega)) (Nat.le_of_ble_eq_true rfl) eX12_narrows_35 (k_L (fun v35 σ35 h35 => ?_))
        have N35 := hN.L h35.1.fr
        have m35 : v35 = mM σ (f 0) := by rw [h35.2, h35.1.m q1.1, hN.1.mm, e66.1]
        subst m35
        refine j_lstore eX12_narrows_38 (Nat.le_of_ble_eq_true rfl) ?_
        refine j_iconst 1 eX12_narrows_40 ?_
        refine j_istore eX12_narrows_41 (Nat.le_of_ble_eq_true rfl) ?_
        have bb2 := lws_b (h := fun j => mM σ (f j)) (sz - 1).toNat 1 0 (by omega) (by omega)
        generalize hB : lws (fun j => mM σ (f j)) (sz - 1).toNat 1 0 = B at *
        refine jv_lv ?_ (i_X12_narrows hM vt (n := n) (on := on) (k := k) (sz := sz) (f := f) (B := B) (fun τ2 N2 => ?_) 22 1 0 σ35 (by omega) (by omega) (by omega) hB N35)
        · exact lvC rfl (lvC rfl (lvC rfl (lvC rfl (lvC rfl (lvC rfl (lvC rfl (lv0)))))))
        · have e68 := N2.2.2.2 B (by omega) (by omega)
          refine j_aload_n eX12_narrows_105 rfl ?_
          refine j_getR flX12_63 ly48 rfl eX12_narrows_106 ?_
          refine j_iload eX12_narrows_109 rfl ?_
          refine j_iald ly66 (by omega) eX12_narrows_111 ?_
          refine j_bipush 64 eX12_narrows_112 (by decide) ?_
          refine j_icmp_ge eX12_narrows_114 (by omega) (fun h114 => ?_) (fun h114 => ?_)
          · refine j_iconst 0 eX12_narrows_121 ?_
            refine j_istore_n eX12_narrows_122 (Nat.le_of_ble_eq_true rfl) ?_
            refine j_iload_n eX12_narrows_123 rfl ?_
            refine j_ifeq_0 eX12_narrows_124 ?_
            refine j_iinc eX12_narrows_210 rfl (Nat.le_of_ble_eq_true rfl) ?_
            refine j_goto eX12_narrows_213 ?_
            have q := (hq.resolve_right (by omega)).2
            rw [nrF_t (by omega) (by rw [hB]; omega)] at q
            refine jv_lv ?_ (ih (k + 1) 0 sz f τ2 (by omega) (by omega) (by omega) (Or.inr ⟨rfl, q⟩) N2)
            exact lvC rfl (lvC rfl (lvC rfl (lvC rfl (lv0))))
          · refine j_iconst 1 eX12_narrows_117 ?_
            refine j_goto eX12_narrows_118 ?_
            refine j_istore_n eX12_narrows_122 (Nat.le_of_ble_eq_true rfl) ?_
            refine j_iload_n eX12_narrows_123 rfl ?_
            refine j_ifeq_1 eX12_narrows_124 ?_
            refine j_aload_n eX12_narrows_127 rfl ?_
            refine j_getI flX12_222 ly48 rfl eX12_narrows_128 ?_
            refine j_istore eX12_narrows_131 (Nat.le_of_ble_eq_true rfl) ?_
            rw [N2.2.1]
            refine jv_lv ?_ (j_X12_narrows (σ := σ) (n := n) (on := 1) (k := k) (b := B) (sz := sz) (f := f) (by omega) (by omega) (fun τ3 f3 e3 g1 g2 => ?_) 22 sz τ2 (by omega) (by omega) N2.1 N2.2.1 (fun i x y z => (N2.2.2.2 i x z).1) (fun i x y => by omega))
            · exact lvC rfl (lvC rfl (lvC rfl (lvC rfl (lvC rfl (lvC rfl (lv0))))))
            · refine j_aload_n eX12_narrows_164 rfl ?_
              refine j_getR flX12_63 ly48 rfl eX12_narrows_165 ?_
              refine j_iload eX12_narrows_168 rfl ?_
              refine j_iconst 1 eX12_narrows_170 ?_
              refine j_iadd eX12_narrows_171 ?_
              refine j_iconst 2 eX12_narrows_172 ?_
              refine j_aload_n eX12_narrows_173 rfl ?_
              refine j_getR flX12_63 ly48 rfl eX12_narrows_174 ?_
              refine j_iload eX12_narrows_177 rfl ?_
              refine j_iald ly66 (by omega) eX12_narrows_179 ?_
              refine j_imul eX12_narrows_180 ?_
              refine j_iconst 1 eX12_narrows_181 ?_
              refine j_iadd eX12_narrows_182 ?_
              refine j_iast ly66 (by omega) eX12_narrows_183 ?_
              refine j_aload_n eX12_narrows_184 rfl ?_
              refine j_getR flX12_63 ly48 rfl eX12_narrows_185 ?_
              refine j_iload eX12_narrows_188 rfl ?_
              refine j_iconst 2 eX12_narrows_190 ?_
              refine j_aload_n eX12_narrows_191 rfl ?_
              refine j_getR flX12_63 ly48 rfl eX12_narrows_192 ?_
              refine j_iload eX12_narrows_195 rfl ?_
              refine j_iald ly66 (by omega) eX12_narrows_197 ?_
              refine j_imul eX12_narrows_198 ?_
              refine j_iast ly66 (by omega) eX12_narrows_199 ?_
              refine j_aload_n eX12_narrows_200 rfl ?_
              refine j_dup rfl eX12_narrows_201 ?_
              refine j_getI flX12_222 ly48 rfl eX12_narrows_202 ?_
              refine j_iconst 1 eX12_narrows_205 ?_
              refine j_iadd eX12_narrows_206 ?_
              refine j_putI fpX12_222 ly48 rfl eX12_narrows_207 ?_
              refine j_iinc eX12_narrows_210 rfl (Nat.le_of_ble_eq_true rfl) ?_
              refine j_goto eX12_narrows_213 ?_
              have q := (hq.resolve_right (by omega)).2
              rw [nrF_f (by omega) (by rw [hB]; omega), hB] at q
              refine jv_lv ?_ (ih (k + 1) 1 (sz + 1) (insN f B) _ (by omega) (by omega) (by omega) (Or.inl ⟨rfl, q⟩) (MN_ins (τ := τ3) (b := B) (((f3.C (by decide)).C (by decide)).U (by decide)) e3 (by omega) (by omega) g1 g2 (fun i x y => (hN.2.2.2 i x y).2) (by omega) rfl rfl))
              exact lvC rfl (lvC rfl (lvC rfl (lvC rfl (lv0))))
theorem c_X12_narrows {g : Gl} {σ : Sg} {n : Int} (hM : TM σ) (vt : VTm σ) (hn : 0 ≤ n ∧ n ≤ 20) : Ct g mX12_narrows [vr g 48, vi n] σ (PV (fun σ' => MN σ σ' (nrF (mM σ) n.toNat 1 (fun _ => 1)).1 (nrF (mM σ) n.toNat 1 (fun _ => 1)).2)) := by
  refine Ct.of (by decide +kernel) (Nat.le_of_ble_eq_true rfl) ?_
  show jv g _ _ σ [(0, vr g 48), (1, vi n)] 0 []
  refine j_aload_n eX12_narrows_0 rfl ?_
  refine j_getR flX12_63 ly48 rfl eX12_narrows_1 ?_
  refine j_iconst 0 eX12_narrows_4 ?_
  refine j_iconst 1 eX12_narrows_5 ?_
  refine j_iast ly66 (by omega) eX12_narrows_6 ?_
  refine j_aload_n eX12_narrows_7 rfl ?_
  refine j_iconst 1 eX12_narrows_8 ?_
  refine j_putI fpX12_222 ly48 rfl eX12_narrows_9 ?_
  refine j_iconst 1 eX12_narrows_12 ?_
  refine j_istore_n eX12_narrows_13 (Nat.le_of_ble_eq_true rfl) ?_
  refine j_iconst 0 eX12_narrows_14 ?_
  refine j_istore_n eX12_narrows_15 (Nat.le_of_ble_eq_true rfl) ?_
  refine jv_lv ?_ (l_X12_narrows hM vt hn 22 0 1 1 (fun _ => 1) _ (by omega) (by omega) (by omega) (Or.inl ⟨rfl, by rw [Int.sub_zero]⟩) ⟨((frM.rf σ).C (by decide)).U (by decide), rfl, by omega, fun j x y => ⟨?_, (show (1 : Int) ≤ 1 by decide), (show (1 : Int) ≤ 127 by decide)⟩⟩)
  · exact lvC rfl (lvC rfl (lvC rfl (lvC rfl (lv0))))
  · obtain rfl : j = 0 := by omega
    rfl
theorem l_X12_narrowed {g : Gl} {σ : Sg} {n r w : Int} (hM : TM σ) (vt : VTm σ) (hr : 0 ≤ r ∧ r ≤ 1) (hw : 0 ≤ w ∧ w ≤ 1) {sz L U : Int} {f : Int → Int} {Q : Int → Sg → Prop} (hQ : ∀ S, frM σ S → Q (FR (if r = 0 then L else U) (lcf ((σ 49 (2 + σ 48 6)) + 0) (σ 49 (2 + σ 48 6)) * 64 ^ (σ 49 (2 + σ 48 6)).toNat) w) S) : ∀ (t : Nat) (j m u : Int) (τ : Sg), sz - j < t → (0 ≤ j ∧ j ≤ sz) → (-4611686018427387904 ≤ m ∧ m ≤ 4611686018427387904) → (-4611686018427387904 ≤ u ∧ u ≤ 4611686018427387904) → mnf (fun j => mM σ (f j)) (sz - j).toNat j m = L → mnf (fun j => eM σ (f j)) (sz - j).toNat j u = U → MN σ τ sz f → τ 48 21 = lcf ((σ 49 (2 + σ 48 6)) + 0) (σ 49 (2 + σ 48 6)) * 64 ^ (σ 49 (2 + σ 48 6)).toNat → jv g mX12_narrowed (Fm g (PL Q)) τ [(0, vr g 48), (1, vi n), (2, vi r), (3, vi w), (4, vl m), (6, vl u), (8, vi j)] 67 [] := by
  have qn := hM.2.2.1 (σ 48 6) vt.1.1 vt.1.2
  have bw := lc_bw (σ := σ) (p := σ 48 6) (r := 0) qn (by omega)
  intro t
  induction t with
  | zero =>
    intro j m u τ h1 h2
    exfalso
    omega
  | succ t ih =>
    intro j m u τ h1 h2 h3 h4 hL hU hN hb
    have sz1 := hN.2.1
    have sz2 := hN.2.2.1
    refine j_iload eX12_narrowed_67 rfl ?_
    refine j_aload_n eX12_narrowed_69 rfl ?_
    refine j_getI flX12_222 ly48 rfl eX12_narrowed_70 ?_
    refine j_icmp_ge eX12_narrowed_73 (by omega) (fun h73 => ?_) (fun h73 => ?_)
    · rw [mnf_z (by omega)] at hL hU
      refine j_iload_n eX12_narrowed_168 rfl ?_
      refine j_if_ne eX12_narrowed_169 (by omega) (fun h169 => ?_) (fun h169 => ?_)
      · refine j_lload eX12_narrowed_177 rfl ?_
        refine jv_topl (b := if r = 0 then L else U) (by omega) ?_
        have bw2 := bw
        rw [← hb] at bw2
        refine j_aload_n eX12_narrowed_179 rfl ?_
        refine j_getL flX12_168 ly48 rfl eX12_narrowed_180 ?_
        refine j_iload_n eX12_narrowed_183 rfl ?_
        refine j_cS3 zX12_fraction lkX12_182 ⟨Nat.le_of_ble_eq_true rfl, Nat.le_of_ble_eq_true rfl⟩ (c_X12_fraction (by omega) (by omega)) (Nat.le_of_ble_eq_true rfl) eX12_narrowed_184 (k_EL ?_)
        refine r_lret rfl eX12_narrowed_187 ?_
        rw [hb]
        exact hQ τ hN.1
      · refine j_lload eX12_narrowed_172 rfl ?_
        refine j_goto eX12_narrowed_174 ?_
        refine jv_topl (b := if r = 0 then L else U) (by omega) ?_
        have bw2 := bw
        rw [← hb] at bw2
        refine j_aload_n eX12_narrowed_179 rfl ?_
        refine j_getL flX12_168 ly48 rfl eX12_narrowed_180 ?_
        refine j_iload_n eX12_narrowed_183 rfl ?_
        refine j_cS3 zX12_fraction lkX12_182 ⟨Nat.le_of_ble_eq_true rfl, Nat.le_of_ble_eq_true rfl⟩ (c_X12_fraction (by omega) (by omega)) (Nat.le_of_ble_eq_true rfl) eX12_narrowed_184 (k_EL ?_)
        refine r_lret rfl eX12_narrowed_187 ?_
        rw [hb]
        exact hQ τ hN.1
    · have e66 := hN.2.2.2 j (by omega) (by omega)
      have T1 := hN.1.TM hM
      have V1 := hN.1.VT vt
      have q1 := T1.2.2.1 _ V1.1.1 V1.1.2
      have mb := mM_b (a := f j) hM vt (by omega)
      refine j_aload_n eX12_narrowed_76 rfl ?_
      refine j_aload_n eX12_narrowed_77 rfl ?_
      refine j_getR flX12_63 ly48 rfl eX12_narrowed_78 ?_
      refine j_iload eX12_narrowed_81 rfl ?_
      refine j_iald ly66 (by omega) eX12_narrowed_83 ?_
      refine j_cV1 zX12_leastOf lkX12_225 ⟨Nat.le_of_ble_eq_true rfl, Nat.le_of_ble_eq_true rfl⟩ ly48 rfl rfl (c_X12_leastOf (by exact T1) (by exact V1) (by omega)) (Nat.le_of_ble_eq_true rfl) eX12_narrowed_84 (k_L (fun v84 σ84 h84 => ?_))
      have N84 := hN.L h84.1.fr
      have m84 : v84 = mM σ (f j) := by rw [h84.2, h84.1.m q1.1, hN.1.mm, e66.1]
      subst m84
      have n49 : τ 49 (2 + τ 48 6) = (σ 49 (2 + σ 48 6)) := by rw [hN.1.1 49 (by omega) (by omega), hN.1.2 6 (by omega)]
      have t1 : σ84 48 20 = (σ 49 (2 + σ 48 6)) := by rw [h84.1.2.2.1, n49, Int.add_zero]
      have r0 : σ84 60 0 = RW0 σ (f j) 0 := by rw [h84.1.R (by omega) (by omega), hN.1.rw0, e66.1]
      have rl : σ84 60 (σ84 48 20) = RW0 σ (f j) (σ 49 (2 + σ 48 6)) := by rw [h84.1.R (by omega) (by omega), hN.1.rw0, e66.1, t1]
      have ee : eM σ (f j) = if σ84 60 (σ84 48 20) < σ84 60 0 then σ84 60 (σ84 48 20) else σ84 60 0 := by rw [rl, r0]; rfl
      have k0 := (RW0_S (a := f j) hM vt (by omega) 0 (by omega) (by omega)).1
      have k1 := (RW0_S (a := f j) hM vt (by omega) (σ 49 (2 + σ 48 6)) (by omega) (by omega)).1
      rw [← r0] at k0
      rw [← rl] at k1
      have b84 : σ84 48 21 = lcf ((σ 49 (2 + σ 48 6)) + 0) (σ 49 (2 + σ 48 6)) * 64 ^ (σ 49 (2 + σ 48 6)).toNat := by rw [h84.1.2.2.2.1, n49]
      rw [mnf_s (f := fun j => mM σ (f j)) (by omega) rfl] at hL
      rw [mnf_s (f := fun j => eM σ (f j)) (by omega) rfl] at hU
      refine j_lstore eX12_narrowed_87 (Nat.le_of_ble_eq_true rfl) ?_
      refine j_lload eX12_narrowed_89 rfl ?_
      refine j_lload eX12_narrowed_91 rfl ?_
      refine j_lc_ge eX12_narrowed_93 eX12_narrowed_94 (by omega) (fun h93 => ?_) (fun h93 => ?_)
      · refine j_lload eX12_narrowed_102 rfl ?_
        refine jv_topl (b := if mM σ (f j) < m then mM σ (f j) else m) (by omega) ?_
        refine j_lstore eX12_narrowed_104 (Nat.le_of_ble_eq_true rfl) ?_
        refine j_aload_n eX12_narrowed_106 rfl ?_
        refine j_getR flX12_44 ly48 rfl eX12_narrowed_107 ?_
        refine j_iconst 0 eX12_narrowed_110 ?_
        refine j_lald ly60 (by omega) eX12_narrowed_111 ?_
        refine j_lload eX12_narrowed_112 rfl ?_
        refine j_lc_ge eX12_narrowed_114 eX12_narrowed_115 (by omega) (fun h114 => ?_) (fun h114 => ?_)
        · refine j_lload eX12_narrowed_127 rfl ?_
          refine jv_topl (b := if σ84 60 0 < u then σ84 60 0 else u) (by omega) ?_
          refine j_lstore eX12_narrowed_129 (Nat.le_of_ble_eq_true rfl) ?_
          refine j_aload_n eX12_narrowed_131 rfl ?_
          refine j_getR flX12_44 ly48 rfl eX12_narrowed_132 ?_
          refine j_aload_n eX12_narrowed_135 rfl ?_
          refine j_getI flX12_161 ly48 rfl eX12_narrowed_136 ?_
          refine j_lald ly60 (by omega) eX12_narrowed_139 ?_
          refine j_lload eX12_narrowed_140 rfl ?_
          refine j_lc_ge eX12_narrowed_142 eX12_narrowed_143 (by omega) (fun h142 => ?_) (fun h142 => ?_)
          · refine j_lload eX12_narrowed_158 rfl ?_
            refine jv_topl (b := if eM σ (f j) < u then eM σ (f j) else u) (by rw [ee]; omega) ?_
            refine j_lstore eX12_narrowed_160 (Nat.le_of_ble_eq_true rfl) ?_
            refine j_iinc eX12_narrowed_162 rfl (Nat.le_of_ble_eq_true rfl) ?_
            refine j_goto eX12_narrowed_165 ?_
            refine jv_lv ?_ (ih (j + 1) (if mM σ (f j) < m then mM σ (f j) else m) (if eM σ (f j) < u then eM σ (f j) else u) σ84 (by omega) (by omega) (by omega) (by omega) hL hU N84 b84)
            exact lvC rfl (lvC rfl (lvC rfl (lvC rfl (lvC rfl (lvC rfl (lvC rfl (lv0)))))))
          · refine j_aload_n eX12_narrowed_146 rfl ?_
            refine j_getR flX12_44 ly48 rfl eX12_narrowed_147 ?_
            refine j_aload_n eX12_narrowed_150 rfl ?_
            refine j_getI flX12_161 ly48 rfl eX12_narrowed_151 ?_
            refine j_lald ly60 (by omega) eX12_narrowed_154 ?_
            refine j_goto eX12_narrowed_155 ?_
            refine jv_topl (b := if eM σ (f j) < u then eM σ (f j) else u) (by rw [ee]; omega) ?_
            refine j_lstore eX12_narrowed_160 (Nat.le_of_ble_eq_true rfl) ?_
            refine j_iinc eX12_narrowed_162 rfl (Nat.le_of_ble_eq_true rfl) ?_
            refine j_goto eX12_narrowed_165 ?_
            refine jv_lv ?_ (ih (j + 1) (if mM σ (f j) < m then mM σ (f j) else m) (if eM σ (f j) < u then eM σ (f j) else u) σ84 (by omega) (by omega) (by omega) (by omega) hL hU N84 b84)
            exact lvC rfl (lvC rfl (lvC rfl (lvC rfl (lvC rfl (lvC rfl (lvC rfl (lv0)))))))
        · refine j_aload_n eX12_narrowed_118 rfl ?_
          refine j_getR flX12_44 ly48 rfl eX12_narrowed_119 ?_
          refine j_iconst 0 eX12_narrowed_122 ?_
          refine j_lald ly60 (by omega) eX12_narrowed_123 ?_
          refine j_goto eX12_narrowed_124 ?_
          refine jv_topl (b := if σ84 60 0 < u then σ84 60 0 else u) (by omega) ?_
          refine j_lstore eX12_narrowed_129 (Nat.le_of_ble_eq_true rfl) ?_
          refine j_aload_n eX12_narrowed_131 rfl ?_
          refine j_getR flX12_44 ly48 rfl eX12_narrowed_132 ?_
          refine j_aload_n eX12_narrowed_135 rfl ?_
          refine j_getI flX12_161 ly48 rfl eX12_narrowed_136 ?_
          refine j_lald ly60 (by omega) eX12_narrowed_139 ?_
          refine j_lload eX12_narrowed_140 rfl ?_
          refine j_lc_ge eX12_narrowed_142 eX12_narrowed_143 (by omega) (fun h142 => ?_) (fun h142 => ?_)
          · refine j_lload eX12_narrowed_158 rfl ?_
            refine jv_topl (b := if eM σ (f j) < u then eM σ (f j) else u) (by rw [ee]; omega) ?_
            refine j_lstore eX12_narrowed_160 (Nat.le_of_ble_eq_true rfl) ?_
            refine j_iinc eX12_narrowed_162 rfl (Nat.le_of_ble_eq_true rfl) ?_
            refine j_goto eX12_narrowed_165 ?_
            refine jv_lv ?_ (ih (j + 1) (if mM σ (f j) < m then mM σ (f j) else m) (if eM σ (f j) < u then eM σ (f j) else u) σ84 (by omega) (by omega) (by omega) (by omega) hL hU N84 b84)
            exact lvC rfl (lvC rfl (lvC rfl (lvC rfl (lvC rfl (lvC rfl (lvC rfl (lv0)))))))
          · refine j_aload_n eX12_narrowed_146 rfl ?_
            refine j_getR flX12_44 ly48 rfl eX12_narrowed_147 ?_
            refine j_aload_n eX12_narrowed_150 rfl ?_
            refine j_getI flX12_161 ly48 rfl eX12_narrowed_151 ?_
            refine j_lald ly60 (by omega) eX12_narrowed_154 ?_
            refine j_goto eX12_narrowed_155 ?_
            refine jv_topl (b := if eM σ (f j) < u then eM σ (f j) else u) (by rw [ee]; omega) ?_
            refine j_lstore eX12_narrowed_160 (Nat.le_of_ble_eq_true rfl) ?_
            refine j_iinc eX12_narrowed_162 rfl (Nat.le_of_ble_eq_true rfl) ?_
            refine j_goto eX12_narrowed_165 ?_
            refine jv_lv ?_ (ih (j + 1) (if mM σ (f j) < m then mM σ (f j) else m) (if eM σ (f j) < u then eM σ (f j) else u) σ84 (by omega) (by omega) (by omega) (by omega) hL hU N84 b84)
            exact lvC rfl (lvC rfl (lvC rfl (lvC rfl (lvC rfl (lvC rfl (lvC rfl (lv0)))))))
      · refine j_lload eX12_narrowed_97 rfl ?_
        refine j_goto eX12_narrowed_99 ?_
        refine jv_topl (b := if mM σ (f j) < m then mM σ (f j) else m) (by omega) ?_
        refine j_lstore eX12_narrowed_104 (Nat.le_of_ble_eq_true rfl) ?_
        refine j_aload_n eX12_narrowed_106 rfl ?_
        refine j_getR flX12_44 ly48 rfl eX12_narrowed_107 ?_
        refine j_iconst 0 eX12_narrowed_110 ?_
        refine j_lald ly60 (by omega) eX12_narrowed_111 ?_
        refine j_lload eX12_narrowed_112 rfl ?_
        refine j_lc_ge eX12_narrowed_114 eX12_narrowed_115 (by omega) (fun h114 => ?_) (fun h114 => ?_)
        · refine j_lload eX12_narrowed_127 rfl ?_
          refine jv_topl (b := if σ84 60 0 < u then σ84 60 0 else u) (by omega) ?_
          refine j_lstore eX12_narrowed_129 (Nat.le_of_ble_eq_true rfl) ?_
          refine j_aload_n eX12_narrowed_131 rfl ?_
          refine j_getR flX12_44 ly48 rfl eX12_narrowed_132 ?_
          refine j_aload_n eX12_narrowed_135 rfl ?_
          refine j_getI flX12_161 ly48 rfl eX12_narrowed_136 ?_
          refine j_lald ly60 (by omega) eX12_narrowed_139 ?_
          refine j_lload eX12_narrowed_140 rfl ?_
          refine j_lc_ge eX12_narrowed_142 eX12_narrowed_143 (by omega) (fun h142 => ?_) (fun h142 => ?_)
          · refine j_lload eX12_narrowed_158 rfl ?_
            refine jv_topl (b := if eM σ (f j) < u then eM σ (f j) else u) (by rw [ee]; omega) ?_
            refine j_lstore eX12_narrowed_160 (Nat.le_of_ble_eq_true rfl) ?_
            refine j_iinc eX12_narrowed_162 rfl (Nat.le_of_ble_eq_true rfl) ?_
            refine j_goto eX12_narrowed_165 ?_
            refine jv_lv ?_ (ih (j + 1) (if mM σ (f j) < m then mM σ (f j) else m) (if eM σ (f j) < u then eM σ (f j) else u) σ84 (by omega) (by omega) (by omega) (by omega) hL hU N84 b84)
            exact lvC rfl (lvC rfl (lvC rfl (lvC rfl (lvC rfl (lvC rfl (lvC rfl (lv0)))))))
          · refine j_aload_n eX12_narrowed_146 rfl ?_
            refine j_getR flX12_44 ly48 rfl eX12_narrowed_147 ?_
            refine j_aload_n eX12_narrowed_150 rfl ?_
            refine j_getI flX12_161 ly48 rfl eX12_narrowed_151 ?_
            refine j_lald ly60 (by omega) eX12_narrowed_154 ?_
            refine j_goto eX12_narrowed_155 ?_
            refine jv_topl (b := if eM σ (f j) < u then eM σ (f j) else u) (by rw [ee]; omega) ?_
            refine j_lstore eX12_narrowed_160 (Nat.le_of_ble_eq_true rfl) ?_
            refine j_iinc eX12_narrowed_162 rfl (Nat.le_of_ble_eq_true rfl) ?_
            refine j_goto eX12_narrowed_165 ?_
            refine jv_lv ?_ (ih (j + 1) (if mM σ (f j) < m then mM σ (f j) else m) (if eM σ (f j) < u then eM σ (f j) else u) σ84 (by omega) (by omega) (by omega) (by omega) hL hU N84 b84)
            exact lvC rfl (lvC rfl (lvC rfl (lvC rfl (lvC rfl (lvC rfl (lvC rfl (lv0)))))))
        · refine j_aload_n eX12_narrowed_118 rfl ?_
          refine j_getR flX12_44 ly48 rfl eX12_narrowed_119 ?_
          refine j_iconst 0 eX12_narrowed_122 ?_
          refine j_lald ly60 (by omega) eX12_narrowed_123 ?_
          refine j_goto eX12_narrowed_124 ?_
          refine jv_topl (b := if σ84 60 0 < u then σ84 60 0 else u) (by omega) ?_
          refine j_lstore eX12_narrowed_129 (Nat.le_of_ble_eq_true rfl) ?_
          refine j_aload_n eX12_narrowed_131 rfl ?_
          refine j_getR flX12_44 ly48 rfl eX12_narrowed_132 ?_
          refine j_aload_n eX12_narrowed_135 rfl ?_
          refine j_getI flX12_161 ly48 rfl eX12_narrowed_136 ?_
          refine j_lald ly60 (by omega) eX12_narrowed_139 ?_
          refine j_lload eX12_narrowed_140 rfl ?_
          refine j_lc_ge eX12_narrowed_142 eX12_narrowed_143 (by omega) (fun h142 => ?_) (fun h142 => ?_)
          · refine j_lload eX12_narrowed_158 rfl ?_
            refine jv_topl (b := if eM σ (f j) < u then eM σ (f j) else u) (by rw [ee]; omega) ?_
            refine j_lstore eX12_narrowed_160 (Nat.le_of_ble_eq_true rfl) ?_
            refine j_iinc eX12_narrowed_162 rfl (Nat.le_of_ble_eq_true rfl) ?_
            refine j_goto eX12_narrowed_165 ?_
            refine jv_lv ?_ (ih (j + 1) (if mM σ (f j) < m then mM σ (f j) else m) (if eM σ (f j) < u then eM σ (f j) else u) σ84 (by omega) (by omega) (by omega) (by omega) hL hU N84 b84)
            exact lvC rfl (lvC rfl (lvC rfl (lvC rfl (lvC rfl (lvC rfl (lvC rfl (lv0)))))))
          · refine j_aload_n eX12_narrowed_146 rfl ?_
            refine j_getR flX12_44 ly48 rfl eX12_narrowed_147 ?_
            refine j_aload_n eX12_narrowed_150 rfl ?_
            refine j_getI flX12_161 ly48 rfl eX12_narrowed_151 ?_
            refine j_lald ly60 (by omega) eX12_narrowed_154 ?_
            refine j_goto eX12_narrowed_155 ?_
            refine jv_topl (b := if eM σ (f j) < u then eM σ (f j) else u) (by rw [ee]; omega) ?_
            refine j_lstore eX12_narrowed_160 (Nat.le_of_ble_eq_true rfl) ?_
            refine j_iinc eX12_narrowed_162 rfl (Nat.le_of_ble_eq_true rfl) ?_
            refine j_goto eX12_narrowed_165 ?_
            refine jv_lv ?_ (ih (j + 1) (if mM σ (f j) < m then mM σ (f j) else m) (if eM σ (f j) < u then eM σ (f j) else u) σ84 (by omega) (by omega) (by omega) (by omega) hL hU N84 b84)
            exact lvC rfl (lvC rfl (lvC rfl (lvC rfl (lvC rfl (lvC rfl (lvC rfl (lv0)))))))
theorem c_X12_narrowed {g : Gl} {σ : Sg} {n r w : Int} (h : -2147483648 ≤ n ∧ n ≤ 2147483647 ∧ -2147483648 ≤ r ∧ r ≤ 2147483647 ∧ -2147483648 ≤ w ∧ w ≤ 2147483647) (hM : TM σ) (hk : (0 ≤ σ 48 6 ∧ σ 48 6 ≤ 2) ∧ 0 ≤ σ 48 7 ∧ σ 48 7 ≤ 2) : Ct g mX12_narrowed [vr g 48, vi n, vi r, vi w] σ (PL (fun v σ' => frM σ σ' ∧ ((((0 ≤ n ∧ n ≤ 20) ∧ (0 ≤ r ∧ r ≤ 1) ∧ (0 ≤ w ∧ w ≤ 1) ∧ ((0 ≤ σ 48 6 ∧ σ 48 6 < σ 49 0) ∧ 0 ≤ σ 48 7 ∧ σ 48 7 < σ 49 1)) ∧ v = FR (if r = 0 then mnf (fun j => mM σ ((nrF (mM σ) n.toNat 1 (fun _ => 1)).2 j)) ((nrF (mM σ) n.toNat 1 (fun _ => 1)).1 - 1).toNat 1 (mM σ ((nrF (mM σ) n.toNat 1 (fun _ => 1)).2 0)) else mnf (fun j => eM σ ((nrF (mM σ) n.toNat 1 (fun _ => 1)).2 j)) ((nrF (mM σ) n.toNat 1 (fun _ => 1)).1 - 1).toNat 1 (eM σ ((nrF (mM σ) n.toNat 1 (fun _ => 1)).2 0))) (lcf ((σ 49 (2 + σ 48 6)) + 0) (σ 49 (2 + σ 48 6)) * 64 ^ (σ 49 (2 + σ 48 6)).toNat) w) ∨ (¬ ((0 ≤ n ∧ n ≤ 20) ∧ (0 ≤ r ∧ r ≤ 1) ∧ (0 ≤ w ∧ w ≤ 1) ∧ ((0 ≤ σ 48 6 ∧ σ 48 6 < σ 49 0) ∧ 0 ≤ σ 48 7 ∧ σ 48 7 < σ 49 1)) ∧ v = -4611686018427387904)))) := by
  refine Ct.of (by decide +kernel) (Nat.le_of_ble_eq_true rfl) ?_
  show jv g _ _ σ [(0, vr g 48), (1, vi n), (2, vi r), (3, vi w)] 0 []
  refine j_iload_n eX12_narrowed_0 rfl ?_
  refine j_iconst 0 eX12_narrowed_1 ?_
  refine j_bipush 20 eX12_narrowed_2 (by decide) ?_
  refine j_cS3 zX12_in lkX12_85 ⟨Nat.le_of_ble_eq_true rfl, Nat.le_of_ble_eq_true rfl⟩ (c_X12_in (by omega)) (Nat.le_of_ble_eq_true rfl) eX12_narrowed_4 (k_B (fun h4 => ?_) (fun h4 => ?_))
  · refine j_ifeq_1 eX12_narrowed_7 ?_
    refine j_iload_n eX12_narrowed_10 rfl ?_
    refine j_iconst 0 eX12_narrowed_11 ?_
    refine j_iconst 1 eX12_narrowed_12 ?_
    refine j_cS3 zX12_in lkX12_85 ⟨Nat.le_of_ble_eq_true rfl, Nat.le_of_ble_eq_true rfl⟩ (c_X12_in (by omega)) (Nat.le_of_ble_eq_true rfl) eX12_narrowed_13 (k_B (fun h13 => ?_) (fun h13 => ?_))
    · refine j_ifeq_1 eX12_narrowed_16 ?_
      refine j_iload_n eX12_narrowed_19 rfl ?_
      refine j_iconst 0 eX12_narrowed_20 ?_
      refine j_iconst 1 eX12_narrowed_21 ?_
      refine j_cS3 zX12_in lkX12_85 ⟨Nat.le_of_ble_eq_true rfl, Nat.le_of_ble_eq_true rfl⟩ (c_X12_in (by omega)) (Nat.le_of_ble_eq_true rfl) eX12_narrowed_22 (k_B (fun h22 => ?_) (fun h22 => ?_))
      · refine j_ifeq_1 eX12_narrowed_25 ?_
        refine j_aload_n eX12_narrowed_28 rfl ?_
        refine j_cV0 zX12_isTaken lkX12_175 ⟨Nat.le_of_ble_eq_true rfl, Nat.le_of_ble_eq_true rfl⟩ ly48 rfl rfl (c_X12_isTaken (by exact hM) (by exact hk)) (Nat.le_of_ble_eq_true rfl) eX12_narrowed_29 (k_B (fun h29 => ?_) (fun h29 => ?_))
        · refine j_ifne_1 eX12_narrowed_32 ?_
          have vt : VTm σ := h29
          refine j_aload_n eX12_narrowed_39 rfl ?_
          refine j_iload_n eX12_narrowed_40 rfl ?_
          refine j_cV1 zX12_narrows lkX12_229 ⟨Nat.le_of_ble_eq_true rfl, Nat.le_of_ble_eq_true rfl⟩ ly48 rfl rfl (c_X12_narrows (by exact hM) (by exact vt) (by omega)) (Nat.le_of_ble_eq_true rfl) eX12_narrowed_41 (k_V (fun σ41 h41 => ?_))
          have sz2 := h41.2.2.1
          have e66 := h41.2.2.2 0 (by omega) (by omega)
          have T1 := h41.1.TM hM
          have V1 := h41.1.VT vt
          have q1 := T1.2.2.1 _ V1.1.1 V1.1.2
          have qn := hM.2.2.1 (σ 48 6) vt.1.1 vt.1.2
          generalize hG : (nrF (mM σ) n.toNat 1 (fun _ => 1)) = G at *
          refine j_aload_n eX12_narrowed_44 rfl ?_
          refine j_aload_n eX12_narrowed_45 rfl ?_
          refine j_getR flX12_63 ly48 rfl eX12_narrowed_46 ?_
          refine j_iconst 0 eX12_narrowed_49 ?_
          refine j_iald ly66 (by omega) eX12_narrowed_50 ?_
          refine j_cV1 zX12_leastOf lkX12_225 ⟨Nat.le_of_ble_eq_true rfl, Nat.le_of_ble_eq_true rfl⟩ ly48 rfl rfl (c_X12_leastOf (by exact T1) (by exact V1) (by omega)) (Nat.le_of_ble_eq_true rfl) eX12_narrowed_51 (k_L (fun v51 σ51 h51 => ?_))
          have m51 : v51 = mM σ (G.2 0) := by rw [h51.2, h51.1.m q1.1, h41.1.mm, e66.1]
          subst m51
          have mb := mM_b (a := G.2 0) hM vt (by omega)
          have n49 : σ41 49 (2 + σ41 48 6) = (σ 49 (2 + σ 48 6)) := by rw [h41.1.1 49 (by omega) (by omega), h41.1.2 6 (by omega)]
          have r0 : σ51 60 0 = RW0 σ (G.2 0) 0 := by rw [h51.1.R (by omega) (by omega), h41.1.rw0, e66.1]
          have k0 := (RW0_S (a := G.2 0) hM vt (by omega) 0 (by omega) (by omega)).1
          have eL := mnf_s (f := fun j => mM σ (G.2 j)) (N := G.1) (i := 0) (m := mM σ (G.2 0)) (m' := mM σ (G.2 0)) (by omega) (by show (if mM σ (G.2 0) < mM σ (G.2 0) then _ else _) = _; omega)
          have eU := mnf_s (f := fun j => eM σ (G.2 j)) (N := G.1) (i := 0) (m := RW0 σ (G.2 0) 0) (m' := eM σ (G.2 0)) (by omega) (by show (if eM σ (G.2 0) < RW0 σ (G.2 0) 0 then eM σ (G.2 0) else _) = _; unfold eM; omega)
          rw [show (0 : Int) + 1 = 1 from rfl] at eL eU
          refine j_lstore eX12_narrowed_54 (Nat.le_of_ble_eq_true rfl) ?_
          refine j_aload_n eX12_narrowed_56 rfl ?_
          refine j_getR flX12_44 ly48 rfl eX12_narrowed_57 ?_
          refine j_iconst 0 eX12_narrowed_60 ?_
          refine j_lald ly60 (by omega) eX12_narrowed_61 ?_
          refine jv_topl r0 ?_
          refine j_lstore eX12_narrowed_62 (Nat.le_of_ble_eq_true rfl) ?_
          refine j_iconst 0 eX12_narrowed_64 ?_
          refine j_istore eX12_narrowed_65 (Nat.le_of_ble_eq_true rfl) ?_
          refine jv_lv ?_ (l_X12_narrowed (n := n) (r := r) (w := w) hM vt (by omega) (by omega) (sz := G.1) (f := G.2) (L := mnf (fun j => mM σ (G.2 j)) (G.1 - 1).toNat 1 (mM σ (G.2 0))) (U := mnf (fun j => eM σ (G.2 j)) (G.1 - 1).toNat 1 (eM σ (G.2 0))) (fun S fS => ⟨fS, Or.inl ⟨by omega, rfl⟩⟩) 23 0 (mM σ (G.2 0)) (RW0 σ (G.2 0) 0) σ51 (by omega) (by omega) (by omega) (by omega) eL eU (h41.L h51.1.fr) (by rw [h51.1.2.2.2.1, n49]))
          exact lvC rfl (lvC rfl (lvC rfl (lvC rfl (lvC rfl (lvC rfl (lvC rfl (lv0)))))))
        · refine j_ifne_0 eX12_narrowed_32 ?_
          refine j_ldc2 (-4611686018427387904) cnX12_132 eX12_narrowed_35 ?_
          refine r_lret rfl eX12_narrowed_38 ?_
          exact ⟨frM.rf σ, Or.inr ⟨by omega, rfl⟩⟩
      · refine j_ifeq_0 eX12_narrowed_25 ?_
        refine j_ldc2 (-4611686018427387904) cnX12_132 eX12_narrowed_35 ?_
        refine r_lret rfl eX12_narrowed_38 ?_
        exact ⟨frM.rf σ, Or.inr ⟨by omega, rfl⟩⟩
    · refine j_ifeq_0 eX12_narrowed_16 ?_
      refine j_ldc2 (-4611686018427387904) cnX12_132 eX12_narrowed_35 ?_
      refine r_lret rfl eX12_narrowed_38 ?_
      exact ⟨frM.rf σ, Or.inr ⟨by omega, rfl⟩⟩
  · refine j_ifeq_0 eX12_narrowed_7 ?_
    refine j_ldc2 (-4611686018427387904) cnX12_132 eX12_narrowed_35 ?_
    refine r_lret rfl eX12_narrowed_38 ?_
    exact ⟨frM.rf σ, Or.inr ⟨by omega, rfl⟩⟩
