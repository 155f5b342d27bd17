theorem trS_0 {jd : Int → Int} (t : Nat) (f : Int → Int) : trS jd t 0 f = f := by
  cases t with
  | zero => rfl
  | succ t => exact if_pos rfl
theorem x_X12_sure {g : Gl} {S : Sg} {w : Int} {Q : Int → Sg → Prop} (h : RL1 S 48 62 24 []) (hw : 0 ≤ w ∧ w ≤ 2) (q : Q (S 67 w) S) : jv g mX12_sure (Fm g (PI Q)) S [(0, vr g 48), (1, vi w)] 56 [] := by
  have e : S 48 24 = 0 := h.1
  refine j_aload_n eX12_sure_56 rfl ?_
  refine j_getI flX12_193 ly48 rfl eX12_sure_57 ?_
  refine j_if_le eX12_sure_60 (by omega) (fun h60 => ?_) (fun h60 => absurd (by omega) h60)
  refine j_aload_n eX12_sure_159 rfl ?_
  refine j_getR flX12_66 ly48 rfl eX12_sure_160 ?_
  refine j_iload_n eX12_sure_163 rfl ?_
  refine j_iald ly67 (by omega) eX12_sure_164 ?_
  exact r_iret rfl eX12_sure_165 q
theorem l_X12_sure {g : Gl} {σ : Sg} {w : Int} (h : -2147483648 ≤ w ∧ w ≤ 2147483647) (hM : TM σ) (hk : (0 ≤ σ 48 6 ∧ σ 48 6 ≤ 2) ∧ 0 ≤ σ 48 7 ∧ σ 48 7 ≤ 2) (tb : (0 ≤ σ 48 7 ∧ σ 48 7 < σ 49 1)) (hw : 0 ≤ w ∧ w ≤ 2) {G : Int → Int} {Q : Int → Sg → Prop} (hQ : ∀ S, frM σ S → S 67 = G → Q (S 67 w) S) : ∀ (n : Nat) (a : Int) (f : Int → Int) (τ : Sg), (a = 0 ∨ ((1 ≤ a ∧ a ≤ 127) ∧ rk a ≤ n)) → trS (JM σ) n a f = G → frM σ τ → RL1 τ 48 62 24 (PT a) → τ 67 = f → jv g mX12_sure (Fm g (PI Q)) τ [(0, vr g 48), (1, vi w)] 56 [] := by
  intro n
  induction n with
  | zero =>
    intro a f τ ha hG hf hp h67
    have z : a = 0 := by
      rcases ha with z | ⟨z, y⟩
      · exact z
      · have := rk_of z
        omega
    rw [z] at hp
    exact x_X12_sure hp hw (hQ τ hf (h67.trans hG))
  | succ n ih =>
    intro a f τ ha hG hf hp h67
    by_cases z : a = 0
    · rw [z] at hp hG
      rw [trS_0] at hG
      exact x_X12_sure hp hw (hQ τ hf (h67.trans hG))
    have na := (ha.resolve_left z).1
    have hk1 := (ha.resolve_left z).2
    have wk := fun (_ : Unit) => rk_of na
    have pb := (PN_of na).2.2.2
    have pt := fun (_ : Unit) => PT_b na
    have pt2 : Unit → (bhd a = 0 ∨ ((1 ≤ bhd a ∧ bhd a ≤ 127) ∧ rk (bhd a) ≤ n)) := by
      intro _
      by_cases y : bhd a = 0
      · exact Or.inl y
      · have := (wk ()).2.2.2.2 y
        have := (wk ()).2.2.2.1
        exact Or.inr ⟨by omega, by omega⟩
    rw [PT_n z] at hp
    have p0 := hp.pop.2.2.2
    clear ha
    refine j_aload_n eX12_sure_56 rfl ?_
    refine j_getI flX12_193 ly48 rfl eX12_sure_57 ?_
    refine j_if_le eX12_sure_60 (by omega) (fun h60 => absurd h60 (by omega)) (fun h60 => ?_)
    refine j_aload_n eX12_sure_63 rfl ?_
    refine j_dup rfl eX12_sure_64 ?_
    refine j_getI flX12_193 ly48 rfl eX12_sure_65 ?_
    refine j_iconst 1 eX12_sure_68 ?_
    refine j_isub eX12_sure_69 ?_
    refine j_putI fpX12_193 ly48 rfl eX12_sure_70 ?_
    obtain ⟨p1, p2, p3, p4⟩ := hp.pop
    generalize hτ1 : up τ 48 24 (τ 48 24 - 1) = τ1 at *
    have f1 : frM σ τ1 := hτ1 ▸ hf.U (by decide)
    have M1 := f1.TM hM
    have e1 : τ1 67 = f := by rw [← hτ1]; exact h67
    have T1 : 0 ≤ τ1 48 7 ∧ τ1 48 7 < τ1 49 1 := by rw [f1.1 49 (by decide) (by decide), f1.2 7 (by decide)]; exact tb
    refine j_aload_n eX12_sure_73 rfl ?_
    refine j_getR flX12_51 ly48 rfl eX12_sure_74 ?_
    refine j_aload_n eX12_sure_77 rfl ?_
    refine j_getI flX12_193 ly48 rfl eX12_sure_78 ?_
    refine j_iald ly62 (by omega) eX12_sure_81 ?_
    rw [p2]
    refine j_istore_n eX12_sure_82 (Nat.le_of_ble_eq_true rfl) ?_
    refine j_aload_n eX12_sure_83 rfl ?_
    refine j_iload_n eX12_sure_84 rfl ?_
    refine j_cV1 zX12_isHeld lkX12_232 ⟨Nat.le_of_ble_eq_true rfl, Nat.le_of_ble_eq_true rfl⟩ ly48 rfl rfl (c_X12_isHeld (by exact M1) (by exact T1) (by exact na)) (Nat.le_of_ble_eq_true rfl) eX12_sure_85 (k_I (fun v85 σ85 h85 => ?_))
    rw [f1.H] at h85
    have f2 := f1.L h85.1
    have r2 := p1.L h85.1
    have e2 : σ85 67 = f := (h85.1.1 67 (by decide) (by decide) (by decide)).trans e1
    refine j_if_eq eX12_sure_88 (by omega) (fun h88 => ?_) (fun h88 => ?_)
    · have M2 := f2.TM hM
      have T2 : 0 ≤ σ85 48 7 ∧ σ85 48 7 < σ85 49 1 := by rw [f2.1 49 (by decide) (by decide), f2.2 7 (by decide)]; exact tb
      refine j_aload_n eX12_sure_95 rfl ?_
      refine j_iload_n eX12_sure_96 rfl ?_
      refine j_cV1 zX12_isBroken lkX12_235 ⟨Nat.le_of_ble_eq_true rfl, Nat.le_of_ble_eq_true rfl⟩ ly48 rfl rfl (c_X12_isBroken (by exact M2) (by exact T2) (by exact na)) (Nat.le_of_ble_eq_true rfl) eX12_sure_97 (k_I (fun v97 σ97 h97 => ?_))
      rw [f2.B] at h97
      have f3 := f2.L h97.1
      have r3 := r2.L h97.1
      have e3 : σ97 67 = f := (h97.1.1 67 (by decide) (by decide) (by decide)).trans e2
      have r4 := r3.1
      refine j_if_eq eX12_sure_100 (by omega) (fun h100 => ?_) (fun h100 => ?_)
      · refine j_iload_n eX12_sure_107 rfl ?_
        refine j_bipush 64 eX12_sure_108 (by decide) ?_
        refine j_icmp_lt eX12_sure_110 (by omega) (fun h110 => ?_) (fun h110 => ?_)
        · refine j_iconst 3 eX12_sure_117 ?_
          refine j_istore_n eX12_sure_118 (Nat.le_of_ble_eq_true rfl) ?_
          refine j_iload_n eX12_sure_119 rfl ?_
          refine j_iconst 3 eX12_sure_120 ?_
          refine j_icmp_ge eX12_sure_121 (by omega) (fun _ => ?_) (fun h121 => absurd h121 (by omega))
          refine j_aload_n eX12_sure_140 rfl ?_
          refine j_iconst 2 eX12_sure_141 ?_
          refine j_iload_n eX12_sure_142 rfl ?_
          refine j_imul eX12_sure_143 ?_
          refine j_iconst 1 eX12_sure_144 ?_
          refine j_iadd eX12_sure_145 ?_
          refine j_cV1 zX12_puts lkX12_199 ⟨Nat.le_of_ble_eq_true rfl, Nat.le_of_ble_eq_true rfl⟩ ly48 rfl rfl (c_X12_puts (by omega)) (Nat.le_of_ble_eq_true rfl) eX12_sure_146 (k_VE ?_)
          generalize hρ1 : up (up σ97 62 (σ97 48 24) (2 * a + 1)) 48 24 (σ97 48 24 + 1) = ρ1
          have s1 : RL1 ρ1 48 62 24 (PN_ a ++ [2 * a + 1]) := hρ1 ▸ r3.put
          have e4 := s1.1
          rw [List.length_append] at e4
          have e4 : ρ1 48 24 = ((PN_ a).length + 1 : Nat) := e4
          have fr1 : frM σ ρ1 := hρ1 ▸ (f3.C (by decide)).U (by decide)
          refine j_aload_n eX12_sure_149 rfl ?_
          refine j_iconst 2 eX12_sure_150 ?_
          refine j_iload_n eX12_sure_151 rfl ?_
          refine j_imul eX12_sure_152 ?_
          refine j_cV1 zX12_puts lkX12_199 ⟨Nat.le_of_ble_eq_true rfl, Nat.le_of_ble_eq_true rfl⟩ ly48 rfl rfl (c_X12_puts (by omega)) (Nat.le_of_ble_eq_true rfl) eX12_sure_153 (k_VE ?_)
          refine j_goto eX12_sure_156 ?_
          first
          | (have cj := JM_0 (h85.2.resolve_right (by omega)).1
             have eT : trS (JM σ) (n + 1) a f = trS (JM σ) n (bhd a) (up1 f 0 (f 0 + pz a)) := by
               refine (if_neg z).trans ((if_neg (by omega)).trans ?_)
               rw [cj]
             rw [eT] at hG
             refine jv_lv ?_ (ih (bhd a) _ _ (pt2 ()) hG (f2.C (by decide)) (by rw [← (pt ()).1]; exact r2.of rfl rfl) (by rw [up_same, e2]))
             exact lvC rfl (lvC rfl (lv0)))
          | (have cj := JM_1 (h85.2.resolve_left (by omega)).1 (h97.2.resolve_right (by omega)).1
             have eT : trS (JM σ) (n + 1) a f = trS (JM σ) n (bhd a) (up1 f 1 (f 1 + pz a)) := by
               refine (if_neg z).trans ((if_neg (by omega)).trans ?_)
               rw [cj]
             rw [eT] at hG
             refine jv_lv ?_ (ih (bhd a) _ _ (pt2 ()) hG (f3.C (by decide)) (by rw [← (pt ()).1]; exact r3.of rfl rfl) (by rw [up_same, e3]))
             exact lvC rfl (lvC rfl (lv0)))
          | (have cj := JM_2 (h85.2.resolve_left (by omega)).1 (h97.2.resolve_left (by omega)).1
             have eT : trS (JM σ) (n + 1) a f = trS (JM σ) n (bhd a) (up1 f 2 (f 2 + pz a)) := by
               refine (if_neg z).trans ((if_neg (by omega)).trans ?_)
               rw [cj]
             rw [eT] at hG
             refine jv_lv ?_ (ih (bhd a) _ _ (pt2 ()) hG (f3.C (by decide)) (by rw [← (pt ()).1]; exact r3.of rfl rfl) (by rw [up_same, e3]))
             exact lvC rfl (lvC rfl (lv0)))
          | (have cj := JM_2 (h85.2.resolve_left (by omega)).1 (h97.2.resolve_left (by omega)).1
             have eT : trS (JM σ) (n + 1) a f = trS (JM σ) n (2 * a) f := (if_neg z).trans (if_pos ⟨cj, by omega⟩)
             rw [eT] at hG
             have w2 := (wk ()).2.1 (by omega)
             generalize hρ2 : up (up ρ1 62 (ρ1 48 24) (2 * a)) 48 24 (ρ1 48 24 + 1) = ρ2
             have s2 : RL1 ρ2 48 62 24 ((PN_ a ++ [2 * a + 1]) ++ [2 * a]) := hρ2 ▸ s1.put
             rw [PT_2 (by omega)] at s2
             refine jv_lv ?_ (ih (2 * a) f ρ2 (Or.inr ⟨by omega, by omega⟩) hG (hρ2 ▸ (fr1.C (by decide)).U (by decide)) s2 (by rw [← hρ2, ← hρ1]; exact e3))
             exact lvC rfl (lvC rfl (lv0)))
        · refine j_iconst 2 eX12_sure_113 ?_
          refine j_goto eX12_sure_114 ?_
          refine j_istore_n eX12_sure_118 (Nat.le_of_ble_eq_true rfl) ?_
          refine j_iload_n eX12_sure_119 rfl ?_
          refine j_iconst 3 eX12_sure_120 ?_
          refine j_icmp_ge eX12_sure_121 (by omega) (fun h121 => absurd h121 (by omega)) (fun _ => ?_)
          refine j_aload_n eX12_sure_124 rfl ?_
          refine j_getR flX12_66 ly48 rfl eX12_sure_125 ?_
          refine j_iload_n eX12_sure_128 rfl ?_
          refine j_dup2 rfl rfl eX12_sure_129 ?_
          refine j_iald ly67 (by omega) eX12_sure_130 ?_
          refine j_iload_n eX12_sure_131 rfl ?_
          refine j_cS1 zX12_sizeOf lkX12_138 ⟨Nat.le_of_ble_eq_true rfl, Nat.le_of_ble_eq_true rfl⟩ (c_X12_sizeOf (by exact na)) (Nat.le_of_ble_eq_true rfl) eX12_sure_132 (k_E ?_)
          refine j_iadd eX12_sure_135 ?_
          refine j_iast ly67 (by omega) eX12_sure_136 ?_
          refine j_goto eX12_sure_137 ?_
          refine j_goto eX12_sure_156 ?_
          first
          | (have cj := JM_0 (h85.2.resolve_right (by omega)).1
             have eT : trS (JM σ) (n + 1) a f = trS (JM σ) n (bhd a) (up1 f 0 (f 0 + pz a)) := by
               refine (if_neg z).trans ((if_neg (by omega)).trans ?_)
               rw [cj]
             rw [eT] at hG
             refine jv_lv ?_ (ih (bhd a) _ _ (pt2 ()) hG (f2.C (by decide)) (by rw [← (pt ()).1]; exact r2.of rfl rfl) (by rw [up_same, e2]))
             exact lvC rfl (lvC rfl (lv0)))
          | (have cj := JM_1 (h85.2.resolve_left (by omega)).1 (h97.2.resolve_right (by omega)).1
             have eT : trS (JM σ) (n + 1) a f = trS (JM σ) n (bhd a) (up1 f 1 (f 1 + pz a)) := by
               refine (if_neg z).trans ((if_neg (by omega)).trans ?_)
               rw [cj]
             rw [eT] at hG
             refine jv_lv ?_ (ih (bhd a) _ _ (pt2 ()) hG (f3.C (by decide)) (by rw [← (pt ()).1]; exact r3.of rfl rfl) (by rw [up_same, e3]))
             exact lvC rfl (lvC rfl (lv0)))
          | (have cj := JM_2 (h85.2.resolve_left (by omega)).1 (h97.2.resolve_left (by omega)).1
             have eT : trS (JM σ) (n + 1) a f = trS (JM σ) n (bhd a) (up1 f 2 (f 2 + pz a)) := by
               refine (if_neg z).trans ((if_neg (by omega)).trans ?_)
               rw [cj]
             rw [eT] at hG
             refine jv_lv ?_ (ih (bhd a) _ _ (pt2 ()) hG (f3.C (by decide)) (by rw [← (pt ()).1]; exact r3.of rfl rfl) (by rw [up_same, e3]))
             exact lvC rfl (lvC rfl (lv0)))
          | (have cj := JM_2 (h85.2.resolve_left (by omega)).1 (h97.2.resolve_left (by omega)).1
             have eT : trS (JM σ) (n + 1) a f = trS (JM σ) n (2 * a) f := (if_neg z).trans (if_pos ⟨cj, by omega⟩)
             rw [eT] at hG
             have w2 := (wk ()).2.1 (by omega)
             generalize hρ2 : up (up ρ1 62 (ρ1 48 24) (2 * a)) 48 24 (ρ1 48 24 + 1) = ρ2
             have s2 : RL1 ρ2 48 62 24 ((PN_ a ++ [2 * a + 1]) ++ [2 * a]) := hρ2 ▸ s1.put
             rw [PT_2 (by omega)] at s2
             refine jv_lv ?_ (ih (2 * a) f ρ2 (Or.inr ⟨by omega, by omega⟩) hG (hρ2 ▸ (fr1.C (by decide)).U (by decide)) s2 (by rw [← hρ2, ← hρ1]; exact e3))
             exact lvC rfl (lvC rfl (lv0)))
      · refine j_iconst 1 eX12_sure_103 ?_
        refine j_goto eX12_sure_104 ?_
        refine j_istore_n eX12_sure_118 (Nat.le_of_ble_eq_true rfl) ?_
        refine j_iload_n eX12_sure_119 rfl ?_
        refine j_iconst 3 eX12_sure_120 ?_
        refine j_icmp_ge eX12_sure_121 (by omega) (fun h121 => absurd h121 (by omega)) (fun _ => ?_)
        refine j_aload_n eX12_sure_124 rfl ?_
        refine j_getR flX12_66 ly48 rfl eX12_sure_125 ?_
        refine j_iload_n eX12_sure_128 rfl ?_
        refine j_dup2 rfl rfl eX12_sure_129 ?_
        refine j_iald ly67 (by omega) eX12_sure_130 ?_
        refine j_iload_n eX12_sure_131 rfl ?_
        refine j_cS1 zX12_sizeOf lkX12_138 ⟨Nat.le_of_ble_eq_true rfl, Nat.le_of_ble_eq_true rfl⟩ (c_X12_sizeOf (by exact na)) (Nat.le_of_ble_eq_true rfl) eX12_sure_132 (k_E ?_)
        refine j_iadd eX12_sure_135 ?_
        refine j_iast ly67 (by omega) eX12_sure_136 ?_
        refine j_goto eX12_sure_137 ?_
        refine j_goto eX12_sure_156 ?_
        first
        | (have cj := JM_0 (h85.2.resolve_right (by omega)).1
           have eT : trS (JM σ) (n + 1) a f = trS (JM σ) n (bhd a) (up1 f 0 (f 0 + pz a)) := by
             refine (if_neg z).trans ((if_neg (by omega)).trans ?_)
             rw [cj]
           rw [eT] at hG
           refine jv_lv ?_ (ih (bhd a) _ _ (pt2 ()) hG (f2.C (by decide)) (by rw [← (pt ()).1]; exact r2.of rfl rfl) (by rw [up_same, e2]))
           exact lvC rfl (lvC rfl (lv0)))
        | (have cj := JM_1 (h85.2.resolve_left (by omega)).1 (h97.2.resolve_right (by omega)).1
           have eT : trS (JM σ) (n + 1) a f = trS (JM σ) n (bhd a) (up1 f 1 (f 1 + pz a)) := by
             refine (if_neg z).trans ((if_neg (by omega)).trans ?_)
             rw [cj]
           rw [eT] at hG
           refine jv_lv ?_ (ih (bhd a) _ _ (pt2 ()) hG (f3.C (by decide)) (by rw [← (pt ()).1]; exact r3.of rfl rfl) (by rw [up_same, e3]))
           exact lvC rfl (lvC rfl (lv0)))
        | (have cj := JM_2 (h85.2.resolve_left (by omega)).1 (h97.2.resolve_left (by omega)).1
           have eT : trS (JM σ) (n + 1) a f = trS (JM σ) n (bhd a) (up1 f 2 (f 2 + pz a)) := by
             refine (if_neg z).trans ((if_neg (by omega)).trans ?_)
             rw [cj]
           rw [eT] at hG
           refine jv_lv ?_ (ih (bhd a) _ _ (pt2 ()) hG (f3.C (by decide)) (by rw [← (pt ()).1]; exact r3.of rfl rfl) (by rw [up_same, e3]))
           exact lvC rfl (lvC rfl (lv0)))
        | (have cj := JM_2 (h85.2.resolve_left (by omega)).1 (h97.2.resolve_left (by omega)).1
           have eT : trS (JM σ) (n + 1) a f = trS (JM σ) n (2 * a) f := (if_neg z).trans (if_pos ⟨cj, by omega⟩)
           rw [eT] at hG
           have w2 := (wk ()).2.1 (by omega)
           generalize hρ2 : up (up ρ1 62 (ρ1 48 24) (2 * a)) 48 24 (ρ1 48 24 + 1) = ρ2
           have s2 : RL1 ρ2 48 62 24 ((PN_ a ++ [2 * a + 1]) ++ [2 * a]) := hρ2 ▸ s1.put
           rw [PT_2 (by omega)] at s2
           refine jv_lv ?_ (ih (2 * a) f ρ2 (Or.inr ⟨by omega, by omega⟩) hG (hρ2 ▸ (fr1.C (by decide)).U (by decide)) s2 (by rw [← hρ2, ← hρ1]; exact e3))
           exact lvC rfl (lvC rfl (lv0)))
    · refine j_iconst 0 eX12_sure_91 ?_
      refine j_goto eX12_sure_92 ?_
      refine j_istore_n eX12_sure_118 (Nat.le_of_ble_eq_true rfl) ?_
      refine j_iload_n eX12_sure_119 rfl ?_
      refine j_iconst 3 eX12_sure_120 ?_
      refine j_icmp_ge eX12_sure_121 (by omega) (fun h121 => absurd h121 (by omega)) (fun _ => ?_)
      refine j_aload_n eX12_sure_124 rfl ?_
      refine j_getR flX12_66 ly48 rfl eX12_sure_125 ?_
      refine j_iload_n eX12_sure_128 rfl ?_
      refine j_dup2 rfl rfl eX12_sure_129 ?_
      refine j_iald ly67 (by omega) eX12_sure_130 ?_
      refine j_iload_n eX12_sure_131 rfl ?_
      refine j_cS1 zX12_sizeOf lkX12_138 ⟨Nat.le_of_ble_eq_true rfl, Nat.le_of_ble_eq_true rfl⟩ (c_X12_sizeOf (by exact na)) (Nat.le_of_ble_eq_true rfl) eX12_sure_132 (k_E ?_)
      refine j_iadd eX12_sure_135 ?_
      refine j_iast ly67 (by omega) eX12_sure_136 ?_
      refine j_goto eX12_sure_137 ?_
      refine j_goto eX12_sure_156 ?_
      first
      | (have cj := JM_0 (h85.2.resolve_right (by omega)).1
         have eT : trS (JM σ) (n + 1) a f = trS (JM σ) n (bhd a) (up1 f 0 (f 0 + pz a)) := by
           refine (if_neg z).trans ((if_neg (by omega)).trans ?_)
           rw [cj]
         rw [eT] at hG
         refine jv_lv ?_ (ih (bhd a) _ _ (pt2 ()) hG (f2.C (by decide)) (by rw [← (pt ()).1]; exact r2.of rfl rfl) (by rw [up_same, e2]))
         exact lvC rfl (lvC rfl (lv0)))
      | (have cj := JM_1 (h85.2.resolve_left (by omega)).1 (h97.2.resolve_right (by omega)).1
         have eT : trS (JM σ) (n + 1) a f = trS (JM σ) n (bhd a) (up1 f 1 (f 1 + pz a)) := by
           refine (if_neg z).trans ((if_neg (by omega)).trans ?_)
           rw [cj]
         rw [eT] at hG
         refine jv_lv ?_ (ih (bhd a) _ _ (pt2 ()) hG (f3.C (by decide)) (by rw [← (pt ()).1]; exact r3.of rfl rfl) (by rw [up_same, e3]))
         exact lvC rfl (lvC rfl (lv0)))
      | (have cj := JM_2 (h85.2.resolve_left (by omega)).1 (h97.2.resolve_left (by omega)).1
         have eT : trS (JM σ) (n + 1) a f = trS (JM σ) n (bhd a) (up1 f 2 (f 2 + pz a)) := by
           refine (if_neg z).trans ((if_neg (by omega)).trans ?_)
           rw [cj]
         rw [eT] at hG
         refine jv_lv ?_ (ih (bhd a) _ _ (pt2 ()) hG (f3.C (by decide)) (by rw [← (pt ()).1]; exact r3.of rfl rfl) (by rw [up_same, e3]))
         exact lvC rfl (lvC rfl (lv0)))
      | (have cj := JM_2 (h85.2.resolve_left (by omega)).1 (h97.2.resolve_left (by omega)).1
         have eT : trS (JM σ) (n + 1) a f = trS (JM σ) n (2 * a) f := (if_neg z).trans (if_pos ⟨cj, by omega⟩)
         rw [eT] at hG
         have w2 := (wk ()).2.1 (by omega)
         generalize hρ2 : up (up ρ1 62 (ρ1 48 24) (2 * a)) 48 24 (ρ1 48 24 + 1) = ρ2
         have s2 : RL1 ρ2 48 62 24 ((PN_ a ++ [2 * a + 1]) ++ [2 * a]) := hρ2 ▸ s1.put
         rw [PT_2 (by omega)] at s2
         refine jv_lv ?_ (ih (2 * a) f ρ2 (Or.inr ⟨by omega, by omega⟩) hG (hρ2 ▸ (fr1.C (by decide)).U (by decide)) s2 (by rw [← hρ2, ← hρ1]; exact e3))
         exact lvC rfl (lvC rfl (lv0)))
theorem c_X12_sure {g : Gl} {σ : Sg} {w : Int} (h : -2147483648 ≤ w ∧ w ≤ 2147483647) (hM : TM σ) (hk : (0 ≤ σ 48 6 ∧ σ 48 6 ≤ 2) ∧ 0 ≤ σ 48 7 ∧ σ 48 7 ≤ 2) : Ct g mX12_sure [vr g 48, vi w] σ (PI (fun v σ' => frM σ σ' ∧ ((¬ (0 ≤ w ∧ w ≤ 2) ∧ v = -1) ∨ (((0 ≤ w ∧ w ≤ 2) ∧ ¬ (0 ≤ σ 48 7 ∧ σ 48 7 < σ 49 1)) ∧ v = -2) ∨ (((0 ≤ w ∧ w ≤ 2) ∧ (0 ≤ σ 48 7 ∧ σ 48 7 < σ 49 1)) ∧ ∃ f : Int → Int, (∀ i, 0 ≤ i → i < 3 → f i = 0) ∧ v = trS (JM σ) 127 1 f w)))) := by
  refine Ct.of (by decide +kernel) (Nat.le_of_ble_eq_true rfl) ?_
  show jv g _ _ σ [(0, vr g 48), (1, vi w)] 0 []
  refine j_iload_n eX12_sure_0 rfl ?_
  refine j_iconst 0 eX12_sure_1 ?_
  refine j_iconst 2 eX12_sure_2 ?_
  refine j_cS3 zX12_in lkX12_85 ⟨Nat.le_of_ble_eq_true rfl, Nat.le_of_ble_eq_true rfl⟩ (c_X12_in (by omega)) (Nat.le_of_ble_eq_true rfl) eX12_sure_3 (k_B (fun h3 => ?_) (fun h3 => ?_))
  · refine j_ifne_1 eX12_sure_6 ?_
    refine j_aload_n eX12_sure_11 rfl ?_
    refine j_aload_n eX12_sure_12 rfl ?_
    refine j_getI flX12_82 ly48 rfl eX12_sure_13 ?_
    refine j_cV1 zX12_isBox lkX12_126 ⟨Nat.le_of_ble_eq_true rfl, Nat.le_of_ble_eq_true rfl⟩ ly48 rfl rfl (c_X12_isBox (by omega) (by exact hM.2.1)) (Nat.le_of_ble_eq_true rfl) eX12_sure_16 (k_B (fun h16 => ?_) (fun h16 => ?_))
    · refine j_ifne_1 eX12_sure_19 ?_
      refine j_aload_n eX12_sure_25 rfl ?_
      refine j_getR flX12_66 ly48 rfl eX12_sure_26 ?_
      refine j_iconst 0 eX12_sure_29 ?_
      refine j_iconst 0 eX12_sure_30 ?_
      refine j_iast ly67 (by omega) eX12_sure_31 ?_
      refine j_aload_n eX12_sure_32 rfl ?_
      refine j_getR flX12_66 ly48 rfl eX12_sure_33 ?_
      refine j_iconst 1 eX12_sure_36 ?_
      refine j_iconst 0 eX12_sure_37 ?_
      refine j_iast ly67 (by omega) eX12_sure_38 ?_
      refine j_aload_n eX12_sure_39 rfl ?_
      refine j_getR flX12_66 ly48 rfl eX12_sure_40 ?_
      refine j_iconst 2 eX12_sure_43 ?_
      refine j_iconst 0 eX12_sure_44 ?_
      refine j_iast ly67 (by omega) eX12_sure_45 ?_
      refine j_aload_n eX12_sure_46 rfl ?_
      refine j_iconst 0 eX12_sure_47 ?_
      refine j_putI fpX12_193 ly48 rfl eX12_sure_48 ?_
      refine j_aload_n eX12_sure_51 rfl ?_
      refine j_iconst 1 eX12_sure_52 ?_
      refine j_cV1 zX12_puts lkX12_199 ⟨Nat.le_of_ble_eq_true rfl, Nat.le_of_ble_eq_true rfl⟩ ly48 rfl rfl (c_X12_puts (by exact (show (0 : Int) ≤ 0 ∧ (0 : Int) < 400 by decide))) (Nat.le_of_ble_eq_true rfl) eX12_sure_53 (k_VE ?_)
      generalize hκ : up (up (up σ 67 0 0) 67 1 0) 67 2 0 = κ
      have k0 : frM σ κ := hκ ▸ (((frM.rf σ).C (by decide)).C (by decide)).C (by decide)
      have k1 : ∀ i, 0 ≤ i → i < 3 → κ 67 i = 0 := by
        intro i x y
        obtain rfl | rfl | rfl : i = 0 ∨ i = 1 ∨ i = 2 := by omega
        · rw [← hκ]; rfl
        · rw [← hκ]; rfl
        · rw [← hκ]; rfl
      generalize hρ1 : up (up (up κ 48 24 0) 62 ((up κ 48 24 0) 48 24) 1) 48 24 ((up κ 48 24 0) 48 24 + 1) = ρ1
      refine jv_lv ?_ (l_X12_sure h hM hk h16 (by omega) (G := trS (JM σ) 127 1 (κ 67)) (fun S fS eS => ⟨fS, Or.inr (Or.inr ⟨⟨by omega, h16⟩, κ 67, k1, by rw [eS]⟩)⟩) 127 1 (κ 67) ρ1 (Or.inr (by decide)) rfl (hρ1 ▸ ((k0.U (by decide)).C (by decide)).U (by decide)) (by rw [← hρ1, show PT 1 = [] ++ [1] from by decide]; exact RL1.put (P := []) (τ := up κ 48 24 0) (RL1_0 rfl)) (by rw [← hρ1]; rfl))
      exact lvC rfl (lvC rfl (lv0))
    · refine j_ifne_0 eX12_sure_19 ?_
      refine j_bipush (-2) eX12_sure_22 (by decide) ?_
      refine r_iret rfl eX12_sure_24 ?_
      exact ⟨frM.rf σ, Or.inr (Or.inl ⟨by omega, rfl⟩)⟩
  · refine j_ifne_0 eX12_sure_6 ?_
    refine j_iconst (-1) eX12_sure_9 ?_
    refine r_iret rfl eX12_sure_10 ?_
    exact ⟨frM.rf σ, Or.inl ⟨by omega, rfl⟩⟩
