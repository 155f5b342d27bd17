/-! the two answer alike: calls that change nothing that lasts -/
def SI (g : Gl) (y1 y2 : Mt) (av : List Value) : Prop := ∀ σ, Inv σ → ∃ P1 : Int → Sg → Prop, Ct g y1 (vr g 24 :: av) σ (PI P1) ∧ ∀ v σ1, P1 v σ1 → ∃ P2 : Int → Sg → Prop, Ct g y2 (vr g 48 :: av) σ1 (PI P2) ∧ ∀ w σ2, P2 w σ2 → w = v ∧ Inv σ2
def SJ (g : Gl) (y1 y2 : Mt) (av : List Value) : Prop := ∀ σ, Inv σ → ∃ P1 : Int → Sg → Prop, Ct g y1 (vr g 24 :: av) σ (PL P1) ∧ ∀ v σ1, P1 v σ1 → ∃ P2 : Int → Sg → Prop, Ct g y2 (vr g 48 :: av) σ1 (PL P2) ∧ ∀ w σ2, P2 w σ2 → w = v ∧ Inv σ2
theorem trS_congr {j1 j2 : Int → Int} (e : ∀ a, j1 a = j2 a) (b : ∀ a, 0 ≤ j2 a ∧ j2 a ≤ 2) : ∀ (t : Nat) (a : Int) (f h : Int → Int), (∀ i, 0 ≤ i → i < 3 → f i = h i) → ∀ i, 0 ≤ i → i < 3 → trS j1 t a f i = trS j2 t a h i := by
  intro t
  induction t with
  | zero => intro a f h eq i h0 h1; exact eq i h0 h1
  | succ t ih =>
    intro a f h eq i h0 h1
    have s1 : trS j1 (t + 1) a f = if a = 0 then f else if j1 a = 2 ∧ a < 64 then trS j1 t (2 * a) f else trS j1 t (bhd a) (up1 f (j1 a) (f (j1 a) + pz a)) := rfl
    have s2 : trS j2 (t + 1) a h = if a = 0 then h else if j2 a = 2 ∧ a < 64 then trS j2 t (2 * a) h else trS j2 t (bhd a) (up1 h (j2 a) (h (j2 a) + pz a)) := rfl
    rw [s1, s2, e a]
    have ba := b a
    by_cases c : a = 0
    · rw [if_pos c, if_pos c]
      exact eq i h0 h1
    · rw [if_neg c, if_neg c]
      by_cases d : j2 a = 2 ∧ a < 64
      · rw [if_pos d, if_pos d]
        exact ih (2 * a) f h eq i h0 h1
      · rw [if_neg d, if_neg d]
        refine ih (bhd a) _ _ (fun k x y => ?_) i h0 h1
        by_cases z : k = j2 a
        · rw [z, up1_same, up1_same, eq (j2 a) (by omega) (by omega)]
        · rw [up1_ne z, up1_ne z]
          exact eq k x y
theorem JX_b (σ : Sg) (a : Int) : 0 ≤ JX σ a ∧ JX σ a ≤ 2 := jdg_b _ _ _ _ _ (by decide) (by decide)
theorem s_control {g : Gl} {a r i w : Int} (h : -2147483648 ≤ a ∧ a ≤ 2147483647 ∧ -2147483648 ≤ r ∧ r ≤ 2147483647 ∧ -2147483648 ≤ i ∧ i ≤ 2147483647 ∧ -2147483648 ≤ w ∧ w ≤ 2147483647) : SJ g mX11_control mX12_control [vi a, vi r, vi i, vi w] := by
  intro σ I
  refine ⟨_, c_X11_control h I.X I.kX, fun v τ p1 => ?_⟩
  have e27 : ∀ k, k ≤ 27 → τ k = σ k := fun k hk => p1.1 k (by omega)
  obtain ⟨I1, ⟨e0, e1, e6, e7⟩, eV⟩ := sc_pre I p1.1
  refine ⟨_, c_X12_control h I1.M I1.kM, fun u ρ p2 => ⟨?_, I1.fm p2.1.M⟩⟩
  have o1 := p1.2
  have o2 := p2.2
  clear p1 p2
  by_cases V : VT σ
  · obtain ⟨V1, en, eN⟩ := eV V
    have V2 : ((0 ≤ σ 27 1 ∧ σ 27 1 < σ 0 0) ∧ 0 ≤ σ 27 2 ∧ σ 27 2 < σ 0 1) := V
    rw [en] at o2
    rcases o1 with ⟨c1, o1⟩ | ⟨c1, o1⟩ <;> rcases o2 with ⟨c2, o2⟩ | ⟨c2, o2⟩ <;> first | (exfalso; omega) | (rw [o1, o2]; done) | (rw [o1, o2, eN])
  · have V2 : ¬ ((0 ≤ σ 27 1 ∧ σ 27 1 < σ 0 0) ∧ 0 ≤ σ 27 2 ∧ σ 27 2 < σ 0 1) := V
    clear eV
    rcases o1 with ⟨c1, o1⟩ | ⟨c1, o1⟩ <;> rcases o2 with ⟨c2, o2⟩ | ⟨c2, o2⟩ <;> first | (exfalso; omega) | (rw [o1, o2]; done)
theorem s_variation {g : Gl} {a r : Int} (h : -2147483648 ≤ a ∧ a ≤ 2147483647 ∧ -2147483648 ≤ r ∧ r ≤ 2147483647) : SI g mX11_variation mX12_variation [vi a, vi r] := by
  intro σ I
  refine ⟨_, c_X11_variation h I.X I.kX, fun v τ p1 => ?_⟩
  have e27 : ∀ k, k ≤ 27 → τ k = σ k := fun k hk => p1.1 k (by omega)
  obtain ⟨I1, ⟨e0, e1, e6, e7⟩, eV⟩ := sc_pre I p1.1
  refine ⟨_, c_X12_variation h I1.M I1.kM, fun u ρ p2 => ⟨?_, I1.fm p2.1.M⟩⟩
  have o1 := p1.2
  have o2 := p2.2
  clear p1 p2
  by_cases V : VT σ
  · obtain ⟨V1, en, eN⟩ := eV V
    have V2 : ((0 ≤ σ 27 1 ∧ σ 27 1 < σ 0 0) ∧ 0 ≤ σ 27 2 ∧ σ 27 2 < σ 0 1) := V
    rw [en] at o2
    rcases o1 with ⟨c1, o1⟩ | ⟨c1, o1⟩ | ⟨c1, o1⟩ <;> rcases o2 with ⟨c2, o2⟩ | ⟨c2, o2⟩ | ⟨c2, o2⟩ <;> first | (exfalso; omega) | (rw [o1, o2]; done) | (rw [o1, o2, eN])
  · have V2 : ¬ ((0 ≤ σ 27 1 ∧ σ 27 1 < σ 0 0) ∧ 0 ≤ σ 27 2 ∧ σ 27 2 < σ 0 1) := V
    clear eV
    rcases o1 with ⟨c1, o1⟩ | ⟨c1, o1⟩ | ⟨c1, o1⟩ <;> rcases o2 with ⟨c2, o2⟩ | ⟨c2, o2⟩ | ⟨c2, o2⟩ <;> first | (exfalso; omega) | (rw [o1, o2]; done)
theorem s_value {g : Gl} {a r w : Int} (h : -2147483648 ≤ a ∧ a ≤ 2147483647 ∧ -2147483648 ≤ r ∧ r ≤ 2147483647 ∧ -2147483648 ≤ w ∧ w ≤ 2147483647) : SJ g mX11_value mX12_value [vi a, vi r, vi w] := by
  intro σ I
  refine ⟨_, c_X11_value h I.X I.kX, fun v τ p1 => ?_⟩
  have e27 : ∀ k, k ≤ 27 → τ k = σ k := fun k hk => p1.1 k (by omega)
  obtain ⟨I1, ⟨e0, e1, e6, e7⟩, eV⟩ := sc_pre I p1.1
  refine ⟨_, c_X12_value h I1.M I1.kM, fun u ρ p2 => ⟨?_, I1.fm p2.1.M⟩⟩
  have o1 := p1.2
  have o2 := p2.2
  clear p1 p2
  by_cases V : VT σ
  · obtain ⟨V1, en, eN⟩ := eV V
    have V2 : ((0 ≤ σ 27 1 ∧ σ 27 1 < σ 0 0) ∧ 0 ≤ σ 27 2 ∧ σ 27 2 < σ 0 1) := V
    rw [en] at o2
    rcases o1 with ⟨c1, o1⟩ | ⟨c1, o1⟩ <;> rcases o2 with ⟨c2, o2⟩ | ⟨c2, o2⟩ <;> first | (exfalso; omega) | (rw [o1, o2]; done) | (rw [o1, o2, eN])
  · have V2 : ¬ ((0 ≤ σ 27 1 ∧ σ 27 1 < σ 0 0) ∧ 0 ≤ σ 27 2 ∧ σ 27 2 < σ 0 1) := V
    clear eV
    rcases o1 with ⟨c1, o1⟩ | ⟨c1, o1⟩ <;> rcases o2 with ⟨c2, o2⟩ | ⟨c2, o2⟩ <;> first | (exfalso; omega) | (rw [o1, o2]; done)
theorem s_end {g : Gl} {a r w : Int} (h : -2147483648 ≤ a ∧ a ≤ 2147483647 ∧ -2147483648 ≤ r ∧ r ≤ 2147483647 ∧ -2147483648 ≤ w ∧ w ≤ 2147483647) : SJ g mX11_end mX12_end [vi a, vi r, vi w] := by
  intro σ I
  refine ⟨_, c_X11_end h I.X I.kX, fun v τ p1 => ?_⟩
  have e27 : ∀ k, k ≤ 27 → τ k = σ k := fun k hk => p1.1 k (by omega)
  obtain ⟨I1, ⟨e0, e1, e6, e7⟩, eV⟩ := sc_pre I p1.1
  refine ⟨_, c_X12_end h I1.M I1.kM, fun u ρ p2 => ⟨?_, (by rw [p2.1]; exact I1)⟩⟩
  have o1 := p1.2
  have o2 := p2.2
  clear p1 p2
  by_cases V : VT σ
  · obtain ⟨V1, en, eN⟩ := eV V
    have V2 : ((0 ≤ σ 27 1 ∧ σ 27 1 < σ 0 0) ∧ 0 ≤ σ 27 2 ∧ σ 27 2 < σ 0 1) := V
    have l1 := I1.lo V1.2 a
    rw [loX_congr e27, hiX_congr e27] at l1
    rw [l1.2, l1.1] at o2
    rcases o1 with ⟨c1, o1⟩ | ⟨c1, o1⟩ <;> rcases o2 with ⟨c2, o2⟩ | ⟨c2, o2⟩ <;> first | (exfalso; omega) | (rw [o1, o2]; done) | (rw [o1, o2])
  · have V2 : ¬ ((0 ≤ σ 27 1 ∧ σ 27 1 < σ 0 0) ∧ 0 ≤ σ 27 2 ∧ σ 27 2 < σ 0 1) := V
    clear eV
    rcases o1 with ⟨c1, o1⟩ | ⟨c1, o1⟩ <;> rcases o2 with ⟨c2, o2⟩ | ⟨c2, o2⟩ <;> first | (exfalso; omega) | (rw [o1, o2]; done)
theorem s_brackets {g : Gl} : SI g mX11_brackets mX12_brackets [] := by
  intro σ I
  refine ⟨_, c_X11_brackets I.X I.kX, fun v τ p1 => ?_⟩
  have e27 : ∀ k, k ≤ 27 → τ k = σ k := fun k hk => p1.1 k (by omega)
  obtain ⟨I1, ⟨e0, e1, e6, e7⟩, eV⟩ := sc_pre I p1.1
  refine ⟨_, c_X12_brackets I1.M I1.kM, fun u ρ p2 => ⟨?_, I1.fm p2.1⟩⟩
  have o1 := p1.2
  have o2 := p2.2
  clear p1 p2
  by_cases V : VT σ
  · obtain ⟨V1, en, eN⟩ := eV V
    have V2 : ((0 ≤ σ 27 1 ∧ σ 27 1 < σ 0 0) ∧ 0 ≤ σ 27 2 ∧ σ 27 2 < σ 0 1) := V
    have tb := I1.trB V1
    rw [VX_congr e27, ZX_congr e27] at tb
    rw [tb] at o2
    rcases o1 with ⟨c1, o1⟩ | ⟨c1, o1⟩ <;> rcases o2 with ⟨c2, o2⟩ | ⟨c2, o2⟩ <;> first | (exfalso; omega) | (rw [o1, o2]; done) | (rw [o1, o2])
  · have V2 : ¬ ((0 ≤ σ 27 1 ∧ σ 27 1 < σ 0 0) ∧ 0 ≤ σ 27 2 ∧ σ 27 2 < σ 0 1) := V
    clear eV
    rcases o1 with ⟨c1, o1⟩ | ⟨c1, o1⟩ <;> rcases o2 with ⟨c2, o2⟩ | ⟨c2, o2⟩ <;> first | (exfalso; omega) | (rw [o1, o2]; done)
theorem s_makes {g : Gl} : SI g mX11_makes mX12_makes [] := by
  intro σ I
  refine ⟨_, c_X11_makes I.X I.kX, fun v τ p1 => ?_⟩
  have e27 : ∀ k, k ≤ 27 → τ k = σ k := fun k hk => p1.1 k (by omega)
  obtain ⟨I1, ⟨e0, e1, e6, e7⟩, eV⟩ := sc_pre I p1.1
  refine ⟨_, c_X12_makes I1.M I1.kM, fun u ρ p2 => ⟨?_, I1.fm p2.1⟩⟩
  have o1 := p1.2
  have o2 := p2.2
  clear p1 p2
  by_cases V : VT σ
  · obtain ⟨V1, en, eN⟩ := eV V
    have V2 : ((0 ≤ σ 27 1 ∧ σ 27 1 < σ 0 0) ∧ 0 ≤ σ 27 2 ∧ σ 27 2 < σ 0 1) := V
    have tb := I1.trP V1
    rw [FG_congr e27, SL_congr e27, SH_congr e27, loX_congr e27, hiX_congr e27] at tb
    rw [tb] at o2
    rcases o1 with ⟨c1, o1⟩ | ⟨c1, o1⟩ <;> rcases o2 with ⟨c2, o2⟩ | ⟨c2, o2⟩ <;> first | (exfalso; omega) | (rw [o1, o2]; done) | (rw [o1, o2])
  · have V2 : ¬ ((0 ≤ σ 27 1 ∧ σ 27 1 < σ 0 0) ∧ 0 ≤ σ 27 2 ∧ σ 27 2 < σ 0 1) := V
    clear eV
    rcases o1 with ⟨c1, o1⟩ | ⟨c1, o1⟩ <;> rcases o2 with ⟨c2, o2⟩ | ⟨c2, o2⟩ <;> first | (exfalso; omega) | (rw [o1, o2]; done)
theorem s_witness {g : Gl} {w : Int} (h : -2147483648 ≤ w ∧ w ≤ 2147483647) : SJ g mX11_witness mX12_witness [vi w] := by
  intro σ I
  refine ⟨_, c_X11_witness h I.X I.kX, fun v τ p1 => ?_⟩
  have e27 : ∀ k, k ≤ 27 → τ k = σ k := fun k hk => p1.1 k (by omega)
  obtain ⟨I1, ⟨e0, e1, e6, e7⟩, eV⟩ := sc_pre I p1.1
  refine ⟨_, c_X12_witness h I1.M I1.kM, fun u ρ p2 => ⟨?_, I1.fm p2.1⟩⟩
  have o1 := p1.2
  have o2 := p2.2
  clear p1 p2
  by_cases V : VT σ
  · obtain ⟨V1, en, eN⟩ := eV V
    have V2 : ((0 ≤ σ 27 1 ∧ σ 27 1 < σ 0 0) ∧ 0 ≤ σ 27 2 ∧ σ 27 2 < σ 0 1) := V
    have tb := I1.trP V1
    rw [FG_congr e27, SL_congr e27, SH_congr e27, loX_congr e27, hiX_congr e27] at tb
    rw [tb] at o2
    rcases o1 with ⟨c1, o1⟩ | ⟨c1, o1⟩ <;> rcases o2 with ⟨c2, o2⟩ | ⟨c2, o2⟩ <;> first | (exfalso; omega) | (rw [o1, o2]; done) | (rw [o1, o2])
  · have V2 : ¬ ((0 ≤ σ 27 1 ∧ σ 27 1 < σ 0 0) ∧ 0 ≤ σ 27 2 ∧ σ 27 2 < σ 0 1) := V
    clear eV
    rcases o1 with ⟨c1, o1⟩ | ⟨c1, o1⟩ <;> rcases o2 with ⟨c2, o2⟩ | ⟨c2, o2⟩ <;> first | (exfalso; omega) | (rw [o1, o2]; done)
theorem s_narrowed {g : Gl} {n r w : Int} (h : -2147483648 ≤ n ∧ n ≤ 2147483647 ∧ -2147483648 ≤ r ∧ r ≤ 2147483647 ∧ -2147483648 ≤ w ∧ w ≤ 2147483647) : SJ g mX11_narrowed mX12_narrowed [vi n, vi r, vi w] := by
  intro σ I
  refine ⟨_, c_X11_narrowed h I.X I.kX, fun v τ p1 => ?_⟩
  have e27 : ∀ k, k ≤ 27 → τ k = σ k := fun k hk => p1.1 k (by omega)
  obtain ⟨I1, ⟨e0, e1, e6, e7⟩, eV⟩ := sc_pre I p1.1
  refine ⟨_, c_X12_narrowed h I1.M I1.kM, fun u ρ p2 => ⟨?_, I1.fm p2.1⟩⟩
  have o1 := p1.2
  have o2 := p2.2
  clear p1 p2
  by_cases V : VT σ
  · obtain ⟨V1, en, eN⟩ := eV V
    have V2 : ((0 ≤ σ 27 1 ∧ σ 27 1 < σ 0 0) ∧ 0 ≤ σ 27 2 ∧ σ 27 2 < σ 0 1) := V
    have tb := I1.nr V1 n r w
    rw [mX_congr e27, eX_congr e27, nX_congr e27] at tb
    rw [tb] at o2
    rcases o1 with ⟨c1, o1⟩ | ⟨c1, o1⟩ <;> rcases o2 with ⟨c2, o2⟩ | ⟨c2, o2⟩ <;> first | (exfalso; omega) | (rw [o1, o2]; done) | (rw [o1, o2])
  · have V2 : ¬ ((0 ≤ σ 27 1 ∧ σ 27 1 < σ 0 0) ∧ 0 ≤ σ 27 2 ∧ σ 27 2 < σ 0 1) := V
    clear eV
    rcases o1 with ⟨c1, o1⟩ | ⟨c1, o1⟩ <;> rcases o2 with ⟨c2, o2⟩ | ⟨c2, o2⟩ <;> first | (exfalso; omega) | (rw [o1, o2]; done)
theorem s_bracket {g : Gl} {a w : Int} (h : -2147483648 ≤ a ∧ a ≤ 2147483647 ∧ -2147483648 ≤ w ∧ w ≤ 2147483647) : SI g mX11_bracket mX12_bracket [vi a, vi w] := by
  intro σ I
  refine ⟨_, c_X11_bracket h I.X I.kX, fun v τ p1 => ?_⟩
  have e27 : ∀ k, k ≤ 27 → τ k = σ k := fun k hk => p1.1 k (by omega)
  obtain ⟨I1, ⟨e0, e1, e6, e7⟩, eV⟩ := sc_pre I p1.1
  refine ⟨_, c_X12_bracket h I1.M I1.kM, fun u ρ p2 => ⟨?_, I1.fm p2.1⟩⟩
  have o1 := p1.2
  have o2 := p2.2
  clear p1 p2
  by_cases V : VT σ
  · obtain ⟨V1, en, eN⟩ := eV V
    have V2 : ((0 ≤ σ 27 1 ∧ σ 27 1 < σ 0 0) ∧ 0 ≤ σ 27 2 ∧ σ 27 2 < σ 0 1) := V
    have tb := I1.trB V1
    rw [VX_congr e27, ZX_congr e27] at tb
    rw [tb] at o2
    rcases o1 with ⟨c1, o1⟩ | ⟨c1, o1⟩ | ⟨c1, o1⟩
    · rcases o2 with ⟨c2, o2⟩ | ⟨c2, o2⟩ | ⟨c2, o2⟩
      · rw [o1, o2]
      · exfalso; omega
      · exfalso; omega
    · exfalso; omega
    · rcases o2 with ⟨c2, o2⟩ | ⟨c2, o2⟩ | ⟨c2, o2⟩
      · exfalso; omega
      · exfalso; omega
      · rcases o1 with ⟨k1, o1⟩ | ⟨q, k1, o1⟩
        · rcases o2 with ⟨k2, o2⟩ | ⟨q2, k2, o2⟩
          · rw [o1, o2]
          · rw [List.getElem?_eq_none (by omega)] at k2
            cases k2
        · rcases o2 with ⟨k2, o2⟩ | ⟨q2, k2, o2⟩
          · rw [List.getElem?_eq_none (by omega)] at k1
            cases k1
          · rw [k1] at k2
            cases k2
            rw [o1, o2]
  · have V2 : ¬ ((0 ≤ σ 27 1 ∧ σ 27 1 < σ 0 0) ∧ 0 ≤ σ 27 2 ∧ σ 27 2 < σ 0 1) := V
    clear eV
    rcases o1 with ⟨c1, o1⟩ | ⟨c1, o1⟩ | ⟨c1, o1⟩ <;> rcases o2 with ⟨c2, o2⟩ | ⟨c2, o2⟩ | ⟨c2, o2⟩ <;> first | (exfalso; clear o1 o2; omega) | (rw [o1, o2]; done)
theorem s_paper {g : Gl} {a : Int} (h : -2147483648 ≤ a ∧ a ≤ 2147483647) : SI g mX11_paper mX12_paper [vi a] := by
  intro σ I
  refine ⟨_, c_X11_paper h I.X I.kX, fun v τ p1 => ?_⟩
  have e27 : ∀ k, k ≤ 27 → τ k = σ k := fun k hk => p1.1 k (by omega)
  obtain ⟨I1, ⟨e0, e1, e6, e7⟩, eV⟩ := sc_pre I p1.1
  refine ⟨_, c_X12_paper h I1.M I1.kM, fun u ρ p2 => ⟨?_, I1.fm p2.1⟩⟩
  have o1 := p1.2
  have o2 := p2.2
  clear p1 p2
  by_cases V : VT σ
  · obtain ⟨V1, en, eN⟩ := eV V
    have V2 : ((0 ≤ σ 27 1 ∧ σ 27 1 < σ 0 0) ∧ 0 ≤ σ 27 2 ∧ σ 27 2 < σ 0 1) := V
    have tb := I1.trP V1
    rw [FG_congr e27, SL_congr e27, SH_congr e27, loX_congr e27, hiX_congr e27] at tb
    rw [tb] at o2
    rcases o1 with ⟨c1, o1⟩ | ⟨c1, o1⟩ | ⟨c1, o1⟩
    · rcases o2 with ⟨c2, o2⟩ | ⟨c2, o2⟩ | ⟨c2, o2⟩
      · rw [o1, o2]
      · exfalso; omega
      · exfalso; omega
    · exfalso; omega
    · rcases o2 with ⟨c2, o2⟩ | ⟨c2, o2⟩ | ⟨c2, o2⟩
      · exfalso; omega
      · exfalso; omega
      · rcases o1 with ⟨k1, o1⟩ | ⟨k0, q, k1, o1⟩
        · rcases o2 with ⟨k2, o2⟩ | ⟨k3, q2, k2, o2⟩
          · rw [o1, o2]
          · exfalso; omega
        · rcases o2 with ⟨k2, o2⟩ | ⟨k3, q2, k2, o2⟩
          · exfalso; omega
          · rw [k1] at k2
            cases k2
            rw [o1, o2]
  · have V2 : ¬ ((0 ≤ σ 27 1 ∧ σ 27 1 < σ 0 0) ∧ 0 ≤ σ 27 2 ∧ σ 27 2 < σ 0 1) := V
    clear eV
    rcases o1 with ⟨c1, o1⟩ | ⟨c1, o1⟩ | ⟨c1, o1⟩ <;> rcases o2 with ⟨c2, o2⟩ | ⟨c2, o2⟩ | ⟨c2, o2⟩ <;> first | (exfalso; clear o1 o2; omega) | (rw [o1, o2]; done)
theorem s_proves {g : Gl} : SI g mX11_proves mX12_proves [] := by
  intro σ I
  refine ⟨_, c_X11_proves I.X I.kX I.2.1.2.1 (fun i x y => (I.2.1.2.2 i x y).2), fun v τ p1 => ?_⟩
  have e27 : ∀ k, k ≤ 27 → τ k = σ k := fun k hk => p1.1 k (by omega)
  obtain ⟨I1, ⟨e0, e1, e6, e7⟩, eV⟩ := sc_pre I p1.1
  refine ⟨_, c_X12_proves I1.M I1.kM (by rw [I1.2.1.1]; exact I1.2.1.2.1) (fun i x y => by have z := I1.2.1.2.2 i x (by rw [← I1.2.1.1]; exact y); rw [z.1]; exact z.2), fun u ρ p2 => ⟨?_, I1.fm p2.1⟩⟩
  have o1 := p1.2
  have o2 := p2.2
  clear p1 p2
  by_cases V : VT σ
  · obtain ⟨V1, en, eN⟩ := eV V
    have V2 : ((0 ≤ σ 27 1 ∧ σ 27 1 < σ 0 0) ∧ 0 ≤ σ 27 2 ∧ σ 27 2 < σ 0 1) := V
    have tb := I1.trR V1
    rw [AX_congr e27, e27 25 (by decide), e27 26 (by decide)] at tb
    rw [tb] at o2
    rcases o1 with ⟨c1, o1⟩ | ⟨c1, o1⟩ <;> rcases o2 with ⟨c2, o2⟩ | ⟨c2, o2⟩ <;> first | (exfalso; omega) | (rw [o1, o2]; done) | (rw [o1, o2])
  · have V2 : ¬ ((0 ≤ σ 27 1 ∧ σ 27 1 < σ 0 0) ∧ 0 ≤ σ 27 2 ∧ σ 27 2 < σ 0 1) := V
    clear eV
    rcases o1 with ⟨c1, o1⟩ | ⟨c1, o1⟩ <;> rcases o2 with ⟨c2, o2⟩ | ⟨c2, o2⟩ <;> first | (exfalso; omega) | (rw [o1, o2]; done)
theorem s_sure {g : Gl} {a : Int} (h : -2147483648 ≤ a ∧ a ≤ 2147483647) : SI g mX11_sure mX12_sure [vi a] := by
  intro σ I
  refine ⟨_, c_X11_sure h I.X I.kX, fun v τ p1 => ?_⟩
  have e27 : ∀ k, k ≤ 27 → τ k = σ k := fun k hk => p1.1 k (by omega)
  obtain ⟨I1, ⟨e0, e1, e6, e7⟩, eV⟩ := sc_pre I p1.1
  refine ⟨_, c_X12_sure h I1.M I1.kM, fun u ρ p2 => ⟨?_, I1.fm p2.1⟩⟩
  have o1 := p1.2
  have o2 := p2.2
  clear p1 p2
  rw [e7, e1] at o2
  by_cases V : (0 ≤ σ 27 2 ∧ σ 27 2 < σ 0 1)
  · have b1 : 0 ≤ τ 27 2 ∧ τ 27 2 < τ 0 1 := by rw [e27 27 (by decide), e27 0 (by decide)]; exact V
    have eJ : ∀ a, JM τ a = JX σ a := fun a => by rw [I1.J b1, JX_congr e27]
    rcases o1 with ⟨c1, o1⟩ | ⟨c1, o1⟩ | ⟨c1, o1⟩ <;> rcases o2 with ⟨c2, o2⟩ | ⟨c2, o2⟩ | ⟨c2, o2⟩ <;> first | (exfalso; omega) | (rw [o1, o2]; done) | skip
    obtain ⟨f1, z1, w1⟩ := o1
    obtain ⟨f2, z2, w2⟩ := o2
    rw [w1, w2]
    exact trS_congr eJ (JX_b σ) 127 1 f2 f1 (fun i x y => by rw [z1 i x y, z2 i x y]) a (by omega) (by omega)
  · rcases o1 with ⟨c1, o1⟩ | ⟨c1, o1⟩ | ⟨c1, o1⟩ <;> rcases o2 with ⟨c2, o2⟩ | ⟨c2, o2⟩ | ⟨c2, o2⟩ <;> first | (exfalso; omega) | (rw [o1, o2]; done)
theorem s_first {g : Gl} : SI g mX11_first mX12_first [] := by
  intro σ I
  refine ⟨_, c_X11_first I.X I.kX, fun v τ p1 => ?_⟩
  have e27 : ∀ k, k ≤ 27 → τ k = σ k := fun k hk => p1.1 k (by omega)
  obtain ⟨I1, ⟨e0, e1, e6, e7⟩, eV⟩ := sc_pre I p1.1
  refine ⟨_, c_X12_first I1.M I1.kM, fun u ρ p2 => ⟨?_, I1.fm p2.1.M⟩⟩
  have o1 := p1.2
  have o2 := p2.2
  clear p1 p2
  rw [e7, e1] at o2
  by_cases V : (0 ≤ σ 27 2 ∧ σ 27 2 < σ 0 1)
  · have b1 : 0 ≤ τ 27 2 ∧ τ 27 2 < τ 0 1 := by rw [e27 27 (by decide), e27 0 (by decide)]; exact V
    have eJ : ∀ a, JM τ a = JX σ a := fun a => by rw [I1.J b1, JX_congr e27]
    rcases o1 with ⟨c1, o1⟩ | ⟨c1, o1⟩ <;> rcases o2 with ⟨c2, o2⟩ | ⟨c2, o2⟩ <;> first | (exfalso; omega) | (rw [o1, o2]; done) | skip
    rw [o1, o2, show JM τ = JX σ from funext eJ]
  · rcases o1 with ⟨c1, o1⟩ | ⟨c1, o1⟩ <;> rcases o2 with ⟨c2, o2⟩ | ⟨c2, o2⟩ <;> first | (exfalso; omega) | (rw [o1, o2]; done)
theorem s_coef {g : Gl} {p k : Int} (h : -2147483648 ≤ p ∧ p ≤ 2147483647 ∧ -2147483648 ≤ k ∧ k ≤ 2147483647) : SJ g mX11_coef mX12_coef [vi p, vi k] := by
  intro σ I
  refine ⟨_, c_X11_coef h I.X, fun v τ p1 => ?_⟩
  have eτ : τ = σ := by rcases p1 with ⟨_, _, e⟩ | ⟨_, _, e⟩ <;> exact e
  subst eτ
  refine ⟨_, c_X12_coef h I.M, fun u ρ p2 => ?_⟩
  have eρ : ρ = τ := by rcases p2 with ⟨_, _, e⟩ | ⟨_, _, e⟩ <;> exact e
  subst eρ
  refine ⟨?_, I⟩
  have e0 := I.e.1
  by_cases c : 0 ≤ p ∧ p < ρ 0 0
  · have w := (I.1.2.2.2.1 p c.1 c.2).1
    by_cases d : 0 ≤ k ∧ k < ρ 1 p
    · have z := I.1.2.2.2.2.1 p k c.1 c.2 d.1 d.2
      rcases p1 with ⟨c1, o1, _⟩ | ⟨c1, o1, _⟩ <;> rcases p2 with ⟨c2, o2, _⟩ | ⟨c2, o2, _⟩ <;> first | (exfalso; omega) | (rw [o1, o2, z]; done)
    · rcases p1 with ⟨c1, o1, _⟩ | ⟨c1, o1, _⟩ <;> rcases p2 with ⟨c2, o2, _⟩ | ⟨c2, o2, _⟩ <;> first | (exfalso; omega) | (rw [o1, o2]; done)
  · rcases p1 with ⟨c1, o1, _⟩ | ⟨c1, o1, _⟩ <;> rcases p2 with ⟨c2, o2, _⟩ | ⟨c2, o2, _⟩ <;> first | (exfalso; omega) | (rw [o1, o2]; done)
theorem s_box {g : Gl} {b w : Int} (h : -2147483648 ≤ b ∧ b ≤ 2147483647 ∧ -2147483648 ≤ w ∧ w ≤ 2147483647) : SJ g mX11_box mX12_box [vi b, vi w] := by
  intro σ I
  refine ⟨_, c_X11_box h I.X, fun v τ p1 => ?_⟩
  have eτ : τ = σ := by rcases p1 with ⟨_, _, e⟩ | ⟨_, _, e⟩ | ⟨_, _, e⟩ <;> exact e
  subst eτ
  refine ⟨_, c_X12_box h I.M, fun u ρ p2 => ?_⟩
  have eρ : ρ = τ := by rcases p2 with ⟨_, _, e⟩ | ⟨_, _, e⟩ | ⟨_, _, e⟩ <;> exact e
  subst eρ
  refine ⟨?_, I⟩
  have e1 := I.e.2.1
  by_cases c : 0 ≤ b ∧ b < ρ 0 1
  · have z := I.1.2.2.2.2.2 b c.1 c.2
    rcases p1 with ⟨c1, o1, _⟩ | ⟨c1, o1, _⟩ | ⟨c1, o1, _⟩ <;> rcases p2 with ⟨c2, o2, _⟩ | ⟨c2, o2, _⟩ | ⟨c2, o2, _⟩ <;> first | (exfalso; omega) | (rw [o1, o2]; done) | (rw [o1, o2, z.1]; done) | (rw [o1, o2, z.2]; done)
  · rcases p1 with ⟨c1, o1, _⟩ | ⟨c1, o1, _⟩ | ⟨c1, o1, _⟩ <;> rcases p2 with ⟨c2, o2, _⟩ | ⟨c2, o2, _⟩ | ⟨c2, o2, _⟩ <;> first | (exfalso; omega) | (rw [o1, o2]; done)
theorem s_wish {g : Gl} {p : Int} (h : -2147483648 ≤ p ∧ p ≤ 2147483647) : SJ g mX11_wish mX12_wish [vi p] := by
  intro σ I
  refine ⟨_, c_X11_wish h I.X, fun v τ p1 => ?_⟩
  have eτ : τ = σ := by rcases p1 with ⟨_, _, e⟩ | ⟨_, _, e⟩ <;> exact e
  subst eτ
  refine ⟨_, c_X12_wish h I.M, fun u ρ p2 => ?_⟩
  have eρ : ρ = τ := by rcases p2 with ⟨_, _, e⟩ | ⟨_, _, e⟩ <;> exact e
  subst eρ
  refine ⟨?_, I⟩
  have e0 := I.e.1
  by_cases c : 0 ≤ p ∧ p < ρ 0 0
  · have z := (I.1.2.2.2.1 p c.1 c.2).2
    rcases p1 with ⟨c1, o1, _⟩ | ⟨c1, o1, _⟩ <;> rcases p2 with ⟨c2, o2, _⟩ | ⟨c2, o2, _⟩ <;> first | (exfalso; omega) | (rw [o1, o2]; done) | (rw [o1, o2, z]; done)
  · rcases p1 with ⟨c1, o1, _⟩ | ⟨c1, o1, _⟩ <;> rcases p2 with ⟨c2, o2, _⟩ | ⟨c2, o2, _⟩ <;> first | (exfalso; omega) | (rw [o1, o2]; done)
theorem s_count {g : Gl} {a : Int} (h : -2147483648 ≤ a ∧ a ≤ 2147483647) : SI g mX11_count mX12_count [vi a] := by
  intro σ I
  refine ⟨_, c_X11_count h I.X I.kX, fun v τ p1 => ?_⟩
  obtain ⟨rfl, o1⟩ := p1
  refine ⟨_, c_X12_count h I.M I.kM, fun u ρ p2 => ?_⟩
  obtain ⟨rfl, o2⟩ := p2
  refine ⟨?_, I⟩
  obtain ⟨e0, e1, e6, e7⟩ := I.e
  have k1 := I.kX
  have f1 := I.2.1.1
  have f2 := I.2.2.2.1.1
  have f3 := I.2.2.2.2.1.1
  by_cases c : ρ 27 1 < ρ 0 0
  · have z := (I.1.2.2.2.1 (ρ 27 1) k1.1.1 c).1
    rw [← e6] at z
    rw [e6] at z o2
    omega
  · omega
theorem s_unseen {g : Gl} : SI g mX11_unseen mX12_unseen [] := by
  intro σ I
  refine ⟨_, c_X11_unseen I.X ⟨I.2.2.2.1.2.1, fun k x y => (I.2.2.2.1.2.2 k x y).2.2⟩, fun v τ p1 => ?_⟩
  obtain ⟨o1, rfl⟩ := p1
  refine ⟨_, c_X12_unseen I.M (by rw [I.2.2.2.1.1]; exact I.2.2.2.1.2.1) (fun k x y => by have z := I.2.2.2.1.2.2 k x (by rw [← I.2.2.2.1.1]; exact y); rw [z.1, z.2.1]; exact z.2.2), fun u ρ p2 => ?_⟩
  obtain ⟨o2, rfl⟩ := p2
  refine ⟨?_, I⟩
  rw [o1, o2]
  exact I.un
