/-! the start, and the claim -/
theorem iw0 : Cond.instantiable RX0 4 ∈ tblG := tblG_at 240 (by decide +kernel) (by decide +kernel)
theorem iw1 : Cond.instantiable RX1 2 ∈ tblG := tblG_at 137 (by decide +kernel) (by decide +kernel)
theorem iw2 : Cond.instantiable RX2 3 ∈ tblG := tblG_at 224 (by decide +kernel) (by decide +kernel)
theorem iw3 : Cond.instantiable RX3 3 ∈ tblG := tblG_at 208 (by decide +kernel) (by decide +kernel)
theorem iw4 : Cond.instantiable RX4 3 ∈ tblG := tblG_at 191 (by decide +kernel) (by decide +kernel)
theorem iw5 : Cond.instantiable RX5 1 ∈ tblG := tblG_at 259 (by decide +kernel) (by decide +kernel)
theorem iw6 : Cond.instantiable RX6 3 ∈ tblG := tblG_at 151 (by decide +kernel) (by decide +kernel)
theorem iw7 : Cond.instantiable RX7 3 ∈ tblG := tblG_at 121 (by decide +kernel) (by decide +kernel)
theorem iw8 : Cond.instantiable RX8 2 ∈ tblG := tblG_at 79 (by decide +kernel) (by decide +kernel)
theorem iw9 : Cond.instantiable RX9 5 ∈ tblG := tblG_at 167 (by decide +kernel) (by decide +kernel)
theorem iw10 : Cond.instantiable RX10 7 ∈ tblG := tblG_at 93 (by decide +kernel) (by decide +kernel)
theorem iw11 : Cond.instantiable RX11 13 ∈ tblG := tblG_at 71 (by decide +kernel) (by decide +kernel)
theorem iw12 : Cond.instantiable RX12 34 ∈ tblG := tblG_at 938 (by decide +kernel) (by decide +kernel)
theorem nst_in : ∀ q ∈ nstL, Cond.methodLinkNest q.1 q.2.1 q.2.2.1 q.2.2.2 ∈ lw_tbl := by
  intro q hq
  have h1 : nstL.map (fun q => Cond.methodLinkNest q.1 q.2.1 q.2.2.1 q.2.2.2) = ([80, 94, 138, 152, 168, 173, 192, 209, 225, 241, 260, 371, 386, 598, 662, 702, 746, 780, 860, 865, 916] : List Nat).filterMap (fun i => lw_tbl[i]?) := by decide +kernel
  have h2 := List.mem_map_of_mem (f := fun q : String × Nat × MethodName × String => Cond.methodLinkNest q.1 q.2.1 q.2.2.1 q.2.2.2) hq
  rw [h1] at h2
  obtain ⟨i, -, hi⟩ := List.mem_filterMap.mp h2
  exact List.mem_of_getElem? hi
theorem ways_in : ∀ j : Fin 64, Cond.eq (.elem (.static "ControlSigns" "WAYS" "[I") (.int (Int32.ofNat j.1))) (.int (kI (waysL.getD j.1 0))) ∈ flatC (Jvm.Cond.and given_1 narrow_1) := by decide +kernel
theorem Inv0 {σ : Sg} (h : BcM (fun _ _ => 0) σ) : Inv σ := by
  obtain ⟨b1, b2, b3, b4, b5, b6, b7, b8⟩ := h
  have e : ∀ k, (k ≠ 48 ∧ k ≠ 49 ∧ k ≠ 52) → σ k = fun _ => 0 := fun k z => b1 k z.1 z.2.1 z.2.2
  have z0 : ∀ {P : Prop} {p : Int}, 0 ≤ p → p < 0 → P := fun a b => absurd b (by omega)
  have n0 : σ 49 0 = 0 := b2 0 (by decide) (by decide)
  have n1 : σ 49 1 = 0 := b2 1 (by decide) (by decide)
  unfold Inv
  rw [e 0 (by decide), e 1 (by decide), e 2 (by decide), e 3 (by decide), e 4 (by decide), e 5 (by decide), e 25 (by decide), e 26 (by decide), e 56 (by decide), e 27 (by decide), e 31 (by decide), e 32 (by decide), e 33 (by decide), e 54 (by decide), e 55 (by decide), e 28 (by decide), e 29 (by decide), e 53 (by decide), e 24 (by decide), e 6 (by decide), e 7 (by decide), e 8 (by decide), e 9 (by decide), e 10 (by decide), e 11 (by decide), e 12 (by decide), e 13 (by decide), e 14 (by decide), e 15 (by decide), e 16 (by decide), e 17 (by decide), e 51 (by decide), e 34 (by decide), b4 12 (by decide) (by decide) (by decide) (by decide), b5, b6, b7, b8]
  refine ⟨⟨⟨by decide, by decide, fun p a b => z0 a b, fun p k a b => z0 a b, fun p a b => z0 a b, fun p a b => z0 a b⟩, n0, n1, fun p a b => z0 a b, fun p k a b => z0 a b, fun p a b => z0 a b⟩, ⟨rfl, by decide, fun p a b => z0 a b⟩, ⟨rfl, rfl, by decide, by decide, by decide⟩, ⟨rfl, by decide, fun p a b => z0 a b⟩, ⟨rfl, by decide, fun p a b => z0 a b⟩, ⟨by decide, b3.1, b3.2, fun z => absurd rfl z, fun z => absurd rfl z⟩, Or.inl rfl, by decide, by decide⟩
def fs12 : List Value := [.null, .null, .null, .null, .null, .int 0, .int 0, .int 0, .null, .null, .int 0, .null, .int 0, .null, .null, .null, .int 0, .int 0, .int 0, .null, .int 0, .long 0, .null, .null, .int 0, .null, .null, .int 0, .null, .int 0, .int 0, .null, .int 0, .null]
theorem df11 : ∀ j, j < 13 → defaultValue (tyX11 j) = vp_V [.null, .null, .null, .null, .null, .int 0, .null, .null, .null, .null, .null, .null, .null] j := fun j hj => by rcases (show j = 0 ∨ j = 1 ∨ j = 2 ∨ j = 3 ∨ j = 4 ∨ j = 5 ∨ j = 6 ∨ j = 7 ∨ j = 8 ∨ j = 9 ∨ j = 10 ∨ j = 11 ∨ j = 12 by omega) with rfl | rfl | rfl | rfl | rfl | rfl | rfl | rfl | rfl | rfl | rfl | rfl | rfl <;> rfl
theorem df12 : ∀ j, j < 34 → defaultValue (tyX12 j) = vp_V fs12 j := fun j hj => by rcases (show j = 0 ∨ j = 1 ∨ j = 2 ∨ j = 3 ∨ j = 4 ∨ j = 5 ∨ j = 6 ∨ j = 7 ∨ j = 8 ∨ j = 9 ∨ j = 10 ∨ j = 11 ∨ j = 12 ∨ j = 13 ∨ j = 14 ∨ j = 15 ∨ j = 16 ∨ j = 17 ∨ j = 18 ∨ j = 19 ∨ j = 20 ∨ j = 21 ∨ j = 22 ∨ j = 23 ∨ j = 24 ∨ j = 25 ∨ j = 26 ∨ j = 27 ∨ j = 28 ∨ j = 29 ∨ j = 30 ∨ j = 31 ∨ j = 32 ∨ j = 33 by omega) with rfl | rfl | rfl | rfl | rfl | rfl | rfl | rfl | rfl | rfl | rfl | rfl | rfl | rfl | rfl | rfl | rfl | rfl | rfl | rfl | rfl | rfl | rfl | rfl | rfl | rfl | rfl | rfl | rfl | rfl | rfl | rfl | rfl | rfl <;> rfl
theorem k12 {g : Gl} {h : Nat} {wx : va_W} {ad0 pos0 : Nat → Nat} (hX : P48 g wx ad0 pos0) : Kt g mX12_init [Value.ref h] ((h, .inr (12, fs12)) :: wx) (fun w => ∃ (ad : Nat → Nat) (σ : Sg), w = wsO (gA g ad) σ ∧ BcM (fun _ _ => 0) σ ∧ (∀ k, k < 48 → ad k = ad0 k) ∧ ad 48 = h) 19 1639 := k_X12_init hX
theorem law_s3 {g : Gl} (hL : g.2.2.2.2.1.2.1 ≤ 2560) {ad : Nat → Nat} {σ : Sg} (hB : BcM (fun _ _ => 0) σ) : jn g mL_law (fun s q => s.heap.size ≤ q) (FLw g).2.2.2 (wsO (gA g ad) σ) 68 2502 [(1, Value.ref (ad 24)), (0, Value.ref g.2.2.2.2.1.1)] 15 [Value.ref (ad 48)] := by
  refine n_astore eL_law_15 (Nat.le_of_ble_eq_true rfl) ?_
  refine n_iconst 0 eL_law_16 ?_
  refine n_istore eL_law_17 (Nat.le_of_ble_eq_true rfl) ?_
  refine jn_lv ?_ (n_law (law_loop (g := gA g ad) hL (g.2.2.2.2.1.2.1 + 1) 0 σ (by show (g.2.2.2.2.1.2.1 : Int) - 0 < ((g.2.2.2.2.1.2.1 + 1 : Nat) : Int); omega) (by show (0 : Int) ≤ 0 ∧ (0 : Int) ≤ (g.2.2.2.2.1.2.1 : Int); omega) (Inv0 hB)))
  exact lvC rfl (lvC rfl (lvC rfl (lvC rfl (lv0))))
theorem law_s2 {g : Gl} (hL : g.2.2.2.2.1.2.1 ≤ 2560) {w1 : va_W} {ad0 pos0 : Nat → Nat} (hX : P48 g w1 ad0 pos0) : jn g mL_law (fun s q => s.heap.size ≤ q) (FLw g).2.2.2 w1 48 829 [(1, Value.ref (ad0 24)), (0, Value.ref g.2.2.2.2.1.1)] 8 [] := by
  refine n_new (ci := 12) (fs := fs12) tyX12 nwL_10 uw12 tyX12_ok rfl df12 (Nat.le_of_ble_eq_true rfl) (Nat.le_of_ble_eq_true rfl) eL_law_8 (fun q2 => ?_)
  refine n_dup eL_law_11 ?_
  refine n_callI (av := []) zX12_init lkL_12 ⟨Nat.le_of_ble_eq_true rfl, Nat.le_of_ble_eq_true rfl⟩ (k12 hX) (Nat.le_of_ble_eq_true rfl) (Nat.le_of_ble_eq_true rfl) (Nat.le_of_ble_eq_true rfl) eL_law_12 ?_
  intro w hw
  obtain ⟨ad, σ, ew, hB, h48, e48⟩ := hw
  have e24 : ad 24 = ad0 24 := h48 24 (by decide)
  rw [ew, ← e24, ← e48]
  exact law_s3 hL hB
theorem law_start {g : Gl} (hL : g.2.2.2.2.1.2.1 ≤ 2560) : jn g mL_law (fun s q => s.heap.size ≤ q) (FLw g).2.2.2 [] 0 0 [(0, Value.ref g.2.2.2.2.1.1)] 0 [] := by
  refine n_new (ci := 11) (fs := [.null, .null, .null, .null, .null, .int 0, .null, .null, .null, .null, .null, .null, .null]) tyX11 nwL_7 uw11 tyX11_ok rfl df11 (Nat.le_of_ble_eq_true rfl) (Nat.le_of_ble_eq_true rfl) eL_law_0 (fun q => ?_)
  refine n_dup eL_law_3 ?_
  refine n_callI (av := []) zX11_init lkL_9 ⟨Nat.le_of_ble_eq_true rfl, Nat.le_of_ble_eq_true rfl⟩ k_X11_init (Nat.le_of_ble_eq_true rfl) (Nat.le_of_ble_eq_true rfl) (Nat.le_of_ble_eq_true rfl) eL_law_4 ?_
  rintro w1 ⟨ad0, pos0, e24, hX⟩
  refine n_astore eL_law_7 (Nat.le_of_ble_eq_true rfl) ?_
  rw [← e24]
  exact law_s2 hL hX
set_option maxHeartbeats 4000000 in
theorem whole_start {p : Program} {e : Env} {s : State} {m : MethodId} {below : List Frame} {meth : Method} {c : Code} (l : Launch) (hflags : l.flags = flags0) {b L : Nat} {xs : Nat → Int32} (hL : L ≤ 2560) (C0 : lw_At p s m meth c b L xs) : W p l e room_1 s m #[Value.ref b] below meth c s.heap [] 0 0 (lw_Z below #[Value.ref b] s) (entryFrame m ([Value.ref b] : List Value).toArray 4) := by
  obtain ⟨hx, hb, hr, hml, hown, hts, hX, hbl, hlocks, hgv⟩ := C0
  have hG : ∀ w ∈ tblG, w.before #[Value.ref b] s = true := fun w hw => hts w (tblG_lw hw)
  obtain ⟨c0, i0, k0⟩ := u_known (C := RX0) (T := TX0) (N := 4) (n := 4) hG uw0 (hG _ iw0)
  obtain ⟨c1, i1, k1⟩ := u_known (C := RX1) (T := TX1) (N := 2) (n := 2) hG uw1 (hG _ iw1)
  obtain ⟨c2, i2, k2⟩ := u_known (C := RX2) (T := TX2) (N := 3) (n := 3) hG uw2 (hG _ iw2)
  obtain ⟨c3, i3, k3⟩ := u_known (C := RX3) (T := TX3) (N := 3) (n := 3) hG uw3 (hG _ iw3)
  obtain ⟨c4, i4, k4⟩ := u_known (C := RX4) (T := TX4) (N := 3) (n := 3) hG uw4 (hG _ iw4)
  obtain ⟨c5, i5, k5⟩ := u_known (C := RX5) (T := TX5) (N := 1) (n := 1) hG uw5 (hG _ iw5)
  obtain ⟨c6, i6, k6⟩ := u_known (C := RX6) (T := TX6) (N := 3) (n := 3) hG uw6 (hG _ iw6)
  obtain ⟨c7, i7, k7⟩ := u_known (C := RX7) (T := TX7) (N := 3) (n := 3) hG uw7 (hG _ iw7)
  obtain ⟨c8, i8, k8⟩ := u_known (C := RX8) (T := TX8) (N := 2) (n := 2) hG uw8 (hG _ iw8)
  obtain ⟨c9, i9, k9⟩ := u_known (C := RX9) (T := TX9) (N := 5) (n := 5) hG uw9 (hG _ iw9)
  obtain ⟨c10, i10, k10⟩ := u_known (C := RX10) (T := TX10) (N := 7) (n := 7) hG uw10 (hG _ iw10)
  obtain ⟨c11, i11, k11⟩ := u_known (C := RX11) (T := TX11) (N := 13) (n := 13) hG uw11 (hG _ iw11)
  obtain ⟨c12, i12, k12⟩ := u_known (C := RX12) (T := TX12) (N := 34) (n := 34) hG uw12 (hG _ iw12)
  obtain ⟨dC, dI, hKc⟩ : ∃ (dC : Nat → ClassId) (dI : Nat → Nat → Nat), ∀ (k : Nat) (q : vw_C), vwCl[k]? = some q → u_Kn s q.1 q.2.1 q.2.2 (dC k) (dI k) := by
    refine ⟨fun k => if k = 0 then c0 else if k = 1 then c1 else if k = 2 then c2 else if k = 3 then c3 else if k = 4 then c4 else if k = 5 then c5 else if k = 6 then c6 else if k = 7 then c7 else if k = 8 then c8 else if k = 9 then c9 else if k = 10 then c10 else if k = 11 then c11 else c12, fun k => if k = 0 then i0 else if k = 1 then i1 else if k = 2 then i2 else if k = 3 then i3 else if k = 4 then i4 else if k = 5 then i5 else if k = 6 then i6 else if k = 7 then i7 else if k = 8 then i8 else if k = 9 then i9 else if k = 10 then i10 else if k = 11 then i11 else i12, ?_⟩
    intro k q hq
    match k, hq with
    | 0, hq => cases hq; exact k0
    | 1, hq => cases hq; exact k1
    | 2, hq => cases hq; exact k2
    | 3, hq => cases hq; exact k3
    | 4, hq => cases hq; exact k4
    | 5, hq => cases hq; exact k5
    | 6, hq => cases hq; exact k6
    | 7, hq => cases hq; exact k7
    | 8, hq => cases hq; exact k8
    | 9, hq => cases hq; exact k9
    | 10, hq => cases hq; exact k10
    | 11, hq => cases hq; exact k11
    | 12, hq => cases hq; exact k12
    | k + 13, hq => simp [vwCl] at hq
  obtain ⟨aI, kAI, pI, fI1, fI2, fI3⟩ := Cond.arrayClass_spec (hG _ waI)
  obtain ⟨aL, kAL, pL, fL1, fL2, fL3⟩ := Cond.arrayClass_spec (hG _ waL)
  obtain ⟨aZ, kAZ, pZ, fZ1, fZ2, fZ3⟩ := Cond.arrayClass_spec (hG _ waZ)
  have hov : (Cond.arrayOver (.object "ControlSigns$Told")).before #[Value.ref b] s = true := hts _ (List.mem_of_getElem? (i := 149) (by decide +kernel))
  obtain ⟨pT, aT, kAT, fT1, fT2, fT3, fT4, fT5⟩ := Cond.arrayOver_spec hov
  have hs := flat_of_before _ hgv
  have hA : ∀ a : Nat, a < s.heap.size → ¬ s.heap.size ≤ a := fun a h => Nat.not_le.mpr h
  obtain ⟨aW, hW1, hW2⟩ := va_Tof (tm := .static "ControlSigns" "WAYS" "[I") (ty := .int) (N := 64) (f := fun j => .int (kI (waysL.getD j 0))) (A := fun q => s.heap.size ≤ q) (by decide) (hs _ (by decide +kernel)) (va_eqt (z := Int32.ofNat 64) (hs _ (by decide +kernel))) (fun j hj => va_eqt (hs _ (ways_in ⟨j, hj⟩))) hA
  have hZ := va_Zref (A := fun q => s.heap.size ≤ q) (hts (.laysStatic "ControlSigns" "WAYS" "[I") (List.mem_of_getElem? (i := 631) (by decide +kernel))) (hG _ nwL_7.2.2) hW1 hA
  have hN : Nst s := ⟨fun q hq => va_Nw.of rfl (hts _ (nst_in q hq)), va_Nw.of rfl (hts _ (List.mem_of_getElem? (i := 630) (by decide +kernel)))⟩
  have hl := lv_entry ([Value.ref b]) (n := 4) (Nat.le_of_ble_eq_true rfl)
  rw [lg_entry_eq]
  have hK : va_K (dC, dI) vwCl [(aI, .int), (aL, .long), (aZ, .boolean), (aT, .object "ControlSigns$Told")] s := by
    refine ⟨hKc, fun k q hq => ?_⟩
    match k, hq with
    | 0, hq => cases hq; exact ⟨fun n z => ⟨fun k h => (by cases h), kAI, fI2, pI, fI3⟩, fI1⟩
    | 1, hq => cases hq; exact ⟨fun n z => ⟨fun k h => (by cases h), kAL, fL2, pL, fL3⟩, fL1⟩
    | 2, hq => cases hq; exact ⟨fun n z => ⟨fun k h => (by cases h), kAZ, fZ2, pZ, fZ3⟩, fZ1⟩
    | 3, hq => cases hq; exact ⟨fun n z => ⟨fun k h => (by cases h), kAT, fT3, pT, fT4⟩, kAT, pT, fT3, fT4, fT1, fT5⟩
    | k + 4, hq => cases hq
  have w := law_start (g := (l, (dC, dI), fun _ => 0, fun t => if t = 0 then aI else if t = 1 then aL else if t = 2 then aZ else aT, (b, L, xs), aW)) hL p e s m #[Value.ref b] below meth c s.heap [] _ ⟨hx, hb, hml, hr, hown, hG, hlocks, hK, ⟨hZ, hW2, hX, hbl, Nat.not_le.mpr hbl, hN⟩, va_AO.of hov, fun z => absurd z (by decide), fun q h => h⟩ (fun k q h => by simp at h) ⟨fun i j p q h => by simp at h, fun k q h => by simp at h⟩ va_S.rf hl
  intro T hT X
  obtain ⟨t, a1, b1⟩ := w T hT X
  exact ⟨t, a1, b1 rfl⟩
