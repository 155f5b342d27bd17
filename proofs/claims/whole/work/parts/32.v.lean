theorem trB_0 {V : Int → Int} {Z : Int → Bool} (t : Nat) (L : List (Int × Int)) : trB V Z t 0 L = L := by
  cases t with
  | zero => rfl
  | succ t => exact if_pos rfl
theorem x_X12_brings {g : Gl} {S : Sg} {Q : Sg → Prop} (h : RL1 S 48 62 24 []) (q : Q S) : jv g mX12_brings (Fm g (PV Q)) S [(0, vr g 48)] 15 [] := by
  have e : S 48 24 = 0 := h.1
  refine j_aload_n eX12_brings_15 rfl ?_
  refine j_getI flX12_193 ly48 rfl eX12_brings_16 ?_
  refine j_if_le eX12_brings_19 (by omega) (fun h19 => ?_) (fun h19 => absurd (by omega) h19)
  exact r_vret rfl eX12_brings_154 q
theorem n_X12_brings {g : Gl} {σ τ : Sg} {F : Ex} (hM : TM σ) (vt : VTm σ) {m : Int} {P : List Int} {L : List (Int × Int)} (hm : 1 ≤ m ∧ m ≤ 63) (hl : L.length ≤ 190) (hf : frM σ τ) (hp : RL1 τ 48 62 24 (P ++ [-m])) (hP : P.length ≤ 20) (hr : RB τ 48 63 64 27 L) (kk : ∀ S, frM σ S → RL1 S 48 62 24 P → RB S 48 63 64 27 (L ++ (if sgn (NMp σ (σ 48 6) (2 * m + 1) (0 : Int).toNat 0) = 0 then [(m, 1)] else [])) → jv g mX12_brings F S [(0, vr g 48)] 15 []) : jv g mX12_brings F τ [(0, vr g 48)] 15 [] := by
  have p0 := hp.pop.2.2.2
  refine j_aload_n eX12_brings_15 rfl ?_
  refine j_getI flX12_193 ly48 rfl eX12_brings_16 ?_
  refine j_if_le eX12_brings_19 (by omega) (fun h19 => absurd h19 (by omega)) (fun h19 => ?_)
  refine j_aload_n eX12_brings_22 rfl ?_
  refine j_dup rfl eX12_brings_23 ?_
  refine j_getI flX12_193 ly48 rfl eX12_brings_24 ?_
  refine j_iconst 1 eX12_brings_27 ?_
  refine j_isub eX12_brings_28 ?_
  refine j_putI fpX12_193 ly48 rfl eX12_brings_29 ?_
  obtain ⟨p1, p2, p3, p4⟩ := hp.pop
  generalize hτ1 : up τ 48 24 (τ 48 24 - 1) = τ1 at *
  have f1 : frM σ τ1 := hτ1 ▸ hf.U (by decide)
  have b1 : RB τ1 48 63 64 27 L := hτ1 ▸ hr.of rfl rfl rfl
  have M1 := f1.TM hM
  have V1 := f1.VT vt
  refine j_aload_n eX12_brings_32 rfl ?_
  refine j_getR flX12_51 ly48 rfl eX12_brings_33 ?_
  refine j_aload_n eX12_brings_36 rfl ?_
  refine j_getI flX12_193 ly48 rfl eX12_brings_37 ?_
  refine j_iald ly62 (by omega) eX12_brings_40 ?_
  rw [p2]
  refine j_istore_n eX12_brings_41 (Nat.le_of_ble_eq_true rfl) ?_
  refine j_iload_n eX12_brings_42 rfl ?_
  refine j_if_ge eX12_brings_43 (by omega) (fun h43 => absurd h43 (by omega)) (fun h43 => ?_)
  refine j_iconst 0 eX12_brings_46 ?_
  refine j_goto eX12_brings_47 ?_
  refine j_istore_n eX12_brings_56 (Nat.le_of_ble_eq_true rfl) ?_
  refine j_iload_n eX12_brings_57 rfl ?_
  refine j_if_ge eX12_brings_58 (by omega) (fun h58 => absurd h58 (by omega)) (fun h58 => ?_)
  refine j_aload_n eX12_brings_61 rfl ?_
  refine j_aload_n eX12_brings_62 rfl ?_
  refine j_getI flX12_79 ly48 rfl eX12_brings_63 ?_
  refine j_iconst 1 eX12_brings_66 ?_
  refine j_iconst 2 eX12_brings_67 ?_
  refine j_iload_n eX12_brings_68 rfl ?_
  refine j_imul eX12_brings_69 ?_
  refine j_isub eX12_brings_70 ?_
  refine j_iconst 0 eX12_brings_71 ?_
  refine j_cV3 zX12_lays lkX12_178 ⟨Nat.le_of_ble_eq_true rfl, Nat.le_of_ble_eq_true rfl⟩ ly48 rfl rfl (c_X12_lays (by exact M1) (by exact V1.1) (by omega) (by exact V1.2) (by omega)) (Nat.le_of_ble_eq_true rfl) eX12_brings_72 (k_V (fun σ72 h72 => ?_))
  have sr := h72.S M1 V1.1 V1.2 (by omega) (by omega) 0 (by omega) (by have := (M1.2.2.1 _ V1.1.1 V1.1.2).1; omega)
  have fr := f1.L h72.fr
  have r1 := p1.L h72.fr
  have rb := b1.L h72.fr
  have g4 := rb.1
  rw [f1.N, f1.2 6 (by decide), show 1 - 2 * -m = 2 * m + 1 from by omega] at sr
  refine j_aload_n eX12_brings_75 rfl ?_
  refine j_getR flX12_44 ly48 rfl eX12_brings_76 ?_
  refine j_iconst 0 eX12_brings_79 ?_
  refine j_lald ly60 (by omega) eX12_brings_80 ?_
  refine j_lconst0 eX12_brings_81 ?_
  refine j_lc_ne eX12_brings_82 eX12_brings_83 (by omega) (fun h82 => ?_) (fun h82 => ?_)
  · refine j_goto eX12_brings_151 ?_
    first
    | (have zz : sgn (σ72 60 0) = 0 := sg_is (by omega)
       rw [show - -m = m from by omega]
       refine jv_lv ?_ (kk _ (((fr.C (by decide)).C (by decide)).U (by decide)) (r1.of rfl rfl) ?_)
       · exact lvC rfl (lv0)
       · rw [if_pos (by rw [← sr.1]; exact zz)]
         exact rb.fin)
    | (refine jv_lv ?_ (kk _ fr r1 ?_)
       · exact lvC rfl (lv0)
       · rw [if_neg (by rw [← sr.1]; unfold sgn; split <;> (try split) <;> omega), List.append_nil]
         exact rb)
  · refine j_aload_n eX12_brings_86 rfl ?_
    refine j_iload_n eX12_brings_87 rfl ?_
    refine j_ineg eX12_brings_88 ?_
    refine j_iconst 1 eX12_brings_89 ?_
    refine j_cV2 zX12_finds lkX12_203 ⟨Nat.le_of_ble_eq_true rfl, Nat.le_of_ble_eq_true rfl⟩ ly48 rfl rfl (c_X12_finds (by omega)) (Nat.le_of_ble_eq_true rfl) eX12_brings_90 (k_VE ?_)
    refine j_goto eX12_brings_93 ?_
    refine j_goto eX12_brings_151 ?_
    first
    | (have zz : sgn (σ72 60 0) = 0 := sg_is (by omega)
       rw [show - -m = m from by omega]
       refine jv_lv ?_ (kk _ (((fr.C (by decide)).C (by decide)).U (by decide)) (r1.of rfl rfl) ?_)
       · exact lvC rfl (lv0)
       · rw [if_pos (by rw [← sr.1]; exact zz)]
         exact rb.fin)
    | (refine jv_lv ?_ (kk _ fr r1 ?_)
       · exact lvC rfl (lv0)
       · rw [if_neg (by rw [← sr.1]; unfold sgn; split <;> (try split) <;> omega), List.append_nil]
         exact rb)
theorem f_X12_brings {g : Gl} {σ S : Sg} (hM : TM σ) (vt : VTm σ) {t : Nat} {a : Int} {L : List (Int × Int)} (na : 1 ≤ a ∧ a ≤ 127) (hk : rk a ≤ t + 1) (hl : (L.length : Int) ≤ 2 * ps a + 1) (fr : frM σ S) (r1 : RL1 S 48 62 24 (PB_ a)) (rb : RB S 48 63 64 27 L) (ih : ∀ (a : Int) (L : List (Int × Int)) (τ : Sg), rk a ≤ t → 1 ≤ a ∧ a ≤ 127 → (L.length : Int) ≤ 2 * ps a → frM σ τ → RL1 τ 48 62 24 (PB_ a ++ [a]) → RB τ 48 63 64 27 L → jv g mX12_brings (Fm g (PV (fun σ' => frM σ σ' ∧ RB σ' 48 63 64 27 (trB (VMd σ) (ZMd σ) t a L) ∧ ((trB (VMd σ) (ZMd σ) t a L)).length ≤ 127))) τ [(0, vr g 48)] 15 []) : jv g mX12_brings (Fm g (PV (fun σ' => frM σ σ' ∧ RB σ' 48 63 64 27 (trB (VMd σ) (ZMd σ) t (bhd a) (L ++ (if bhd a ≠ 0 ∧ ZMd σ a = true then [(Int.tdiv (bhd a) 2, 1)] else []))) ∧ ((trB (VMd σ) (ZMd σ) t (bhd a) (L ++ (if bhd a ≠ 0 ∧ ZMd σ a = true then [(Int.tdiv (bhd a) 2, 1)] else [])))).length ≤ 127))) S [(0, vr g 48)] 15 [] := by
  have w := rk_of na
  have ww := ps_of na
  have pb := PB_of na
  by_cases z : bhd a = 0
  · rw [pb.1 z] at r1
    rw [if_neg (fun x => x.1 z), List.append_nil, z, trB_0]
    exact x_X12_brings r1 ⟨fr, rb, by omega⟩
  · have w2 := w.2.2.2.2 z
    have w3 := ww.2.2.2.1 z
    have nc : 1 ≤ bhd a ∧ bhd a ≤ 127 := by omega
    have w4 := ps_of nc
    have w5 := PB_of nc
    rw [pb.2.1 z, show [bhd a, -(Int.tdiv (bhd a) 2)] = [bhd a] ++ [-(Int.tdiv (bhd a) 2)] from rfl, ← List.append_assoc] at r1
    have em : Int.tdiv (bhd a) 2 * 2 + 1 = bhd a ∧ 1 ≤ Int.tdiv (bhd a) 2 := by
      rw [Int.tdiv_eq_ediv_of_nonneg (by omega)]
      omega
    refine n_X12_brings hM vt (by omega) (by omega) fr r1 (by rw [List.length_append]; show (PB_ (bhd a)).length + 1 ≤ 20; omega) rb (fun S' f' p' b' => ?_)
    have eZ : (if sgn (NMp σ (σ 48 6) (2 * Int.tdiv (bhd a) 2 + 1) (0 : Int).toNat 0) = 0 then [(Int.tdiv (bhd a) 2, (1 : Int))] else []) = (if bhd a ≠ 0 ∧ ZMd σ a = true then [(Int.tdiv (bhd a) 2, 1)] else []) := by
      have e1 : 2 * Int.tdiv (bhd a) 2 + 1 = bhd a := by omega
      unfold ZMd
      rw [e1]
      by_cases y : sgn (NMp σ (σ 48 6) (bhd a) (0 : Int).toNat 0) = 0
      · rw [if_pos y, if_pos ⟨z, by rw [y]; rfl⟩]
      · rw [if_neg y, if_neg (fun x => y (by have := x.2; simpa using this))]
    rw [eZ] at b'
    refine ih (bhd a) _ S' (by omega) nc ?_ f' p' b'
    rw [List.length_append]
    split
    · show ((L.length + 1 : Nat) : Int) ≤ _
      omega
    · show ((L.length + 0 : Nat) : Int) ≤ _
      omega
theorem l_X12_brings {g : Gl} {σ : Sg} (hM : TM σ) (vt : VTm σ) : ∀ (t : Nat) (a : Int) (L : List (Int × Int)) (τ : Sg), rk a ≤ t → 1 ≤ a ∧ a ≤ 127 → (L.length : Int) ≤ 2 * ps a → frM σ τ → RL1 τ 48 62 24 (PB_ a ++ [a]) → RB τ 48 63 64 27 L → jv g mX12_brings (Fm g (PV (fun σ' => frM σ σ' ∧ RB σ' 48 63 64 27 (trB (VMd σ) (ZMd σ) t a L) ∧ ((trB (VMd σ) (ZMd σ) t a L)).length ≤ 127))) τ [(0, vr g 48)] 15 [] := by
  intro t
  induction t with
  | zero =>
    intro a L τ h1 na
    have w := rk_of na
    exfalso
    omega
  | succ t ih =>
    intro a L τ h1 na h2 hf hp hr
    have w := rk_of na
    have ww := ps_of na
    have pb := PB_of na
    have p0 := hp.pop.2.2.2
    refine j_aload_n eX12_brings_15 rfl ?_
    refine j_getI flX12_193 ly48 rfl eX12_brings_16 ?_
    refine j_if_le eX12_brings_19 (by omega) (fun h19 => absurd h19 (by omega)) (fun h19 => ?_)
    refine j_aload_n eX12_brings_22 rfl ?_
    refine j_dup rfl eX12_brings_23 ?_
    refine j_getI flX12_193 ly48 rfl eX12_brings_24 ?_
    refine j_iconst 1 eX12_brings_27 ?_
    refine j_isub eX12_brings_28 ?_
    refine j_putI fpX12_193 ly48 rfl eX12_brings_29 ?_
    obtain ⟨p1, p2, p3, p4⟩ := hp.pop
    generalize hτ1 : up τ 48 24 (τ 48 24 - 1) = τ1 at *
    have f1 : frM σ τ1 := hτ1 ▸ hf.U (by decide)
    have b1 : RB τ1 48 63 64 27 L := hτ1 ▸ hr.of rfl rfl rfl
    have M1 := f1.TM hM
    have V1 := f1.VT vt
    refine j_aload_n eX12_brings_32 rfl ?_
    refine j_getR flX12_51 ly48 rfl eX12_brings_33 ?_
    refine j_aload_n eX12_brings_36 rfl ?_
    refine j_getI flX12_193 ly48 rfl eX12_brings_37 ?_
    refine j_iald ly62 (by omega) eX12_brings_40 ?_
    rw [p2]
    refine j_istore_n eX12_brings_41 (Nat.le_of_ble_eq_true rfl) ?_
    refine j_iload_n eX12_brings_42 rfl ?_
    refine j_if_ge eX12_brings_43 (by omega) (fun h43 => ?_) (fun h43 => absurd h43 (by omega))
    refine j_aload_n eX12_brings_50 rfl ?_
    refine j_iload_n eX12_brings_51 rfl ?_
    refine j_iconst 0 eX12_brings_52 ?_
    refine j_cV2 zX12_varies lkX12_186 ⟨Nat.le_of_ble_eq_true rfl, Nat.le_of_ble_eq_true rfl⟩ ly48 rfl rfl (c_X12_varies (by exact M1) (by exact V1) (by exact na) (by omega)) (Nat.le_of_ble_eq_true rfl) eX12_brings_53 (k_I (fun v53 σ53 h53 => ?_))
    have fr := f1.L h53.1
    have r1 := p1.L h53.1
    have rb := b1.L h53.1
    have hv : v53 = VMd σ a := h53.2.trans (f1.V a)
    have vb := VMd_b (σ := σ) a (hM.2.2.1 _ vt.1.1 vt.1.2).2
    have g4 := rb.1
    have r0 := r1.1
    refine j_istore_n eX12_brings_56 (Nat.le_of_ble_eq_true rfl) ?_
    refine j_iload_n eX12_brings_57 rfl ?_
    refine j_if_ge eX12_brings_58 (by omega) (fun h58 => ?_) (fun h58 => absurd h58 (by omega))
    refine j_iload_n eX12_brings_96 rfl ?_
    refine j_iconst 1 eX12_brings_97 ?_
    refine j_icmp_le eX12_brings_98 (by omega) (fun h98 => ?_) (fun h98 => ?_)
    · refine j_iload_n eX12_brings_132 rfl ?_
      refine j_if_le eX12_brings_133 (by omega) (fun h133 => ?_) (fun h133 => ?_)
      · refine j_goto eX12_brings_151 ?_
        first
        | (exfalso; omega)
        | (have eT : trB (VMd σ) (ZMd σ) (t + 1) a L = trB (VMd σ) (ZMd σ) t (2 * a) L := (if_neg (by omega)).trans (if_pos (by omega))
           rw [eT]
           have w2 := w.2.1 (by omega)
           have w3 := ww.2.2.1 (by omega)
           rw [List.append_assoc (PB_ a), show [2 * a + 1] ++ [-a] = [2 * a + 1, -a] from rfl, ← pb.2.2.1 (by omega)] at s3
           refine jv_lv ?_ (ih (2 * a) L ρ3 (by omega) (by omega) (by omega) fr3 s3 rb3)
           exact lvC rfl (lv0))
        | (have c0 : ¬ 0 < VMd σ a := by omega
           rw [trB_leaf (by omega) (by omega), if_neg c0, List.append_nil]
           refine jv_lv ?_ (f_X12_brings hM vt (t := t) (a := a) (L := L) na (by omega) (by omega) fr r1 rb ih)
           exact lvC rfl (lv0))
        | (have c0 : 0 < VMd σ a := by omega
           have c1 : VMd σ a = 1 := by omega
           rw [trB_leaf (by omega) (by omega), if_pos c0, if_pos c1]
           refine jv_lv ?_ (f_X12_brings hM vt (t := t) (a := a) (L := L ++ [(a, 0)]) na (by omega) (by rw [List.length_append]; show ((L.length + 1 : Nat) : Int) ≤ _; omega) (((fr.C (by decide)).C (by decide)).U (by decide)) (r1.of rfl rfl) rb.fin ih)
           exact lvC rfl (lv0))
        | (have c0 : 0 < VMd σ a := by omega
           have c1 : ¬ VMd σ a = 1 := by omega
           rw [trB_leaf (by omega) (by omega), if_pos c0, if_neg c1]
           refine jv_lv ?_ (f_X12_brings hM vt (t := t) (a := a) (L := L ++ [(a, 2)]) na (by omega) (by rw [List.length_append]; show ((L.length + 1 : Nat) : Int) ≤ _; omega) (((fr.C (by decide)).C (by decide)).U (by decide)) (r1.of rfl rfl) rb.fin ih)
           exact lvC rfl (lv0))
      · refine j_aload_n eX12_brings_136 rfl ?_
        refine j_iload_n eX12_brings_137 rfl ?_
        refine j_iload_n eX12_brings_138 rfl ?_
        refine j_iconst 1 eX12_brings_139 ?_
        refine j_icmp_ne eX12_brings_140 (by omega) (fun h140 => ?_) (fun h140 => ?_)
        · refine j_iconst 2 eX12_brings_147 ?_
          refine j_cV2 zX12_finds lkX12_203 ⟨Nat.le_of_ble_eq_true rfl, Nat.le_of_ble_eq_true rfl⟩ ly48 rfl rfl (c_X12_finds (by omega)) (Nat.le_of_ble_eq_true rfl) eX12_brings_148 (k_VE ?_)
          refine j_goto eX12_brings_151 ?_
          first
          | (exfalso; omega)
          | (have eT : trB (VMd σ) (ZMd σ) (t + 1) a L = trB (VMd σ) (ZMd σ) t (2 * a) L := (if_neg (by omega)).trans (if_pos (by omega))
             rw [eT]
             have w2 := w.2.1 (by omega)
             have w3 := ww.2.2.1 (by omega)
             rw [List.append_assoc (PB_ a), show [2 * a + 1] ++ [-a] = [2 * a + 1, -a] from rfl, ← pb.2.2.1 (by omega)] at s3
             refine jv_lv ?_ (ih (2 * a) L ρ3 (by omega) (by omega) (by omega) fr3 s3 rb3)
             exact lvC rfl (lv0))
          | (have c0 : ¬ 0 < VMd σ a := by omega
             rw [trB_leaf (by omega) (by omega), if_neg c0, List.append_nil]
             refine jv_lv ?_ (f_X12_brings hM vt (t := t) (a := a) (L := L) na (by omega) (by omega) fr r1 rb ih)
             exact lvC rfl (lv0))
          | (have c0 : 0 < VMd σ a := by omega
             have c1 : VMd σ a = 1 := by omega
             rw [trB_leaf (by omega) (by omega), if_pos c0, if_pos c1]
             refine jv_lv ?_ (f_X12_brings hM vt (t := t) (a := a) (L := L ++ [(a, 0)]) na (by omega) (by rw [List.length_append]; show ((L.length + 1 : Nat) : Int) ≤ _; omega) (((fr.C (by decide)).C (by decide)).U (by decide)) (r1.of rfl rfl) rb.fin ih)
             exact lvC rfl (lv0))
          | (have c0 : 0 < VMd σ a := by omega
             have c1 : ¬ VMd σ a = 1 := by omega
             rw [trB_leaf (by omega) (by omega), if_pos c0, if_neg c1]
             refine jv_lv ?_ (f_X12_brings hM vt (t := t) (a := a) (L := L ++ [(a, 2)]) na (by omega) (by rw [List.length_append]; show ((L.length + 1 : Nat) : Int) ≤ _; omega) (((fr.C (by decide)).C (by decide)).U (by decide)) (r1.of rfl rfl) rb.fin ih)
             exact lvC rfl (lv0))
        · refine j_iconst 0 eX12_brings_143 ?_
          refine j_goto eX12_brings_144 ?_
          refine j_cV2 zX12_finds lkX12_203 ⟨Nat.le_of_ble_eq_true rfl, Nat.le_of_ble_eq_true rfl⟩ ly48 rfl rfl (c_X12_finds (by omega)) (Nat.le_of_ble_eq_true rfl) eX12_brings_148 (k_VE ?_)
          refine j_goto eX12_brings_151 ?_
          first
          | (exfalso; omega)
          | (have eT : trB (VMd σ) (ZMd σ) (t + 1) a L = trB (VMd σ) (ZMd σ) t (2 * a) L := (if_neg (by omega)).trans (if_pos (by omega))
             rw [eT]
             have w2 := w.2.1 (by omega)
             have w3 := ww.2.2.1 (by omega)
             rw [List.append_assoc (PB_ a), show [2 * a + 1] ++ [-a] = [2 * a + 1, -a] from rfl, ← pb.2.2.1 (by omega)] at s3
             refine jv_lv ?_ (ih (2 * a) L ρ3 (by omega) (by omega) (by omega) fr3 s3 rb3)
             exact lvC rfl (lv0))
          | (have c0 : ¬ 0 < VMd σ a := by omega
             rw [trB_leaf (by omega) (by omega), if_neg c0, List.append_nil]
             refine jv_lv ?_ (f_X12_brings hM vt (t := t) (a := a) (L := L) na (by omega) (by omega) fr r1 rb ih)
             exact lvC rfl (lv0))
          | (have c0 : 0 < VMd σ a := by omega
             have c1 : VMd σ a = 1 := by omega
             rw [trB_leaf (by omega) (by omega), if_pos c0, if_pos c1]
             refine jv_lv ?_ (f_X12_brings hM vt (t := t) (a := a) (L := L ++ [(a, 0)]) na (by omega) (by rw [List.length_append]; show ((L.length + 1 : Nat) : Int) ≤ _; omega) (((fr.C (by decide)).C (by decide)).U (by decide)) (r1.of rfl rfl) rb.fin ih)
             exact lvC rfl (lv0))
          | (have c0 : 0 < VMd σ a := by omega
             have c1 : ¬ VMd σ a = 1 := by omega
             rw [trB_leaf (by omega) (by omega), if_pos c0, if_neg c1]
             refine jv_lv ?_ (f_X12_brings hM vt (t := t) (a := a) (L := L ++ [(a, 2)]) na (by omega) (by rw [List.length_append]; show ((L.length + 1 : Nat) : Int) ≤ _; omega) (((fr.C (by decide)).C (by decide)).U (by decide)) (r1.of rfl rfl) rb.fin ih)
             exact lvC rfl (lv0))
    · refine j_iload_n eX12_brings_101 rfl ?_
      refine j_bipush 64 eX12_brings_102 (by decide) ?_
      refine j_icmp_ge eX12_brings_104 (by omega) (fun h104 => ?_) (fun h104 => ?_)
      · refine j_iload_n eX12_brings_132 rfl ?_
        refine j_if_le eX12_brings_133 (by omega) (fun h133 => ?_) (fun h133 => ?_)
        · refine j_goto eX12_brings_151 ?_
          first
          | (exfalso; omega)
          | (have eT : trB (VMd σ) (ZMd σ) (t + 1) a L = trB (VMd σ) (ZMd σ) t (2 * a) L := (if_neg (by omega)).trans (if_pos (by omega))
             rw [eT]
             have w2 := w.2.1 (by omega)
             have w3 := ww.2.2.1 (by omega)
             rw [List.append_assoc (PB_ a), show [2 * a + 1] ++ [-a] = [2 * a + 1, -a] from rfl, ← pb.2.2.1 (by omega)] at s3
             refine jv_lv ?_ (ih (2 * a) L ρ3 (by omega) (by omega) (by omega) fr3 s3 rb3)
             exact lvC rfl (lv0))
          | (have c0 : ¬ 0 < VMd σ a := by omega
             rw [trB_leaf (by omega) (by omega), if_neg c0, List.append_nil]
             refine jv_lv ?_ (f_X12_brings hM vt (t := t) (a := a) (L := L) na (by omega) (by omega) fr r1 rb ih)
             exact lvC rfl (lv0))
          | (have c0 : 0 < VMd σ a := by omega
             have c1 : VMd σ a = 1 := by omega
             rw [trB_leaf (by omega) (by omega), if_pos c0, if_pos c1]
             refine jv_lv ?_ (f_X12_brings hM vt (t := t) (a := a) (L := L ++ [(a, 0)]) na (by omega) (by rw [List.length_append]; show ((L.length + 1 : Nat) : Int) ≤ _; omega) (((fr.C (by decide)).C (by decide)).U (by decide)) (r1.of rfl rfl) rb.fin ih)
             exact lvC rfl (lv0))
          | (have c0 : 0 < VMd σ a := by omega
             have c1 : ¬ VMd σ a = 1 := by omega
             rw [trB_leaf (by omega) (by omega), if_pos c0, if_neg c1]
             refine jv_lv ?_ (f_X12_brings hM vt (t := t) (a := a) (L := L ++ [(a, 2)]) na (by omega) (by rw [List.length_append]; show ((L.length + 1 : Nat) : Int) ≤ _; omega) (((fr.C (by decide)).C (by decide)).U (by decide)) (r1.of rfl rfl) rb.fin ih)
             exact lvC rfl (lv0))
        · refine j_aload_n eX12_brings_136 rfl ?_
          refine j_iload_n eX12_brings_137 rfl ?_
          refine j_iload_n eX12_brings_138 rfl ?_
          refine j_iconst 1 eX12_brings_139 ?_
          refine j_icmp_ne eX12_brings_140 (by omega) (fun h140 => ?_) (fun h140 => ?_)
          · refine j_iconst 2 eX12_brings_147 ?_
            refine j_cV2 zX12_finds lkX12_203 ⟨Nat.le_of_ble_eq_true rfl, Nat.le_of_ble_eq_true rfl⟩ ly48 rfl rfl (c_X12_finds (by omega)) (Nat.le_of_ble_eq_true rfl) eX12_brings_148 (k_VE ?_)
            refine j_goto eX12_brings_151 ?_
            first
            | (exfalso; omega)
            | (have eT : trB (VMd σ) (ZMd σ) (t + 1) a L = trB (VMd σ) (ZMd σ) t (2 * a) L := (if_neg (by omega)).trans (if_pos (by omega))
               rw [eT]
               have w2 := w.2.1 (by omega)
               have w3 := ww.2.2.1 (by omega)
               rw [List.append_assoc (PB_ a), show [2 * a + 1] ++ [-a] = [2 * a + 1, -a] from rfl, ← pb.2.2.1 (by omega)] at s3
               refine jv_lv ?_ (ih (2 * a) L ρ3 (by omega) (by omega) (by omega) fr3 s3 rb3)
               exact lvC rfl (lv0))
            | (have c0 : ¬ 0 < VMd σ a := by omega
               rw [trB_leaf (by omega) (by omega), if_neg c0, List.append_nil]
               refine jv_lv ?_ (f_X12_brings hM vt (t := t) (a := a) (L := L) na (by omega) (by omega) fr r1 rb ih)
               exact lvC rfl (lv0))
            | (have c0 : 0 < VMd σ a := by omega
               have c1 : VMd σ a = 1 := by omega
               rw [trB_leaf (by omega) (by omega), if_pos c0, if_pos c1]
               refine jv_lv ?_ (f_X12_brings hM vt (t := t) (a := a) (L := L ++ [(a, 0)]) na (by omega) (by rw [List.length_append]; show ((L.length + 1 : Nat) : Int) ≤ _; omega) (((fr.C (by decide)).C (by decide)).U (by decide)) (r1.of rfl rfl) rb.fin ih)
               exact lvC rfl (lv0))
            | (have c0 : 0 < VMd σ a := by omega
               have c1 : ¬ VMd σ a = 1 := by omega
               rw [trB_leaf (by omega) (by omega), if_pos c0, if_neg c1]
               refine jv_lv ?_ (f_X12_brings hM vt (t := t) (a := a) (L := L ++ [(a, 2)]) na (by omega) (by rw [List.length_append]; show ((L.length + 1 : Nat) : Int) ≤ _; omega) (((fr.C (by decide)).C (by decide)).U (by decide)) (r1.of rfl rfl) rb.fin ih)
               exact lvC rfl (lv0))
          · refine j_iconst 0 eX12_brings_143 ?_
            refine j_goto eX12_brings_144 ?_
            refine j_cV2 zX12_finds lkX12_203 ⟨Nat.le_of_ble_eq_true rfl, Nat.le_of_ble_eq_true rfl⟩ ly48 rfl rfl (c_X12_finds (by omega)) (Nat.le_of_ble_eq_true rfl) eX12_brings_148 (k_VE ?_)
            refine j_goto eX12_brings_151 ?_
            first
            | (exfalso; omega)
            | (have eT : trB (VMd σ) (ZMd σ) (t + 1) a L = trB (VMd σ) (ZMd σ) t (2 * a) L := (if_neg (by omega)).trans (if_pos (by omega))
               rw [eT]
               have w2 := w.2.1 (by omega)
               have w3 := ww.2.2.1 (by omega)
               rw [List.append_assoc (PB_ a), show [2 * a + 1] ++ [-a] = [2 * a + 1, -a] from rfl, ← pb.2.2.1 (by omega)] at s3
               refine jv_lv ?_ (ih (2 * a) L ρ3 (by omega) (by omega) (by omega) fr3 s3 rb3)
               exact lvC rfl (lv0))
            | (have c0 : ¬ 0 < VMd σ a := by omega
               rw [trB_leaf (by omega) (by omega), if_neg c0, List.append_nil]
               refine jv_lv ?_ (f_X12_brings hM vt (t := t) (a := a) (L := L) na (by omega) (by omega) fr r1 rb ih)
               exact lvC rfl (lv0))
            | (have c0 : 0 < VMd σ a := by omega
               have c1 : VMd σ a = 1 := by omega
               rw [trB_leaf (by omega) (by omega), if_pos c0, if_pos c1]
               refine jv_lv ?_ (f_X12_brings hM vt (t := t) (a := a) (L := L ++ [(a, 0)]) na (by omega) (by rw [List.length_append]; show ((L.length + 1 : Nat) : Int) ≤ _; omega) (((fr.C (by decide)).C (by decide)).U (by decide)) (r1.of rfl rfl) rb.fin ih)
               exact lvC rfl (lv0))
            | (have c0 : 0 < VMd σ a := by omega
               have c1 : ¬ VMd σ a = 1 := by omega
               rw [trB_leaf (by omega) (by omega), if_pos c0, if_neg c1]
               refine jv_lv ?_ (f_X12_brings hM vt (t := t) (a := a) (L := L ++ [(a, 2)]) na (by omega) (by rw [List.length_append]; show ((L.length + 1 : Nat) : Int) ≤ _; omega) (((fr.C (by decide)).C (by decide)).U (by decide)) (r1.of rfl rfl) rb.fin ih)
               exact lvC rfl (lv0))
      · refine j_aload_n eX12_brings_107 rfl ?_
        refine j_iconst 2 eX12_brings_108 ?_
        refine j_iload_n eX12_brings_109 rfl ?_
        refine j_imul eX12_brings_110 ?_
        refine j_iconst 1 eX12_brings_111 ?_
        refine j_iadd eX12_brings_112 ?_
        refine j_cV1 zX12_puts lkX12_199 ⟨Nat.le_of_ble_eq_true rfl, Nat.le_of_ble_eq_true rfl⟩ ly48 rfl rfl (c_X12_puts (by omega)) (Nat.le_of_ble_eq_true rfl) eX12_brings_113 (k_VE ?_)
        generalize hρ1 : up (up σ53 62 (σ53 48 24) (2 * a + 1)) 48 24 (σ53 48 24 + 1) = ρ1
        have s1 : RL1 ρ1 48 62 24 (PB_ a ++ [2 * a + 1]) := hρ1 ▸ r1.put
        have e1 := s1.1
        rw [List.length_append] at e1
        have e1 : ρ1 48 24 = ((PB_ a).length + 1 : Nat) := e1
        have fr1 : frM σ ρ1 := hρ1 ▸ (fr.C (by decide)).U (by decide)
        have rb1 : RB ρ1 48 63 64 27 L := hρ1 ▸ rb.of rfl rfl rfl
        refine j_aload_n eX12_brings_116 rfl ?_
        refine j_iload_n eX12_brings_117 rfl ?_
        refine j_ineg eX12_brings_118 ?_
        refine j_cV1 zX12_puts lkX12_199 ⟨Nat.le_of_ble_eq_true rfl, Nat.le_of_ble_eq_true rfl⟩ ly48 rfl rfl (c_X12_puts (by omega)) (Nat.le_of_ble_eq_true rfl) eX12_brings_119 (k_VE ?_)
        generalize hρ2 : up (up ρ1 62 (ρ1 48 24) (-a)) 48 24 (ρ1 48 24 + 1) = ρ2
        have s2 : RL1 ρ2 48 62 24 ((PB_ a ++ [2 * a + 1]) ++ [-a]) := hρ2 ▸ s1.put
        have e2 := s2.1
        rw [List.length_append, List.length_append] at e2
        have e2 : ρ2 48 24 = ((PB_ a).length + 1 + 1 : Nat) := e2
        have fr2 : frM σ ρ2 := hρ2 ▸ (fr1.C (by decide)).U (by decide)
        have rb2 : RB ρ2 48 63 64 27 L := hρ2 ▸ rb1.of rfl rfl rfl
        refine j_aload_n eX12_brings_122 rfl ?_
        refine j_iconst 2 eX12_brings_123 ?_
        refine j_iload_n eX12_brings_124 rfl ?_
        refine j_imul eX12_brings_125 ?_
        refine j_cV1 zX12_puts lkX12_199 ⟨Nat.le_of_ble_eq_true rfl, Nat.le_of_ble_eq_true rfl⟩ ly48 rfl rfl (c_X12_puts (by omega)) (Nat.le_of_ble_eq_true rfl) eX12_brings_126 (k_VE ?_)
        generalize hρ3 : up (up ρ2 62 (ρ2 48 24) (2 * a)) 48 24 (ρ2 48 24 + 1) = ρ3
        have s3 : RL1 ρ3 48 62 24 (((PB_ a ++ [2 * a + 1]) ++ [-a]) ++ [2 * a]) := hρ3 ▸ s2.put
        have fr3 : frM σ ρ3 := hρ3 ▸ (fr2.C (by decide)).U (by decide)
        have rb3 : RB ρ3 48 63 64 27 L := hρ3 ▸ rb2.of rfl rfl rfl
        refine j_goto eX12_brings_129 ?_
        refine j_goto eX12_brings_151 ?_
        first
        | (exfalso; omega)
        | (have eT : trB (VMd σ) (ZMd σ) (t + 1) a L = trB (VMd σ) (ZMd σ) t (2 * a) L := (if_neg (by omega)).trans (if_pos (by omega))
           rw [eT]
           have w2 := w.2.1 (by omega)
           have w3 := ww.2.2.1 (by omega)
           rw [List.append_assoc (PB_ a), show [2 * a + 1] ++ [-a] = [2 * a + 1, -a] from rfl, ← pb.2.2.1 (by omega)] at s3
           refine jv_lv ?_ (ih (2 * a) L ρ3 (by omega) (by omega) (by omega) fr3 s3 rb3)
           exact lvC rfl (lv0))
        | (have c0 : ¬ 0 < VMd σ a := by omega
           rw [trB_leaf (by omega) (by omega), if_neg c0, List.append_nil]
           refine jv_lv ?_ (f_X12_brings hM vt (t := t) (a := a) (L := L) na (by omega) (by omega) fr r1 rb ih)
           exact lvC rfl (lv0))
        | (have c0 : 0 < VMd σ a := by omega
           have c1 : VMd σ a = 1 := by omega
           rw [trB_leaf (by omega) (by omega), if_pos c0, if_pos c1]
           refine jv_lv ?_ (f_X12_brings hM vt (t := t) (a := a) (L := L ++ [(a, 0)]) na (by omega) (by rw [List.length_append]; show ((L.length + 1 : Nat) : Int) ≤ _; omega) (((fr.C (by decide)).C (by decide)).U (by decide)) (r1.of rfl rfl) rb.fin ih)
           exact lvC rfl (lv0))
        | (have c0 : 0 < VMd σ a := by omega
           have c1 : ¬ VMd σ a = 1 := by omega
           rw [trB_leaf (by omega) (by omega), if_pos c0, if_neg c1]
           refine jv_lv ?_ (f_X12_brings hM vt (t := t) (a := a) (L := L ++ [(a, 2)]) na (by omega) (by rw [List.length_append]; show ((L.length + 1 : Nat) : Int) ≤ _; omega) (((fr.C (by decide)).C (by decide)).U (by decide)) (r1.of rfl rfl) rb.fin ih)
           exact lvC rfl (lv0))
theorem c_X12_brings {g : Gl} {σ : Sg} (hM : TM σ) (vt : VTm σ) : Ct g mX12_brings [vr g 48] σ (PV (fun σ' => frM σ σ' ∧ RB σ' 48 63 64 27 (trB (VMd σ) (ZMd σ) 127 1 []) ∧ ((trB (VMd σ) (ZMd σ) 127 1 [])).length ≤ 127)) := by
  refine Ct.of (by decide +kernel) (Nat.le_of_ble_eq_true rfl) ?_
  show jv g _ _ σ [(0, vr g 48)] 0 []
  refine j_aload_n eX12_brings_0 rfl ?_
  refine j_iconst 0 eX12_brings_1 ?_
  refine j_putI fpX12_196 ly48 rfl eX12_brings_2 ?_
  refine j_aload_n eX12_brings_5 rfl ?_
  refine j_iconst 0 eX12_brings_6 ?_
  refine j_putI fpX12_193 ly48 rfl eX12_brings_7 ?_
  refine j_aload_n eX12_brings_10 rfl ?_
  refine j_iconst 1 eX12_brings_11 ?_
  refine j_cV1 zX12_puts lkX12_199 ⟨Nat.le_of_ble_eq_true rfl, Nat.le_of_ble_eq_true rfl⟩ ly48 rfl rfl (c_X12_puts (by exact (show (0 : Int) ≤ 0 ∧ (0 : Int) < 400 by decide))) (Nat.le_of_ble_eq_true rfl) eX12_brings_12 (k_VE ?_)
  generalize hρ1 : up (up (up (up σ 48 27 0) 48 24 0) 62 ((up (up σ 48 27 0) 48 24 0) 48 24) 1) 48 24 ((up (up σ 48 27 0) 48 24 0) 48 24 + 1) = ρ1
  refine jv_lv ?_ (l_X12_brings hM vt 127 1 [] ρ1 (by decide) (by decide) (by decide) ?_ ?_ ?_)
  · exact lvC rfl (lv0)
  · rw [← hρ1]; exact ((((frM.rf σ).U (by decide)).U (by decide)).C (by decide)).U (by decide)
  · rw [← hρ1, show PB_ 1 = [] from by decide]; exact RL1.put (P := []) (τ := up (up σ 48 27 0) 48 24 0) (RL1_0 rfl)
  · rw [← hρ1]; exact RB_0 rfl
