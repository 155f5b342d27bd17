theorem sg3_b (a b : Int) : -2147483648 ≤ sg3 a b ∧ sg3 a b ≤ 2147483647 := by
  unfold sg3
  split <;> (try split) <;> omega
theorem sg3_lt {a b : Int} : sg3 a b < 0 ↔ a < b := by
  unfold sg3
  split <;> (try split) <;> omega
theorem sg3_le {a b : Int} : sg3 a b ≤ 0 ↔ a ≤ b := by
  unfold sg3
  split <;> (try split) <;> omega
theorem sg3_gt {a b : Int} : 0 < sg3 a b ↔ b < a := by
  unfold sg3
  split <;> (try split) <;> omega
theorem sg3_ge {a b : Int} : 0 ≤ sg3 a b ↔ b ≤ a := by
  unfold sg3
  split <;> (try split) <;> omega
theorem sg3_eq {a b : Int} : sg3 a b = 0 ↔ a = b := by
  unfold sg3
  split <;> (try split) <;> omega
theorem j_lc_lt {g : Gl} {y : Mt} {F : Ex} {σ : Sg} {lv : List (Nat × Value)} {pc n1 nx tgt : Nat} {st : List Value} {a b : Int} (hd : Dc y pc (.lcmp) 1 n1) (hj : Dj y n1 (.ifCond .lt) nx tgt) (h : -9223372036854775808 ≤ a ∧ a ≤ 9223372036854775807 ∧ -9223372036854775808 ≤ b ∧ b ≤ 9223372036854775807) (kt : a < b → jv g y F σ lv tgt st) (kf : ¬ a < b → jv g y F σ lv nx st) : jv g y F σ lv pc (vl b :: vl a :: st) := j_lcmp h hd (j_if_lt hj (sg3_b a b) (fun z => kt (sg3_lt.mp z)) (fun z => kf (fun q => z (sg3_lt.mpr q))))
theorem j_lc_ge {g : Gl} {y : Mt} {F : Ex} {σ : Sg} {lv : List (Nat × Value)} {pc n1 nx tgt : Nat} {st : List Value} {a b : Int} (hd : Dc y pc (.lcmp) 1 n1) (hj : Dj y n1 (.ifCond .ge) nx tgt) (h : -9223372036854775808 ≤ a ∧ a ≤ 9223372036854775807 ∧ -9223372036854775808 ≤ b ∧ b ≤ 9223372036854775807) (kt : b ≤ a → jv g y F σ lv tgt st) (kf : ¬ b ≤ a → jv g y F σ lv nx st) : jv g y F σ lv pc (vl b :: vl a :: st) := j_lcmp h hd (j_if_ge hj (sg3_b a b) (fun z => kt (sg3_ge.mp z)) (fun z => kf (fun q => z (sg3_ge.mpr q))))
theorem j_lc_gt {g : Gl} {y : Mt} {F : Ex} {σ : Sg} {lv : List (Nat × Value)} {pc n1 nx tgt : Nat} {st : List Value} {a b : Int} (hd : Dc y pc (.lcmp) 1 n1) (hj : Dj y n1 (.ifCond .gt) nx tgt) (h : -9223372036854775808 ≤ a ∧ a ≤ 9223372036854775807 ∧ -9223372036854775808 ≤ b ∧ b ≤ 9223372036854775807) (kt : b < a → jv g y F σ lv tgt st) (kf : ¬ b < a → jv g y F σ lv nx st) : jv g y F σ lv pc (vl b :: vl a :: st) := j_lcmp h hd (j_if_gt hj (sg3_b a b) (fun z => kt (sg3_gt.mp z)) (fun z => kf (fun q => z (sg3_gt.mpr q))))
theorem j_lc_le {g : Gl} {y : Mt} {F : Ex} {σ : Sg} {lv : List (Nat × Value)} {pc n1 nx tgt : Nat} {st : List Value} {a b : Int} (hd : Dc y pc (.lcmp) 1 n1) (hj : Dj y n1 (.ifCond .le) nx tgt) (h : -9223372036854775808 ≤ a ∧ a ≤ 9223372036854775807 ∧ -9223372036854775808 ≤ b ∧ b ≤ 9223372036854775807) (kt : a ≤ b → jv g y F σ lv tgt st) (kf : ¬ a ≤ b → jv g y F σ lv nx st) : jv g y F σ lv pc (vl b :: vl a :: st) := j_lcmp h hd (j_if_le hj (sg3_b a b) (fun z => kt (sg3_le.mp z)) (fun z => kf (fun q => z (sg3_le.mpr q))))
theorem j_lc_eq {g : Gl} {y : Mt} {F : Ex} {σ : Sg} {lv : List (Nat × Value)} {pc n1 nx tgt : Nat} {st : List Value} {a b : Int} (hd : Dc y pc (.lcmp) 1 n1) (hj : Dj y n1 (.ifCond .eq) nx tgt) (h : -9223372036854775808 ≤ a ∧ a ≤ 9223372036854775807 ∧ -9223372036854775808 ≤ b ∧ b ≤ 9223372036854775807) (kt : a = b → jv g y F σ lv tgt st) (kf : ¬ a = b → jv g y F σ lv nx st) : jv g y F σ lv pc (vl b :: vl a :: st) := j_lcmp h hd (j_if_eq hj (sg3_b a b) (fun z => kt (sg3_eq.mp z)) (fun z => kf (fun q => z (sg3_eq.mpr q))))
theorem j_lc_ne {g : Gl} {y : Mt} {F : Ex} {σ : Sg} {lv : List (Nat × Value)} {pc n1 nx tgt : Nat} {st : List Value} {a b : Int} (hd : Dc y pc (.lcmp) 1 n1) (hj : Dj y n1 (.ifCond .ne) nx tgt) (h : -9223372036854775808 ≤ a ∧ a ≤ 9223372036854775807 ∧ -9223372036854775808 ≤ b ∧ b ≤ 9223372036854775807) (kt : ¬ a = b → jv g y F σ lv tgt st) (kf : a = b → jv g y F σ lv nx st) : jv g y F σ lv pc (vl b :: vl a :: st) := j_lcmp h hd (j_if_ne hj (sg3_b a b) (fun z => kt (fun q => z (sg3_eq.mpr q))) (fun z => kf (sg3_eq.mp z)))
theorem lvC {lv r : List (Nat × Value)} {i : Nat} {v : Value} (h1 : lv.lookup i = some v) (h2 : lvS lv r) : lvS lv ((i, v) :: r) := ⟨h1, h2⟩
theorem lv0 {lv : List (Nat × Value)} : lvS lv [] := trivial
theorem j_tsIn {g : Gl} {y : Mt} {F : Ex} {σ : Sg} {lv : List (Nat × Value)} {pc : Nat} {st : List Value} {a dflt lo hi off : Int} {offs : Array Int} {len tgt : Nat} (hd : decode y.2.1 pc = .ok (.tableswitch dflt lo hi offs, len)) (h : -2147483648 ≤ a ∧ a ≤ 2147483647) (h1 : lo ≤ a) (h2 : a ≤ hi) (ho : offs[(a - lo).toNat]? = some off) (ht : (pc : Int) + off = (tgt : Int)) (kk : jv g y F σ lv tgt st) : jv g y F σ lv pc (vi a :: st) := by
  intro p e s m args below meth c H locs ls C hP hS hl
  have e1 : (kI a).toInt = a := kI_toInt h.1 h.2
  exact lv_tableIn C.1 C.2.1 hd (by rw [e1]; omega) (by rw [e1]; omega) (by rw [e1]; exact ho) ht (kk p e s m args below meth c H locs _ C hP hS hl)
theorem j_tsOut {g : Gl} {y : Mt} {F : Ex} {σ : Sg} {lv : List (Nat × Value)} {pc : Nat} {st : List Value} {a dflt lo hi : Int} {offs : Array Int} {len tgt : Nat} (hd : decode y.2.1 pc = .ok (.tableswitch dflt lo hi offs, len)) (h : -2147483648 ≤ a ∧ a ≤ 2147483647) (h1 : a < lo ∨ hi < a) (ht : (pc : Int) + dflt = (tgt : Int)) (kk : jv g y F σ lv tgt st) : jv g y F σ lv pc (vi a :: st) := by
  intro p e s m args below meth c H locs ls C hP hS hl
  have e1 : (kI a).toInt = a := kI_toInt h.1 h.2
  exact lv_tableOut C.1 C.2.1 hd (by rw [e1]; exact h1) ht (kk p e s m args below meth c H locs _ C hP hS hl)
theorem j_lsw {g : Gl} {y : Mt} {F : Ex} {σ : Sg} {lv : List (Nat × Value)} {pc : Nat} {st : List Value} {a dflt off : Int} {ps : Array (Int × Int)} {len tgt : Nat} (hd : decode y.2.1 pc = .ok (.lookupswitch dflt ps, len)) (hp : (ps.toList.zip (ps.toList.drop 1)).all (fun (a, next) => a.1 < next.1) = true) (h : -2147483648 ≤ a ∧ a ≤ 2147483647) (ho : Op.lookupswitch.offset ps.toList dflt a = off) (ht : (pc : Int) + off = (tgt : Int)) (kk : jv g y F σ lv tgt st) : jv g y F σ lv pc (vi a :: st) := by
  intro p e s m args below meth c H locs ls C hP hS hl
  have e1 : (kI a).toInt = a := kI_toInt h.1 h.2
  exact lv_lookup C.1 C.2.1 hd hp (by rw [e1]; exact ho) ht (kk p e s m args below meth c H locs _ C hP hS hl)
theorem r_iret {g : Gl} {y : Mt} {σ : Sg} {lv : List (Nat × Value)} {pc nx : Nat} {P : Int → Sg → Prop} {v : Int} (hr : y.2.2.2.1 = some .int) (hd : Dc y pc (.ireturn) 1 nx) (h : P v σ) : jv g y (Fm g (PI P)) σ lv pc [vi v] := j_iret (Post := fun _ _ => True) hr hd h
theorem r_zret {g : Gl} {y : Mt} {σ : Sg} {lv : List (Nat × Value)} {pc nx : Nat} {P : Int → Sg → Prop} {v : Int} (hv : v = 0 ∨ v = 1) (hr : y.2.2.2.1 = some .boolean) (hd : Dc y pc (.ireturn) 1 nx) (h : P v σ) : jv g y (Fm g (PI P)) σ lv pc [vi v] := j_zret (Post := fun _ _ => True) hv hr hd h
theorem r_lret {g : Gl} {y : Mt} {σ : Sg} {lv : List (Nat × Value)} {pc nx : Nat} {P : Int → Sg → Prop} {v : Int} (hr : y.2.2.2.1 = some .long) (hd : Dc y pc (.lreturn) 1 nx) (h : P v σ) : jv g y (Fm g (PL P)) σ lv pc [vl v] := j_lret (Post := fun _ _ => True) hr hd h
theorem r_vret {g : Gl} {y : Mt} {σ : Sg} {lv : List (Nat × Value)} {pc nx : Nat} {P : Sg → Prop} (hr : y.2.2.2.1 = none) (hd : Dc y pc (.return_) 1 nx) (h : P σ) : jv g y (Fm g (PV P)) σ lv pc [] := j_vret (Post := fun _ _ => True) hr hd h
theorem r_aret {g : Gl} {y : Mt} {σ : Sg} {lv : List (Nat × Value)} {pc nx : Nat} {C0 : String} {k : Nat} (hr : y.2.2.2.1 = some (.object C0)) (hd : Dc y pc (.areturn) 1 nx) : jv g y (Fm g (PR g k σ)) σ lv pc [vr g k] := j_aret (Post := fun _ _ => True) hr hd
