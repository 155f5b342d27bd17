theorem j_iconst {g : Gl} {y : Mt} {F : Ex} {σ : Sg} {lv : List (Nat × Value)} {pc nx : Nat} {st : List Value} (a : Int) (hd : Dc y pc (.iconst a) 1 nx) (k : jv g y F σ lv nx (vi a :: st)) : jv g y F σ lv pc st := by
  obtain ⟨hd, rfl⟩ := hd
  intro p e s m args below meth c H locs ls C hP hS hl
  exact lv_iconst C.1 C.2.1 hd rfl (k p e s m args below meth c H locs _ C hP hS hl)
theorem j_bipush {g : Gl} {y : Mt} {F : Ex} {σ : Sg} {lv : List (Nat × Value)} {pc nx : Nat} {st : List Value} (a : Int) (hd : Dc y pc (.bipush a) 2 nx) (h : (Int8.ofInt a).toInt32 = kI a) (k : jv g y F σ lv nx (vi a :: st)) : jv g y F σ lv pc st := by
  obtain ⟨hd, rfl⟩ := hd
  intro p e s m args below meth c H locs ls C hP hS hl
  exact lv_bipush C.1 C.2.1 hd h (k p e s m args below meth c H locs _ C hP hS hl)
theorem j_sipush {g : Gl} {y : Mt} {F : Ex} {σ : Sg} {lv : List (Nat × Value)} {pc nx : Nat} {st : List Value} (a : Int) (hd : Dc y pc (.sipush a) 3 nx) (h : (Int16.ofInt a).toInt32 = kI a) (k : jv g y F σ lv nx (vi a :: st)) : jv g y F σ lv pc st := by
  obtain ⟨hd, rfl⟩ := hd
  intro p e s m args below meth c H locs ls C hP hS hl
  exact lv_sipush C.1 C.2.1 hd h (k p e s m args below meth c H locs _ C hP hS hl)
theorem j_lconst0 {g : Gl} {y : Mt} {F : Ex} {σ : Sg} {lv : List (Nat × Value)} {pc nx : Nat} {st : List Value} (hd : Dc y pc (.lconst 0) 1 nx) (k : jv g y F σ lv nx (vl 0 :: st)) : jv g y F σ lv pc st := by
  obtain ⟨hd, rfl⟩ := hd
  intro p e s m args below meth c H locs ls C hP hS hl
  exact lv_lconst C.1 C.2.1 hd rfl (k p e s m args below meth c H locs _ C hP hS hl)
theorem j_lconst1 {g : Gl} {y : Mt} {F : Ex} {σ : Sg} {lv : List (Nat × Value)} {pc nx : Nat} {st : List Value} (hd : Dc y pc (.lconst 1) 1 nx) (k : jv g y F σ lv nx (vl 1 :: st)) : jv g y F σ lv pc st := by
  obtain ⟨hd, rfl⟩ := hd
  intro p e s m args below meth c H locs ls C hP hS hl
  exact lv_lconst C.1 C.2.1 hd rfl (k p e s m args below meth c H locs _ C hP hS hl)
theorem j_ldc2 {g : Gl} {y : Mt} {F : Ex} {σ : Sg} {lv : List (Nat × Value)} {pc nx : Nat} {st : List Value} {ix : Nat} (a : Int) (hw : Cond.constantLong y.1.cls ix (kL a) ∈ tblG) (hd : Dc y pc (.ldc2_w ix) 3 nx) (k : jv g y F σ lv nx (vl a :: st)) : jv g y F σ lv pc st := by
  obtain ⟨hd, rfl⟩ := hd
  intro p e s m args below meth c H locs ls C hP hS hl
  exact lv_ldc2 C.1 C.2.1 C.2.2.2.2.1 (C.2.2.2.2.2.1 _ hw) hd (k p e s m args below meth c H locs _ C hP hS hl)
theorem j_iload_n {g : Gl} {y : Mt} {F : Ex} {σ : Sg} {lv : List (Nat × Value)} {pc nx : Nat} {st : List Value} {n : Fin 4} {x : Int} (hd : Dc y pc (.iload_n n) 1 nx) (hv : lv.lookup n.1 = some (vi x)) (k : jv g y F σ lv nx (vi x :: st)) : jv g y F σ lv pc st := by
  obtain ⟨hd, rfl⟩ := hd
  intro p e s m args below meth c H locs ls C hP hS hl
  exact lv_iload_n C.1 C.2.1 hd rfl (lk_at hl hv) (k p e s m args below meth c H locs _ C hP hS hl)
theorem j_iload {g : Gl} {y : Mt} {F : Ex} {σ : Sg} {lv : List (Nat × Value)} {pc nx : Nat} {st : List Value} {n : Nat} {x : Int} (hd : Dc y pc (.iload n) 2 nx) (hv : lv.lookup n = some (vi x)) (k : jv g y F σ lv nx (vi x :: st)) : jv g y F σ lv pc st := by
  obtain ⟨hd, rfl⟩ := hd
  intro p e s m args below meth c H locs ls C hP hS hl
  exact lv_iload C.1 C.2.1 hd (lk_at hl hv) (k p e s m args below meth c H locs _ C hP hS hl)
theorem j_istore_n {g : Gl} {y : Mt} {F : Ex} {σ : Sg} {lv : List (Nat × Value)} {pc nx : Nat} {st : List Value} {n : Fin 4} {x : Int} (hd : Dc y pc (.istore_n n) 1 nx) (hn : n.1 < y.2.2.1) (k : jv g y F σ (lst1 n.1 (vi x) lv) nx st) : jv g y F σ lv pc (vi x :: st) := by
  obtain ⟨hd, rfl⟩ := hd
  intro p e s m args below meth c H locs ls C hP hS hl
  exact lv_istore_n C.1 C.2.1 hd rfl hl hn rfl (fun ls hl => k p e s m args below meth c H locs _ C hP hS hl)
theorem j_istore {g : Gl} {y : Mt} {F : Ex} {σ : Sg} {lv : List (Nat × Value)} {pc nx : Nat} {st : List Value} {n : Nat} {x : Int} (hd : Dc y pc (.istore n) 2 nx) (hn : n < y.2.2.1) (k : jv g y F σ (lst1 n (vi x) lv) nx st) : jv g y F σ lv pc (vi x :: st) := by
  obtain ⟨hd, rfl⟩ := hd
  intro p e s m args below meth c H locs ls C hP hS hl
  exact lv_istore C.1 C.2.1 hd hl hn rfl (fun ls hl => k p e s m args below meth c H locs _ C hP hS hl)
theorem j_lload_n {g : Gl} {y : Mt} {F : Ex} {σ : Sg} {lv : List (Nat × Value)} {pc nx : Nat} {st : List Value} {n : Fin 4} {x : Int} (hd : Dc y pc (.lload_n n) 1 nx) (hv : lv.lookup n.1 = some (vl x)) (k : jv g y F σ lv nx (vl x :: st)) : jv g y F σ lv pc st := by
  obtain ⟨hd, rfl⟩ := hd
  intro p e s m args below meth c H locs ls C hP hS hl
  exact lv_lload_n C.1 C.2.1 hd rfl (lk_at hl hv) (k p e s m args below meth c H locs _ C hP hS hl)
theorem j_lload {g : Gl} {y : Mt} {F : Ex} {σ : Sg} {lv : List (Nat × Value)} {pc nx : Nat} {st : List Value} {n : Nat} {x : Int} (hd : Dc y pc (.lload n) 2 nx) (hv : lv.lookup n = some (vl x)) (k : jv g y F σ lv nx (vl x :: st)) : jv g y F σ lv pc st := by
  obtain ⟨hd, rfl⟩ := hd
  intro p e s m args below meth c H locs ls C hP hS hl
  exact lv_lload C.1 C.2.1 hd (lk_at hl hv) (k p e s m args below meth c H locs _ C hP hS hl)
theorem j_lstore_n {g : Gl} {y : Mt} {F : Ex} {σ : Sg} {lv : List (Nat × Value)} {pc nx : Nat} {st : List Value} {n : Fin 4} {x : Int} (hd : Dc y pc (.lstore_n n) 1 nx) (hn : n.1 + 1 < y.2.2.1) (k : jv g y F σ (lst2 n.1 (vl x) lv) nx st) : jv g y F σ lv pc (vl x :: st) := by
  obtain ⟨hd, rfl⟩ := hd
  intro p e s m args below meth c H locs ls C hP hS hl
  exact lv_lstore_n C.1 C.2.1 hd rfl hl hn rfl (fun ls hl => k p e s m args below meth c H locs _ C hP hS hl)
theorem j_lstore {g : Gl} {y : Mt} {F : Ex} {σ : Sg} {lv : List (Nat × Value)} {pc nx : Nat} {st : List Value} {n : Nat} {x : Int} (hd : Dc y pc (.lstore n) 2 nx) (hn : n + 1 < y.2.2.1) (k : jv g y F σ (lst2 n (vl x) lv) nx st) : jv g y F σ lv pc (vl x :: st) := by
  obtain ⟨hd, rfl⟩ := hd
  intro p e s m args below meth c H locs ls C hP hS hl
  exact lv_lstore C.1 C.2.1 hd hl hn rfl (fun ls hl => k p e s m args below meth c H locs _ C hP hS hl)
theorem j_aload_n {g : Gl} {y : Mt} {F : Ex} {σ : Sg} {lv : List (Nat × Value)} {pc nx : Nat} {st : List Value} {n : Fin 4} {x : Nat} (hd : Dc y pc (.aload_n n) 1 nx) (hv : lv.lookup n.1 = some (Value.ref x)) (k : jv g y F σ lv nx (Value.ref x :: st)) : jv g y F σ lv pc st := by
  obtain ⟨hd, rfl⟩ := hd
  intro p e s m args below meth c H locs ls C hP hS hl
  exact lv_aload_n C.1 C.2.1 hd rfl (lk_at hl hv) (k p e s m args below meth c H locs _ C hP hS hl)
theorem j_aload {g : Gl} {y : Mt} {F : Ex} {σ : Sg} {lv : List (Nat × Value)} {pc nx : Nat} {st : List Value} {n : Nat} {x : Nat} (hd : Dc y pc (.aload n) 2 nx) (hv : lv.lookup n = some (Value.ref x)) (k : jv g y F σ lv nx (Value.ref x :: st)) : jv g y F σ lv pc st := by
  obtain ⟨hd, rfl⟩ := hd
  intro p e s m args below meth c H locs ls C hP hS hl
  exact lv_aload C.1 C.2.1 hd (lk_at hl hv) (k p e s m args below meth c H locs _ C hP hS hl)
theorem j_astore_n {g : Gl} {y : Mt} {F : Ex} {σ : Sg} {lv : List (Nat × Value)} {pc nx : Nat} {st : List Value} {n : Fin 4} {x : Nat} (hd : Dc y pc (.astore_n n) 1 nx) (hn : n.1 < y.2.2.1) (k : jv g y F σ (lst1 n.1 (Value.ref x) lv) nx st) : jv g y F σ lv pc (Value.ref x :: st) := by
  obtain ⟨hd, rfl⟩ := hd
  intro p e s m args below meth c H locs ls C hP hS hl
  exact lv_astore_n C.1 C.2.1 hd rfl hl hn rfl (fun ls hl => k p e s m args below meth c H locs _ C hP hS hl)
theorem j_astore {g : Gl} {y : Mt} {F : Ex} {σ : Sg} {lv : List (Nat × Value)} {pc nx : Nat} {st : List Value} {n : Nat} {x : Nat} (hd : Dc y pc (.astore n) 2 nx) (hn : n < y.2.2.1) (k : jv g y F σ (lst1 n (Value.ref x) lv) nx st) : jv g y F σ lv pc (Value.ref x :: st) := by
  obtain ⟨hd, rfl⟩ := hd
  intro p e s m args below meth c H locs ls C hP hS hl
  exact lv_astore C.1 C.2.1 hd hl hn rfl (fun ls hl => k p e s m args below meth c H locs _ C hP hS hl)
theorem lk_ix {lv : List (Nat × Value)} {i : Nat} {v : Value} (h : lv.lookup i = some v) : ∃ k : Nat, lv[k]? = some (i, v) := by
  induction lv with
  | nil => cases h
  | cons q r ih =>
    obtain ⟨a, b⟩ := q
    rw [List.lookup_cons] at h
    by_cases hi : (i == a) = true
    · rw [hi] at h
      have hia : i = a := by simpa using hi
      cases h
      exact ⟨0, by rw [hia]; rfl⟩
    · have hi' : (i == a) = false := by simpa using hi
      rw [hi'] at h
      obtain ⟨k, hk⟩ := ih h
      exact ⟨k + 1, hk⟩
theorem j_iinc {g : Gl} {y : Mt} {F : Ex} {σ : Sg} {lv : List (Nat × Value)} {pc nx : Nat} {st : List Value} {n : Nat} {x a : Int} (hd : Dc y pc (.iinc n a) 3 nx) (hv : lv.lookup n = some (vi x)) (hn : n < y.2.2.1) (k : jv g y F σ (lst1 n (vi (x + a)) lv) nx st) : jv g y F σ lv pc st := by
  obtain ⟨hd, rfl⟩ := hd
  intro p e s m args below meth c H locs ls C hP hS hl
  obtain ⟨i, hi⟩ := lk_ix hv
  exact lv_iinc C.1 C.2.1 hd hl hi (Int32.ofInt_add x a).symm hn rfl (fun ls hl => k p e s m args below meth c H locs _ C hP hS hl)
theorem j_iadd {g : Gl} {y : Mt} {F : Ex} {σ : Sg} {lv : List (Nat × Value)} {pc nx : Nat} {st : List Value} {a b : Int} (hd : Dc y pc (.iadd) 1 nx) (k : jv g y F σ lv nx (vi (a + b) :: st)) : jv g y F σ lv pc (vi b :: vi a :: st) := by
  obtain ⟨hd, rfl⟩ := hd
  intro p e s m args below meth c H locs ls C hP hS hl
  refine lv_iadd C.1 C.2.1 hd ?_
  rw [show kI a + kI b = kI (a + b) from (Int32.ofInt_add a b).symm]
  exact k p e s m args below meth c H locs _ C hP hS hl
theorem j_isub {g : Gl} {y : Mt} {F : Ex} {σ : Sg} {lv : List (Nat × Value)} {pc nx : Nat} {st : List Value} {a b : Int} (hd : Dc y pc (.isub) 1 nx) (k : jv g y F σ lv nx (vi (a - b) :: st)) : jv g y F σ lv pc (vi b :: vi a :: st) := by
  obtain ⟨hd, rfl⟩ := hd
  intro p e s m args below meth c H locs ls C hP hS hl
  refine lv_isub C.1 C.2.1 hd ?_
  rw [show kI a - kI b = kI (a - b) from (Int32.ofInt_sub a b).symm]
  exact k p e s m args below meth c H locs _ C hP hS hl
theorem j_imul {g : Gl} {y : Mt} {F : Ex} {σ : Sg} {lv : List (Nat × Value)} {pc nx : Nat} {st : List Value} {a b : Int} (hd : Dc y pc (.imul) 1 nx) (k : jv g y F σ lv nx (vi (a * b) :: st)) : jv g y F σ lv pc (vi b :: vi a :: st) := by
  obtain ⟨hd, rfl⟩ := hd
  intro p e s m args below meth c H locs ls C hP hS hl
  refine lv_imul C.1 C.2.1 hd ?_
  rw [show kI a * kI b = kI (a * b) from (Int32.ofInt_mul a b).symm]
  exact k p e s m args below meth c H locs _ C hP hS hl
theorem j_ladd {g : Gl} {y : Mt} {F : Ex} {σ : Sg} {lv : List (Nat × Value)} {pc nx : Nat} {st : List Value} {a b : Int} (hd : Dc y pc (.ladd) 1 nx) (k : jv g y F σ lv nx (vl (a + b) :: st)) : jv g y F σ lv pc (vl b :: vl a :: st) := by
  obtain ⟨hd, rfl⟩ := hd
  intro p e s m args below meth c H locs ls C hP hS hl
  refine lv_ladd C.1 C.2.1 hd ?_
  rw [show kL a + kL b = kL (a + b) from (Int64.ofInt_add a b).symm]
  exact k p e s m args below meth c H locs _ C hP hS hl
theorem j_lsub {g : Gl} {y : Mt} {F : Ex} {σ : Sg} {lv : List (Nat × Value)} {pc nx : Nat} {st : List Value} {a b : Int} (hd : Dc y pc (.lsub) 1 nx) (k : jv g y F σ lv nx (vl (a - b) :: st)) : jv g y F σ lv pc (vl b :: vl a :: st) := by
  obtain ⟨hd, rfl⟩ := hd
  intro p e s m args below meth c H locs ls C hP hS hl
  refine lv_lsub C.1 C.2.1 hd ?_
  rw [show kL a - kL b = kL (a - b) from (Int64.ofInt_sub a b).symm]
  exact k p e s m args below meth c H locs _ C hP hS hl
theorem j_lmul {g : Gl} {y : Mt} {F : Ex} {σ : Sg} {lv : List (Nat × Value)} {pc nx : Nat} {st : List Value} {a b : Int} (hd : Dc y pc (.lmul) 1 nx) (k : jv g y F σ lv nx (vl (a * b) :: st)) : jv g y F σ lv pc (vl b :: vl a :: st) := by
  obtain ⟨hd, rfl⟩ := hd
  intro p e s m args below meth c H locs ls C hP hS hl
  refine lv_lmul C.1 C.2.1 hd ?_
  rw [show kL a * kL b = kL (a * b) from (Int64.ofInt_mul a b).symm]
  exact k p e s m args below meth c H locs _ C hP hS hl
theorem j_ineg {g : Gl} {y : Mt} {F : Ex} {σ : Sg} {lv : List (Nat × Value)} {pc nx : Nat} {st : List Value} {a : Int} (hd : Dc y pc (.ineg) 1 nx) (k : jv g y F σ lv nx (vi (-a) :: st)) : jv g y F σ lv pc (vi a :: st) := by
  obtain ⟨hd, rfl⟩ := hd
  intro p e s m args below meth c H locs ls C hP hS hl
  refine lv_ineg C.1 C.2.1 hd ?_
  rw [show - kI a = kI (-a) from (Int32.ofInt_neg a).symm]
  exact k p e s m args below meth c H locs _ C hP hS hl
theorem j_lneg {g : Gl} {y : Mt} {F : Ex} {σ : Sg} {lv : List (Nat × Value)} {pc nx : Nat} {st : List Value} {a : Int} (hd : Dc y pc (.lneg) 1 nx) (k : jv g y F σ lv nx (vl (-a) :: st)) : jv g y F σ lv pc (vl a :: st) := by
  obtain ⟨hd, rfl⟩ := hd
  intro p e s m args below meth c H locs ls C hP hS hl
  refine lv_lneg C.1 C.2.1 hd ?_
  rw [show - kL a = kL (-a) from (Int64.ofInt_neg a).symm]
  exact k p e s m args below meth c H locs _ C hP hS hl
theorem j_i2l {g : Gl} {y : Mt} {F : Ex} {σ : Sg} {lv : List (Nat × Value)} {pc nx : Nat} {st : List Value} {a : Int} (ha : -2147483648 ≤ a ∧ a ≤ 2147483647) (hd : Dc y pc (.i2l) 1 nx) (k : jv g y F σ lv nx (vl a :: st)) : jv g y F σ lv pc (vi a :: st) := by
  obtain ⟨hd, rfl⟩ := hd
  intro p e s m args below meth c H locs ls C hP hS hl
  exact lv_i2l C.1 C.2.1 hd (by show (kI a).toInt64 = kL a; rw [← Int64.ofInt_int32ToInt, kI_toInt ha.1 ha.2]; rfl) (k p e s m args below meth c H locs _ C hP hS hl)
theorem j_idiv {g : Gl} {y : Mt} {F : Ex} {σ : Sg} {lv : List (Nat × Value)} {pc nx : Nat} {st : List Value} {a b : Int} (h : -2147483648 ≤ a ∧ a ≤ 2147483647 ∧ -2147483648 ≤ b ∧ b ≤ 2147483647 ∧ b ≠ 0) (hd : Dc y pc (.idiv) 1 nx) (k : jv g y F σ lv nx (vi (Int.tdiv a b) :: st)) : jv g y F σ lv pc (vi b :: vi a :: st) := by
  obtain ⟨hd, rfl⟩ := hd
  intro p e s m args below meth c H locs ls C hP hS hl
  have hb : ¬ kI b = 0 := fun z => h.2.2.2.2 ((kI_eq (a := b) (b := 0) (by omega)).mp z)
  refine lv_idiv C.1 C.2.1 hd hb ?_
  rw [show kI a / kI b = kI (Int.tdiv a b) from (Int32.ofInt_tdiv (by show -2147483648 ≤ a; omega) (by show a ≤ 2147483647; omega) (by show -2147483648 ≤ b; omega) (by show b ≤ 2147483647; omega)).symm]
  exact k p e s m args below meth c H locs _ C hP hS hl
theorem j_irem {g : Gl} {y : Mt} {F : Ex} {σ : Sg} {lv : List (Nat × Value)} {pc nx : Nat} {st : List Value} {a b : Int} (h : -2147483648 ≤ a ∧ a ≤ 2147483647 ∧ -2147483648 ≤ b ∧ b ≤ 2147483647 ∧ b ≠ 0) (hd : Dc y pc (.irem) 1 nx) (k : jv g y F σ lv nx (vi (Int.tmod a b) :: st)) : jv g y F σ lv pc (vi b :: vi a :: st) := by
  obtain ⟨hd, rfl⟩ := hd
  intro p e s m args below meth c H locs ls C hP hS hl
  have hb : ¬ kI b = 0 := fun z => h.2.2.2.2 ((kI_eq (a := b) (b := 0) (by omega)).mp z)
  refine lv_irem C.1 C.2.1 hd hb ?_
  rw [show kI a / kI b = kI (Int.tdiv a b) from (Int32.ofInt_tdiv (by show -2147483648 ≤ a; omega) (by show a ≤ 2147483647; omega) (by show -2147483648 ≤ b; omega) (by show b ≤ 2147483647; omega)).symm, show kI (Int.tdiv a b) * kI b = kI (Int.tdiv a b * b) from (Int32.ofInt_mul _ _).symm, show kI a - kI (Int.tdiv a b * b) = kI (a - Int.tdiv a b * b) from (Int32.ofInt_sub _ _).symm, show a - Int.tdiv a b * b = Int.tmod a b from by rw [Int.tmod_def, Int.mul_comm]]
  exact k p e s m args below meth c H locs _ C hP hS hl
theorem j_ldiv {g : Gl} {y : Mt} {F : Ex} {σ : Sg} {lv : List (Nat × Value)} {pc nx : Nat} {st : List Value} {a b : Int} (h : -9223372036854775808 ≤ a ∧ a ≤ 9223372036854775807 ∧ -9223372036854775808 ≤ b ∧ b ≤ 9223372036854775807 ∧ b ≠ 0) (hd : Dc y pc (.ldiv) 1 nx) (k : jv g y F σ lv nx (vl (Int.tdiv a b) :: st)) : jv g y F σ lv pc (vl b :: vl a :: st) := by
  obtain ⟨hd, rfl⟩ := hd
  intro p e s m args below meth c H locs ls C hP hS hl
  have hb : ¬ kL b = 0 := fun z => h.2.2.2.2 ((kL_eq (a := b) (b := 0) (by omega)).mp z)
  refine lv_ldiv C.1 C.2.1 hd hb ?_
  rw [show kL a / kL b = kL (Int.tdiv a b) from (Int64.ofInt_tdiv (by show -9223372036854775808 ≤ a; omega) (by show a ≤ 9223372036854775807; omega) (by show -9223372036854775808 ≤ b; omega) (by show b ≤ 9223372036854775807; omega)).symm]
  exact k p e s m args below meth c H locs _ C hP hS hl
theorem j_lrem {g : Gl} {y : Mt} {F : Ex} {σ : Sg} {lv : List (Nat × Value)} {pc nx : Nat} {st : List Value} {a b : Int} (h : -9223372036854775808 ≤ a ∧ a ≤ 9223372036854775807 ∧ -9223372036854775808 ≤ b ∧ b ≤ 9223372036854775807 ∧ b ≠ 0) (hd : Dc y pc (.lrem) 1 nx) (k : jv g y F σ lv nx (vl (Int.tmod a b) :: st)) : jv g y F σ lv pc (vl b :: vl a :: st) := by
  obtain ⟨hd, rfl⟩ := hd
  intro p e s m args below meth c H locs ls C hP hS hl
  have hb : ¬ kL b = 0 := fun z => h.2.2.2.2 ((kL_eq (a := b) (b := 0) (by omega)).mp z)
  refine lv_lrem C.1 C.2.1 hd hb ?_
  rw [show kL a / kL b = kL (Int.tdiv a b) from (Int64.ofInt_tdiv (by show -9223372036854775808 ≤ a; omega) (by show a ≤ 9223372036854775807; omega) (by show -9223372036854775808 ≤ b; omega) (by show b ≤ 9223372036854775807; omega)).symm, show kL (Int.tdiv a b) * kL b = kL (Int.tdiv a b * b) from (Int64.ofInt_mul _ _).symm, show kL a - kL (Int.tdiv a b * b) = kL (a - Int.tdiv a b * b) from (Int64.ofInt_sub _ _).symm, show a - Int.tdiv a b * b = Int.tmod a b from by rw [Int.tmod_def, Int.mul_comm]]
  exact k p e s m args below meth c H locs _ C hP hS hl
theorem j_iand {g : Gl} {y : Mt} {F : Ex} {σ : Sg} {lv : List (Nat × Value)} {pc nx : Nat} {st : List Value} {a b v : Int} (h : kI a &&& kI b = kI v) (hd : Dc y pc (.iand) 1 nx) (k : jv g y F σ lv nx (vi v :: st)) : jv g y F σ lv pc (vi b :: vi a :: st) := by
  obtain ⟨hd, rfl⟩ := hd
  intro p e s m args below meth c H locs ls C hP hS hl
  refine lv_iand C.1 C.2.1 hd ?_
  rw [h]
  exact k p e s m args below meth c H locs _ C hP hS hl
theorem j_ior {g : Gl} {y : Mt} {F : Ex} {σ : Sg} {lv : List (Nat × Value)} {pc nx : Nat} {st : List Value} {a b v : Int} (h : kI a ||| kI b = kI v) (hd : Dc y pc (.ior) 1 nx) (k : jv g y F σ lv nx (vi v :: st)) : jv g y F σ lv pc (vi b :: vi a :: st) := by
  obtain ⟨hd, rfl⟩ := hd
  intro p e s m args below meth c H locs ls C hP hS hl
  refine lv_ior C.1 C.2.1 hd ?_
  rw [h]
  exact k p e s m args below meth c H locs _ C hP hS hl
theorem j_ishl {g : Gl} {y : Mt} {F : Ex} {σ : Sg} {lv : List (Nat × Value)} {pc nx : Nat} {st : List Value} {a b v : Int} (h : kI a <<< (kI b &&& 31) = kI v) (hd : Dc y pc (.ishl) 1 nx) (k : jv g y F σ lv nx (vi v :: st)) : jv g y F σ lv pc (vi b :: vi a :: st) := by
  obtain ⟨hd, rfl⟩ := hd
  intro p e s m args below meth c H locs ls C hP hS hl
  refine lv_ishl C.1 C.2.1 hd ?_
  rw [h]
  exact k p e s m args below meth c H locs _ C hP hS hl
theorem j_ishr {g : Gl} {y : Mt} {F : Ex} {σ : Sg} {lv : List (Nat × Value)} {pc nx : Nat} {st : List Value} {a b v : Int} (h : kI a >>> (kI b &&& 31) = kI v) (hd : Dc y pc (.ishr) 1 nx) (k : jv g y F σ lv nx (vi v :: st)) : jv g y F σ lv pc (vi b :: vi a :: st) := by
  obtain ⟨hd, rfl⟩ := hd
  intro p e s m args below meth c H locs ls C hP hS hl
  refine lv_ishr C.1 C.2.1 hd ?_
  rw [h]
  exact k p e s m args below meth c H locs _ C hP hS hl
theorem j_dup {g : Gl} {y : Mt} {F : Ex} {σ : Sg} {lv : List (Nat × Value)} {pc nx : Nat} {st : List Value} {v : Value} (hc : v.category = 1) (hd : Dc y pc (.dup) 1 nx) (k : jv g y F σ lv nx (v :: v :: st)) : jv g y F σ lv pc (v :: st) := by
  obtain ⟨hd, rfl⟩ := hd
  intro p e s m args below meth c H locs ls C hP hS hl
  exact lv_dup C.1 C.2.1 hd hc (k p e s m args below meth c H locs _ C hP hS hl)
theorem j_dup2 {g : Gl} {y : Mt} {F : Ex} {σ : Sg} {lv : List (Nat × Value)} {pc nx : Nat} {st : List Value} {v w : Value} (hc : v.category = 1) (hc2 : w.category = 1) (hd : Dc y pc (.dup2) 1 nx) (k : jv g y F σ lv nx (v :: w :: v :: w :: st)) : jv g y F σ lv pc (v :: w :: st) := by
  obtain ⟨hd, rfl⟩ := hd
  intro p e s m args below meth c H locs ls C hP hS hl
  exact lv_dup2_11 C.1 C.2.1 hd hc hc2 (k p e s m args below meth c H locs _ C hP hS hl)
theorem j_icmp_lt {g : Gl} {y : Mt} {F : Ex} {σ : Sg} {lv : List (Nat × Value)} {pc nx tgt : Nat} {st : List Value} {a b : Int} (hd : Dj y pc (.if_icmp .lt) nx tgt) (h : -2147483648 ≤ a ∧ a ≤ 2147483647 ∧ -2147483648 ≤ b ∧ b ≤ 2147483647) (kt : a < b → jv g y F σ lv tgt st) (kf : ¬ a < b → jv g y F σ lv nx st) : jv g y F σ lv pc (vi b :: vi a :: st) := by
  obtain ⟨off, hd, rfl, ht⟩ := hd
  intro p e s m args below meth c H locs ls C hP hS hl
  have hx := kI_lt h
  exact lv_icmp_lt C.1 C.2.1 hd ht (fun z => (fun h9 => kt h9 p e s m args below meth c H locs _ C hP hS hl) (hx.mp z)) (fun z => (fun h9 => kf h9 p e s m args below meth c H locs _ C hP hS hl) (fun q => z (hx.mpr q)))
theorem j_icmp_ge {g : Gl} {y : Mt} {F : Ex} {σ : Sg} {lv : List (Nat × Value)} {pc nx tgt : Nat} {st : List Value} {a b : Int} (hd : Dj y pc (.if_icmp .ge) nx tgt) (h : -2147483648 ≤ a ∧ a ≤ 2147483647 ∧ -2147483648 ≤ b ∧ b ≤ 2147483647) (kt : b ≤ a → jv g y F σ lv tgt st) (kf : ¬ b ≤ a → jv g y F σ lv nx st) : jv g y F σ lv pc (vi b :: vi a :: st) := by
  obtain ⟨off, hd, rfl, ht⟩ := hd
  intro p e s m args below meth c H locs ls C hP hS hl
  have hx := kI_le ⟨h.2.2.1, h.2.2.2, h.1, h.2.1⟩
  exact lv_icmp_ge C.1 C.2.1 hd ht (fun z => (fun h9 => kt h9 p e s m args below meth c H locs _ C hP hS hl) (hx.mp z)) (fun z => (fun h9 => kf h9 p e s m args below meth c H locs _ C hP hS hl) (fun q => z (hx.mpr q)))
theorem j_icmp_gt {g : Gl} {y : Mt} {F : Ex} {σ : Sg} {lv : List (Nat × Value)} {pc nx tgt : Nat} {st : List Value} {a b : Int} (hd : Dj y pc (.if_icmp .gt) nx tgt) (h : -2147483648 ≤ a ∧ a ≤ 2147483647 ∧ -2147483648 ≤ b ∧ b ≤ 2147483647) (kt : b < a → jv g y F σ lv tgt st) (kf : ¬ b < a → jv g y F σ lv nx st) : jv g y F σ lv pc (vi b :: vi a :: st) := by
  obtain ⟨off, hd, rfl, ht⟩ := hd
  intro p e s m args below meth c H locs ls C hP hS hl
  have hx := kI_lt ⟨h.2.2.1, h.2.2.2, h.1, h.2.1⟩
  exact lv_icmp_gt C.1 C.2.1 hd ht (fun z => (fun h9 => kt h9 p e s m args below meth c H locs _ C hP hS hl) (hx.mp z)) (fun z => (fun h9 => kf h9 p e s m args below meth c H locs _ C hP hS hl) (fun q => z (hx.mpr q)))
theorem j_icmp_le {g : Gl} {y : Mt} {F : Ex} {σ : Sg} {lv : List (Nat × Value)} {pc nx tgt : Nat} {st : List Value} {a b : Int} (hd : Dj y pc (.if_icmp .le) nx tgt) (h : -2147483648 ≤ a ∧ a ≤ 2147483647 ∧ -2147483648 ≤ b ∧ b ≤ 2147483647) (kt : a ≤ b → jv g y F σ lv tgt st) (kf : ¬ a ≤ b → jv g y F σ lv nx st) : jv g y F σ lv pc (vi b :: vi a :: st) := by
  obtain ⟨off, hd, rfl, ht⟩ := hd
  intro p e s m args below meth c H locs ls C hP hS hl
  have hx := kI_le h
  exact lv_icmp_le C.1 C.2.1 hd ht (fun z => (fun h9 => kt h9 p e s m args below meth c H locs _ C hP hS hl) (hx.mp z)) (fun z => (fun h9 => kf h9 p e s m args below meth c H locs _ C hP hS hl) (fun q => z (hx.mpr q)))
theorem j_icmp_eq {g : Gl} {y : Mt} {F : Ex} {σ : Sg} {lv : List (Nat × Value)} {pc nx tgt : Nat} {st : List Value} {a b : Int} (hd : Dj y pc (.if_icmp .eq) nx tgt) (h : -2147483648 ≤ a ∧ a ≤ 2147483647 ∧ -2147483648 ≤ b ∧ b ≤ 2147483647) (kt : a = b → jv g y F σ lv tgt st) (kf : ¬ a = b → jv g y F σ lv nx st) : jv g y F σ lv pc (vi b :: vi a :: st) := by
  obtain ⟨off, hd, rfl, ht⟩ := hd
  intro p e s m args below meth c H locs ls C hP hS hl
  have hx := kI_eq h
  exact lv_icmp_eq C.1 C.2.1 hd ht (fun z => (fun h9 => kt h9 p e s m args below meth c H locs _ C hP hS hl) (hx.mp z)) (fun z => (fun h9 => kf h9 p e s m args below meth c H locs _ C hP hS hl) (fun q => z (hx.mpr q)))
theorem j_icmp_ne {g : Gl} {y : Mt} {F : Ex} {σ : Sg} {lv : List (Nat × Value)} {pc nx tgt : Nat} {st : List Value} {a b : Int} (hd : Dj y pc (.if_icmp .ne) nx tgt) (h : -2147483648 ≤ a ∧ a ≤ 2147483647 ∧ -2147483648 ≤ b ∧ b ≤ 2147483647) (kt : ¬ a = b → jv g y F σ lv tgt st) (kf : a = b → jv g y F σ lv nx st) : jv g y F σ lv pc (vi b :: vi a :: st) := by
  obtain ⟨off, hd, rfl, ht⟩ := hd
  intro p e s m args below meth c H locs ls C hP hS hl
  refine lv_icmp_ne C.1 C.2.1 hd ht (fun z => ?_) (fun z => ?_)
  · have h9 : ¬ a = b := fun q => z ((kI_eq h).mpr q)
    exact kt h9 p e s m args below meth c H locs _ C hP hS hl
  · have h9 : a = b := (kI_eq h).mp z
    exact kf h9 p e s m args below meth c H locs _ C hP hS hl
theorem j_if_lt {g : Gl} {y : Mt} {F : Ex} {σ : Sg} {lv : List (Nat × Value)} {pc nx tgt : Nat} {st : List Value} {a : Int} (hd : Dj y pc (.ifCond .lt) nx tgt) (h : -2147483648 ≤ a ∧ a ≤ 2147483647) (kt : a < 0 → jv g y F σ lv tgt st) (kf : ¬ a < 0 → jv g y F σ lv nx st) : jv g y F σ lv pc (vi a :: st) := by
  obtain ⟨off, hd, rfl, ht⟩ := hd
  intro p e s m args below meth c H locs ls C hP hS hl
  have hx := kI_lt (a := a) (b := 0) (by omega)
  exact lv_if_lt C.1 C.2.1 hd ht (fun z => (fun h9 => kt h9 p e s m args below meth c H locs _ C hP hS hl) (hx.mp z)) (fun z => (fun h9 => kf h9 p e s m args below meth c H locs _ C hP hS hl) (fun q => z (hx.mpr q)))
theorem j_if_ge {g : Gl} {y : Mt} {F : Ex} {σ : Sg} {lv : List (Nat × Value)} {pc nx tgt : Nat} {st : List Value} {a : Int} (hd : Dj y pc (.ifCond .ge) nx tgt) (h : -2147483648 ≤ a ∧ a ≤ 2147483647) (kt : 0 ≤ a → jv g y F σ lv tgt st) (kf : ¬ 0 ≤ a → jv g y F σ lv nx st) : jv g y F σ lv pc (vi a :: st) := by
  obtain ⟨off, hd, rfl, ht⟩ := hd
  intro p e s m args below meth c H locs ls C hP hS hl
  have hx := kI_le (a := 0) (b := a) (by omega)
  exact lv_if_ge C.1 C.2.1 hd ht (fun z => (fun h9 => kt h9 p e s m args below meth c H locs _ C hP hS hl) (hx.mp z)) (fun z => (fun h9 => kf h9 p e s m args below meth c H locs _ C hP hS hl) (fun q => z (hx.mpr q)))
theorem j_if_gt {g : Gl} {y : Mt} {F : Ex} {σ : Sg} {lv : List (Nat × Value)} {pc nx tgt : Nat} {st : List Value} {a : Int} (hd : Dj y pc (.ifCond .gt) nx tgt) (h : -2147483648 ≤ a ∧ a ≤ 2147483647) (kt : 0 < a → jv g y F σ lv tgt st) (kf : ¬ 0 < a → jv g y F σ lv nx st) : jv g y F σ lv pc (vi a :: st) := by
  obtain ⟨off, hd, rfl, ht⟩ := hd
  intro p e s m args below meth c H locs ls C hP hS hl
  have hx := kI_lt (a := 0) (b := a) (by omega)
  exact lv_if_gt C.1 C.2.1 hd ht (fun z => (fun h9 => kt h9 p e s m args below meth c H locs _ C hP hS hl) (hx.mp z)) (fun z => (fun h9 => kf h9 p e s m args below meth c H locs _ C hP hS hl) (fun q => z (hx.mpr q)))
theorem j_if_le {g : Gl} {y : Mt} {F : Ex} {σ : Sg} {lv : List (Nat × Value)} {pc nx tgt : Nat} {st : List Value} {a : Int} (hd : Dj y pc (.ifCond .le) nx tgt) (h : -2147483648 ≤ a ∧ a ≤ 2147483647) (kt : a ≤ 0 → jv g y F σ lv tgt st) (kf : ¬ a ≤ 0 → jv g y F σ lv nx st) : jv g y F σ lv pc (vi a :: st) := by
  obtain ⟨off, hd, rfl, ht⟩ := hd
  intro p e s m args below meth c H locs ls C hP hS hl
  have hx := kI_le (a := a) (b := 0) (by omega)
  exact lv_if_le C.1 C.2.1 hd ht (fun z => (fun h9 => kt h9 p e s m args below meth c H locs _ C hP hS hl) (hx.mp z)) (fun z => (fun h9 => kf h9 p e s m args below meth c H locs _ C hP hS hl) (fun q => z (hx.mpr q)))
theorem j_if_eq {g : Gl} {y : Mt} {F : Ex} {σ : Sg} {lv : List (Nat × Value)} {pc nx tgt : Nat} {st : List Value} {a : Int} (hd : Dj y pc (.ifCond .eq) nx tgt) (h : -2147483648 ≤ a ∧ a ≤ 2147483647) (kt : a = 0 → jv g y F σ lv tgt st) (kf : ¬ a = 0 → jv g y F σ lv nx st) : jv g y F σ lv pc (vi a :: st) := by
  obtain ⟨off, hd, rfl, ht⟩ := hd
  intro p e s m args below meth c H locs ls C hP hS hl
  have hx := kI_eq (a := a) (b := 0) (by omega)
  exact lv_if_eq C.1 C.2.1 hd ht (fun z => (fun h9 => kt h9 p e s m args below meth c H locs _ C hP hS hl) (hx.mp z)) (fun z => (fun h9 => kf h9 p e s m args below meth c H locs _ C hP hS hl) (fun q => z (hx.mpr q)))
theorem j_if_ne {g : Gl} {y : Mt} {F : Ex} {σ : Sg} {lv : List (Nat × Value)} {pc nx tgt : Nat} {st : List Value} {a : Int} (hd : Dj y pc (.ifCond .ne) nx tgt) (h : -2147483648 ≤ a ∧ a ≤ 2147483647) (kt : ¬ a = 0 → jv g y F σ lv tgt st) (kf : a = 0 → jv g y F σ lv nx st) : jv g y F σ lv pc (vi a :: st) := by
  obtain ⟨off, hd, rfl, ht⟩ := hd
  intro p e s m args below meth c H locs ls C hP hS hl
  have hx := kI_eq (a := a) (b := 0) (by omega)
  refine lv_if_ne C.1 C.2.1 hd ht (fun z => ?_) (fun z => ?_)
  · have h9 : ¬ a = 0 := fun q => z (hx.mpr q)
    exact kt h9 p e s m args below meth c H locs _ C hP hS hl
  · have h9 : a = 0 := hx.mp z
    exact kf h9 p e s m args below meth c H locs _ C hP hS hl
theorem j_ifeq_0 {g : Gl} {y : Mt} {F : Ex} {σ : Sg} {lv : List (Nat × Value)} {pc nx tgt : Nat} {st : List Value} (hd : Dj y pc (.ifCond .eq) nx tgt) (k : jv g y F σ lv tgt st) : jv g y F σ lv pc (vi 0 :: st) := j_if_eq hd (by omega) (fun _ => k) (fun z => absurd rfl z)
theorem j_ifeq_1 {g : Gl} {y : Mt} {F : Ex} {σ : Sg} {lv : List (Nat × Value)} {pc nx tgt : Nat} {st : List Value} (hd : Dj y pc (.ifCond .eq) nx tgt) (k : jv g y F σ lv nx st) : jv g y F σ lv pc (vi 1 :: st) := j_if_eq hd (by omega) (fun z => absurd z (by decide)) (fun _ => k)
theorem j_ifne_0 {g : Gl} {y : Mt} {F : Ex} {σ : Sg} {lv : List (Nat × Value)} {pc nx tgt : Nat} {st : List Value} (hd : Dj y pc (.ifCond .ne) nx tgt) (k : jv g y F σ lv nx st) : jv g y F σ lv pc (vi 0 :: st) := j_if_ne hd (by omega) (fun z => absurd rfl z) (fun _ => k)
theorem j_ifne_1 {g : Gl} {y : Mt} {F : Ex} {σ : Sg} {lv : List (Nat × Value)} {pc nx tgt : Nat} {st : List Value} (hd : Dj y pc (.ifCond .ne) nx tgt) (k : jv g y F σ lv tgt st) : jv g y F σ lv pc (vi 1 :: st) := j_if_ne hd (by omega) (fun _ => k) (fun z => absurd z (by decide))
theorem j_goto {g : Gl} {y : Mt} {F : Ex} {σ : Sg} {lv : List (Nat × Value)} {pc nx tgt : Nat} {st : List Value} (hd : Dj y pc .goto nx tgt) (k : jv g y F σ lv tgt st) : jv g y F σ lv pc st := by
  obtain ⟨off, hd, rfl, ht⟩ := hd
  intro p e s m args below meth c H locs ls C hP hS hl
  exact lv_goto C.1 C.2.1 hd ht (k p e s m args below meth c H locs _ C hP hS hl)
def sg3 (a b : Int) : Int := if b < a then 1 else if a = b then 0 else -1
theorem kL_cmp {a b : Int} (h : -9223372036854775808 ≤ a ∧ a ≤ 9223372036854775807 ∧ -9223372036854775808 ≤ b ∧ b ≤ 9223372036854775807) : lg_cmp (kL a) (kL b) = kI (sg3 a b) := by
  have h1 := kL_lt h
  have h2 := kL_lt (a := b) (b := a) ⟨h.2.2.1, h.2.2.2, h.1, h.2.1⟩
  have h3 := kL_eq h
  unfold lg_cmp sg3
  by_cases q1 : b < a
  · have q2 : ¬ a < b := by omega
    have q3 : ¬ a = b := by omega
    simp [h1, h2, h3, q1, q2, q3, kI] <;> rfl
  · by_cases q2 : a = b
    · have q3 : ¬ a < b := by omega
      simp [h1, h2, h3, q1, q2, q3, kI] <;> rfl
    · have q3 : a < b := by omega
      simp [h1, h2, h3, q1, q2, q3, kI] <;> rfl
theorem j_lcmp {g : Gl} {y : Mt} {F : Ex} {σ : Sg} {lv : List (Nat × Value)} {pc nx : Nat} {st : List Value} {a b : Int} (h : -9223372036854775808 ≤ a ∧ a ≤ 9223372036854775807 ∧ -9223372036854775808 ≤ b ∧ b ≤ 9223372036854775807) (hd : Dc y pc (.lcmp) 1 nx) (k : jv g y F σ lv nx (vi (sg3 a b) :: st)) : jv g y F σ lv pc (vl b :: vl a :: st) := by
  obtain ⟨hd, rfl⟩ := hd
  intro p e s m args below meth c H locs ls C hP hS hl
  refine W.lcmp C.1 C.2.1 hd ?_
  rw [kL_cmp h]
  exact k p e s m args below meth c H locs _ C hP hS hl
