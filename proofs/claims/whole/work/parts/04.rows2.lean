theorem lay_small : (lay.all fun q => q.2.all fun n => decide (n ≤ 1000)) = true := by decide +kernel
theorem lay_n {k t n : Nat} {r : List Nat} (h : lay[k]? = some (t, n :: r)) : n ≤ 2147483647 := by
  have h1 := List.all_eq_true.mp lay_small _ (List.mem_of_getElem? h)
  have h2 := List.all_eq_true.mp h1 n List.mem_cons_self
  have h3 : n ≤ 1000 := by simpa using h2
  omega
/-- a field's link and its class's tables: to read it -/
def Gf (own : String) (ix ci j : Nat) (ji : Int) : Prop := ∃ (C : String) (T : u_T) (N : Nat), vwCl[ci]? = some (C, T, N) ∧ (∀ w ∈ u_ws C T N, w ∈ tblG) ∧ j < N ∧ Cond.fieldLink own ix (T j).1 (T j).2.1 (T j).2.2.1 ∈ tblG ∧ (j : Int) = ji
/-- and to write it -/
def Pf (own : String) (ix ci j : Nat) (ji : Int) (ty : FieldType) : Prop := ∃ (C : String) (T : u_T) (N : Nat) (ty0 : Nat → FieldType), vwCl[ci]? = some (C, T, N) ∧ (∀ w ∈ u_ws C T N, w ∈ tblG) ∧ j < N ∧ Cond.fieldLink own ix (T j).1 (T j).2.1 (T j).2.2.1 ∈ tblG ∧ (j : Int) = ji ∧ (∀ k, k < N → parseFieldDescriptor (T k).2.2.1 = some (ty0 k)) ∧ (∀ a, a < N → ∀ b, b < N → a ≠ b → (T a).2.1 ≠ (T b).2.1) ∧ (T j).2.2.2 = false ∧ ty0 j = ty
theorem fvs_at {g : Gl} {f : Int → Int} {cs : List Nat} {j c : Nat} (h : cs[j]? = some c) : (cs.mapIdx (fun j c => fv g f j c))[j]? = some (fv g f j c) := by
  simp [List.getElem?_mapIdx, h]
theorem fv_up {g : Gl} {f : Int → Int} {j i c : Nat} {v : Int} (h : i ≠ j) : fv g (up1 f j v) i c = fv g f i c := by
  have h2 : up1 f j v i = f i := up1_ne (by omega)
  match c with
  | 0 => show Value.int (kI (up1 f j v i)) = _; rw [h2]; rfl
  | 1 => show Value.long (kL (up1 f j v i)) = _; rw [h2]; rfl
  | c + 2 => rfl
theorem fvs_set {g : Gl} {f : Int → Int} {cs : List Nat} {j c : Nat} {v : Int} (h : cs[j]? = some c) : (cs.mapIdx (fun j c => fv g f j c)).set j (fv g (up1 f j v) j c) = cs.mapIdx (fun i c => fv g (up1 f j v) i c) := by
  apply List.ext_getElem?
  intro i
  by_cases hi : i = j
  · subst hi
    rw [fvs_at h, List.getElem?_set_self (List.getElem?_eq_some_iff.mp (fvs_at (g := g) (f := f) h)).1]
  · rw [List.getElem?_set_ne (Ne.symm hi)]
    simp only [List.getElem?_mapIdx]
    cases hq : cs[i]? with
    | none => rfl
    | some r => simp only [Option.map_some]; rw [fv_up hi]
theorem wsO_up {g : Gl} {σ : Sg} {k j ci c : Nat} {cs : List Nat} {v : Int} (h : lay[k]? = some (0, ci :: cs)) (hj : cs[j]? = some c) : (wsO g σ).set k (ga g k, .inr (ci, (cs.mapIdx (fun j c => fv g (σ k) j c)).set j (fv g (up1 (σ k) j v) j c))) = wsO g (up σ k j v) := by
  refine wsO_set h ?_ (fun i hi => up_ne hi)
  rw [up_same, fvs_set hj]
  rfl
theorem j_getI {g : Gl} {y : Mt} {F : Ex} {σ : Sg} {lv : List (Nat × Value)} {pc nx : Nat} {st : List Value} {k ci ix j : Nat} {ji : Int} {cs : List Nat} (h : Gf y.1.cls ix ci j ji) (hq : lay[k]? = some (0, ci :: cs)) (hj : cs[j]? = some (0)) (hd : Dc y pc (.getfield ix) 3 nx) (kk : jv g y F σ lv nx (vi (σ k ji) :: st)) : jv g y F σ lv pc (vr g k :: st) := by
  obtain ⟨C0, T, N, h1, h2, h3, h4, rfl⟩ := h
  obtain ⟨hd, rfl⟩ := hd
  intro p e s m args below meth c H locs ls C hP hS hl
  exact va_get C.1 C.2.1 C.2.2.2.2.2.1 h2 C.2.2.2.2.1 C.2.2.2.2.2.2.2.1 hP _ (wsO_at hq) h1 j h3 (C.2.2.2.2.2.1 _ h4) (fun _ z => z) (fvs_at hj) hd (kk p e s m args below meth c H locs _ C hP hS hl)
theorem j_getL {g : Gl} {y : Mt} {F : Ex} {σ : Sg} {lv : List (Nat × Value)} {pc nx : Nat} {st : List Value} {k ci ix j : Nat} {ji : Int} {cs : List Nat} (h : Gf y.1.cls ix ci j ji) (hq : lay[k]? = some (0, ci :: cs)) (hj : cs[j]? = some (1)) (hd : Dc y pc (.getfield ix) 3 nx) (kk : jv g y F σ lv nx (vl (σ k ji) :: st)) : jv g y F σ lv pc (vr g k :: st) := by
  obtain ⟨C0, T, N, h1, h2, h3, h4, rfl⟩ := h
  obtain ⟨hd, rfl⟩ := hd
  intro p e s m args below meth c H locs ls C hP hS hl
  exact va_get C.1 C.2.1 C.2.2.2.2.2.1 h2 C.2.2.2.2.1 C.2.2.2.2.2.2.2.1 hP _ (wsO_at hq) h1 j h3 (C.2.2.2.2.2.1 _ h4) (fun _ z => z) (fvs_at hj) hd (kk p e s m args below meth c H locs _ C hP hS hl)
theorem j_getR {g : Gl} {y : Mt} {F : Ex} {σ : Sg} {lv : List (Nat × Value)} {pc nx : Nat} {st : List Value} {k ci ix j : Nat} {ji : Int} {cs : List Nat} {c : Nat} (h : Gf y.1.cls ix ci j ji) (hq : lay[k]? = some (0, ci :: cs)) (hj : cs[j]? = some (c + 2)) (hd : Dc y pc (.getfield ix) 3 nx) (kk : jv g y F σ lv nx (vr g c :: st)) : jv g y F σ lv pc (vr g k :: st) := by
  obtain ⟨C0, T, N, h1, h2, h3, h4, rfl⟩ := h
  obtain ⟨hd, rfl⟩ := hd
  intro p e s m args below meth c H locs ls C hP hS hl
  exact va_get C.1 C.2.1 C.2.2.2.2.2.1 h2 C.2.2.2.2.1 C.2.2.2.2.2.2.2.1 hP _ (wsO_at hq) h1 j h3 (C.2.2.2.2.2.1 _ h4) (fun _ z => z) (fvs_at hj) hd (kk p e s m args below meth c H locs _ C hP hS hl)
theorem j_putI {g : Gl} {y : Mt} {F : Ex} {σ : Sg} {lv : List (Nat × Value)} {pc nx : Nat} {st : List Value} {k ci ix j : Nat} {ji v : Int} {cs : List Nat} (h : Pf y.1.cls ix ci j ji .int) (hq : lay[k]? = some (0, ci :: cs)) (hj : cs[j]? = some 0) (hd : Dc y pc (.putfield ix) 3 nx) (kk : jv g y F (up σ k ji v) lv nx st) : jv g y F σ lv pc (vi v :: vr g k :: st) := by
  obtain ⟨C0, T, N, ty0, h1, h2, h3, h4, rfl, h5, h6, h7, h8⟩ := h
  obtain ⟨hd, rfl⟩ := hd
  intro p e s m args below meth c H locs ls C hP hS hl
  have hDD := wsO_D (g := g) (σ := σ) C.2.2.2.2.2.2.2.2.1 C.2.2.2.2.2.2.2.2.2.2.1
  refine va_put C.1 C.2.1 C.2.2.2.2.2.1 h2 ty0 h5 h6 C.2.2.2.2.1 C.2.2.2.2.2.2.2.1 hP hDD hS _ (wsO_at hq) h1 j h3 (C.2.2.2.2.2.1 _ h4) (fun _ z => z) h7 (by rw [h5 j h3, h8]) rfl rfl (by simpa using (List.getElem?_eq_some_iff.mp hj).1) hd (fun H1 locs1 hP1 _ hS1 => ?_)
  have e1 : (.int (kI v) : Value) = fv g (up1 (σ k) j v) j 0 := by show _ = Value.int (kI (up1 (σ k) j v j)); rw [up1_same]
  have hP2 : va_P g.2.1 vwCl (wsO g (up σ k j v)) H1 := by
    rw [← wsO_up hq hj, ← e1]
    exact hP1
  exact kk p e s m args below meth c H1 locs1 _ C hP2 hS1 hl
theorem j_putL {g : Gl} {y : Mt} {F : Ex} {σ : Sg} {lv : List (Nat × Value)} {pc nx : Nat} {st : List Value} {k ci ix j : Nat} {ji v : Int} {cs : List Nat} (h : Pf y.1.cls ix ci j ji .long) (hq : lay[k]? = some (0, ci :: cs)) (hj : cs[j]? = some 1) (hd : Dc y pc (.putfield ix) 3 nx) (kk : jv g y F (up σ k ji v) lv nx st) : jv g y F σ lv pc (vl v :: vr g k :: st) := by
  obtain ⟨C0, T, N, ty0, h1, h2, h3, h4, rfl, h5, h6, h7, h8⟩ := h
  obtain ⟨hd, rfl⟩ := hd
  intro p e s m args below meth c H locs ls C hP hS hl
  have hDD := wsO_D (g := g) (σ := σ) C.2.2.2.2.2.2.2.2.1 C.2.2.2.2.2.2.2.2.2.2.1
  refine va_put C.1 C.2.1 C.2.2.2.2.2.1 h2 ty0 h5 h6 C.2.2.2.2.1 C.2.2.2.2.2.2.2.1 hP hDD hS _ (wsO_at hq) h1 j h3 (C.2.2.2.2.2.1 _ h4) (fun _ z => z) h7 (by rw [h5 j h3, h8]) rfl rfl (by simpa using (List.getElem?_eq_some_iff.mp hj).1) hd (fun H1 locs1 hP1 _ hS1 => ?_)
  have e1 : (.long (kL v) : Value) = fv g (up1 (σ k) j v) j 1 := by show _ = Value.long (kL (up1 (σ k) j v j)); rw [up1_same]
  have hP2 : va_P g.2.1 vwCl (wsO g (up σ k j v)) H1 := by
    rw [← wsO_up hq hj, ← e1]
    exact hP1
  exact kk p e s m args below meth c H1 locs1 _ C hP2 hS1 hl
theorem j_putZ {g : Gl} {y : Mt} {F : Ex} {σ : Sg} {lv : List (Nat × Value)} {pc nx : Nat} {st : List Value} {k ci ix j : Nat} {ji v : Int} {cs : List Nat} (hv : v = 0 ∨ v = 1) (h : Pf y.1.cls ix ci j ji .boolean) (hq : lay[k]? = some (0, ci :: cs)) (hj : cs[j]? = some 0) (hd : Dc y pc (.putfield ix) 3 nx) (kk : jv g y F (up σ k ji v) lv nx st) : jv g y F σ lv pc (vi v :: vr g k :: st) := by
  obtain ⟨C0, T, N, ty0, h1, h2, h3, h4, rfl, h5, h6, h7, h8⟩ := h
  obtain ⟨hd, rfl⟩ := hd
  intro p e s m args below meth c H locs ls C hP hS hl
  have hDD := wsO_D (g := g) (σ := σ) C.2.2.2.2.2.2.2.2.1 C.2.2.2.2.2.2.2.2.2.2.1
  refine va_put C.1 C.2.1 C.2.2.2.2.2.1 h2 ty0 h5 h6 C.2.2.2.2.1 C.2.2.2.2.2.2.2.1 hP hDD hS _ (wsO_at hq) h1 j h3 (C.2.2.2.2.2.1 _ h4) (fun _ z => z) h7 (by rw [h5 j h3, h8]) (by rcases hv with rfl | rfl <;> decide) (by rcases hv with rfl | rfl <;> decide) (by simpa using (List.getElem?_eq_some_iff.mp hj).1) hd (fun H1 locs1 hP1 _ hS1 => ?_)
  have e1 : (.int (kI v) : Value) = fv g (up1 (σ k) j v) j 0 := by show _ = Value.int (kI (up1 (σ k) j v j)); rw [up1_same]
  have hP2 : va_P g.2.1 vwCl (wsO g (up σ k j v)) H1 := by
    rw [← wsO_up hq hj, ← e1]
    exact hP1
  exact kk p e s m args below meth c H1 locs1 _ C hP2 hS1 hl
theorem ar_I {f : Int → Int} {i x : Int} {n : Nat} (h : ((n : Nat) : Int) = i) : upd (fun j : Nat => kI (f j)) n (kI x) = fun j : Nat => kI (up1 f i x j) := by
  funext j
  unfold upd up1
  by_cases hj : j = n
  · subst hj; rw [if_pos rfl, if_pos h]
  · rw [if_neg hj, if_neg (by omega)]
theorem ar_L {f : Int → Int} {i x : Int} {n : Nat} (h : ((n : Nat) : Int) = i) : vp_updL (fun j : Nat => kL (f j)) n (kL x) = fun j : Nat => kL (up1 f i x j) := by
  funext j
  unfold vp_updL up1
  by_cases hj : j = n
  · subst hj; rw [if_pos rfl, if_pos h]
  · rw [if_neg hj, if_neg (by omega)]
theorem j_iald {g : Gl} {y : Mt} {F : Ex} {σ : Sg} {lv : List (Nat × Value)} {pc nx : Nat} {st : List Value} {k n : Nat} {i : Int} (hq : lay[k]? = some (1, [n])) (hi : 0 ≤ i ∧ i < (n : Int)) (hd : Dc y pc (.iaload) 1 nx) (kk : jv g y F σ lv nx (vi (σ k i) :: st)) : jv g y F σ lv pc (vi i :: vr g k :: st) := by
  obtain ⟨hd, rfl⟩ := hd
  intro p e s m args below meth c H locs ls C hP hS hl
  obtain ⟨h1, h2⟩ := kI_clamp hi (lay_n hq)
  refine va_iald C.1 C.2.1 C.2.2.2.2.2.2.2.1 hP _ 0 (wsO_at hq) rfl h1 hd ?_
  try dsimp only
  rw [h2]
  exact kk p e s m args below meth c H locs _ C hP hS hl
theorem j_iast {g : Gl} {y : Mt} {F : Ex} {σ : Sg} {lv : List (Nat × Value)} {pc nx : Nat} {st : List Value} {k n : Nat} {i x : Int} (hq : lay[k]? = some (1, [n])) (hi : 0 ≤ i ∧ i < (n : Int)) (hd : Dc y pc (.iastore) 1 nx) (kk : jv g y F (up σ k i x) lv nx st) : jv g y F σ lv pc (vi x :: vi i :: vr g k :: st) := by
  obtain ⟨hd, rfl⟩ := hd
  intro p e s m args below meth c H locs ls C hP hS hl
  obtain ⟨h1, h2⟩ := kI_clamp hi (lay_n hq)
  have hDD := wsO_D (g := g) (σ := σ) C.2.2.2.2.2.2.2.2.1 C.2.2.2.2.2.2.2.2.2.2.1
  refine va_iast C.1 C.2.1 C.2.2.2.2.2.2.2.1 hP hDD hS _ 0 (wsO_at hq) rfl h1 hd (fun H1 locs1 hP1 _ hS1 => ?_)
  have e2 := wsO_set (g := g) (σ := σ) (σ' := up σ k i x) (E := .inl (g.2.2.2.1 0, n, .inl (upd (fun j : Nat => kI (σ k j)) (kI i).toNatClampNeg (kI x)))) hq (by rw [up_same, ar_I h2]; rfl) (fun j hj => up_ne hj)
  have hP2 : va_P g.2.1 vwCl (wsO g (up σ k i x)) H1 := by
    rw [← e2]
    exact hP1
  exact kk p e s m args below meth c H1 locs1 _ C hP2 hS1 hl
theorem j_lald {g : Gl} {y : Mt} {F : Ex} {σ : Sg} {lv : List (Nat × Value)} {pc nx : Nat} {st : List Value} {k n : Nat} {i : Int} (hq : lay[k]? = some (2, [n])) (hi : 0 ≤ i ∧ i < (n : Int)) (hd : Dc y pc (.laload) 1 nx) (kk : jv g y F σ lv nx (vl (σ k i) :: st)) : jv g y F σ lv pc (vi i :: vr g k :: st) := by
  obtain ⟨hd, rfl⟩ := hd
  intro p e s m args below meth c H locs ls C hP hS hl
  obtain ⟨h1, h2⟩ := kI_clamp hi (lay_n hq)
  refine va_lald C.1 C.2.1 C.2.2.2.2.2.2.2.1 hP _ 1 (wsO_at hq) rfl h1 hd ?_
  try dsimp only
  rw [h2]
  exact kk p e s m args below meth c H locs _ C hP hS hl
theorem j_last {g : Gl} {y : Mt} {F : Ex} {σ : Sg} {lv : List (Nat × Value)} {pc nx : Nat} {st : List Value} {k n : Nat} {i x : Int} (hq : lay[k]? = some (2, [n])) (hi : 0 ≤ i ∧ i < (n : Int)) (hd : Dc y pc (.lastore) 1 nx) (kk : jv g y F (up σ k i x) lv nx st) : jv g y F σ lv pc (vl x :: vi i :: vr g k :: st) := by
  obtain ⟨hd, rfl⟩ := hd
  intro p e s m args below meth c H locs ls C hP hS hl
  obtain ⟨h1, h2⟩ := kI_clamp hi (lay_n hq)
  have hDD := wsO_D (g := g) (σ := σ) C.2.2.2.2.2.2.2.2.1 C.2.2.2.2.2.2.2.2.2.2.1
  refine va_last C.1 C.2.1 C.2.2.2.2.2.2.2.1 hP hDD hS _ 1 (wsO_at hq) rfl h1 hd (fun H1 locs1 hP1 _ hS1 => ?_)
  have e2 := wsO_set (g := g) (σ := σ) (σ' := up σ k i x) (E := .inl (g.2.2.2.1 1, n, .inr <| .inl (vp_updL (fun j : Nat => kL (σ k j)) (kI i).toNatClampNeg (kL x)))) hq (by rw [up_same, ar_L h2]; rfl) (fun j hj => up_ne hj)
  have hP2 : va_P g.2.1 vwCl (wsO g (up σ k i x)) H1 := by
    rw [← e2]
    exact hP1
  exact kk p e s m args below meth c H1 locs1 _ C hP2 hS1 hl
theorem j_zald {g : Gl} {y : Mt} {F : Ex} {σ : Sg} {lv : List (Nat × Value)} {pc nx : Nat} {st : List Value} {k n : Nat} {i : Int} (hq : lay[k]? = some (3, [n])) (hi : 0 ≤ i ∧ i < (n : Int)) (hd : Dc y pc (.baload) 1 nx) (kk : jv g y F σ lv nx (vi (σ k i) :: st)) : jv g y F σ lv pc (vi i :: vr g k :: st) := by
  obtain ⟨hd, rfl⟩ := hd
  intro p e s m args below meth c H locs ls C hP hS hl
  obtain ⟨h1, h2⟩ := kI_clamp hi (lay_n hq)
  refine va_zald C.1 C.2.1 C.2.2.2.2.2.2.2.1 hP _ 2 (wsO_at hq) rfl h1 hd ?_
  try dsimp only
  rw [h2]
  exact kk p e s m args below meth c H locs _ C hP hS hl
theorem j_zast {g : Gl} {y : Mt} {F : Ex} {σ : Sg} {lv : List (Nat × Value)} {pc nx : Nat} {st : List Value} {k n : Nat} {i x : Int} (hv : x = 0 ∨ x = 1) (hq : lay[k]? = some (3, [n])) (hi : 0 ≤ i ∧ i < (n : Int)) (hd : Dc y pc (.bastore) 1 nx) (kk : jv g y F (up σ k i x) lv nx st) : jv g y F σ lv pc (vi x :: vi i :: vr g k :: st) := by
  obtain ⟨hd, rfl⟩ := hd
  intro p e s m args below meth c H locs ls C hP hS hl
  obtain ⟨h1, h2⟩ := kI_clamp hi (lay_n hq)
  have hDD := wsO_D (g := g) (σ := σ) C.2.2.2.2.2.2.2.2.1 C.2.2.2.2.2.2.2.2.2.2.1
  refine va_zast C.1 C.2.1 C.2.2.2.2.2.2.2.1 hP hDD hS _ 2 (wsO_at hq) rfl h1 hd (fun H1 locs1 hP1 _ hS1 => ?_)
  rw [show vp_nar .boolean (kI x) = kI x from by rcases hv with rfl | rfl <;> decide] at hP1
  have e2 := wsO_set (g := g) (σ := σ) (σ' := up σ k i x) (E := .inl (g.2.2.2.1 2, n, .inl (upd (fun j : Nat => kI (σ k j)) (kI i).toNatClampNeg (kI x)))) hq (by rw [up_same, ar_I h2]; rfl) (fun j hj => up_ne hj)
  have hP2 : va_P g.2.1 vwCl (wsO g (up σ k i x)) H1 := by
    rw [← e2]
    exact hP1
  exact kk p e s m args below meth c H1 locs1 _ C hP2 hS1 hl
theorem j_alen {g : Gl} {y : Mt} {F : Ex} {σ : Sg} {lv : List (Nat × Value)} {pc nx : Nat} {st : List Value} {k t n : Nat} (ht : t = 1 ∨ t = 2) (hq : lay[k]? = some (t, [n])) (hd : Dc y pc (.arraylength) 1 nx) (kk : jv g y F σ lv nx (vi (n : Int) :: st)) : jv g y F σ lv pc (vr g k :: st) := by
  obtain ⟨hd, rfl⟩ := hd
  intro p e s m args below meth c H locs ls C hP hS hl
  rcases ht with rfl | rfl
  · exact va_alen C.1 C.2.1 C.2.2.2.2.2.2.2.1 hP _ 0 (wsO_at hq) rfl (by rw [← Int32.ofInt_eq_ofNat]; rfl) hd (kk p e s m args below meth c H locs _ C hP hS hl)
  · exact va_alen C.1 C.2.1 C.2.2.2.2.2.2.2.1 hP _ 1 (wsO_at hq) rfl (by rw [← Int32.ofInt_eq_ofNat]; rfl) hd (kk p e s m args below meth c H locs _ C hP hS hl)
theorem j_alenR {g : Gl} {y : Mt} {F : Ex} {σ : Sg} {lv : List (Nat × Value)} {pc nx : Nat} {st : List Value} {k : Nat} {cs : List Nat} (hq : lay[k]? = some (4, cs)) (hd : Dc y pc (.arraylength) 1 nx) (kk : jv g y F σ lv nx (vi (cs.length : Int) :: st)) : jv g y F σ lv pc (vr g k :: st) := by
  obtain ⟨hd, rfl⟩ := hd
  intro p e s m args below meth c H locs ls C hP hS hl
  exact va_alen C.1 C.2.1 C.2.2.2.2.2.2.2.1 hP _ 3 (wsO_at hq) rfl (by rw [← Int32.ofInt_eq_ofNat]; rfl) hd (kk p e s m args below meth c H locs _ C hP hS hl)
theorem j_aald {g : Gl} {y : Mt} {F : Ex} {σ : Sg} {lv : List (Nat × Value)} {pc nx : Nat} {st : List Value} {k r : Nat} {i : Int} {cs : List Nat} (hq : lay[k]? = some (4, cs)) (hi : 0 ≤ i ∧ i < (cs.length : Int)) (hr : cs[i.toNat]? = some r) (hd : Dc y pc (.aaload) 1 nx) (kk : jv g y F σ lv nx (vr g r :: st)) : jv g y F σ lv pc (vi i :: vr g k :: st) := by
  obtain ⟨hd, rfl⟩ := hd
  intro p e s m args below meth c H locs ls C hP hS hl
  have hc : cs.length ≤ 2147483647 := by
    have h1 : (lay.all fun q => decide (q.2.length ≤ 1000)) = true := by decide +kernel
    have h2 := List.all_eq_true.mp h1 _ (List.mem_of_getElem? hq)
    have h3 : cs.length ≤ 1000 := by simpa using h2
    omega
  obtain ⟨h1, h2⟩ := kI_clamp hi hc
  refine va_aldq C.1 C.2.1 C.2.2.2.2.2.2.2.1 hP _ 3 (wsO_at hq) rfl h1 hd ?_
  rw [show (kI i).toNatClampNeg = i.toNat from by omega, hr]
  exact kk p e s m args below meth c H locs _ C hP hS hl
theorem j_ways {g : Gl} {y : Mt} {F : Ex} {σ : Sg} {lv : List (Nat × Value)} {pc nx : Nat} {st : List Value} (ho : y.1.cls = "ControlSigns$Row") (hd : Dc y pc (.getstatic 80) 3 nx) (kk : jv g y F σ lv nx (.ref g.2.2.2.2.2 :: st)) : jv g y F σ lv pc st := by
  obtain ⟨hd, rfl⟩ := hd
  intro p e s m args below meth c H locs ls C hP hS hl
  have hE := C.2.2.2.2.2.2.2.2.2.1
  have ho2 := C.2.2.2.2.1
  rw [ho] at ho2
  exact va_getsN C.1 C.2.1 hE.1 hS ho2 (va_Nw.use rfl hE.2.2.2.2.2.2) (fun _ z => z) hd (kk p e s m args below meth c H locs _ C hP hS hl)
theorem j_wlen {g : Gl} {y : Mt} {F : Ex} {σ : Sg} {lv : List (Nat × Value)} {pc nx : Nat} {st : List Value} (hd : Dc y pc (.arraylength) 1 nx) (kk : jv g y F σ lv nx (vi 64 :: st)) : jv g y F σ lv pc (.ref g.2.2.2.2.2 :: st) := by
  obtain ⟨hd, rfl⟩ := hd
  intro p e s m args below meth c H locs ls C hP hS hl
  exact va_tlen C.1 C.2.1 C.2.2.2.2.2.2.2.2.2.1.2.1 hS rfl hd (kk p e s m args below meth c H locs _ C hP hS hl)
theorem j_wald {g : Gl} {y : Mt} {F : Ex} {σ : Sg} {lv : List (Nat × Value)} {pc nx : Nat} {st : List Value} {i : Int} (hi : 0 ≤ i ∧ i < 64) (hd : Dc y pc (.iaload) 1 nx) (kk : jv g y F σ lv nx (vi (waysL.getD i.toNat 0) :: st)) : jv g y F σ lv pc (vi i :: .ref g.2.2.2.2.2 :: st) := by
  obtain ⟨hd, rfl⟩ := hd
  intro p e s m args below meth c H locs ls C hP hS hl
  obtain ⟨h1, h2⟩ := kI_clamp (n := 64) hi (by decide)
  exact va_ti C.1 C.2.1 C.2.2.2.2.2.2.2.2.2.1.2.1 hS h1 (by rw [show (kI i).toNatClampNeg = i.toNat from by omega]) hd (kk p e s m args below meth c H locs _ C hP hS hl)
theorem j_slen {g : Gl} {y : Mt} {F : Ex} {σ : Sg} {lv : List (Nat × Value)} {pc nx : Nat} {st : List Value} (hd : Dc y pc (.arraylength) 1 nx) (kk : jv g y F σ lv nx (vi (g.2.2.2.2.1.2.1 : Int) :: st)) : jv g y F σ lv pc (.ref g.2.2.2.2.1.1 :: st) := by
  obtain ⟨hd, rfl⟩ := hd
  intro p e s m args below meth c H locs ls C hP hS hl
  have hE := C.2.2.2.2.2.2.2.2.2.1
  refine va_slen C.1 C.2.1 hE.2.2.1 hE.2.2.2.1 hE.2.2.2.2.1 hS hd ?_
  rw [← Int32.ofInt_eq_ofNat]
  exact kk p e s m args below meth c H locs _ C hP hS hl
theorem j_sald {g : Gl} {y : Mt} {F : Ex} {σ : Sg} {lv : List (Nat × Value)} {pc nx : Nat} {st : List Value} {i : Int} (hL : g.2.2.2.2.1.2.1 ≤ 2147483647) (hi : 0 ≤ i ∧ i < (g.2.2.2.2.1.2.1 : Int)) (hd : Dc y pc (.iaload) 1 nx) (kk : jv g y F σ lv nx (vi (g.2.2.2.2.1.2.2 i.toNat).toInt :: st)) : jv g y F σ lv pc (vi i :: .ref g.2.2.2.2.1.1 :: st) := by
  obtain ⟨hd, rfl⟩ := hd
  intro p e s m args below meth c H locs ls C hP hS hl
  have hE := C.2.2.2.2.2.2.2.2.2.1
  obtain ⟨h1, h2⟩ := kI_clamp hi hL
  refine va_sld C.1 C.2.1 hE.2.2.1 hE.2.2.2.1 hE.2.2.2.2.1 hS h1 hd ?_
  rw [show (kI i).toNatClampNeg = i.toNat from by omega, ← kI_of (g.2.2.2.2.1.2.2 i.toNat)]
  exact kk p e s m args below meth c H locs _ C hP hS hl
theorem j_minI {g : Gl} {y : Mt} {F : Ex} {σ : Sg} {lv : List (Nat × Value)} {pc nx : Nat} {st : List Value} {ix : Nat} {a b : Int} (h : -2147483648 ≤ a ∧ a ≤ 2147483647 ∧ -2147483648 ≤ b ∧ b ≤ 2147483647) (hw : Cond.methodLink y.1.cls ix Lib.Math.min.name ∈ tblG ∧ Cond.static Lib.Math.min.name ∈ tblG ∧ Cond.initialized "java/lang/Math" ∈ tblG ∧ Cond.code Lib.Math.min.name Lib.Math.min.code 2 (some .int) ∈ tblG) (hf : 1 ≤ y.2.2.2.2.frames) (hlo : (st.map fun v => v.category).sum + 13 ≤ y.2.2.2.2.locals) (hd : Dc y pc (.invokestatic ix) 3 nx) (kk : jv g y F σ lv nx (vi (if b < a then b else a) :: st)) : jv g y F σ lv pc (vi b :: vi a :: st) := by
  obtain ⟨hd, rfl⟩ := hd
  intro p e s m args below meth c H locs ls C hP hS hl
  have hT := C.2.2.2.2.2.1
  refine va_mmin C.1 C.2.1 (C.2.2.1.trans hl.1.symm) C.2.2.2.2.1 (hT _ hw.1) (hT _ hw.2.1) (hT _ hw.2.2.1) (hT _ hw.2.2.2) hf hlo C.2.2.2.2.2.2.2.2.2.2.2.1 C.2.2.2.2.2.2.2.2.2.2.2.2 hd ?_
  have e1 : (if kI b < kI a then kI b else kI a) = kI (if b < a then b else a) := by
    have hx := kI_lt (a := b) (b := a) (by omega)
    by_cases q : b < a
    · rw [if_pos (hx.mpr q), if_pos q]
    · rw [if_neg (fun z => q (hx.mp z)), if_neg q]
  rw [e1]
  exact kk p e s m args below meth c H locs _ C hP hS hl
theorem j_minL {g : Gl} {y : Mt} {F : Ex} {σ : Sg} {lv : List (Nat × Value)} {pc nx : Nat} {st : List Value} {ix : Nat} {a b : Int} (h : -9223372036854775808 ≤ a ∧ a ≤ 9223372036854775807 ∧ -9223372036854775808 ≤ b ∧ b ≤ 9223372036854775807) (hw : Cond.methodLink y.1.cls ix Lib.MathLoose.min_long.x ∈ tblG ∧ Cond.static Lib.MathLoose.min_long.x ∈ tblG ∧ Cond.initialized "java/lang/Math" ∈ tblG ∧ Cond.code Lib.MathLoose.min_long.x Lib.MathLoose.min_long.code 4 (some .long) ∈ tblG) (hf : 1 ≤ y.2.2.2.2.frames) (hlo : (st.map fun v => v.category).sum + 15 ≤ y.2.2.2.2.locals) (hd : Dc y pc (.invokestatic ix) 3 nx) (kk : jv g y F σ lv nx (vl (if b < a then b else a) :: st)) : jv g y F σ lv pc (vl b :: vl a :: st) := by
  obtain ⟨hd, rfl⟩ := hd
  intro p e s m args below meth c H locs ls C hP hS hl
  have hT := C.2.2.2.2.2.1
  refine va_mmin_long C.1 C.2.1 (C.2.2.1.trans hl.1.symm) C.2.2.2.2.1 (hT _ hw.1) (hT _ hw.2.1) (hT _ hw.2.2.1) (hT _ hw.2.2.2) hf hlo C.2.2.2.2.2.2.2.2.2.2.2.1 C.2.2.2.2.2.2.2.2.2.2.2.2 hd ?_
  have e1 : (if kL b < kL a then kL b else kL a) = kL (if b < a then b else a) := by
    have hx := kL_lt (a := b) (b := a) (by omega)
    by_cases q : b < a
    · rw [if_pos (hx.mpr q), if_pos q]
    · rw [if_neg (fun z => q (hx.mp z)), if_neg q]
  rw [e1]
  exact kk p e s m args below meth c H locs _ C hP hS hl
theorem j_absL {g : Gl} {y : Mt} {F : Ex} {σ : Sg} {lv : List (Nat × Value)} {pc nx : Nat} {st : List Value} {ix : Nat} {a : Int} (h : -9223372036854775808 ≤ a ∧ a ≤ 9223372036854775807) (hw : Cond.methodLink y.1.cls ix Lib.MathLoose.abs_long.x ∈ tblG ∧ Cond.static Lib.MathLoose.abs_long.x ∈ tblG ∧ Cond.initialized "java/lang/Math" ∈ tblG ∧ Cond.code Lib.MathLoose.abs_long.x Lib.MathLoose.abs_long.code 2 (some .long) ∈ tblG) (hf : 1 ≤ y.2.2.2.2.frames) (hlo : (st.map fun v => v.category).sum + 13 ≤ y.2.2.2.2.locals) (hd : Dc y pc (.invokestatic ix) 3 nx) (kk : jv g y F σ lv nx (vl (if 0 < a then a else -a) :: st)) : jv g y F σ lv pc (vl a :: st) := by
  obtain ⟨hd, rfl⟩ := hd
  intro p e s m args below meth c H locs ls C hP hS hl
  have hT := C.2.2.2.2.2.1
  refine va_mabs_long C.1 C.2.1 (C.2.2.1.trans hl.1.symm) C.2.2.2.2.1 (hT _ hw.1) (hT _ hw.2.1) (hT _ hw.2.2.1) (hT _ hw.2.2.2) hf hlo C.2.2.2.2.2.2.2.2.2.2.2.1 C.2.2.2.2.2.2.2.2.2.2.2.2 hd ?_
  have e1 : (if 0 < kL a then kL a else - kL a) = kL (if 0 < a then a else -a) := by
    have hx : (0 : Int64) < kL a ↔ 0 < a := kL_lt (a := 0) (b := a) (by omega)
    by_cases q : 0 < a
    · rw [if_pos (hx.mpr q), if_pos q]
    · rw [if_neg (fun z => q (hx.mp z)), if_neg q]
      exact (Int64.ofInt_neg a).symm
  rw [e1]
  exact kk p e s m args below meth c H locs _ C hP hS hl
def cp1 (f h : Int → Int) (sp dp n : Int) : Int → Int := fun i => if dp ≤ i ∧ i < dp + n then f (sp + (i - dp)) else h i
def cpy (σ : Sg) (k0 : Nat) (sp : Int) (k1 : Nat) (dp n : Int) : Sg := fun k => if k = k1 then cp1 (σ k0) (σ k1) sp dp n else σ k
theorem j_copyI {g : Gl} {y : Mt} {F : Ex} {σ : Sg} {lv : List (Nat × Value)} {pc nx : Nat} {st : List Value} {ix k0 k1 n0 n1 : Nat} {sp dp n : Int} (hq0 : lay[k0]? = some (1, [n0])) (hq1 : lay[k1]? = some (1, [n1])) (h : 0 ≤ sp ∧ 0 ≤ dp ∧ 0 ≤ n ∧ sp + n ≤ (n0 : Int) ∧ dp + n ≤ (n1 : Int)) (hw : Cond.methodLink y.1.cls ix arraycopyName ∈ tblG ∧ Cond.native arraycopyName ∈ tblG ∧ Cond.static arraycopyName ∈ tblG ∧ Cond.initialized "java/lang/System" ∈ tblG) (hf : 1 ≤ y.2.2.2.2.frames) (hlo : (st.map fun v => v.category).sum + (nativeFrameWords "java/lang/System" "arraycopy" 5 + 11) ≤ y.2.2.2.2.locals) (hd : Dc y pc (.invokestatic ix) 3 nx) (kk : jv g y F (cpy σ k0 sp k1 dp n) lv nx st) : jv g y F σ lv pc (vi n :: vi dp :: vr g k1 :: vi sp :: vr g k0 :: st) := by
  obtain ⟨hd, rfl⟩ := hd
  intro p e s m args below meth c H locs ls C hP hS hl
  have hT := C.2.2.2.2.2.1
  have m0 := lay_n hq0
  have m1 := lay_n hq1
  have cl : ∀ i : Int, 0 ≤ i → i ≤ 2147483647 → ¬ kI i < 0 ∧ (((kI i).toNatClampNeg : Nat) : Int) = i := by
    intro i a b
    have h1 : (kI i).toInt = i := kI_toInt (by omega) (by omega)
    refine ⟨fun z => ?_, ?_⟩
    · have := (kI_lt (a := i) (b := 0) (by omega)).mp z
      omega
    · show (((kI i).toInt.toNat : Nat) : Int) = i
      rw [h1]
      omega
  obtain ⟨a1, a2⟩ := cl sp (by omega) (by omega)
  obtain ⟨b1, b2⟩ := cl dp (by omega) (by omega)
  obtain ⟨c1, c2⟩ := cl n (by omega) (by omega)
  have hDD := wsO_D (g := g) (σ := σ) C.2.2.2.2.2.2.2.2.1 C.2.2.2.2.2.2.2.2.2.2.1
  refine va_copyi C.1 C.2.1 (C.2.2.1.trans hl.1.symm) C.2.2.2.2.1 (hT _ hw.1) (hT _ hw.2.1) (hT _ hw.2.2.1) (hT _ hw.2.2.2) C.2.2.2.2.2.2.2.1 hP hDD hS _ _ 0 0 (wsO_at hq0) (wsO_at hq1) rfl rfl rfl a1 b1 c1 (by show (kI sp).toNatClampNeg + (kI n).toNatClampNeg ≤ n0; omega) (by show (kI dp).toNatClampNeg + (kI n).toNatClampNeg ≤ n1; omega) (fun i _ => rfl) hf hlo hd (fun H1 locs1 hP1 _ hS1 => ?_)
  have e1 : va_cpy (fun j : Nat => kI (σ k0 j)) (fun j : Nat => kI (σ k1 j)) (kI sp).toNatClampNeg (kI dp).toNatClampNeg (kI n).toNatClampNeg = fun j : Nat => kI (cp1 (σ k0) (σ k1) sp dp n j) := by
    funext j
    unfold va_cpy cp1
    by_cases q : dp ≤ (j : Int) ∧ (j : Int) < dp + n
    · rw [if_pos q, if_pos (by omega)]
      show kI (σ k0 (((kI sp).toNatClampNeg + (j - (kI dp).toNatClampNeg) : Nat) : Int)) = _
      rw [show (((kI sp).toNatClampNeg + (j - (kI dp).toNatClampNeg) : Nat) : Int) = sp + ((j : Int) - dp) from by omega]
    · rw [if_neg q, if_neg (by omega)]
  have e3 : cpy σ k0 sp k1 dp n k1 = cp1 (σ k0) (σ k1) sp dp n := if_pos rfl
  have e2 := wsO_set (g := g) (σ := σ) (σ' := cpy σ k0 sp k1 dp n) (E := .inl (g.2.2.2.1 0, n1, .inl (va_cpy (fun j : Nat => kI (σ k0 j)) (fun j : Nat => kI (σ k1 j)) (kI sp).toNatClampNeg (kI dp).toNatClampNeg (kI n).toNatClampNeg))) hq1 (by rw [e3, e1]; rfl) (fun j hj => if_neg hj)
  have hP2 : va_P g.2.1 vwCl (wsO g (cpy σ k0 sp k1 dp n)) H1 := by
    rw [← e2]
    exact hP1
  exact kk p e s m args below meth c H1 locs1 _ C hP2 hS1 hl
theorem j_copyL {g : Gl} {y : Mt} {F : Ex} {σ : Sg} {lv : List (Nat × Value)} {pc nx : Nat} {st : List Value} {ix k0 k1 n0 n1 : Nat} {sp dp n : Int} (hq0 : lay[k0]? = some (2, [n0])) (hq1 : lay[k1]? = some (2, [n1])) (h : 0 ≤ sp ∧ 0 ≤ dp ∧ 0 ≤ n ∧ sp + n ≤ (n0 : Int) ∧ dp + n ≤ (n1 : Int)) (hw : Cond.methodLink y.1.cls ix arraycopyName ∈ tblG ∧ Cond.native arraycopyName ∈ tblG ∧ Cond.static arraycopyName ∈ tblG ∧ Cond.initialized "java/lang/System" ∈ tblG) (hf : 1 ≤ y.2.2.2.2.frames) (hlo : (st.map fun v => v.category).sum + (nativeFrameWords "java/lang/System" "arraycopy" 5 + 11) ≤ y.2.2.2.2.locals) (hd : Dc y pc (.invokestatic ix) 3 nx) (kk : jv g y F (cpy σ k0 sp k1 dp n) lv nx st) : jv g y F σ lv pc (vi n :: vi dp :: vr g k1 :: vi sp :: vr g k0 :: st) := by
  obtain ⟨hd, rfl⟩ := hd
  intro p e s m args below meth c H locs ls C hP hS hl
  have hT := C.2.2.2.2.2.1
  have m0 := lay_n hq0
  have m1 := lay_n hq1
  have cl : ∀ i : Int, 0 ≤ i → i ≤ 2147483647 → ¬ kI i < 0 ∧ (((kI i).toNatClampNeg : Nat) : Int) = i := by
    intro i a b
    have h1 : (kI i).toInt = i := kI_toInt (by omega) (by omega)
    refine ⟨fun z => ?_, ?_⟩
    · have := (kI_lt (a := i) (b := 0) (by omega)).mp z
      omega
    · show (((kI i).toInt.toNat : Nat) : Int) = i
      rw [h1]
      omega
  obtain ⟨a1, a2⟩ := cl sp (by omega) (by omega)
  obtain ⟨b1, b2⟩ := cl dp (by omega) (by omega)
  obtain ⟨c1, c2⟩ := cl n (by omega) (by omega)
  have hDD := wsO_D (g := g) (σ := σ) C.2.2.2.2.2.2.2.2.1 C.2.2.2.2.2.2.2.2.2.2.1
  refine va_copyl C.1 C.2.1 (C.2.2.1.trans hl.1.symm) C.2.2.2.2.1 (hT _ hw.1) (hT _ hw.2.1) (hT _ hw.2.2.1) (hT _ hw.2.2.2) C.2.2.2.2.2.2.2.1 hP hDD hS _ _ 1 1 (wsO_at hq0) (wsO_at hq1) rfl rfl rfl a1 b1 c1 (by show (kI sp).toNatClampNeg + (kI n).toNatClampNeg ≤ n0; omega) (by show (kI dp).toNatClampNeg + (kI n).toNatClampNeg ≤ n1; omega) (fun i _ => rfl) hf hlo hd (fun H1 locs1 hP1 _ hS1 => ?_)
  have e1 : va_cpy (fun j : Nat => kL (σ k0 j)) (fun j : Nat => kL (σ k1 j)) (kI sp).toNatClampNeg (kI dp).toNatClampNeg (kI n).toNatClampNeg = fun j : Nat => kL (cp1 (σ k0) (σ k1) sp dp n j) := by
    funext j
    unfold va_cpy cp1
    by_cases q : dp ≤ (j : Int) ∧ (j : Int) < dp + n
    · rw [if_pos q, if_pos (by omega)]
      show kL (σ k0 (((kI sp).toNatClampNeg + (j - (kI dp).toNatClampNeg) : Nat) : Int)) = _
      rw [show (((kI sp).toNatClampNeg + (j - (kI dp).toNatClampNeg) : Nat) : Int) = sp + ((j : Int) - dp) from by omega]
    · rw [if_neg q, if_neg (by omega)]
  have e3 : cpy σ k0 sp k1 dp n k1 = cp1 (σ k0) (σ k1) sp dp n := if_pos rfl
  have e2 := wsO_set (g := g) (σ := σ) (σ' := cpy σ k0 sp k1 dp n) (E := .inl (g.2.2.2.1 1, n1, .inr <| .inl (va_cpy (fun j : Nat => kL (σ k0 j)) (fun j : Nat => kL (σ k1 j)) (kI sp).toNatClampNeg (kI dp).toNatClampNeg (kI n).toNatClampNeg))) hq1 (by rw [e3, e1]; rfl) (fun j hj => if_neg hj)
  have hP2 : va_P g.2.1 vwCl (wsO g (cpy σ k0 sp k1 dp n)) H1 := by
    rw [← e2]
    exact hP1
  exact kk p e s m args below meth c H1 locs1 _ C hP2 hS1 hl
def PI (P : Int → Sg → Prop) : Option Value → Sg → Prop := fun r σ' => ∃ v : Int, r = some (vi v) ∧ P v σ'
def PL (P : Int → Sg → Prop) : Option Value → Sg → Prop := fun r σ' => ∃ v : Int, r = some (vl v) ∧ P v σ'
def PV (P : Sg → Prop) : Option Value → Sg → Prop := fun r σ' => r = none ∧ P σ'
def PR (g : Gl) (k : Nat) (σ : Sg) : Option Value → Sg → Prop := fun r σ' => r = some (vr g k) ∧ σ' = σ
abbrev PE (e : Int) (σ : Sg) : Option Value → Sg → Prop := PI (fun v σ' => v = e ∧ σ' = σ)
abbrev PEL (e : Int) (σ : Sg) : Option Value → Sg → Prop := PL (fun v σ' => v = e ∧ σ' = σ)
abbrev PB (P : Prop) (σ : Sg) : Option Value → Sg → Prop := PI (fun v σ' => σ' = σ ∧ (P ∧ v = 1 ∨ ¬ P ∧ v = 0))
abbrev PBs (P : Prop) (σ : Sg) (τ : Sg) : Option Value → Sg → Prop := PI (fun v σ' => (P ∧ v = 1 ∧ σ' = σ) ∨ (¬ P ∧ v = 0 ∧ σ' = τ))
theorem Qm_of {g : Gl} {y : Mt} {Post : Option Value → Sg → Prop} {σ : Sg} {args : Array Value} {s t : State} {H : Heap} {locs : List Loc} {r : Option Value} (h : Post r σ) (hP : va_P g.2.1 vwCl (wsO g σ) H) (hS : va_S (Aw g) s.heap H locs) (ht : t.heap = H) : Qm g Post args s (.returned r) t :=
  ⟨⟨r, σ, rfl, h, by rw [ht]; exact hP⟩, hS.F ht⟩
theorem j_iret {g : Gl} {y : Mt} {Post : Option Value → Sg → Prop} {σ : Sg} {lv : List (Nat × Value)} {pc nx : Nat} {P : Int → Sg → Prop} {v : Int} (hr : y.2.2.2.1 = some .int) (hd : Dc y pc (.ireturn) 1 nx) (h : P v σ) : jv g y (Fm g (PI P)) σ lv pc [vi v] := by
  intro p e s m args below meth c H locs ls C hP hS hl
  obtain ⟨hd, rfl⟩ := hd
  exact W.iret C.1 C.2.1 (C.2.2.2.1.trans hr) (fun t ht _ => Qm_of (y := y) ⟨v, rfl, h⟩ hP hS ht) hS.2.2 hd C.2.2.2.2.2.2.1
theorem j_zret {g : Gl} {y : Mt} {Post : Option Value → Sg → Prop} {σ : Sg} {lv : List (Nat × Value)} {pc nx : Nat} {P : Int → Sg → Prop} {v : Int} (hv : v = 0 ∨ v = 1) (hr : y.2.2.2.1 = some .boolean) (hd : Dc y pc (.ireturn) 1 nx) (h : P v σ) : jv g y (Fm g (PI P)) σ lv pc [vi v] := by
  intro p e s m args below meth c H locs ls C hP hS hl
  obtain ⟨hd, rfl⟩ := hd
  exact W.zret C.1 C.2.1 (C.2.2.2.1.trans hr) (by rcases hv with rfl | rfl <;> decide) (fun t ht _ => Qm_of (y := y) ⟨v, rfl, h⟩ hP hS ht) hS.2.2 hd C.2.2.2.2.2.2.1
theorem j_lret {g : Gl} {y : Mt} {Post : Option Value → Sg → Prop} {σ : Sg} {lv : List (Nat × Value)} {pc nx : Nat} {P : Int → Sg → Prop} {v : Int} (hr : y.2.2.2.1 = some .long) (hd : Dc y pc (.lreturn) 1 nx) (h : P v σ) : jv g y (Fm g (PL P)) σ lv pc [vl v] := by
  intro p e s m args below meth c H locs ls C hP hS hl
  obtain ⟨hd, rfl⟩ := hd
  exact W.lret C.1 C.2.1 (C.2.2.2.1.trans hr) (fun t ht _ => Qm_of (y := y) ⟨v, rfl, h⟩ hP hS ht) hS.2.2 hd C.2.2.2.2.2.2.1
theorem j_vret {g : Gl} {y : Mt} {Post : Option Value → Sg → Prop} {σ : Sg} {lv : List (Nat × Value)} {pc nx : Nat} {P : Sg → Prop} (hr : y.2.2.2.1 = none) (hd : Dc y pc (.return_) 1 nx) (h : P σ) : jv g y (Fm g (PV P)) σ lv pc [] := by
  intro p e s m args below meth c H locs ls C hP hS hl
  obtain ⟨hd, rfl⟩ := hd
  exact W.vret C.1 C.2.1 (C.2.2.2.1.trans hr) (fun t ht _ => Qm_of (y := y) ⟨rfl, h⟩ hP hS ht) hS.2.2 hd C.2.2.2.2.2.2.1
theorem j_aret {g : Gl} {y : Mt} {Post : Option Value → Sg → Prop} {σ : Sg} {lv : List (Nat × Value)} {pc nx : Nat} {C0 : String} {k : Nat} (hr : y.2.2.2.1 = some (.object C0)) (hd : Dc y pc (.areturn) 1 nx) : jv g y (Fm g (PR g k σ)) σ lv pc [vr g k] := by
  intro p e s m args below meth c H locs ls C hP hS hl
  obtain ⟨hd, rfl⟩ := hd
  exact W.aret C.1 C.2.1 (C.2.2.2.1.trans hr) (Or.inl ⟨_, rfl⟩) (Or.inr ⟨_, rfl⟩) (fun t ht _ => Qm_of (y := y) ⟨rfl, rfl⟩ hP hS ht) hS.2.2 hd C.2.2.2.2.2.2.1
/-- what a callee's name must have in the tables: an instance method, a static one -/
def Zv (z : Mt) (n : Nat) : Prop := Cond.code z.1 z.2.1 z.2.2.1 z.2.2.2.1 ∈ tblG ∧ Cond.initialized z.1.cls ∈ tblG ∧ (z.1.cls ≠ "java/lang/invoke/MethodHandle" ∧ z.1.cls ≠ "java/lang/invoke/VarHandle" ∧ (parseMethodDescriptor z.1.desc).map (fun d => d.parameters.length) = some n) ∧ z.2.2.2.2.cells = 0 ∧ z.2.2.2.2.slots = 0 ∧ Cond.instanceMethod z.1 ∈ tblG ∧ Cond.selects z.1.cls z.1 z.1 ∈ tblG
def Zs (z : Mt) (n : Nat) : Prop := Cond.code z.1 z.2.1 z.2.2.1 z.2.2.2.1 ∈ tblG ∧ Cond.initialized z.1.cls ∈ tblG ∧ (z.1.cls ≠ "java/lang/invoke/MethodHandle" ∧ z.1.cls ≠ "java/lang/invoke/VarHandle" ∧ (parseMethodDescriptor z.1.desc).map (fun d => d.parameters.length) = some n) ∧ z.2.2.2.2.cells = 0 ∧ z.2.2.2.2.slots = 0 ∧ Cond.static z.1 ∈ tblG
def Rm (y z : Mt) : Prop := z.2.2.2.2.frames + 1 ≤ y.2.2.2.2.frames ∧ 8 + (z.2.2.1 + 11) + z.2.2.2.2.locals ≤ y.2.2.2.2.locals
theorem good_ws {z : Mt} (h : Cond.code z.1 z.2.1 z.2.2.1 z.2.2.2.1 ∈ tblG) : GoodIn tblG (.code z.1 z.2.1 z.2.2.1 z.2.2.2.1 :: tblG) := by
  intro w hw
  rcases List.mem_cons.mp hw with rfl | hw
  · exact ⟨h, tblG_good h⟩
  · exact ⟨hw, tblG_good hw⟩
theorem Wo_blind {g : Gl} {av : List Value} {σ : Sg} : FrameBlind (va_Pc av (Wo g σ)) := by
  intro a U fr mk q
  obtain ⟨q0, qP, qK, qG, q1, q2, q3, q4, q5, q6⟩ := q
  exact ⟨q0, qP, va_K.moved (u := U) (U := U.calling fr mk a) (Vm.Alike.refl U.vm) qK, qG, q1, q2, q3, q4, q5, q6⟩
theorem j_run {g : Gl} {Post : Option Value → Sg → Prop} {p : Program} {l : Launch} {e : Env} {R : Room} {s : State} {m : MethodId} {args : Array Value} {below : List Frame} {meth : Method} {c : Code} {H : Heap} {locs : List Loc} {cells slots : Nat} {Q : State → Prop} {pc : Nat} {ls : Array Slot} {rest st0 : List Value} {a : Array Value} {A0 : Nat → Prop}
    (hr : va_Run p l e R s m args below meth c H locs cells slots 0 0 (F0 m pc ls st0) rest (Qm g Post a) (Aw g)) (hS : va_S A0 s.heap H locs) (hA : ∀ q, Aw g q → A0 q)
    (kk : ∀ (r : Option Value) (σ' : Sg) (H1 : Heap) (locs1 : List Loc), Post r σ' → va_P g.2.1 vwCl (wsO g σ') H1 → va_S A0 s.heap H1 locs1 → W p l e R s m args below meth c H1 locs1 cells slots Q (F0 m (pc + 3) ls (r.toList ++ rest))) : W p l e R s m args below meth c H locs cells slots Q (F0 m pc ls st0) := by
  intro T hT X
  obtain ⟨v, st₀, t, T', L, h0, X', hL, e1, e2, ⟨⟨r, u, hv, hp, hb⟩, hz, hk⟩, st⟩ := hr T hT X
  cases hv
  rw [h0] at hz hk
  obtain ⟨t2, a1, b1⟩ := kk v u T'.heap (locs ++ L) hp (by rw [e1]; exact hb)
    ⟨Nat.le_trans hS.1 (by rw [e1]; exact hz), fun q h1 h2 => by rw [e1, hk q (Nat.lt_of_lt_of_le h1 hS.1) (fun z => h2 (hA q z))]; exact hS.2.1 q h1 h2, fun q hq => by
      rcases List.mem_append.mp hq with h | h
      · exact hS.2.2 q h
      · exact hA _ (hL q h)⟩ T' rfl X'
  exact ⟨t2, st t2 a1, b1⟩
theorem j_callV {g : Gl} {y z : Mt} {F : Ex} {σ : Sg} {lv : List (Nat × Value)} {pc nx ix : Nat} {st av : List Value} {Post : Option Value → Sg → Prop} {k ci : Nat} {C : String} {T : u_T} {N : Nat} {cs : List Nat} (hz : Zv z av.length) (hk : Cond.methodLink y.1.cls ix z.1 ∈ tblG) (hR : Rm y z) (hq : lay[k]? = some (0, ci :: cs)) (hc : vwCl[ci]? = some (C, T, N)) (hC : z.1.cls = C) (hM : Ct g z (vr g k :: av) σ Post) (hr : (st.map fun v => v.category).sum ≤ 8) (hd : Dc y pc (.invokevirtual ix) 3 nx) (kk : ∀ r σ', Post r σ' → jv g y F σ' lv nx (r.toList ++ st)) : jv g y F σ lv pc (av.reverse ++ vr g k :: st) := by
  obtain ⟨hd, rfl⟩ := hd
  intro p e s m args below meth c H locs ls C hP hS hl
  have hT := C.2.2.2.2.2.1
  have hA : ∀ q, Aw g q → F.1 s q := fun q ⟨k, hk, e⟩ => by rw [e]; exact C.2.2.2.2.2.2.2.2.2.2.1 k hk
  obtain ⟨z1, z2, z3, z4, z5, z6, z7⟩ := hz
  have hpre : ∀ U : State, U.heap = H → s.WarmedH U.vm → va_Pc (vr g k :: av) (Wo g σ) (vr g k :: av).toArray U := fun U hU hW => ⟨rfl, by rw [hU]; exact hP, va_K.moved hW.alike C.2.2.2.2.2.2.2.1, C.2.2.2.2.2.2.2.2.1, C.2.2.2.2.2.2.2.2.2.1.calls hS hA hU hW⟩
  refine j_run (a := (vr g k :: av).toArray) (va_runV (As := av) (rest := st) ⟨C.1, C.2.1, C.2.2.1, C.2.2.2.2.1, hT⟩ hM ⟨callB_of av.length hT (good_ws z1) rfl z4 z5 (hT _ z2) (hT _ hk) z3 hR, hT _ z6, hT _ z7⟩ ⟨Wo_blind, (by rw [hC]; exact va_recv C.2.2.2.2.2.2.2.1 hP hc (wsO_at hq)), hpre⟩ rfl rfl hl.1 rfl (lv_room hr) hd ⟨C.2.2.2.2.2.2.2.2.2.2.2.1, C.2.2.2.2.2.2.2.2.2.2.2.2⟩) hS hA (fun r σ' H1 locs1 h1 h2 h3 => ?_)
  exact kk r σ' h1 p e s m args below meth c H1 locs1 _ C h2 h3 hl
theorem j_callVN {g : Gl} {y z : Mt} {F : Ex} {σ : Sg} {lv : List (Nat × Value)} {pc nx ix : Nat} {st av : List Value} {Post : Option Value → Sg → Prop} {k ci : Nat} {C : String} {T : u_T} {N : Nat} {cs : List Nat} (hz : Zv z av.length) {host : String} (hk : (y.1.cls, ix, z.1, host) ∈ nstL) (hR : Rm y z) (hq : lay[k]? = some (0, ci :: cs)) (hc : vwCl[ci]? = some (C, T, N)) (hC : z.1.cls = C) (hM : Ct g z (vr g k :: av) σ Post) (hr : (st.map fun v => v.category).sum ≤ 8) (hd : Dc y pc (.invokevirtual ix) 3 nx) (kk : ∀ r σ', Post r σ' → jv g y F σ' lv nx (r.toList ++ st)) : jv g y F σ lv pc (av.reverse ++ vr g k :: st) := by
  obtain ⟨hd, rfl⟩ := hd
  intro p e s m args below meth c H locs ls C hP hS hl
  have hT := C.2.2.2.2.2.1
  have hA : ∀ q, Aw g q → F.1 s q := fun q ⟨k, hk, e⟩ => by rw [e]; exact C.2.2.2.2.2.2.2.2.2.2.1 k hk
  obtain ⟨z1, z2, z3, z4, z5, z6, z7⟩ := hz
  have hpre : ∀ U : State, U.heap = H → s.WarmedH U.vm → va_Pc (vr g k :: av) (Wo g σ) (vr g k :: av).toArray U := fun U hU hW => ⟨rfl, by rw [hU]; exact hP, va_K.moved hW.alike C.2.2.2.2.2.2.2.1, C.2.2.2.2.2.2.2.2.1, C.2.2.2.2.2.2.2.2.2.1.calls hS hA hU hW⟩
  refine j_run (a := (vr g k :: av).toArray) (va_runVN (As := av) (rest := st) ⟨C.1, C.2.1, C.2.2.1, C.2.2.2.2.1, hT⟩ hM ⟨va_cnB av.length hT (good_ws z1) rfl z4 z5 (C.2.2.2.2.2.2.2.2.2.1.2.2.2.2.2.1 _ hk) (hT _ z2) z3 hR, hT _ z6, hT _ z7⟩ ⟨Wo_blind, (by rw [hC]; exact va_recv C.2.2.2.2.2.2.2.1 hP hc (wsO_at hq)), hpre⟩ rfl rfl hl.1 rfl (lv_room hr) hd ⟨C.2.2.2.2.2.2.2.2.2.2.2.1, C.2.2.2.2.2.2.2.2.2.2.2.2⟩) hS hA (fun r σ' H1 locs1 h1 h2 h3 => ?_)
  exact kk r σ' h1 p e s m args below meth c H1 locs1 _ C h2 h3 hl
theorem j_callS {g : Gl} {y z : Mt} {F : Ex} {σ : Sg} {lv : List (Nat × Value)} {pc nx ix : Nat} {st av : List Value} {Post : Option Value → Sg → Prop} (hz : Zs z av.length) (hk : Cond.methodLink y.1.cls ix z.1 ∈ tblG) (hR : Rm y z) (hM : Ct g z av σ Post) (hr : (st.map fun v => v.category).sum ≤ 8) (hd : Dc y pc (.invokestatic ix) 3 nx) (kk : ∀ r σ', Post r σ' → jv g y F σ' lv nx (r.toList ++ st)) : jv g y F σ lv pc (av.reverse ++ st) := by
  obtain ⟨hd, rfl⟩ := hd
  intro p e s m args below meth c H locs ls C hP hS hl
  have hT := C.2.2.2.2.2.1
  have hA : ∀ q, Aw g q → F.1 s q := fun q ⟨k, hk, e⟩ => by rw [e]; exact C.2.2.2.2.2.2.2.2.2.2.1 k hk
  obtain ⟨z1, z2, z3, z4, z5, z6⟩ := hz
  have hpre : ∀ U : State, U.heap = H → s.WarmedH U.vm → va_Pc av (Wo g σ) av.toArray U := fun U hU hW => ⟨rfl, by rw [hU]; exact hP, va_K.moved hW.alike C.2.2.2.2.2.2.2.1, C.2.2.2.2.2.2.2.2.1, C.2.2.2.2.2.2.2.2.2.1.calls hS hA hU hW⟩
  refine j_run (a := av.toArray) (va_runS (As := av) (rest := st) ⟨C.1, C.2.1, C.2.2.1, C.2.2.2.2.1, hT⟩ hM ⟨callB_of av.length hT (good_ws z1) rfl z4 z5 (hT _ z2) (hT _ hk) z3 hR, hT _ z6⟩ ⟨Wo_blind, hpre⟩ rfl rfl hl.1 rfl (lv_room hr) hd ⟨C.2.2.2.2.2.2.2.2.2.2.2.1, C.2.2.2.2.2.2.2.2.2.2.2.2⟩) hS hA (fun r σ' H1 locs1 h1 h2 h3 => ?_)
  exact kk r σ' h1 p e s m args below meth c H1 locs1 _ C h2 h3 hl
theorem j_callSN {g : Gl} {y z : Mt} {F : Ex} {σ : Sg} {lv : List (Nat × Value)} {pc nx ix : Nat} {st av : List Value} {Post : Option Value → Sg → Prop} (hz : Zs z av.length) {host : String} (hk : (y.1.cls, ix, z.1, host) ∈ nstL) (hR : Rm y z) (hM : Ct g z av σ Post) (hr : (st.map fun v => v.category).sum ≤ 8) (hd : Dc y pc (.invokestatic ix) 3 nx) (kk : ∀ r σ', Post r σ' → jv g y F σ' lv nx (r.toList ++ st)) : jv g y F σ lv pc (av.reverse ++ st) := by
  obtain ⟨hd, rfl⟩ := hd
  intro p e s m args below meth c H locs ls C hP hS hl
  have hT := C.2.2.2.2.2.1
  have hA : ∀ q, Aw g q → F.1 s q := fun q ⟨k, hk, e⟩ => by rw [e]; exact C.2.2.2.2.2.2.2.2.2.2.1 k hk
  obtain ⟨z1, z2, z3, z4, z5, z6⟩ := hz
  have hpre : ∀ U : State, U.heap = H → s.WarmedH U.vm → va_Pc av (Wo g σ) av.toArray U := fun U hU hW => ⟨rfl, by rw [hU]; exact hP, va_K.moved hW.alike C.2.2.2.2.2.2.2.1, C.2.2.2.2.2.2.2.2.1, C.2.2.2.2.2.2.2.2.2.1.calls hS hA hU hW⟩
  refine j_run (a := av.toArray) (va_runSN (As := av) (rest := st) ⟨C.1, C.2.1, C.2.2.1, C.2.2.2.2.1, hT⟩ hM ⟨va_cnB av.length hT (good_ws z1) rfl z4 z5 (C.2.2.2.2.2.2.2.2.2.1.2.2.2.2.2.1 _ hk) (hT _ z2) z3 hR, hT _ z6, trivial⟩ ⟨Wo_blind, hpre⟩ rfl rfl hl.1 rfl (lv_room hr) hd ⟨C.2.2.2.2.2.2.2.2.2.2.2.1, C.2.2.2.2.2.2.2.2.2.2.2.2⟩) hS hA (fun r σ' H1 locs1 h1 h2 h3 => ?_)
  exact kk r σ' h1 p e s m args below meth c H1 locs1 _ C h2 h3 hl
theorem k_I {g : Gl} {y : Mt} {F : Ex} {lv : List (Nat × Value)} {nx : Nat} {st : List Value} {P : Int → Sg → Prop} (kk : ∀ v σ', P v σ' → jv g y F σ' lv nx (vi v :: st)) : ∀ r σ', PI P r σ' → jv g y F σ' lv nx (r.toList ++ st) := by
  rintro r σ' ⟨v, rfl, h⟩
  exact kk v σ' h
theorem k_L {g : Gl} {y : Mt} {F : Ex} {lv : List (Nat × Value)} {nx : Nat} {st : List Value} {P : Int → Sg → Prop} (kk : ∀ v σ', P v σ' → jv g y F σ' lv nx (vl v :: st)) : ∀ r σ', PL P r σ' → jv g y F σ' lv nx (r.toList ++ st) := by
  rintro r σ' ⟨v, rfl, h⟩
  exact kk v σ' h
theorem k_E {g : Gl} {y : Mt} {F : Ex} {lv : List (Nat × Value)} {nx : Nat} {st : List Value} {e : Int} {σ : Sg} (kk : jv g y F σ lv nx (vi e :: st)) : ∀ r σ', PE e σ r σ' → jv g y F σ' lv nx (r.toList ++ st) := by
  rintro r σ' ⟨v, rfl, rfl, rfl⟩
  exact kk
theorem k_EL {g : Gl} {y : Mt} {F : Ex} {lv : List (Nat × Value)} {nx : Nat} {st : List Value} {e : Int} {σ : Sg} (kk : jv g y F σ lv nx (vl e :: st)) : ∀ r σ', PEL e σ r σ' → jv g y F σ' lv nx (r.toList ++ st) := by
  rintro r σ' ⟨v, rfl, rfl, rfl⟩
  exact kk
theorem k_B {g : Gl} {y : Mt} {F : Ex} {lv : List (Nat × Value)} {nx : Nat} {st : List Value} {P : Prop} {σ : Sg} (kt : P → jv g y F σ lv nx (vi 1 :: st)) (kf : ¬ P → jv g y F σ lv nx (vi 0 :: st)) : ∀ r σ', PB P σ r σ' → jv g y F σ' lv nx (r.toList ++ st) := by
  rintro r σ' ⟨v, rfl, rfl, ⟨h, rfl⟩ | ⟨h, rfl⟩⟩
  · exact kt h
  · exact kf h
theorem k_V {g : Gl} {y : Mt} {F : Ex} {lv : List (Nat × Value)} {nx : Nat} {st : List Value} {P : Sg → Prop} (kk : ∀ σ', P σ' → jv g y F σ' lv nx st) : ∀ r σ', PV P r σ' → jv g y F σ' lv nx (r.toList ++ st) := by
  rintro r σ' ⟨rfl, h⟩
  exact kk σ' h
theorem k_VE {g : Gl} {y : Mt} {F : Ex} {lv : List (Nat × Value)} {nx : Nat} {st : List Value} {τ : Sg} (kk : jv g y F τ lv nx st) : ∀ r σ', PV (fun σ' => σ' = τ) r σ' → jv g y F σ' lv nx (r.toList ++ st) := by
  rintro r σ' ⟨rfl, rfl⟩
  exact kk
theorem k_R {g : Gl} {y : Mt} {F : Ex} {lv : List (Nat × Value)} {nx : Nat} {st : List Value} {k : Nat} {σ : Sg} (kk : jv g y F σ lv nx (vr g k :: st)) : ∀ r σ', PR g k σ r σ' → jv g y F σ' lv nx (r.toList ++ st) := by
  rintro r σ' ⟨rfl, rfl⟩
  exact kk
theorem PB_t {P : Prop} {σ : Sg} (h : P) : (fun v σ' => σ' = σ ∧ (P ∧ v = 1 ∨ ¬ P ∧ v = 0)) (1 : Int) σ := ⟨rfl, Or.inl ⟨h, rfl⟩⟩
theorem PB_f {P : Prop} {σ : Sg} (h : ¬ P) : (fun v σ' => σ' = σ ∧ (P ∧ v = 1 ∨ ¬ P ∧ v = 0)) (0 : Int) σ := ⟨rfl, Or.inr ⟨h, rfl⟩⟩
theorem j_cV0 {g : Gl} {y z : Mt} {F : Ex} {σ : Sg} {lv : List (Nat × Value)} {pc nx ix : Nat} {st : List Value} {Post : Option Value → Sg → Prop} {k ci : Nat} {C : String} {T : u_T} {N : Nat} {cs : List Nat} (hz : Zv z 0) (hk : Cond.methodLink y.1.cls ix z.1 ∈ tblG) (hR : Rm y z) (hq : lay[k]? = some (0, ci :: cs)) (hc : vwCl[ci]? = some (C, T, N)) (hC : z.1.cls = C) (hM : Ct g z (vr g k :: []) σ Post) (hr : (st.map fun v => v.category).sum ≤ 8) (hd : Dc y pc (.invokevirtual ix) 3 nx) (kk : ∀ r σ', Post r σ' → jv g y F σ' lv nx (r.toList ++ st)) : jv g y F σ lv pc (vr g k :: st) := j_callV (av := []) hz hk hR hq hc hC hM hr hd kk
theorem j_cV1 {g : Gl} {y z : Mt} {F : Ex} {σ : Sg} {lv : List (Nat × Value)} {pc nx ix : Nat} {st : List Value} {Post : Option Value → Sg → Prop} {a1 : Value} {k ci : Nat} {C : String} {T : u_T} {N : Nat} {cs : List Nat} (hz : Zv z 1) (hk : Cond.methodLink y.1.cls ix z.1 ∈ tblG) (hR : Rm y z) (hq : lay[k]? = some (0, ci :: cs)) (hc : vwCl[ci]? = some (C, T, N)) (hC : z.1.cls = C) (hM : Ct g z (vr g k :: [a1]) σ Post) (hr : (st.map fun v => v.category).sum ≤ 8) (hd : Dc y pc (.invokevirtual ix) 3 nx) (kk : ∀ r σ', Post r σ' → jv g y F σ' lv nx (r.toList ++ st)) : jv g y F σ lv pc (a1 :: vr g k :: st) := j_callV (av := [a1]) hz hk hR hq hc hC hM hr hd kk
theorem j_cV2 {g : Gl} {y z : Mt} {F : Ex} {σ : Sg} {lv : List (Nat × Value)} {pc nx ix : Nat} {st : List Value} {Post : Option Value → Sg → Prop} {a1 a2 : Value} {k ci : Nat} {C : String} {T : u_T} {N : Nat} {cs : List Nat} (hz : Zv z 2) (hk : Cond.methodLink y.1.cls ix z.1 ∈ tblG) (hR : Rm y z) (hq : lay[k]? = some (0, ci :: cs)) (hc : vwCl[ci]? = some (C, T, N)) (hC : z.1.cls = C) (hM : Ct g z (vr g k :: [a1, a2]) σ Post) (hr : (st.map fun v => v.category).sum ≤ 8) (hd : Dc y pc (.invokevirtual ix) 3 nx) (kk : ∀ r σ', Post r σ' → jv g y F σ' lv nx (r.toList ++ st)) : jv g y F σ lv pc (a2 :: a1 :: vr g k :: st) := j_callV (av := [a1, a2]) hz hk hR hq hc hC hM hr hd kk
theorem j_cV3 {g : Gl} {y z : Mt} {F : Ex} {σ : Sg} {lv : List (Nat × Value)} {pc nx ix : Nat} {st : List Value} {Post : Option Value → Sg → Prop} {a1 a2 a3 : Value} {k ci : Nat} {C : String} {T : u_T} {N : Nat} {cs : List Nat} (hz : Zv z 3) (hk : Cond.methodLink y.1.cls ix z.1 ∈ tblG) (hR : Rm y z) (hq : lay[k]? = some (0, ci :: cs)) (hc : vwCl[ci]? = some (C, T, N)) (hC : z.1.cls = C) (hM : Ct g z (vr g k :: [a1, a2, a3]) σ Post) (hr : (st.map fun v => v.category).sum ≤ 8) (hd : Dc y pc (.invokevirtual ix) 3 nx) (kk : ∀ r σ', Post r σ' → jv g y F σ' lv nx (r.toList ++ st)) : jv g y F σ lv pc (a3 :: a2 :: a1 :: vr g k :: st) := j_callV (av := [a1, a2, a3]) hz hk hR hq hc hC hM hr hd kk
theorem j_cV4 {g : Gl} {y z : Mt} {F : Ex} {σ : Sg} {lv : List (Nat × Value)} {pc nx ix : Nat} {st : List Value} {Post : Option Value → Sg → Prop} {a1 a2 a3 a4 : Value} {k ci : Nat} {C : String} {T : u_T} {N : Nat} {cs : List Nat} (hz : Zv z 4) (hk : Cond.methodLink y.1.cls ix z.1 ∈ tblG) (hR : Rm y z) (hq : lay[k]? = some (0, ci :: cs)) (hc : vwCl[ci]? = some (C, T, N)) (hC : z.1.cls = C) (hM : Ct g z (vr g k :: [a1, a2, a3, a4]) σ Post) (hr : (st.map fun v => v.category).sum ≤ 8) (hd : Dc y pc (.invokevirtual ix) 3 nx) (kk : ∀ r σ', Post r σ' → jv g y F σ' lv nx (r.toList ++ st)) : jv g y F σ lv pc (a4 :: a3 :: a2 :: a1 :: vr g k :: st) := j_callV (av := [a1, a2, a3, a4]) hz hk hR hq hc hC hM hr hd kk
theorem j_cV5 {g : Gl} {y z : Mt} {F : Ex} {σ : Sg} {lv : List (Nat × Value)} {pc nx ix : Nat} {st : List Value} {Post : Option Value → Sg → Prop} {a1 a2 a3 a4 a5 : Value} {k ci : Nat} {C : String} {T : u_T} {N : Nat} {cs : List Nat} (hz : Zv z 5) (hk : Cond.methodLink y.1.cls ix z.1 ∈ tblG) (hR : Rm y z) (hq : lay[k]? = some (0, ci :: cs)) (hc : vwCl[ci]? = some (C, T, N)) (hC : z.1.cls = C) (hM : Ct g z (vr g k :: [a1, a2, a3, a4, a5]) σ Post) (hr : (st.map fun v => v.category).sum ≤ 8) (hd : Dc y pc (.invokevirtual ix) 3 nx) (kk : ∀ r σ', Post r σ' → jv g y F σ' lv nx (r.toList ++ st)) : jv g y F σ lv pc (a5 :: a4 :: a3 :: a2 :: a1 :: vr g k :: st) := j_callV (av := [a1, a2, a3, a4, a5]) hz hk hR hq hc hC hM hr hd kk
theorem j_cVN0 {g : Gl} {y z : Mt} {F : Ex} {σ : Sg} {lv : List (Nat × Value)} {pc nx ix : Nat} {st : List Value} {Post : Option Value → Sg → Prop} {k ci : Nat} {C : String} {T : u_T} {N : Nat} {cs : List Nat} (hz : Zv z 0) {host : String} (hk : (y.1.cls, ix, z.1, host) ∈ nstL) (hR : Rm y z) (hq : lay[k]? = some (0, ci :: cs)) (hc : vwCl[ci]? = some (C, T, N)) (hC : z.1.cls = C) (hM : Ct g z (vr g k :: []) σ Post) (hr : (st.map fun v => v.category).sum ≤ 8) (hd : Dc y pc (.invokevirtual ix) 3 nx) (kk : ∀ r σ', Post r σ' → jv g y F σ' lv nx (r.toList ++ st)) : jv g y F σ lv pc (vr g k :: st) := j_callVN (av := []) hz hk hR hq hc hC hM hr hd kk
theorem j_cVN1 {g : Gl} {y z : Mt} {F : Ex} {σ : Sg} {lv : List (Nat × Value)} {pc nx ix : Nat} {st : List Value} {Post : Option Value → Sg → Prop} {a1 : Value} {k ci : Nat} {C : String} {T : u_T} {N : Nat} {cs : List Nat} (hz : Zv z 1) {host : String} (hk : (y.1.cls, ix, z.1, host) ∈ nstL) (hR : Rm y z) (hq : lay[k]? = some (0, ci :: cs)) (hc : vwCl[ci]? = some (C, T, N)) (hC : z.1.cls = C) (hM : Ct g z (vr g k :: [a1]) σ Post) (hr : (st.map fun v => v.category).sum ≤ 8) (hd : Dc y pc (.invokevirtual ix) 3 nx) (kk : ∀ r σ', Post r σ' → jv g y F σ' lv nx (r.toList ++ st)) : jv g y F σ lv pc (a1 :: vr g k :: st) := j_callVN (av := [a1]) hz hk hR hq hc hC hM hr hd kk
theorem j_cVN2 {g : Gl} {y z : Mt} {F : Ex} {σ : Sg} {lv : List (Nat × Value)} {pc nx ix : Nat} {st : List Value} {Post : Option Value → Sg → Prop} {a1 a2 : Value} {k ci : Nat} {C : String} {T : u_T} {N : Nat} {cs : List Nat} (hz : Zv z 2) {host : String} (hk : (y.1.cls, ix, z.1, host) ∈ nstL) (hR : Rm y z) (hq : lay[k]? = some (0, ci :: cs)) (hc : vwCl[ci]? = some (C, T, N)) (hC : z.1.cls = C) (hM : Ct g z (vr g k :: [a1, a2]) σ Post) (hr : (st.map fun v => v.category).sum ≤ 8) (hd : Dc y pc (.invokevirtual ix) 3 nx) (kk : ∀ r σ', Post r σ' → jv g y F σ' lv nx (r.toList ++ st)) : jv g y F σ lv pc (a2 :: a1 :: vr g k :: st) := j_callVN (av := [a1, a2]) hz hk hR hq hc hC hM hr hd kk
theorem j_cVN3 {g : Gl} {y z : Mt} {F : Ex} {σ : Sg} {lv : List (Nat × Value)} {pc nx ix : Nat} {st : List Value} {Post : Option Value → Sg → Prop} {a1 a2 a3 : Value} {k ci : Nat} {C : String} {T : u_T} {N : Nat} {cs : List Nat} (hz : Zv z 3) {host : String} (hk : (y.1.cls, ix, z.1, host) ∈ nstL) (hR : Rm y z) (hq : lay[k]? = some (0, ci :: cs)) (hc : vwCl[ci]? = some (C, T, N)) (hC : z.1.cls = C) (hM : Ct g z (vr g k :: [a1, a2, a3]) σ Post) (hr : (st.map fun v => v.category).sum ≤ 8) (hd : Dc y pc (.invokevirtual ix) 3 nx) (kk : ∀ r σ', Post r σ' → jv g y F σ' lv nx (r.toList ++ st)) : jv g y F σ lv pc (a3 :: a2 :: a1 :: vr g k :: st) := j_callVN (av := [a1, a2, a3]) hz hk hR hq hc hC hM hr hd kk
theorem j_cVN4 {g : Gl} {y z : Mt} {F : Ex} {σ : Sg} {lv : List (Nat × Value)} {pc nx ix : Nat} {st : List Value} {Post : Option Value → Sg → Prop} {a1 a2 a3 a4 : Value} {k ci : Nat} {C : String} {T : u_T} {N : Nat} {cs : List Nat} (hz : Zv z 4) {host : String} (hk : (y.1.cls, ix, z.1, host) ∈ nstL) (hR : Rm y z) (hq : lay[k]? = some (0, ci :: cs)) (hc : vwCl[ci]? = some (C, T, N)) (hC : z.1.cls = C) (hM : Ct g z (vr g k :: [a1, a2, a3, a4]) σ Post) (hr : (st.map fun v => v.category).sum ≤ 8) (hd : Dc y pc (.invokevirtual ix) 3 nx) (kk : ∀ r σ', Post r σ' → jv g y F σ' lv nx (r.toList ++ st)) : jv g y F σ lv pc (a4 :: a3 :: a2 :: a1 :: vr g k :: st) := j_callVN (av := [a1, a2, a3, a4]) hz hk hR hq hc hC hM hr hd kk
theorem j_cVN5 {g : Gl} {y z : Mt} {F : Ex} {σ : Sg} {lv : List (Nat × Value)} {pc nx ix : Nat} {st : List Value} {Post : Option Value → Sg → Prop} {a1 a2 a3 a4 a5 : Value} {k ci : Nat} {C : String} {T : u_T} {N : Nat} {cs : List Nat} (hz : Zv z 5) {host : String} (hk : (y.1.cls, ix, z.1, host) ∈ nstL) (hR : Rm y z) (hq : lay[k]? = some (0, ci :: cs)) (hc : vwCl[ci]? = some (C, T, N)) (hC : z.1.cls = C) (hM : Ct g z (vr g k :: [a1, a2, a3, a4, a5]) σ Post) (hr : (st.map fun v => v.category).sum ≤ 8) (hd : Dc y pc (.invokevirtual ix) 3 nx) (kk : ∀ r σ', Post r σ' → jv g y F σ' lv nx (r.toList ++ st)) : jv g y F σ lv pc (a5 :: a4 :: a3 :: a2 :: a1 :: vr g k :: st) := j_callVN (av := [a1, a2, a3, a4, a5]) hz hk hR hq hc hC hM hr hd kk
theorem j_cS0 {g : Gl} {y z : Mt} {F : Ex} {σ : Sg} {lv : List (Nat × Value)} {pc nx ix : Nat} {st : List Value} {Post : Option Value → Sg → Prop} (hz : Zs z 0) (hk : Cond.methodLink y.1.cls ix z.1 ∈ tblG) (hR : Rm y z) (hM : Ct g z [] σ Post) (hr : (st.map fun v => v.category).sum ≤ 8) (hd : Dc y pc (.invokestatic ix) 3 nx) (kk : ∀ r σ', Post r σ' → jv g y F σ' lv nx (r.toList ++ st)) : jv g y F σ lv pc (st) := j_callS (av := []) hz hk hR hM hr hd kk
theorem j_cS1 {g : Gl} {y z : Mt} {F : Ex} {σ : Sg} {lv : List (Nat × Value)} {pc nx ix : Nat} {st : List Value} {Post : Option Value → Sg → Prop} {a1 : Value} (hz : Zs z 1) (hk : Cond.methodLink y.1.cls ix z.1 ∈ tblG) (hR : Rm y z) (hM : Ct g z [a1] σ Post) (hr : (st.map fun v => v.category).sum ≤ 8) (hd : Dc y pc (.invokestatic ix) 3 nx) (kk : ∀ r σ', Post r σ' → jv g y F σ' lv nx (r.toList ++ st)) : jv g y F σ lv pc (a1 :: st) := j_callS (av := [a1]) hz hk hR hM hr hd kk
theorem j_cS2 {g : Gl} {y z : Mt} {F : Ex} {σ : Sg} {lv : List (Nat × Value)} {pc nx ix : Nat} {st : List Value} {Post : Option Value → Sg → Prop} {a1 a2 : Value} (hz : Zs z 2) (hk : Cond.methodLink y.1.cls ix z.1 ∈ tblG) (hR : Rm y z) (hM : Ct g z [a1, a2] σ Post) (hr : (st.map fun v => v.category).sum ≤ 8) (hd : Dc y pc (.invokestatic ix) 3 nx) (kk : ∀ r σ', Post r σ' → jv g y F σ' lv nx (r.toList ++ st)) : jv g y F σ lv pc (a2 :: a1 :: st) := j_callS (av := [a1, a2]) hz hk hR hM hr hd kk
theorem j_cS3 {g : Gl} {y z : Mt} {F : Ex} {σ : Sg} {lv : List (Nat × Value)} {pc nx ix : Nat} {st : List Value} {Post : Option Value → Sg → Prop} {a1 a2 a3 : Value} (hz : Zs z 3) (hk : Cond.methodLink y.1.cls ix z.1 ∈ tblG) (hR : Rm y z) (hM : Ct g z [a1, a2, a3] σ Post) (hr : (st.map fun v => v.category).sum ≤ 8) (hd : Dc y pc (.invokestatic ix) 3 nx) (kk : ∀ r σ', Post r σ' → jv g y F σ' lv nx (r.toList ++ st)) : jv g y F σ lv pc (a3 :: a2 :: a1 :: st) := j_callS (av := [a1, a2, a3]) hz hk hR hM hr hd kk
theorem j_cS4 {g : Gl} {y z : Mt} {F : Ex} {σ : Sg} {lv : List (Nat × Value)} {pc nx ix : Nat} {st : List Value} {Post : Option Value → Sg → Prop} {a1 a2 a3 a4 : Value} (hz : Zs z 4) (hk : Cond.methodLink y.1.cls ix z.1 ∈ tblG) (hR : Rm y z) (hM : Ct g z [a1, a2, a3, a4] σ Post) (hr : (st.map fun v => v.category).sum ≤ 8) (hd : Dc y pc (.invokestatic ix) 3 nx) (kk : ∀ r σ', Post r σ' → jv g y F σ' lv nx (r.toList ++ st)) : jv g y F σ lv pc (a4 :: a3 :: a2 :: a1 :: st) := j_callS (av := [a1, a2, a3, a4]) hz hk hR hM hr hd kk
theorem j_cS5 {g : Gl} {y z : Mt} {F : Ex} {σ : Sg} {lv : List (Nat × Value)} {pc nx ix : Nat} {st : List Value} {Post : Option Value → Sg → Prop} {a1 a2 a3 a4 a5 : Value} (hz : Zs z 5) (hk : Cond.methodLink y.1.cls ix z.1 ∈ tblG) (hR : Rm y z) (hM : Ct g z [a1, a2, a3, a4, a5] σ Post) (hr : (st.map fun v => v.category).sum ≤ 8) (hd : Dc y pc (.invokestatic ix) 3 nx) (kk : ∀ r σ', Post r σ' → jv g y F σ' lv nx (r.toList ++ st)) : jv g y F σ lv pc (a5 :: a4 :: a3 :: a2 :: a1 :: st) := j_callS (av := [a1, a2, a3, a4, a5]) hz hk hR hM hr hd kk
theorem j_cSN0 {g : Gl} {y z : Mt} {F : Ex} {σ : Sg} {lv : List (Nat × Value)} {pc nx ix : Nat} {st : List Value} {Post : Option Value → Sg → Prop} (hz : Zs z 0) {host : String} (hk : (y.1.cls, ix, z.1, host) ∈ nstL) (hR : Rm y z) (hM : Ct g z [] σ Post) (hr : (st.map fun v => v.category).sum ≤ 8) (hd : Dc y pc (.invokestatic ix) 3 nx) (kk : ∀ r σ', Post r σ' → jv g y F σ' lv nx (r.toList ++ st)) : jv g y F σ lv pc (st) := j_callSN (av := []) hz hk hR hM hr hd kk
theorem j_cSN1 {g : Gl} {y z : Mt} {F : Ex} {σ : Sg} {lv : List (Nat × Value)} {pc nx ix : Nat} {st : List Value} {Post : Option Value → Sg → Prop} {a1 : Value} (hz : Zs z 1) {host : String} (hk : (y.1.cls, ix, z.1, host) ∈ nstL) (hR : Rm y z) (hM : Ct g z [a1] σ Post) (hr : (st.map fun v => v.category).sum ≤ 8) (hd : Dc y pc (.invokestatic ix) 3 nx) (kk : ∀ r σ', Post r σ' → jv g y F σ' lv nx (r.toList ++ st)) : jv g y F σ lv pc (a1 :: st) := j_callSN (av := [a1]) hz hk hR hM hr hd kk
theorem j_cSN2 {g : Gl} {y z : Mt} {F : Ex} {σ : Sg} {lv : List (Nat × Value)} {pc nx ix : Nat} {st : List Value} {Post : Option Value → Sg → Prop} {a1 a2 : Value} (hz : Zs z 2) {host : String} (hk : (y.1.cls, ix, z.1, host) ∈ nstL) (hR : Rm y z) (hM : Ct g z [a1, a2] σ Post) (hr : (st.map fun v => v.category).sum ≤ 8) (hd : Dc y pc (.invokestatic ix) 3 nx) (kk : ∀ r σ', Post r σ' → jv g y F σ' lv nx (r.toList ++ st)) : jv g y F σ lv pc (a2 :: a1 :: st) := j_callSN (av := [a1, a2]) hz hk hR hM hr hd kk
theorem j_cSN3 {g : Gl} {y z : Mt} {F : Ex} {σ : Sg} {lv : List (Nat × Value)} {pc nx ix : Nat} {st : List Value} {Post : Option Value → Sg → Prop} {a1 a2 a3 : Value} (hz : Zs z 3) {host : String} (hk : (y.1.cls, ix, z.1, host) ∈ nstL) (hR : Rm y z) (hM : Ct g z [a1, a2, a3] σ Post) (hr : (st.map fun v => v.category).sum ≤ 8) (hd : Dc y pc (.invokestatic ix) 3 nx) (kk : ∀ r σ', Post r σ' → jv g y F σ' lv nx (r.toList ++ st)) : jv g y F σ lv pc (a3 :: a2 :: a1 :: st) := j_callSN (av := [a1, a2, a3]) hz hk hR hM hr hd kk
theorem j_cSN4 {g : Gl} {y z : Mt} {F : Ex} {σ : Sg} {lv : List (Nat × Value)} {pc nx ix : Nat} {st : List Value} {Post : Option Value → Sg → Prop} {a1 a2 a3 a4 : Value} (hz : Zs z 4) {host : String} (hk : (y.1.cls, ix, z.1, host) ∈ nstL) (hR : Rm y z) (hM : Ct g z [a1, a2, a3, a4] σ Post) (hr : (st.map fun v => v.category).sum ≤ 8) (hd : Dc y pc (.invokestatic ix) 3 nx) (kk : ∀ r σ', Post r σ' → jv g y F σ' lv nx (r.toList ++ st)) : jv g y F σ lv pc (a4 :: a3 :: a2 :: a1 :: st) := j_callSN (av := [a1, a2, a3, a4]) hz hk hR hM hr hd kk
theorem j_cSN5 {g : Gl} {y z : Mt} {F : Ex} {σ : Sg} {lv : List (Nat × Value)} {pc nx ix : Nat} {st : List Value} {Post : Option Value → Sg → Prop} {a1 a2 a3 a4 a5 : Value} (hz : Zs z 5) {host : String} (hk : (y.1.cls, ix, z.1, host) ∈ nstL) (hR : Rm y z) (hM : Ct g z [a1, a2, a3, a4, a5] σ Post) (hr : (st.map fun v => v.category).sum ≤ 8) (hd : Dc y pc (.invokestatic ix) 3 nx) (kk : ∀ r σ', Post r σ' → jv g y F σ' lv nx (r.toList ++ st)) : jv g y F σ lv pc (a5 :: a4 :: a3 :: a2 :: a1 :: st) := j_callSN (av := [a1, a2, a3, a4, a5]) hz hk hR hM hr hd kk
