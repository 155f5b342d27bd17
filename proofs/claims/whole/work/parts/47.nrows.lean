/-! constructors: worlds of a few cells ahead, an unknown rest behind -/
def gA (g : Gl) (ad : Nat → Nat) : Gl := (g.1, g.2.1, ad, g.2.2.2)
theorem Ent.callsB {g : Gl} {A B : Nat → Prop} {s U : State} {H : Heap} {locs : List Loc} (h : Ent g A s) (hS : va_S A s.heap H locs) (hA : ∀ q, B q → A q) (hU : U.heap = H) (hW : s.WarmedH U.vm) : Ent g B U := by
  obtain ⟨h1, h2, h3, h4, h5, h6⟩ := h
  have k1 : ∀ a : Nat, a < s.heap.size → ¬ A a → U.heap[a]? = s.heap[a]? := fun a x y => by rw [hU]; exact hS.2.1 a x y
  refine ⟨?_, ?_, ?_, ?_, fun z => h5 (hA _ z), h6.warm hW⟩
  · exact ((h1.kept k1).narrow hA).moved hW.alike
  · exact ((h2.kept k1).narrow hA).moved hW.alike
  · exact (h3.kept (k1 _ h4 h5)).moved hW.alike
  · rw [hU]; exact Nat.lt_of_lt_of_le h4 hS.1
def Cn (g : Gl) (y : Mt) (A : Nat → Prop) (p : Program) (s : State) (m : MethodId) (args : Array Value) (meth : Method) (c : Code) : Prop :=
  p.tables.exec = Jvm.exec ∧ c.code = y.2.1 ∧ c.maxLocals = y.2.2.1 ∧ meth.sig.returnType = y.2.2.2.1 ∧ s.vm.findClass y.1.cls = some m.cls ∧ (∀ w ∈ tblG, w.before args s = true) ∧ meth.locks = false ∧ va_K g.2.1 vwCl (tysO g) s ∧ Ent g A s ∧ va_AO "ControlSigns$Told" s ∧ (y.1.name = "<init>" → meth.name = "<init>") ∧ ∀ q, s.heap.size ≤ q → A q
def jn (g : Gl) (y : Mt) (A : State → Nat → Prop) (Q : List Frame → Array Value → State → State → Prop) (ws : va_W) (cl sl : Nat) (lv : List (Nat × Value)) (pc : Nat) (st : List Value) : Prop :=
  ∀ (p : Program) (e : Env) (s : State) (m : MethodId) (args : Array Value) (below : List Frame) (meth : Method) (c : Code) (H : Heap) (locs : List Loc) (ls : Array Slot),
    Cn g y (A s) p s m args meth c → va_P g.2.1 vwCl ws H → va_D (A s) ws → va_S (A s) s.heap H locs → lv_has ls y.2.2.1 lv →
    W p g.1 e y.2.2.2.2 s m args below meth c H locs cl sl (Q below args s) (F0 m pc ls st)
theorem rot_P {D : va_G} {cl : List vw_C} {ws : va_W} {x : Nat × va_E} {H : Heap} (h : va_P D cl (ws ++ [x]) H) : va_P D cl (x :: ws) H := by
  intro k q hk
  cases k with
  | zero =>
    have e : x = q := Option.some.inj hk
    rw [← e]
    exact h ws.length x (by rw [List.getElem?_append_right (Nat.le_refl _), Nat.sub_self]; rfl)
  | succ k =>
    have hk : ws[k]? = some q := hk
    exact h k q (by rw [List.getElem?_append_left (List.getElem?_eq_some_iff.mp hk).1]; exact hk)
theorem rot_D {A : Nat → Prop} {ws : va_W} {x : Nat × va_E} (h : va_D A (ws ++ [x])) : va_D A (x :: ws) := by
  have f : ∀ (k : Nat) (q : Nat × va_E), (x :: ws)[k]? = some q → (ws ++ [x])[if k = 0 then ws.length else k - 1]? = some q ∧ k ≤ ws.length := by
    intro k q hk
    cases k with
    | zero =>
      have e : x = q := Option.some.inj hk
      rw [← e]
      refine ⟨?_, Nat.zero_le _⟩
      show (ws ++ [x])[ws.length]? = some x
      rw [List.getElem?_append_right (Nat.le_refl _), Nat.sub_self]
      rfl
    | succ k =>
      have hk : ws[k]? = some q := hk
      have hl := (List.getElem?_eq_some_iff.mp hk).1
      refine ⟨?_, by omega⟩
      show (ws ++ [x])[k]? = some q
      rw [List.getElem?_append_left hl]
      exact hk
  refine ⟨fun i j p q hi hj hpq => ?_, fun k q hk => h.2 _ q (f k q hk).1⟩
  have a := f i p hi
  have b := f j q hj
  have w := h.1 _ _ p q a.1 b.1 hpq
  have a2 := a.2
  have b2 := b.2
  clear a b f hi hj
  by_cases ci : i = 0
  · by_cases cj : j = 0
    · omega
    · rw [if_pos ci, if_neg cj] at w
      omega
  · by_cases cj : j = 0
    · rw [if_neg ci, if_pos cj] at w
      omega
    · rw [if_neg ci, if_neg cj] at w
      omega
def Qk (g : Gl) (ws0 : va_W) (Po : va_W → Prop) (sz : Nat) : Array Value → State → Outcome → State → Prop := fun _ st o t => (∃ ws1, Po ws1 ∧ o = .returned none ∧ va_P g.2.1 vwCl ws1 t.heap ∧ va_D (va_A ws0 sz) ws1) ∧ va_F (va_A ws0 sz) st t
def PrK (g : Gl) (ws0 : va_W) (sz : Nat) (U : State) : Prop := U.heap.size = sz ∧ va_P g.2.1 vwCl ws0 U.heap ∧ va_D (fun _ => True) ws0 ∧ va_K g.2.1 vwCl (tysO g) U ∧ Ent g (va_A ws0 sz) U ∧ va_AO "ControlSigns$Told" U
/-- a constructor's contract: from the world ws0 it returns, and its world is one of Po -/
def Kt (g : Gl) (y : Mt) (av : List Value) (ws0 : va_W) (Po : va_W → Prop) (mc ms : Nat) : Prop := ∀ sz, Met g.1 y.1 (.code y.1 y.2.1 y.2.2.1 y.2.2.2.1 :: tblG) y.2.2.2.2 (va_Pc av (PrK g ws0 sz)) (Qk g ws0 Po sz) mc ms (va_A ws0 sz)
def AK (ws0 : va_W) : State → Nat → Prop := fun s => va_A ws0 s.heap.size
def EK (g : Gl) (ws0 : va_W) (Po : va_W → Prop) (mc ms : Nat) : List Frame → Array Value → State → State → Prop := fun below args s => MQ below (Qk g ws0 Po s.heap.size) args s mc ms (va_A ws0 s.heap.size)
theorem Kt.of {g : Gl} {y : Mt} {av : List Value} {ws0 : va_W} {Po : va_W → Prop} {mc ms : Nat} (hp : plainName y.1.cls = true) (hn : (lg_sl av).length ≤ y.2.2.1) (h : jn g y (AK ws0) (EK g ws0 Po mc ms) ws0 0 0 (lv_args 0 av) 0 []) : Kt g y av ws0 Po mc ms := by
  intro sz
  refine Met.ofW (cc := y.2.1) (maxL := y.2.2.1) (ret := y.2.2.2.1) hp rfl ?_
  intro p e s m args below meth c s₁ B hml hv
  obtain ⟨rfl, hsz, hP, hD, hK, hE, hAO⟩ := hv
  subst hsz
  have hts := atoms_spec (ws := .code y.1 y.2.1 y.2.2.1 y.2.2.2.1 :: tblG) B.pre
  have hl := lv_entry av (n := y.2.2.1) hn
  rw [lg_entry_eq]
  exact h p e s m _ below meth c s.heap [] _ ⟨B.exec, B.bytes, hml, B.returns, findClass_of_methodNamed B.named, fun w hw => hts w (List.mem_cons_of_mem _ hw), B.notSynchronized, hK, hE, hAO, fun z => (name_of_methodNamed B.named B.method).1.trans z, fun q hq => Or.inr hq⟩ hP hD.self va_S.rf hl
theorem n_ret {g : Gl} {y : Mt} {ws0 ws : va_W} {Po : va_W → Prop} {mc ms : Nat} {lv : List (Nat × Value)} {pc nx : Nat} (hr : y.2.2.2.1 = none) (hd : Dc y pc (.return_) 1 nx) (h : Po ws) : jn g y (AK ws0) (EK g ws0 Po mc ms) ws mc ms lv pc [] := by
  obtain ⟨hd, rfl⟩ := hd
  intro p e s m args below meth c H locs ls C hP hD hS hl
  exact W.vret C.1 C.2.1 (C.2.2.2.1.trans hr) (fun t ht _ => ⟨⟨ws, h, rfl, by rw [ht]; exact hP, hD⟩, hS.F ht⟩) hS.2.2 hd C.2.2.2.2.2.2.1
theorem n_aload {g : Gl} {y : Mt} {A : State → Nat → Prop} {Q : List Frame → Array Value → State → State → Prop} {ws : va_W} {cl sl : Nat} {lv : List (Nat × Value)} {pc nx : Nat} {st : List Value} {n : Fin 4} {x : Nat} (hd : Dc y pc (.aload_n n) 1 nx) (hv : lv.lookup n.1 = some (Value.ref x)) (k : jn g y A Q ws cl sl lv nx (Value.ref x :: st)) : jn g y A Q ws cl sl lv pc st := by
  obtain ⟨hd, rfl⟩ := hd
  intro p e s m args below meth c H locs ls C hP hD hS hl
  exact lv_aload_n C.1 C.2.1 hd rfl (lk_at hl hv) (k p e s m args below meth c H locs _ C hP hD hS hl)
theorem n_astore {g : Gl} {y : Mt} {A : State → Nat → Prop} {Q : List Frame → Array Value → State → State → Prop} {ws : va_W} {cl sl : Nat} {lv : List (Nat × Value)} {pc nx : Nat} {st : List Value} {n : Fin 4} {x : Nat} (hd : Dc y pc (.astore_n n) 1 nx) (hn : n.1 < y.2.2.1) (k : jn g y A Q ws cl sl (lst1 n.1 (Value.ref x) lv) nx st) : jn g y A Q ws cl sl lv pc (Value.ref x :: st) := by
  obtain ⟨hd, rfl⟩ := hd
  intro p e s m args below meth c H locs ls C hP hD hS hl
  exact lv_astore_n C.1 C.2.1 hd rfl hl hn rfl (fun ls hl => k p e s m args below meth c H locs _ C hP hD hS hl)
theorem n_istore {g : Gl} {y : Mt} {A : State → Nat → Prop} {Q : List Frame → Array Value → State → State → Prop} {ws : va_W} {cl sl : Nat} {lv : List (Nat × Value)} {pc nx : Nat} {st : List Value} {n : Fin 4} {x : Int} (hd : Dc y pc (.istore_n n) 1 nx) (hn : n.1 < y.2.2.1) (k : jn g y A Q ws cl sl (lst1 n.1 (vi x) lv) nx st) : jn g y A Q ws cl sl lv pc (vi x :: st) := by
  obtain ⟨hd, rfl⟩ := hd
  intro p e s m args below meth c H locs ls C hP hD hS hl
  exact lv_istore_n C.1 C.2.1 hd rfl hl hn rfl (fun ls hl => k p e s m args below meth c H locs _ C hP hD hS hl)
theorem n_iconst {g : Gl} {y : Mt} {A : State → Nat → Prop} {Q : List Frame → Array Value → State → State → Prop} {ws : va_W} {cl sl : Nat} {lv : List (Nat × Value)} {pc nx : Nat} {st : List Value} (a : Int) (hd : Dc y pc (.iconst a) 1 nx) (k : jn g y A Q ws cl sl lv nx (vi a :: st)) : jn g y A Q ws cl sl lv pc st := by
  obtain ⟨hd, rfl⟩ := hd
  intro p e s m args below meth c H locs ls C hP hD hS hl
  exact lv_iconst C.1 C.2.1 hd rfl (k p e s m args below meth c H locs _ C hP hD hS hl)
theorem n_bipush {g : Gl} {y : Mt} {A : State → Nat → Prop} {Q : List Frame → Array Value → State → State → Prop} {ws : va_W} {cl sl : Nat} {lv : List (Nat × Value)} {pc nx : Nat} {st : List Value} (a : Int) (hd : Dc y pc (.bipush a) 2 nx) (h : (Int8.ofInt a).toInt32 = kI a) (k : jn g y A Q ws cl sl lv nx (vi a :: st)) : jn g y A Q ws cl sl lv pc st := by
  obtain ⟨hd, rfl⟩ := hd
  intro p e s m args below meth c H locs ls C hP hD hS hl
  exact lv_bipush C.1 C.2.1 hd h (k p e s m args below meth c H locs _ C hP hD hS hl)
theorem n_sipush {g : Gl} {y : Mt} {A : State → Nat → Prop} {Q : List Frame → Array Value → State → State → Prop} {ws : va_W} {cl sl : Nat} {lv : List (Nat × Value)} {pc nx : Nat} {st : List Value} (a : Int) (hd : Dc y pc (.sipush a) 3 nx) (h : (Int16.ofInt a).toInt32 = kI a) (k : jn g y A Q ws cl sl lv nx (vi a :: st)) : jn g y A Q ws cl sl lv pc st := by
  obtain ⟨hd, rfl⟩ := hd
  intro p e s m args below meth c H locs ls C hP hD hS hl
  exact lv_sipush C.1 C.2.1 hd h (k p e s m args below meth c H locs _ C hP hD hS hl)
theorem n_dup {g : Gl} {y : Mt} {A : State → Nat → Prop} {Q : List Frame → Array Value → State → State → Prop} {ws : va_W} {cl sl : Nat} {lv : List (Nat × Value)} {pc nx : Nat} {st : List Value} {x : Nat} (hd : Dc y pc (.dup) 1 nx) (k : jn g y A Q ws cl sl lv nx (Value.ref x :: Value.ref x :: st)) : jn g y A Q ws cl sl lv pc (Value.ref x :: st) := by
  obtain ⟨hd, rfl⟩ := hd
  intro p e s m args below meth c H locs ls C hP hD hS hl
  exact lv_dup C.1 C.2.1 hd rfl (k p e s m args below meth c H locs _ C hP hD hS hl)
theorem n_obj {g : Gl} {y : Mt} {A : State → Nat → Prop} {Q : List Frame → Array Value → State → State → Prop} {ws : va_W} {cl sl : Nat} {lv : List (Nat × Value)} {pc nx : Nat} {st : List Value} {ix a : Nat} (hw : Cond.methodLink y.1.cls ix Lib.objectInit ∈ tblG ∧ Cond.instanceMethod Lib.objectInit ∈ tblG ∧ Cond.code Lib.objectInit ⟨#[0xb1]⟩ 1 none ∈ tblG) (hf : 1 ≤ y.2.2.2.2.frames) (hlo : (st.map fun v => v.category).sum + 12 ≤ y.2.2.2.2.locals) (hd : Dc y pc (.invokespecial ix) 3 nx) (k : jn g y A Q ws cl sl lv nx st) : jn g y A Q ws cl sl lv pc (Value.ref a :: st) := by
  obtain ⟨hd, rfl⟩ := hd
  intro p e s m args below meth c H locs ls C hP hD hS hl
  exact W.objInit C.1 C.2.1 C.2.2.2.2.1 (C.2.2.2.2.2.1 _ hw.1) (C.2.2.2.2.2.1 _ hw.2.1) (C.2.2.2.2.2.1 _ hw.2.2) rfl (hl.1.trans C.2.2.1.symm) rfl hd hf (by show 2 * 0 + _ + 12 ≤ _; omega) (k p e s m args below meth c H locs _ C hP hD hS hl)
theorem n_new {g : Gl} {y : Mt} {A : State → Nat → Prop} {Q : List Frame → Array Value → State → State → Prop} {ws : va_W} {cl sl : Nat} {lv : List (Nat × Value)} {pc nx : Nat} {st : List Value} {ix ci N : Nat} {K0 : String} {T : u_T} {fs : List Value} (ty : Nat → FieldType) (hw : Cond.classLink y.1.cls ix K0 ∈ tblG ∧ Cond.instantiable K0 N ∈ tblG ∧ Cond.initialized K0 ∈ tblG) (hin : ∀ w ∈ u_ws K0 T N, w ∈ tblG) (hty : ∀ k, k < N → parseFieldDescriptor (T k).2.2.1 = some (ty k)) (hc : vwCl[ci]? = some (K0, T, N)) (hfs : ∀ j, j < N → defaultValue (ty j) = vp_V fs j) (hcl : cl + 1 ≤ y.2.2.2.2.cells) (hsl : sl + N ≤ y.2.2.2.2.slots) (hd : Dc y pc (.new ix) 3 nx) (k : ∀ q, jn g y A Q ((q, .inr (ci, fs)) :: ws) (cl + 1) (sl + N) lv nx (Value.ref q :: st)) : jn g y A Q ws cl sl lv pc st := by
  obtain ⟨hd, rfl⟩ := hd
  intro p e s m args below meth c H locs ls C hP hD hS hl
  exact va_new C.1 C.2.1 C.2.2.2.2.2.1 hin ty hty C.2.2.2.2.1 (C.2.2.2.2.2.1 _ hw.1) (C.2.2.2.2.2.1 _ hw.2.1) (C.2.2.2.2.2.1 _ hw.2.2) C.2.2.2.2.2.2.2.1 hP hD hS C.2.2.2.2.2.2.2.2.2.2.2 hc hfs hcl hsl hd (fun q H1 hP1 hD1 hS1 => k q p e s m args below meth c H1 locs ls C (rot_P hP1) (rot_D hD1) hS1 hl)
theorem n_newI {g : Gl} {y : Mt} {A : State → Nat → Prop} {Q : List Frame → Array Value → State → State → Prop} {ws : va_W} {cl sl : Nat} {lv : List (Nat × Value)} {pc nx : Nat} {st : List Value} {a : Int} {N : Nat} (hw : Cond.arrayClass .int ∈ tblG) (ha : ¬ kI a < 0 ∧ (kI a).toNatClampNeg = N ∧ N * componentBytes .int ≤ 536870912) (hcl : cl + 1 ≤ y.2.2.2.2.cells) (hsl : sl + N ≤ y.2.2.2.2.slots) (hd : Dc y pc (.newarray .int) 2 nx) (k : ∀ q, jn g y A Q ((q, .inl (g.2.2.2.1 0, N, .inl (fun _ => 0))) :: ws) (cl + 1) (sl + N) lv nx (Value.ref q :: st)) : jn g y A Q ws cl sl lv pc (vi a :: st) := by
  obtain ⟨hd, rfl⟩ := hd
  intro p e s m args below meth c H locs ls C hP hD hS hl
  refine va_newa (atype := .int) (ty := .int) (a0 := (N, .inl (fun _ => 0))) C.1 C.2.1 (C.2.2.2.2.2.1 _ hw) rfl C.2.2.2.2.2.2.2.1 hP hD hS C.2.2.2.2.2.2.2.2.2.2.2 (fun cA => rfl) ha.1 ha.2.1 ha.2.2 hcl hsl hd (fun q cA H1 hK1 hP1 hD1 hS1 => ?_)
  have h1 := (hK1.2 4 (cA, .int) rfl).2
  have h2 := (C.2.2.2.2.2.2.2.1.2 0 (g.2.2.2.1 0, .int) rfl).2
  have h1 : s.vm.findClass ("[" ++ (FieldType.int).toString) = some cA := h1
  have h2 : s.vm.findClass ("[" ++ (FieldType.int).toString) = some (g.2.2.2.1 0) := h2
  have e1 : cA = g.2.2.2.1 0 := Option.some.inj (h1.symm.trans h2)
  rw [e1] at hP1 hD1
  exact k q p e s m args below meth c H1 locs ls C (rot_P hP1) (rot_D hD1) hS1 hl
theorem n_newL {g : Gl} {y : Mt} {A : State → Nat → Prop} {Q : List Frame → Array Value → State → State → Prop} {ws : va_W} {cl sl : Nat} {lv : List (Nat × Value)} {pc nx : Nat} {st : List Value} {a : Int} {N : Nat} (hw : Cond.arrayClass .long ∈ tblG) (ha : ¬ kI a < 0 ∧ (kI a).toNatClampNeg = N ∧ N * componentBytes .long ≤ 536870912) (hcl : cl + 1 ≤ y.2.2.2.2.cells) (hsl : sl + N ≤ y.2.2.2.2.slots) (hd : Dc y pc (.newarray .long) 2 nx) (k : ∀ q, jn g y A Q ((q, .inl (g.2.2.2.1 1, N, .inr (.inl (fun _ => 0)))) :: ws) (cl + 1) (sl + N) lv nx (Value.ref q :: st)) : jn g y A Q ws cl sl lv pc (vi a :: st) := by
  obtain ⟨hd, rfl⟩ := hd
  intro p e s m args below meth c H locs ls C hP hD hS hl
  refine va_newa (atype := .long) (ty := .long) (a0 := (N, .inr (.inl (fun _ => 0)))) C.1 C.2.1 (C.2.2.2.2.2.1 _ hw) rfl C.2.2.2.2.2.2.2.1 hP hD hS C.2.2.2.2.2.2.2.2.2.2.2 (fun cA => rfl) ha.1 ha.2.1 ha.2.2 hcl hsl hd (fun q cA H1 hK1 hP1 hD1 hS1 => ?_)
  have h1 := (hK1.2 4 (cA, .long) rfl).2
  have h2 := (C.2.2.2.2.2.2.2.1.2 1 (g.2.2.2.1 1, .long) rfl).2
  have h1 : s.vm.findClass ("[" ++ (FieldType.long).toString) = some cA := h1
  have h2 : s.vm.findClass ("[" ++ (FieldType.long).toString) = some (g.2.2.2.1 1) := h2
  have e1 : cA = g.2.2.2.1 1 := Option.some.inj (h1.symm.trans h2)
  rw [e1] at hP1 hD1
  exact k q p e s m args below meth c H1 locs ls C (rot_P hP1) (rot_D hD1) hS1 hl
theorem n_newZ {g : Gl} {y : Mt} {A : State → Nat → Prop} {Q : List Frame → Array Value → State → State → Prop} {ws : va_W} {cl sl : Nat} {lv : List (Nat × Value)} {pc nx : Nat} {st : List Value} {a : Int} {N : Nat} (hw : Cond.arrayClass .boolean ∈ tblG) (ha : ¬ kI a < 0 ∧ (kI a).toNatClampNeg = N ∧ N * componentBytes .boolean ≤ 536870912) (hcl : cl + 1 ≤ y.2.2.2.2.cells) (hsl : sl + N ≤ y.2.2.2.2.slots) (hd : Dc y pc (.newarray .boolean) 2 nx) (k : ∀ q, jn g y A Q ((q, .inl (g.2.2.2.1 2, N, .inl (fun _ => 0))) :: ws) (cl + 1) (sl + N) lv nx (Value.ref q :: st)) : jn g y A Q ws cl sl lv pc (vi a :: st) := by
  obtain ⟨hd, rfl⟩ := hd
  intro p e s m args below meth c H locs ls C hP hD hS hl
  refine va_newa (atype := .boolean) (ty := .boolean) (a0 := (N, .inl (fun _ => 0))) C.1 C.2.1 (C.2.2.2.2.2.1 _ hw) rfl C.2.2.2.2.2.2.2.1 hP hD hS C.2.2.2.2.2.2.2.2.2.2.2 (fun cA => rfl) ha.1 ha.2.1 ha.2.2 hcl hsl hd (fun q cA H1 hK1 hP1 hD1 hS1 => ?_)
  have h1 := (hK1.2 4 (cA, .boolean) rfl).2
  have h2 := (C.2.2.2.2.2.2.2.1.2 2 (g.2.2.2.1 2, .boolean) rfl).2
  have h1 : s.vm.findClass ("[" ++ (FieldType.boolean).toString) = some cA := h1
  have h2 : s.vm.findClass ("[" ++ (FieldType.boolean).toString) = some (g.2.2.2.1 2) := h2
  have e1 : cA = g.2.2.2.1 2 := Option.some.inj (h1.symm.trans h2)
  rw [e1] at hP1 hD1
  exact k q p e s m args below meth c H1 locs ls C (rot_P hP1) (rot_D hD1) hS1 hl
theorem n_newT {g : Gl} {y : Mt} {A : State → Nat → Prop} {Q : List Frame → Array Value → State → State → Prop} {ws : va_W} {cl sl : Nat} {lv : List (Nat × Value)} {pc nx : Nat} {st : List Value} {ix N : Nat} {a : Int} (hw : Cond.classLink y.1.cls ix "ControlSigns$Told" ∈ tblG) (ha : ¬ kI a < 0 ∧ (kI a).toNatClampNeg = N ∧ N * 4 ≤ 536870912) (hcl : cl + 1 ≤ y.2.2.2.2.cells) (hsl : sl + N ≤ y.2.2.2.2.slots) (hd : Dc y pc (.anewarray ix) 3 nx) (k : ∀ q, jn g y A Q ((q, .inl (g.2.2.2.1 3, N, .inr (.inr (.inr (.inr (fun _ => none)))))) :: ws) (cl + 1) (sl + N) lv nx (Value.ref q :: st)) : jn g y A Q ws cl sl lv pc (vi a :: st) := by
  obtain ⟨hd, rfl⟩ := hd
  intro p e s m args below meth c H locs ls C hP hD hS hl
  refine va_newq C.1 C.2.1 C.2.2.2.2.1 (C.2.2.2.2.2.1 _ hw) C.2.2.2.2.2.2.2.2.2.1 C.2.2.2.2.2.2.2.1 hP hD hS C.2.2.2.2.2.2.2.2.2.2.2 ha.1 ha.2.1 ha.2.2 hcl hsl hd (fun q cA H1 hK1 hP1 hD1 hS1 => ?_)
  obtain ⟨_, _, _, _, _, h1⟩ := (hK1.2 4 (cA, .object "ControlSigns$Told") rfl).2
  obtain ⟨_, _, _, _, _, h2⟩ := (C.2.2.2.2.2.2.2.1.2 3 (g.2.2.2.1 3, .object "ControlSigns$Told") rfl).2
  have e1 : cA = g.2.2.2.1 3 := Option.some.inj (h1.symm.trans h2)
  rw [e1] at hP1 hD1
  exact k q p e s m args below meth c H1 locs ls C (rot_P hP1) (rot_D hD1) hS1 hl
theorem n_ast {g : Gl} {y : Mt} {A : State → Nat → Prop} {Q : List Frame → Array Value → State → State → Prop} {ws : va_W} {cl sl : Nat} {lv : List (Nat × Value)} {pc nx : Nat} {st : List Value} {q0 qk a v n : Nat} {i : Int} {vs : List Value} {f : Nat → Option Nat} (hq : ws[q0]? = some (a, .inl (g.2.2.2.1 3, n, .inr (.inr (.inr (.inr f)))))) (hv : ws[qk]? = some (v, .inr (10, vs))) (hi : vp_in (kI i) n) (hd : Dc y pc (.aastore) 1 nx) (k : jn g y A Q (ws.set q0 (a, .inl (g.2.2.2.1 3, n, .inr (.inr (.inr (.inr (va_up f (kI i).toNatClampNeg (some v)))))))) cl sl lv nx st) : jn g y A Q ws cl sl lv pc (Value.ref v :: vi i :: Value.ref a :: st) := by
  obtain ⟨hd, rfl⟩ := hd
  intro p e s m args below meth c H locs ls C hP hD hS hl
  exact va_astq (r := (RX10, TX10, 7)) C.1 C.2.1 C.2.2.2.2.2.2.2.1 hP hD hS q0 3 qk 10 hq rfl hv rfl hi hd (fun H1 locs1 hP1 hD1 hS1 => k p e s m args below meth c H1 locs1 ls C hP1 hD1 hS1 hl)
theorem n_get {g : Gl} {y : Mt} {A : State → Nat → Prop} {Q : List Frame → Array Value → State → State → Prop} {ws : va_W} {cl sl : Nat} {lv : List (Nat × Value)} {pc nx : Nat} {st : List Value} {ix ci N j q0 a : Nat} {K0 : String} {T : u_T} {fs : List Value} {v : Value} (hin : ∀ w ∈ u_ws K0 T N, w ∈ tblG) (hc : vwCl[ci]? = some (K0, T, N)) (he : ws[q0]? = some (a, .inr (ci, fs))) (hj : j < N) (hlk : Cond.fieldLink y.1.cls ix (T j).1 (T j).2.1 (T j).2.2.1 ∈ tblG) (hv : fs[j]? = some v) (hd : Dc y pc (.getfield ix) 3 nx) (k : jn g y A Q ws cl sl lv nx (v :: st)) : jn g y A Q ws cl sl lv pc (Value.ref a :: st) := by
  obtain ⟨hd, rfl⟩ := hd
  intro p e s m args below meth c H locs ls C hP hD hS hl
  exact va_get C.1 C.2.1 C.2.2.2.2.2.1 hin C.2.2.2.2.1 C.2.2.2.2.2.2.2.1 hP q0 he hc j hj (C.2.2.2.2.2.1 _ hlk) (fun _ z => z) hv hd (k p e s m args below meth c H locs _ C hP hD hS hl)
theorem n_put {g : Gl} {y : Mt} {A : State → Nat → Prop} {Q : List Frame → Array Value → State → State → Prop} {ws : va_W} {cl sl : Nat} {lv : List (Nat × Value)} {pc nx : Nat} {st : List Value} {ix ci N j q0 a : Nat} {K0 : String} {T : u_T} {fs : List Value} {v : Value} {ty : FieldType} (ty0 : Nat → FieldType) (hin : ∀ w ∈ u_ws K0 T N, w ∈ tblG) (hty : ∀ k, k < N → parseFieldDescriptor (T k).2.2.1 = some (ty0 k)) (hnm : ∀ a, a < N → ∀ b, b < N → a ≠ b → (T a).2.1 ≠ (T b).2.1) (hc : vwCl[ci]? = some (K0, T, N)) (he : ws[q0]? = some (a, .inr (ci, fs))) (hj : j < N) (hlk : Cond.fieldLink y.1.cls ix (T j).1 (T j).2.1 (T j).2.2.1 ∈ tblG) (hfin : (T j).2.2.2 = true ∧ y.1.name = "<init>" ∧ (T j).1 = y.1.cls) (hpd : ty0 j = ty) (hfit : narrow ty v = v ∧ fits ty v = true ∧ j < fs.length) (hd : Dc y pc (.putfield ix) 3 nx) (k : jn g y A Q (ws.set q0 (a, .inr (ci, fs.set j v))) cl sl lv nx st) : jn g y A Q ws cl sl lv pc (v :: Value.ref a :: st) := by
  obtain ⟨hd, rfl⟩ := hd
  intro p e s m args below meth c H locs ls C hP hD hS hl
  exact va_putF C.1 C.2.1 C.2.2.2.2.2.1 hin ty0 hty hnm C.2.2.2.2.1 C.2.2.2.2.2.2.2.1 hP hD hS q0 he hc j hj (C.2.2.2.2.2.1 _ hlk) (fun _ z => z) hfin.1 (C.2.2.2.2.2.2.2.2.2.2.1 hfin.2.1) hfin.2.2 (by rw [hty j hj, hpd]) hfit.1 hfit.2.1 hfit.2.2 hd (fun H1 locs1 hP1 hD1 hS1 => k p e s m args below meth c H1 locs1 ls C hP1 hD1 hS1 hl)
def Zi (z : Mt) (n mc ms : Nat) : Prop := Cond.code z.1 z.2.1 z.2.2.1 z.2.2.2.1 ∈ tblG ∧ Cond.initialized z.1.cls ∈ tblG ∧ (z.1.cls ≠ "java/lang/invoke/MethodHandle" ∧ z.1.cls ≠ "java/lang/invoke/VarHandle" ∧ (parseMethodDescriptor z.1.desc).map (fun d => d.parameters.length) = some n) ∧ z.2.2.2.2.cells = mc ∧ z.2.2.2.2.slots = ms ∧ Cond.instanceMethod z.1 ∈ tblG ∧ z.1.name = "<init>" ∧ z.2.2.2.1 = none
theorem PrK_blind {g : Gl} {av : List Value} {ws0 : va_W} {sz : Nat} : FrameBlind (va_Pc av (PrK g ws0 sz)) := by
  intro a U fr mk q
  obtain ⟨q0, qs, qP, qD, qK, qE, qA⟩ := q
  exact ⟨q0, qs, qP, qD, va_K.moved (u := U) (U := U.calling fr mk a) (Vm.Alike.refl U.vm) qK, qE, va_AO.moved (u := U) (U := U.calling fr mk a) (Vm.Alike.refl U.vm) qA⟩
theorem n_run {g : Gl} {y : Mt} {A : State → Nat → Prop} {Q : State → Prop} {ws : va_W} {cl sl mc ms : Nat} {p : Program} {e : Env} {s : State} {m : MethodId} {args : Array Value} {below : List Frame} {meth : Method} {c : Code} {H : Heap} {locs : List Loc} {pc : Nat} {ls : Array Slot} {st st0 : List Value} {Po : va_W → Prop} {a : Array Value}
    (run : va_Run p g.1 e y.2.2.2.2 s m args below meth c H locs cl sl mc ms (F0 m pc ls st0) st (Qk g ws Po H.size a) (va_A ws H.size)) (hS : va_S (A s) s.heap H locs) (hB : ∀ q, va_A ws H.size q → A s q)
    (kk : ∀ (ws1 : va_W) (H1 : Heap) (locs1 : List Loc), Po ws1 → va_P g.2.1 vwCl ws1 H1 → va_D (A s) ws1 → va_S (A s) s.heap H1 locs1 → W p g.1 e y.2.2.2.2 s m args below meth c H1 locs1 (cl + mc) (sl + ms) Q (F0 m (pc + 3) ls st)) : W p g.1 e y.2.2.2.2 s m args below meth c H locs cl sl Q (F0 m pc ls st0) := by
  intro T hT X
  obtain ⟨v, st₀, t, T', L, h0, X', hL, e1, e2, ⟨⟨ws1, hp, hv, hb, hd1⟩, hz, hk⟩, stp⟩ := run T hT X
  cases hv
  rw [h0] at hz hk
  obtain ⟨t2, a1, b1⟩ := kk ws1 T'.heap (locs ++ L) hp (by rw [e1]; exact hb) (hd1.weaken (fun _ q _ h => hB q.1 h))
    ⟨Nat.le_trans hS.1 (by rw [e1]; exact hz), fun q h1 h2 => by rw [e1, hk q (Nat.lt_of_lt_of_le h1 hS.1) (fun z => h2 (hB q z))]; exact hS.2.1 q h1 h2, fun q hq => by
      rcases List.mem_append.mp hq with h | h
      · exact hS.2.2 q h
      · exact hB _ (hL q h)⟩ T' rfl X'
  exact ⟨t2, stp t2 a1, b1⟩
theorem n_callI {g : Gl} {y : Mt} {A : State → Nat → Prop} {Q : List Frame → Array Value → State → State → Prop} {ws : va_W} {cl sl : Nat} {lv : List (Nat × Value)} {pc nx : Nat} {st : List Value} {z : Mt} {ix h mc ms : Nat} {av : List Value} {Po : va_W → Prop} (hz : Zi z av.length mc ms) (hk : Cond.methodLink y.1.cls ix z.1 ∈ tblG) (hR : Rm y z) (hM : Kt g z (Value.ref h :: av) ws Po mc ms) (hr : (st.map fun v => v.category).sum ≤ 8) (hcl : cl + mc ≤ y.2.2.2.2.cells) (hsl : sl + ms ≤ y.2.2.2.2.slots) (hd : Dc y pc (.invokespecial ix) 3 nx) (k : ∀ ws1, Po ws1 → jn g y A Q ws1 (cl + mc) (sl + ms) lv nx st) : jn g y A Q ws cl sl lv pc (av.reverse ++ Value.ref h :: st) := by
  obtain ⟨hd, rfl⟩ := hd
  intro p e s m args below meth c H locs ls C hP hD hS hl
  obtain ⟨z0, zc, zl, zr, zm⟩ := z
  obtain ⟨z1, z2, z3, z4, z5, z6, z7, z8⟩ := hz
  have z8 : zr = none := z8
  subst z8
  have hB : ∀ q, va_A ws H.size q → A s q := by
    rintro q (⟨i, e, h⟩ | h)
    · exact hD.2 i (q, e) h
    · exact C.2.2.2.2.2.2.2.2.2.2.2 q (Nat.le_trans hS.1 h)
  have hpre : ∀ U : State, U.heap = H → s.WarmedH U.vm → va_Pc (Value.ref h :: av) (PrK g ws H.size) (Value.ref h :: av).toArray U := fun U hU hW => ⟨rfl, by rw [hU], by rw [hU]; exact hP, hD.weaken (fun _ _ _ _ => trivial), va_K.moved hW.alike C.2.2.2.2.2.2.2.1, C.2.2.2.2.2.2.2.2.1.callsB hS hB hU hW, va_AO.moved hW.alike C.2.2.2.2.2.2.2.2.2.1⟩
  refine n_run (Po := Po) (a := (Value.ref h :: av).toArray) (va_runI (As := av) (rest := st) ⟨C.1, C.2.1, C.2.2.1, C.2.2.2.2.1, C.2.2.2.2.2.1⟩ (hM H.size) ⟨callB_of av.length C.2.2.2.2.2.1 (good_ws z1) rfl z4 z5 (C.2.2.2.2.2.1 _ z2) (C.2.2.2.2.2.1 _ hk) z3 hR, z7, C.2.2.2.2.2.1 _ z6⟩ ⟨PrK_blind, hpre⟩ rfl rfl hl.1 rfl (lv_room hr) hd ⟨hcl, hsl⟩) hS hB (fun ws1 H1 locs1 h1 h2 h3 h4 => ?_)
  exact k ws1 h1 p e s m args below meth c H1 locs1 ls C h2 h3 h4 hl
theorem n_callN {g : Gl} {y : Mt} {A : State → Nat → Prop} {Q : List Frame → Array Value → State → State → Prop} {ws : va_W} {cl sl : Nat} {lv : List (Nat × Value)} {pc nx : Nat} {st : List Value} {z : Mt} {ix h mc ms : Nat} {av : List Value} {Po : va_W → Prop} (hz : Zi z av.length mc ms) {host : String} (hk : (y.1.cls, ix, z.1, host) ∈ nstL) (hR : Rm y z) (hM : Kt g z (Value.ref h :: av) ws Po mc ms) (hr : (st.map fun v => v.category).sum ≤ 8) (hcl : cl + mc ≤ y.2.2.2.2.cells) (hsl : sl + ms ≤ y.2.2.2.2.slots) (hd : Dc y pc (.invokespecial ix) 3 nx) (k : ∀ ws1, Po ws1 → jn g y A Q ws1 (cl + mc) (sl + ms) lv nx st) : jn g y A Q ws cl sl lv pc (av.reverse ++ Value.ref h :: st) := by
  obtain ⟨hd, rfl⟩ := hd
  intro p e s m args below meth c H locs ls C hP hD hS hl
  obtain ⟨z0, zc, zl, zr, zm⟩ := z
  obtain ⟨z1, z2, z3, z4, z5, z6, z7, z8⟩ := hz
  have z8 : zr = none := z8
  subst z8
  have hB : ∀ q, va_A ws H.size q → A s q := by
    rintro q (⟨i, e, h⟩ | h)
    · exact hD.2 i (q, e) h
    · exact C.2.2.2.2.2.2.2.2.2.2.2 q (Nat.le_trans hS.1 h)
  have hpre : ∀ U : State, U.heap = H → s.WarmedH U.vm → va_Pc (Value.ref h :: av) (PrK g ws H.size) (Value.ref h :: av).toArray U := fun U hU hW => ⟨rfl, by rw [hU], by rw [hU]; exact hP, hD.weaken (fun _ _ _ _ => trivial), va_K.moved hW.alike C.2.2.2.2.2.2.2.1, C.2.2.2.2.2.2.2.2.1.callsB hS hB hU hW, va_AO.moved hW.alike C.2.2.2.2.2.2.2.2.2.1⟩
  refine n_run (Po := Po) (a := (Value.ref h :: av).toArray) (va_runIN (As := av) (rest := st) ⟨C.1, C.2.1, C.2.2.1, C.2.2.2.2.1, C.2.2.2.2.2.1⟩ (hM H.size) ⟨va_cnB av.length C.2.2.2.2.2.1 (good_ws z1) rfl z4 z5 (C.2.2.2.2.2.2.2.2.1.2.2.2.2.2.1 _ hk) (C.2.2.2.2.2.1 _ z2) z3 hR, z7, C.2.2.2.2.2.1 _ z6⟩ ⟨PrK_blind, hpre⟩ rfl rfl hl.1 rfl (lv_room hr) hd ⟨hcl, hsl⟩) hS hB (fun ws1 H1 locs1 h1 h2 h3 h4 => ?_)
  exact k ws1 h1 p e s m args below meth c H1 locs1 ls C h2 h3 h4 hl
/-- the whole world stands: a call of the reference's becomes -/
theorem n_bec {g : Gl} {y : Mt} {A : State → Nat → Prop} {Q : List Frame → Array Value → State → State → Prop} {ws : va_W} {cl sl : Nat} {lv : List (Nat × Value)} {pc nx : Nat} {st : List Value} {ix h : Nat} (hk : Cond.methodLink y.1.cls ix mX12_becomes.1 ∈ tblG) (hR : Rm y mX12_becomes) (ad pos : Nat → Nat) (hW : ∀ (k : Nat) (q : Nat × List Nat), lay[k]? = some q → ws[pos k]? = some (ad k, cel (gA g ad) q (fun _ => 0))) (hj : ∀ i j, i < 68 → j < 68 → pos i = pos j → i = j) (hh : ad 48 = h) (hr : (st.map fun v => v.category).sum ≤ 8) (hcl : cl ≤ y.2.2.2.2.cells) (hsl : sl ≤ y.2.2.2.2.slots) (hd : Dc y pc (.invokevirtual ix) 3 nx) (k : ∀ σ', BcM (fun _ _ => 0) σ' → jn g y A Q (wsO (gA g ad) σ') cl sl lv nx st) : jn g y A Q ws cl sl lv pc (Value.ref h :: st) := by
  obtain ⟨hd, rfl⟩ := hd
  intro p e s m args below meth c H locs ls C hP hD hS hl
  subst hh
  obtain ⟨z1, z2, z3, z4, z5, z6, z7⟩ := zX12_becomes
  have hG : Gok (gA g ad) := by
    intro i j hi hjj he
    obtain ⟨qi, hqi⟩ : ∃ q, lay[i]? = some q := ⟨_, List.getElem?_eq_getElem (by rw [lay_len]; exact hi)⟩
    obtain ⟨qj, hqj⟩ : ∃ q, lay[j]? = some q := ⟨_, List.getElem?_eq_getElem (by rw [lay_len]; exact hjj)⟩
    exact hj i j hi hjj (hD.1 _ _ _ _ (hW i qi hqi) (hW j qj hqj) he)
  have hAk : ∀ k, k < 68 → A s (ga (gA g ad) k) := by
    intro i hi
    obtain ⟨qi, hqi⟩ : ∃ q, lay[i]? = some q := ⟨_, List.getElem?_eq_getElem (by rw [lay_len]; exact hi)⟩
    exact hD.2 _ _ (hW i qi hqi)
  have hP2 : va_P (gA g ad).2.1 vwCl (wsO (gA g ad) (fun _ _ => 0)) H := by
    intro i x hx
    obtain ⟨q, hq, rfl⟩ := wsO_fwd hx
    exact hP _ _ (hW i q hq)
  have hA2 : ∀ q, Aw (gA g ad) q → A s q := fun q ⟨k, hk, e⟩ => by rw [e]; exact hAk k hk
  have hpre : ∀ U : State, U.heap = H → s.WarmedH U.vm → va_Pc [vr (gA g ad) 48] (Wo (gA g ad) (fun _ _ => 0)) [vr (gA g ad) 48].toArray U := fun U hU hW2 => ⟨rfl, by rw [hU]; exact hP2, va_K.moved hW2.alike C.2.2.2.2.2.2.2.1, hG, C.2.2.2.2.2.2.2.2.1.callsB hS hA2 hU hW2⟩
  refine j_run (g := gA g ad) (a := [vr (gA g ad) 48].toArray) (va_runV (As := []) (rest := st) ⟨C.1, C.2.1, C.2.2.1, C.2.2.2.2.1, C.2.2.2.2.2.1⟩ (c_X12_becomes (g := gA g ad) (σ := fun _ _ => 0)) ⟨callB_of 0 C.2.2.2.2.2.1 (good_ws z1) rfl z4 z5 (C.2.2.2.2.2.1 _ z2) (C.2.2.2.2.2.1 _ hk) z3 hR, C.2.2.2.2.2.1 _ z6, C.2.2.2.2.2.1 _ z7⟩ ⟨Wo_blind, va_recv C.2.2.2.2.2.2.2.1 hP2 (ci := 12) rfl (wsO_at ly48), hpre⟩ rfl rfl hl.1 rfl (lv_room hr) hd ⟨hcl, hsl⟩) hS hA2 (fun r σ' H1 locs1 h1 h2 h3 => ?_)
  obtain ⟨rfl, h1⟩ := h1
  exact k σ' h1 p e s m args below meth c H1 locs1 ls C h2 (wsO_D hG hAk) h3 hl
/-- all is made: the law's loop -/
theorem n_law {g : Gl} {ad : Nat → Nat} {σ : Sg} {lv : List (Nat × Value)} {pc : Nat} {st : List Value} (h : jv (gA g ad) mL_law (FLw (gA g ad)) σ lv pc st) : jn g mL_law (fun s q => s.heap.size ≤ q) (FLw g).2.2.2 (wsO (gA g ad) σ) 68 2502 lv pc st := by
  intro p e s m args below meth c H locs ls C hP hD hS hl
  have hG : Gok (gA g ad) := by
    intro i j hi hjj he
    obtain ⟨qi, hqi⟩ : ∃ q, lay[i]? = some q := ⟨_, List.getElem?_eq_getElem (by rw [lay_len]; exact hi)⟩
    obtain ⟨qj, hqj⟩ : ∃ q, lay[j]? = some q := ⟨_, List.getElem?_eq_getElem (by rw [lay_len]; exact hjj)⟩
    exact hD.1 i j _ _ (wsO_at hqi) (wsO_at hqj) he
  have hAk : ∀ k, k < 68 → s.heap.size ≤ ga (gA g ad) k := by
    intro i hi
    obtain ⟨qi, hqi⟩ : ∃ q, lay[i]? = some q := ⟨_, List.getElem?_eq_getElem (by rw [lay_len]; exact hi)⟩
    exact hD.2 i _ (wsO_at hqi)
  exact h p e s m args below meth c H locs ls ⟨C.1, C.2.1, C.2.2.1, C.2.2.2.1, C.2.2.2.2.1, C.2.2.2.2.2.1, C.2.2.2.2.2.2.1, C.2.2.2.2.2.2.2.1, hG, C.2.2.2.2.2.2.2.2.1, hAk, Nat.le_of_ble_eq_true rfl, Nat.le_of_ble_eq_true rfl⟩ hP hS hl
theorem jn_lv {g : Gl} {y : Mt} {A : State → Nat → Prop} {Q : List Frame → Array Value → State → State → Prop} {ws : va_W} {cl sl : Nat} {lv : List (Nat × Value)} {pc : Nat} {st : List Value} {lv' : List (Nat × Value)} (hs : lvS lv lv') (k : jn g y A Q ws cl sl lv' pc st) : jn g y A Q ws cl sl lv pc st :=
  fun p e s m args below meth c H locs ls C hP hD hS hl => k p e s m args below meth c H locs ls C hP hD hS (lvS_has hl hs)
