/-! THE FRAME: whole numbers for ints and longs, the world of 68 cells, the judgement jv, its rows. -/
def tblG : List Cond := lw_tbl.filter goodWord
theorem tblG_at {w : Cond} (i : Nat) (h : lw_tbl[i]? = some w) (hg : goodWord w = true) : w ∈ tblG := List.mem_filter.mpr ⟨List.mem_of_getElem? h, hg⟩
theorem tblG_good {w : Cond} (h : w ∈ tblG) : (w.onTables && w.keeps) = true ∨ ∃ ty, w = .arrayClass ty := good_of_word (List.mem_filter.mp h).2
theorem tblG_lw {w : Cond} (h : w ∈ tblG) : w ∈ lw_tbl := (List.mem_filter.mp h).1
def kI (x : Int) : Int32 := Int32.ofInt x
def kL (x : Int) : Int64 := Int64.ofInt x
theorem kI_of (x : Int32) : kI x.toInt = x := Int32.ofInt_toInt x
theorem kI_toInt {a : Int} (h1 : -2147483648 ≤ a) (h2 : a ≤ 2147483647) : (kI a).toInt = a := Int32.toInt_ofInt_of_le (by omega) (by omega)
theorem kL_toInt {a : Int} (h1 : -9223372036854775808 ≤ a) (h2 : a ≤ 9223372036854775807) : (kL a).toInt = a := Int64.toInt_ofInt_of_le (by omega) (by omega)
theorem kI_lt {a b : Int} (h : -2147483648 ≤ a ∧ a ≤ 2147483647 ∧ -2147483648 ≤ b ∧ b ≤ 2147483647) : kI a < kI b ↔ a < b := by
  rw [Int32.lt_iff_toInt_lt, kI_toInt h.1 h.2.1, kI_toInt h.2.2.1 h.2.2.2]
theorem kI_le {a b : Int} (h : -2147483648 ≤ a ∧ a ≤ 2147483647 ∧ -2147483648 ≤ b ∧ b ≤ 2147483647) : kI a ≤ kI b ↔ a ≤ b := by
  rw [Int32.le_iff_toInt_le, kI_toInt h.1 h.2.1, kI_toInt h.2.2.1 h.2.2.2]
theorem kI_eq {a b : Int} (h : -2147483648 ≤ a ∧ a ≤ 2147483647 ∧ -2147483648 ≤ b ∧ b ≤ 2147483647) : kI a = kI b ↔ a = b := by
  rw [← Int32.toInt_inj, kI_toInt h.1 h.2.1, kI_toInt h.2.2.1 h.2.2.2]
theorem kL_lt {a b : Int} (h : -9223372036854775808 ≤ a ∧ a ≤ 9223372036854775807 ∧ -9223372036854775808 ≤ b ∧ b ≤ 9223372036854775807) : kL a < kL b ↔ a < b := by
  rw [Int64.lt_iff_toInt_lt, kL_toInt h.1 h.2.1, kL_toInt h.2.2.1 h.2.2.2]
theorem kL_eq {a b : Int} (h : -9223372036854775808 ≤ a ∧ a ≤ 9223372036854775807 ∧ -9223372036854775808 ≤ b ∧ b ≤ 9223372036854775807) : kL a = kL b ↔ a = b := by
  rw [← Int64.toInt_inj, kL_toInt h.1 h.2.1, kL_toInt h.2.2.1 h.2.2.2]
theorem kI_clamp {i : Int} {n : Nat} (h : 0 ≤ i ∧ i < (n : Int)) (hn : n ≤ 2147483647) : vp_in (kI i) n ∧ (((kI i).toNatClampNeg : Nat) : Int) = i := by
  have h1 : (kI i).toInt = i := kI_toInt (by omega) (by omega)
  refine ⟨vp_in_iff.mpr (by rw [h1]; exact h), ?_⟩
  show (((kI i).toInt.toNat : Nat) : Int) = i
  rw [h1]
  omega
abbrev vi (a : Int) : Value := .int (kI a)
abbrev vl (a : Int) : Value := .long (kL a)
abbrev Sg : Type := Nat → Int → Int
abbrev Gl : Type := Launch × va_G × (Nat → Nat) × (Nat → ClassId) × (Nat × Nat × (Nat → Int32)) × Nat
abbrev Mt : Type := MethodName × ByteArray × Nat × Option FieldType × Room
def ga (g : Gl) (k : Nat) : Nat := g.2.2.1 k
abbrev vr (g : Gl) (k : Nat) : Value := .ref (ga g k)
def up1 (f : Int → Int) (j v : Int) : Int → Int := fun i => if i = j then v else f i
def up (σ : Sg) (k : Nat) (j v : Int) : Sg := fun k' => if k' = k then up1 (σ k) j v else σ k'
theorem up1_same (f : Int → Int) (j v : Int) : up1 f j v j = v := if_pos rfl
theorem up1_ne {f : Int → Int} {j v i : Int} (h : i ≠ j) : up1 f j v i = f i := if_neg h
theorem up_same (σ : Sg) (k : Nat) (j v : Int) : up σ k j v k = up1 (σ k) j v := if_pos rfl
theorem up_ne {σ : Sg} {k k' : Nat} {j v : Int} (h : k' ≠ k) : up σ k j v k' = σ k' := if_neg h
def lay : List (Nat × List Nat) := [(0, [10, 0, 0, 3, 4, 5, 6, 7]), (1, [3]), (1, [18]), (1, [3]), (1, [3]), (1, [3]), (0, [10, 0, 0, 9, 10, 11, 12, 13]), (1, [3]), (1, [18]), (1, [3]), (1, [3]), (1, [3]), (0, [10, 0, 0, 15, 16, 17, 18, 19]), (1, [3]), (1, [18]), (1, [3]), (1, [3]), (1, [3]), (0, [10, 0, 0, 21, 22, 23, 24, 25]), (1, [3]), (1, [18]), (1, [3]), (1, [3]), (1, [3]), (0, [11, 27, 2, 29, 30, 32, 0, 33, 36, 37, 39, 42, 44, 48]), (0, [8, 28, 0]), (1, [120]), (0, [7, 2, 0, 0]), (0, [1, 31, 0]), (1, [50]), (4, [6, 12]), (0, [6, 34, 35, 0]), (1, [6]), (1, [6]), (0, [9, 20, 0, 0, 0, 0]), (0, [4, 38, 0, 1]), (2, [8]), (0, [3, 40, 41, 0]), (1, [127]), (1, [127]), (0, [2, 43, 0, 0]), (1, [127]), (0, [0, 45, 46, 47, 0]), (1, [21]), (2, [21]), (2, [21]), (0, [5, 49]), (1, [3]), (0, [12, 51, 52, 53, 54, 55, 0, 0, 0, 56, 57, 0, 58, 0, 59, 60, 61, 0, 0, 0, 62, 0, 1, 63, 64, 0, 65, 66, 0, 67, 0, 0, 68, 0, 69]), (1, [32]), (1, [32]), (1, [64]), (3, [2]), (1, [40]), (1, [6]), (1, [6]), (1, [120]), (1, [120]), (1, [120]), (1, [120]), (2, [8]), (2, [6]), (1, [400]), (1, [200]), (1, [200]), (1, [130]), (1, [30]), (1, [3])]
theorem lay_len : lay.length = 68 := by decide +kernel
def fv (g : Gl) (f : Int → Int) (j c : Nat) : Value := match c with
  | 0 => .int (kI (f j))
  | 1 => .long (kL (f j))
  | c + 2 => .ref (ga g c)
def cel (g : Gl) (q : Nat × List Nat) (f : Int → Int) : va_E := match q with
  | (0, cs) => .inr (cs.headD 0, cs.tail.mapIdx (fun j c => fv g f j c))
  | (1, cs) => .inl (g.2.2.2.1 0, cs.headD 0, .inl (fun j => kI (f j)))
  | (2, cs) => .inl (g.2.2.2.1 1, cs.headD 0, .inr (.inl (fun j => kL (f j))))
  | (3, cs) => .inl (g.2.2.2.1 2, cs.headD 0, .inl (fun j => kI (f j)))
  | (_, cs) => .inl (g.2.2.2.1 3, cs.length, .inr (.inr (.inr (.inr (fun j => (cs[j]?).map (ga g))))))
def wsO (g : Gl) (σ : Sg) : va_W := lay.mapIdx (fun k q => (ga g k, cel g q (σ k)))
theorem wsO_at {g : Gl} {σ : Sg} {k : Nat} {q : Nat × List Nat} (h : lay[k]? = some q) : (wsO g σ)[k]? = some (ga g k, cel g q (σ k)) := by
  simp [wsO, List.getElem?_mapIdx, h]
theorem lay_lt {k : Nat} {q : Nat × List Nat} (h : lay[k]? = some q) : k < 68 := by
  have := (List.getElem?_eq_some_iff.mp h).1
  rw [lay_len] at this
  exact this
theorem wsO_fwd {g : Gl} {σ : Sg} {k : Nat} {x : Nat × va_E} (h : (wsO g σ)[k]? = some x) : ∃ q, lay[k]? = some q ∧ x = (ga g k, cel g q (σ k)) := by
  simp only [wsO, List.getElem?_mapIdx] at h
  cases hq : lay[k]? with
  | none => rw [hq] at h; cases h
  | some q => rw [hq] at h; exact ⟨q, rfl, (Option.some.inj h).symm⟩
/-- a world in which one cell's row is another one -/
theorem wsO_set {g : Gl} {σ σ' : Sg} {k : Nat} {q : Nat × List Nat} {E : va_E} (h : lay[k]? = some q) (hE : E = cel g q (σ' k)) (ho : ∀ j, j ≠ k → σ' j = σ j) : (wsO g σ).set k (ga g k, E) = wsO g σ' := by
  subst hE
  apply List.ext_getElem?
  intro i
  by_cases hi : i = k
  · subst hi
    rw [wsO_at h, List.getElem?_set_self (List.getElem?_eq_some_iff.mp (wsO_at (g := g) (σ := σ) h)).1]
  · rw [List.getElem?_set_ne (Ne.symm hi)]
    simp only [wsO, List.getElem?_mapIdx]
    cases hq : lay[i]? with
    | none => rfl
    | some r => simp only [Option.map_some]; rw [ho i hi]
def tysO (g : Gl) : List (ClassId × FieldType) := [(g.2.2.2.1 0, .int), (g.2.2.2.1 1, .long), (g.2.2.2.1 2, .boolean), (g.2.2.2.1 3, .object "ControlSigns$Told")]
def Gok (g : Gl) : Prop := ∀ i j, i < 68 → j < 68 → ga g i = ga g j → i = j
def Aw (g : Gl) : Nat → Prop := fun q => ∃ k, k < 68 ∧ q = ga g k
theorem wsO_D {g : Gl} {σ : Sg} {A : Nat → Prop} (hG : Gok g) (hA : ∀ k, k < 68 → A (ga g k)) : va_D A (wsO g σ) := by
  refine ⟨fun i j p q hi hj hpq => ?_, fun k q hk => ?_⟩
  · obtain ⟨a, ha, rfl⟩ := wsO_fwd hi
    obtain ⟨b, hb, rfl⟩ := wsO_fwd hj
    exact hG i j (lay_lt ha) (lay_lt hb) hpq
  · obtain ⟨a, ha, rfl⟩ := wsO_fwd hk
    exact hA k (lay_lt ha)
def waysL : List Int := [1, 0, 0, 0, 0, 0, 0, 0, 1, 1, 0, 0, 0, 0, 0, 0, 1, 2, 1, 0, 0, 0, 0, 0, 1, 3, 3, 1, 0, 0, 0, 0, 1, 4, 6, 4, 1, 0, 0, 0, 1, 5, 10, 10, 5, 1, 0, 0, 1, 6, 15, 20, 15, 6, 1, 0, 1, 7, 21, 35, 35, 21, 7, 1]
def nstL : List (String × Nat × MethodName × String) := [("ControlSigns", 11, (⟨"ControlSigns$Text", "<init>", "()V"⟩ : MethodName), "ControlSigns"), ("ControlSigns", 18, (⟨"ControlSigns$Told", "<init>", "()V"⟩ : MethodName), "ControlSigns"), ("ControlSigns", 34, (⟨"ControlSigns$Changes", "<init>", "()V"⟩ : MethodName), "ControlSigns"), ("ControlSigns", 45, (⟨"ControlSigns$Sights", "<init>", "()V"⟩ : MethodName), "ControlSigns"), ("ControlSigns", 52, (⟨"ControlSigns$TextReader", "<init>", "()V"⟩ : MethodName), "ControlSigns"), ("ControlSigns$TextReader", 11, (⟨"ControlSigns$Told", "<init>", "()V"⟩ : MethodName), "ControlSigns"), ("ControlSigns", 59, (⟨"ControlSigns$Row", "<init>", "()V"⟩ : MethodName), "ControlSigns"), ("ControlSigns", 66, (⟨"ControlSigns$Roots", "<init>", "()V"⟩ : MethodName), "ControlSigns"), ("ControlSigns", 73, (⟨"ControlSigns$Paper", "<init>", "()V"⟩ : MethodName), "ControlSigns"), ("ControlSigns", 80, (⟨"ControlSigns$Bounds", "<init>", "()V"⟩ : MethodName), "ControlSigns"), ("ControlSigns", 87, (⟨"ControlSigns$Shares", "<init>", "()V"⟩ : MethodName), "ControlSigns"), ("ControlSigns$TextReader", 91, (⟨"ControlSigns", "isCoefficient", "(I)Z"⟩ : MethodName), "ControlSigns"), ("ControlSigns$TextReader", 97, (⟨"ControlSigns", "isPlace", "(I)Z"⟩ : MethodName), "ControlSigns"), ("ControlSigns$Taken", 34, (⟨"ControlSigns", "partsOf", "(I)I"⟩ : MethodName), "ControlSigns"), ("ControlSigns$Row", 96, (⟨"ControlSigns", "signOf", "(J)I"⟩ : MethodName), "ControlSigns"), ("ControlSigns$Roots", 40, (⟨"ControlSigns", "behind", "(I)I"⟩ : MethodName), "ControlSigns"), ("ControlSigns$Paper", 30, (⟨"ControlSigns", "behind", "(I)I"⟩ : MethodName), "ControlSigns"), ("ControlSigns$Paper", 70, (⟨"ControlSigns", "isWithin", "(III)Z"⟩ : MethodName), "ControlSigns"), ("ControlSigns$Shares", 25, (⟨"ControlSigns", "partsOf", "(I)I"⟩ : MethodName), "ControlSigns"), ("ControlSigns$Shares", 33, (⟨"ControlSigns", "behind", "(I)I"⟩ : MethodName), "ControlSigns"), ("ControlSigns$Sights", 28, (⟨"ControlSigns", "signOf", "(J)I"⟩ : MethodName), "ControlSigns")]
def Nst (U : State) : Prop := (∀ q ∈ nstL, va_Nw (.methodLinkNest q.1 q.2.1 q.2.2.1 q.2.2.2) U) ∧ va_Nw (.fieldLinkNest "ControlSigns$Row" 80 "ControlSigns" "WAYS" "[I" "ControlSigns") U
theorem Nst.warm {s U : State} (hW : s.WarmedH U.vm) (h : Nst s) : Nst U := ⟨fun q hq => va_Nw.warmM hW (h.1 q hq), va_Nw.warmF hW h.2⟩
/-- what stands outside the world: the table WAYS, the script, the nest's words -/
def Ent (g : Gl) (A : Nat → Prop) (U : State) : Prop := va_Z "ControlSigns" "WAYS" "[I" (.ref g.2.2.2.2.2) A U U.heap ∧ va_T .int g.2.2.2.2.2 64 (fun j => .int (kI (waysL.getD j 0))) A U U.heap ∧ va_X g.2.2.2.2.1.1 g.2.2.2.2.1.2.1 g.2.2.2.2.1.2.2 U U.heap ∧ g.2.2.2.2.1.1 < U.heap.size ∧ ¬ A g.2.2.2.2.1.1 ∧ Nst U
theorem Ent.calls {g : Gl} {A : Nat → Prop} {s U : State} {H : Heap} {locs : List Loc} (h : Ent g A s) (hS : va_S A s.heap H locs) (hA : ∀ q, Aw g q → A q) (hU : U.heap = H) (hW : s.WarmedH U.vm) : Ent g (Aw g) U := by
  obtain ⟨h1, h2, h3, h4, h5, h6⟩ := h
  have k1 : ∀ a : Nat, a < s.heap.size → ¬ A a → U.heap[a]? = s.heap[a]? := fun a x y => by rw [hU]; exact hS.2.1 a x y
  refine ⟨?_, ?_, ?_, ?_, fun z => h5 (hA _ z), h6.warm hW⟩
  · have := h1.moved hW.alike
    obtain ⟨cf, kf, fi, f, a, cell, q1, q2, q3, q4, q5, q6, q7, q8⟩ := this
    exact ⟨cf, kf, fi, f, a, cell, q1, q2, q3, q4, by rw [k1 a (Array.getElem?_eq_some_iff.mp q5).1 q8]; exact q5, q6, q7, fun z => q8 (hA _ z)⟩
  · exact ((h2.kept k1).narrow hA).moved hW.alike
  · exact (h3.kept (k1 _ h4 h5)).moved hW.alike
  · rw [hU]; exact Nat.lt_of_lt_of_le h4 hS.1
def Wo (g : Gl) (σ : Sg) (U : State) : Prop := va_P g.2.1 vwCl (wsO g σ) U.heap ∧ va_K g.2.1 vwCl (tysO g) U ∧ Gok g ∧ Ent g (Aw g) U
def Qm (g : Gl) (Post : Option Value → Sg → Prop) : Array Value → State → Outcome → State → Prop := fun _ st o t => (∃ (r : Option Value) (σ' : Sg), o = .returned r ∧ Post r σ' ∧ va_P g.2.1 vwCl (wsO g σ') t.heap) ∧ va_F (Aw g) st t
/-- a method's contract: from the world σ with the arguments av it returns, and Post holds of its answer and the new world -/
def Ct (g : Gl) (y : Mt) (av : List Value) (σ : Sg) (Post : Option Value → Sg → Prop) : Prop := Met g.1 y.1 (.code y.1 y.2.1 y.2.2.1 y.2.2.2.1 :: tblG) y.2.2.2.2 (va_Pc av (Wo g σ)) (Qm g Post) 0 0 (Aw g)
abbrev Ex : Type := (State → Nat → Prop) × Nat × Nat × (List Frame → Array Value → State → State → Prop)
def Cx (g : Gl) (y : Mt) (A : Nat → Prop) (cl sl : Nat) (p : Program) (s : State) (m : MethodId) (args : Array Value) (meth : Method) (c : Code) : Prop :=
  p.tables.exec = Jvm.exec ∧ c.code = y.2.1 ∧ c.maxLocals = y.2.2.1 ∧ meth.sig.returnType = y.2.2.2.1 ∧ s.vm.findClass y.1.cls = some m.cls ∧ (∀ w ∈ tblG, w.before args s = true) ∧ meth.locks = false ∧ va_K g.2.1 vwCl (tysO g) s ∧ Gok g ∧ Ent g A s ∧ (∀ k, k < 68 → A (ga g k)) ∧ cl ≤ y.2.2.2.2.cells ∧ sl ≤ y.2.2.2.2.slots
/-- the machine, at pc of the method y with the world σ, the named values of locals lv, the operands st, comes to the exit F -/
def jv (g : Gl) (y : Mt) (F : Ex) (σ : Sg) (lv : List (Nat × Value)) (pc : Nat) (st : List Value) : Prop :=
  ∀ (p : Program) (e : Env) (s : State) (m : MethodId) (args : Array Value) (below : List Frame) (meth : Method) (c : Code) (H : Heap) (locs : List Loc) (ls : Array Slot),
    Cx g y (F.1 s) F.2.1 F.2.2.1 p s m args meth c → va_P g.2.1 vwCl (wsO g σ) H → va_S (F.1 s) s.heap H locs → lv_has ls y.2.2.1 lv →
    W p g.1 e y.2.2.2.2 s m args below meth c H locs F.2.1 F.2.2.1 (F.2.2.2 below args s) (F0 m pc ls st)
def Fm (g : Gl) (Post : Option Value → Sg → Prop) : Ex := (fun _ => Aw g, 0, 0, fun below args s => MQ below (Qm g Post) args s 0 0 (Aw g))
def Dc (y : Mt) (pc : Nat) (i : Instr) (len nx : Nat) : Prop := decode y.2.1 pc = .ok (i, len) ∧ pc + len = nx
def Dj (y : Mt) (pc : Nat) (i : Int → Instr) (nx tgt : Nat) : Prop := ∃ off : Int, decode y.2.1 pc = .ok (i off, 3) ∧ pc + 3 = nx ∧ (pc : Int) + off = (tgt : Int)
def lst1 (i : Nat) (v : Value) (lv : List (Nat × Value)) : List (Nat × Value) := (i, v) :: lv.filter (fun q => !(q.1 == i) && !(q.1 + 1 == i && q.2.category == 2))
def lst2 (i : Nat) (v : Value) (lv : List (Nat × Value)) : List (Nat × Value) := (i, v) :: lv.filter (fun q => !(q.1 == i) && (!(q.1 == i + 1) && !(q.1 + 1 == i && q.2.category == 2)))
theorem lk_at {ls : Array Slot} {nL i : Nat} {lv : List (Nat × Value)} {v : Value} (h : lv_has ls nL lv) (hl : lv.lookup i = some v) : ls[i]? = some (.val v) := by
  refine h.2.2 (i, v) ?_
  clear h
  induction lv with
  | nil => cases hl
  | cons q r ih =>
    obtain ⟨a, b⟩ := q
    rw [List.lookup_cons] at hl
    by_cases hi : (i == a) = true
    · rw [hi] at hl
      have hia : i = a := by simpa using hi
      cases hl
      rw [hia]
      exact List.mem_cons_self
    · have hi' : (i == a) = false := by simpa using hi
      rw [hi'] at hl
      exact List.mem_cons_of_mem _ (ih hl)
def lvS (lv : List (Nat × Value)) : List (Nat × Value) → Prop
  | [] => True
  | q :: r => lv.lookup q.1 = some q.2 ∧ lvS lv r
theorem lvS_has {ls : Array Slot} {nL : Nat} {lv lv' : List (Nat × Value)} (h : lv_has ls nL lv) (hs : lvS lv lv') : lv_has ls nL lv' := by
  refine ⟨h.1, h.2.1, ?_⟩
  induction lv' with
  | nil => intro q hq; cases hq
  | cons a r ih =>
    intro q hq
    rcases List.mem_cons.mp hq with rfl | hq
    · exact lk_at h hs.1
    · exact ih hs.2 q hq
theorem jv_lv {g : Gl} {y : Mt} {F : Ex} {σ : Sg} {lv lv' : List (Nat × Value)} {pc : Nat} {st : List Value} (hs : lvS lv lv') (k : jv g y F σ lv' pc st) : jv g y F σ lv pc st :=
  fun p e s m args below meth c H locs ls C hP hS hl => k p e s m args below meth c H locs ls C hP hS (lvS_has hl hs)
theorem Ct.of {g : Gl} {y : Mt} {av : List Value} {σ : Sg} {Post : Option Value → Sg → Prop} (hp : plainName y.1.cls = true) (hn : (lg_sl av).length ≤ y.2.2.1) (h : jv g y (Fm g Post) σ (lv_args 0 av) 0 []) : Ct g y av σ Post := by
  refine Met.ofW (cc := y.2.1) (maxL := y.2.2.1) (ret := y.2.2.2.1) hp rfl ?_
  intro p e s m args below meth c s₁ B hml hv
  obtain ⟨rfl, hP, hK, hG, hE⟩ := hv
  have hts := atoms_spec (ws := .code y.1 y.2.1 y.2.2.1 y.2.2.2.1 :: tblG) B.pre
  have hl := lv_entry av (n := y.2.2.1) hn
  rw [lg_entry_eq]
  exact h p e s m _ below meth c s.heap [] _ ⟨B.exec, B.bytes, hml, B.returns, findClass_of_methodNamed B.named, fun w hw => hts w (List.mem_cons_of_mem _ hw), B.notSynchronized, hK, hG, hE, fun k hk => ⟨k, hk, rfl⟩, Nat.zero_le _, Nat.zero_le _⟩ hP va_S.rf hl
