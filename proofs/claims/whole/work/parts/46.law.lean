/-! THE CLAIM OUT OF ONE WALK OF THE LAW'S BODY. Your part is whole_start (and what it stands on); all else here is the same for every law, but numbers. -/
def R_law : String := "ControlSignsLaw"
def lw_P (b : Addr) (xs : List Int32) (args : Array Value) (s : State) : Prop := args = #[.ref b] ∧ s.IntsAt b xs ∧ xs.length ≤ 2560 ∧ (Jvm.Cond.and given_1 narrow_1).before args s = true
def lw_Q (_ : Array Value) (s : State) (o : Outcome) (t : State) : Prop := o = .returned (some (.int 1)) ∧ Framed s o t [] 68 2502
def lw_Z (below : List Frame) (a : Array Value) (s : State) : State → Prop := fun t => ∃ o, t.status = .running ∧ Ended t below o ∧ lw_Q a s o t
/-- the law's own end, with 1 on the stack, nothing written that was there before, its room as the claim has it -/
theorem lw_ret {p : Program} {l : Launch} {e : Env} {s : State} {m : MethodId} {below : List Frame} {meth : Method} {c : Code} {b : Nat} (hx : p.tables.exec = Jvm.exec) (hb : c.code = code) (hr : meth.sig.returnType = ret) (hlocks : meth.locks = false) {pc : Nat} {H : Heap} {ls : Array Slot} (hdg : decode code pc = .ok (.ireturn, 1)) : W p l e room_1 s m #[Value.ref b] below meth c H [] 68 2502 (lw_Z below #[Value.ref b] s) (F0 m pc ls [.int 1]) := by
  intro T hT X
  obtain ⟨fs, hret, hrun, hended, hW, hframe⟩ := X.leave (v := some (.int 1)) (hlocks := hlocks) (fun h => by rw [hr] at h; cases h)
  have hmeth' : T.vm.method? m = some meth := X.method'
  refine ⟨T.setFrames fs, ?_, .returned (some (.int 1)), hrun, hended, rfl, ⟨_, rfl⟩, hW, hframe⟩
  jvm_step X.here [X.here.top, hx, hb, hdg, hmeth', hr, ret, narrow_b1]
  (try refine ⟨rfl, ?_⟩); (try refine ⟨rfl, ?_⟩)
  first | (intro acts; rw [hret _ acts rfl rfl rfl]) | rw [hret _ _ rfl rfl rfl]
  exact Steps.refl _
/-- what holds at the law's entry: the machine, the code, the tables' words (any of lw_tbl by 'hts w (by decide +kernel)'), the script of L ints xs at the cell b, what the Statement gives of the start (any of its parts by flat_of_before) -/
def lw_At (p : Program) (s : State) (m : MethodId) (meth : Method) (c : Code) (b L : Nat) (xs : Nat → Int32) : Prop :=
  p.tables.exec = Jvm.exec ∧ c.code = code ∧ meth.sig.returnType = ret ∧ c.maxLocals = 4 ∧ s.vm.findClass R_law = some m.cls ∧ (∀ w ∈ lw_tbl, w.before #[Value.ref b] s = true) ∧ va_X b L xs s s.heap ∧ b < s.heap.size ∧ meth.locks = false ∧ (Jvm.Cond.and given_1 narrow_1).before #[Value.ref b] s = true
/-! the law's loop -/
theorem j_eqI {g : Gl} {y : Mt} {F : Ex} {σ : Sg} {lv : List (Nat × Value)} {pc nx tgt : Nat} {st : List Value} {a b : Int} (h : b = a) (hd : Dj y pc (.if_icmp .eq) nx tgt) (k : jv g y F σ lv tgt st) : jv g y F σ lv pc (vi b :: vi a :: st) := by
  obtain ⟨off, hd, rfl, ht⟩ := hd
  intro p e s m args below meth c H locs ls C hP hS hl
  subst h
  exact lv_icmp_eq C.1 C.2.1 hd ht (fun _ => k p e s m args below meth c H locs _ C hP hS hl) (fun z => absurd rfl z)
theorem lg_cmp_0 (x : Int64) : lg_cmp x x = 0 := by
  unfold lg_cmp
  simp
theorem j_eqL {g : Gl} {y : Mt} {F : Ex} {σ : Sg} {lv : List (Nat × Value)} {pc n1 nx tgt : Nat} {st : List Value} {a b : Int} (h : b = a) (hd : Dc y pc (.lcmp) 1 n1) (hj : Dj y n1 (.ifCond .eq) nx tgt) (k : jv g y F σ lv tgt st) : jv g y F σ lv pc (vl b :: vl a :: st) := by
  obtain ⟨hd, rfl⟩ := hd
  obtain ⟨off, hj, rfl, ht⟩ := hj
  intro p e s m args below meth c H locs ls C hP hS hl
  subst h
  refine W.lcmp C.1 C.2.1 hd ?_
  rw [lg_cmp_0]
  exact lv_if_eq C.1 C.2.1 hj ht (fun _ => k p e s m args below meth c H locs _ C hP hS hl) (fun z => absurd rfl z)
theorem and31 (a : Int) : ∃ v : Int, (0 ≤ v ∧ v ≤ 31) ∧ kI a &&& kI 31 = kI v := by
  refine ⟨(kI a &&& kI 31).toInt, ?_, (kI_of _).symm⟩
  have h : (kI a &&& kI 31).toBitVec.toNat < 32 := by
    rw [Int32.toBitVec_and, BitVec.toNat_and, show (kI 31).toBitVec.toNat = 2 ^ 5 - 1 from by decide, Nat.and_two_pow_sub_one_eq_mod]
    exact Nat.mod_lt _ (by decide)
  have e : (kI a &&& kI 31).toInt = ((kI a &&& kI 31).toBitVec.toNat : Int) := BitVec.toInt_eq_toNat_of_lt (by omega)
  omega
def FLw (g : Gl) : Ex := (fun s q => s.heap.size ≤ q, 68, 2502, fun below args s t => args = #[Value.ref g.2.2.2.2.1.1] → lw_Z below args s t)
theorem r_law {g : Gl} {σ : Sg} {lv : List (Nat × Value)} {pc nx : Nat} (hd : Dc mL_law pc (.ireturn) 1 nx) : jv g mL_law (FLw g) σ lv pc [vi 1] := by
  obtain ⟨hd, rfl⟩ := hd
  intro p e s m args below meth c H locs ls C hP hS hl
  by_cases h : args = #[Value.ref g.2.2.2.2.1.1]
  · subst h
    refine va_forget (fun q hq => hS.2.2 q hq) ?_
    have w := lw_ret (p := p) (l := g.1) (e := e) (s := s) (m := m) (below := below) (meth := meth) (c := c) (b := g.2.2.2.2.1.1) C.1 C.2.1 C.2.2.2.1 C.2.2.2.2.2.2.1 (pc := pc) (H := H) (ls := ls) hd
    intro T hT X
    obtain ⟨t, a, b⟩ := w T hT X
    exact ⟨t, a, fun _ => b⟩
  · intro T hT X
    exact ⟨_, Steps.refl _, fun z => absurd z h⟩
def sx (g : Gl) (i : Int) : Int := (g.2.2.2.2.1.2.2 i.toNat).toInt
theorem sx_b (g : Gl) (i : Int) : -2147483648 ≤ sx g i ∧ sx g i ≤ 2147483647 := by
  have h1 := Int32.le_toInt (g.2.2.2.2.1.2.2 i.toNat)
  have h2 := Int32.toInt_lt (g.2.2.2.2.1.2.2 i.toNat)
  unfold sx
  omega
theorem law_0 {g : Gl} {σ : Sg} {i : Int} (hM : g.2.2.2.2.1.2.1 ≤ 2147483647) (hi : 0 ≤ i ∧ i + 4 < (g.2.2.2.2.1.2.1 : Int)) (I : Inv σ) (kk : ∀ τ, Inv τ → jv g mL_law (FLw g) τ [(0, Value.ref g.2.2.2.2.1.1), (1, vr g 24), (2, vr g 48), (3, vi i)] 976 []) : jv g mL_law (FLw g) σ [(0, Value.ref g.2.2.2.2.1.1), (1, vr g 24), (2, vr g 48), (3, vi i)] 168 [] := by
  obtain ⟨P1, M1, K1⟩ := s_type (g := g) (sx_b g (i + 1)) σ I
  refine j_aload_n eL_law_168 rfl ?_
  refine j_aload_n eL_law_169 rfl ?_
  refine j_iload_n eL_law_170 rfl ?_
  refine j_iconst 1 eL_law_171 ?_
  refine j_iadd eL_law_172 ?_
  refine j_sald hM (by omega) eL_law_173 ?_
  refine j_cV1 zX11_type lkL_13 ⟨Nat.le_of_ble_eq_true rfl, Nat.le_of_ble_eq_true rfl⟩ ly24 rfl rfl M1 (Nat.le_of_ble_eq_true rfl) eL_law_174 (k_I (fun v1 σ1 h1 => ?_))
  obtain ⟨P2, M2, K2⟩ := K1 v1 σ1 h1
  refine j_aload_n eL_law_177 rfl ?_
  refine j_aload_n eL_law_178 rfl ?_
  refine j_iload_n eL_law_179 rfl ?_
  refine j_iconst 1 eL_law_180 ?_
  refine j_iadd eL_law_181 ?_
  refine j_sald hM (by omega) eL_law_182 ?_
  refine j_cV1 zX12_type lkL_17 ⟨Nat.le_of_ble_eq_true rfl, Nat.le_of_ble_eq_true rfl⟩ ly48 rfl rfl M2 (Nat.le_of_ble_eq_true rfl) eL_law_183 (k_I (fun v2 σ2 h2 => ?_))
  obtain ⟨e1, I2⟩ := K2 v2 σ2 h2
  refine j_eqI e1 eL_law_186 ?_
  exact kk σ2 I2
theorem law_1 {g : Gl} {σ : Sg} {i : Int} (hM : g.2.2.2.2.1.2.1 ≤ 2147483647) (hi : 0 ≤ i ∧ i + 4 < (g.2.2.2.2.1.2.1 : Int)) (I : Inv σ) (kk : ∀ τ, Inv τ → jv g mL_law (FLw g) τ [(0, Value.ref g.2.2.2.2.1.1), (1, vr g 24), (2, vr g 48), (3, vi i)] 976 []) : jv g mL_law (FLw g) σ [(0, Value.ref g.2.2.2.2.1.1), (1, vr g 24), (2, vr g 48), (3, vi i)] 191 [] := by
  obtain ⟨P1, M1, K1⟩ := s_clear (g := g) σ I
  refine j_aload_n eL_law_191 rfl ?_
  refine j_cV0 zX11_clear lkL_18 ⟨Nat.le_of_ble_eq_true rfl, Nat.le_of_ble_eq_true rfl⟩ ly24 rfl rfl M1 (Nat.le_of_ble_eq_true rfl) eL_law_192 (k_I (fun v1 σ1 h1 => ?_))
  obtain ⟨P2, M2, K2⟩ := K1 v1 σ1 h1
  refine j_aload_n eL_law_195 rfl ?_
  refine j_cV0 zX12_clear lkL_22 ⟨Nat.le_of_ble_eq_true rfl, Nat.le_of_ble_eq_true rfl⟩ ly48 rfl rfl M2 (Nat.le_of_ble_eq_true rfl) eL_law_196 (k_I (fun v2 σ2 h2 => ?_))
  obtain ⟨e1, I2⟩ := K2 v2 σ2 h2
  refine j_eqI e1 eL_law_199 ?_
  exact kk σ2 I2
theorem law_2 {g : Gl} {σ : Sg} {i : Int} (hM : g.2.2.2.2.1.2.1 ≤ 2147483647) (hi : 0 ≤ i ∧ i + 4 < (g.2.2.2.2.1.2.1 : Int)) (I : Inv σ) (kk : ∀ τ, Inv τ → jv g mL_law (FLw g) τ [(0, Value.ref g.2.2.2.2.1.1), (1, vr g 24), (2, vr g 48), (3, vi i)] 976 []) : jv g mL_law (FLw g) σ [(0, Value.ref g.2.2.2.2.1.1), (1, vr g 24), (2, vr g 48), (3, vi i)] 204 [] := by
  obtain ⟨P1, M1, K1⟩ := s_house (g := g) σ I
  refine j_aload_n eL_law_204 rfl ?_
  refine j_cV0 zX11_house lkL_23 ⟨Nat.le_of_ble_eq_true rfl, Nat.le_of_ble_eq_true rfl⟩ ly24 rfl rfl M1 (Nat.le_of_ble_eq_true rfl) eL_law_205 (k_I (fun v1 σ1 h1 => ?_))
  obtain ⟨P2, M2, K2⟩ := K1 v1 σ1 h1
  refine j_aload_n eL_law_208 rfl ?_
  refine j_cV0 zX12_house lkL_26 ⟨Nat.le_of_ble_eq_true rfl, Nat.le_of_ble_eq_true rfl⟩ ly48 rfl rfl M2 (Nat.le_of_ble_eq_true rfl) eL_law_209 (k_I (fun v2 σ2 h2 => ?_))
  obtain ⟨e1, I2⟩ := K2 v2 σ2 h2
  refine j_eqI e1 eL_law_212 ?_
  exact kk σ2 I2
theorem law_3 {g : Gl} {σ : Sg} {i : Int} (hM : g.2.2.2.2.1.2.1 ≤ 2147483647) (hi : 0 ≤ i ∧ i + 4 < (g.2.2.2.2.1.2.1 : Int)) (I : Inv σ) (kk : ∀ τ, Inv τ → jv g mL_law (FLw g) τ [(0, Value.ref g.2.2.2.2.1.1), (1, vr g 24), (2, vr g 48), (3, vi i)] 976 []) : jv g mL_law (FLw g) σ [(0, Value.ref g.2.2.2.2.1.1), (1, vr g 24), (2, vr g 48), (3, vi i)] 217 [] := by
  obtain ⟨P1, M1, K1⟩ := s_takes (g := g) ⟨(sx_b g (i + 1)).1, (sx_b g (i + 1)).2, (sx_b g (i + 2)).1, (sx_b g (i + 2)).2⟩ σ I
  refine j_aload_n eL_law_217 rfl ?_
  refine j_aload_n eL_law_218 rfl ?_
  refine j_iload_n eL_law_219 rfl ?_
  refine j_iconst 1 eL_law_220 ?_
  refine j_iadd eL_law_221 ?_
  refine j_sald hM (by omega) eL_law_222 ?_
  refine j_aload_n eL_law_223 rfl ?_
  refine j_iload_n eL_law_224 rfl ?_
  refine j_iconst 2 eL_law_225 ?_
  refine j_iadd eL_law_226 ?_
  refine j_sald hM (by omega) eL_law_227 ?_
  refine j_cV2 zX11_takes lkL_27 ⟨Nat.le_of_ble_eq_true rfl, Nat.le_of_ble_eq_true rfl⟩ ly24 rfl rfl M1 (Nat.le_of_ble_eq_true rfl) eL_law_228 (k_I (fun v1 σ1 h1 => ?_))
  obtain ⟨P2, M2, K2⟩ := K1 v1 σ1 h1
  refine j_aload_n eL_law_231 rfl ?_
  refine j_aload_n eL_law_232 rfl ?_
  refine j_iload_n eL_law_233 rfl ?_
  refine j_iconst 1 eL_law_234 ?_
  refine j_iadd eL_law_235 ?_
  refine j_sald hM (by omega) eL_law_236 ?_
  refine j_aload_n eL_law_237 rfl ?_
  refine j_iload_n eL_law_238 rfl ?_
  refine j_iconst 2 eL_law_239 ?_
  refine j_iadd eL_law_240 ?_
  refine j_sald hM (by omega) eL_law_241 ?_
  refine j_cV2 zX12_takes lkL_31 ⟨Nat.le_of_ble_eq_true rfl, Nat.le_of_ble_eq_true rfl⟩ ly48 rfl rfl M2 (Nat.le_of_ble_eq_true rfl) eL_law_242 (k_I (fun v2 σ2 h2 => ?_))
  obtain ⟨e1, I2⟩ := K2 v2 σ2 h2
  refine j_eqI e1 eL_law_245 ?_
  exact kk σ2 I2
theorem law_4 {g : Gl} {σ : Sg} {i : Int} (hM : g.2.2.2.2.1.2.1 ≤ 2147483647) (hi : 0 ≤ i ∧ i + 4 < (g.2.2.2.2.1.2.1 : Int)) (I : Inv σ) (kk : ∀ τ, Inv τ → jv g mL_law (FLw g) τ [(0, Value.ref g.2.2.2.2.1.1), (1, vr g 24), (2, vr g 48), (3, vi i)] 976 []) : jv g mL_law (FLw g) σ [(0, Value.ref g.2.2.2.2.1.1), (1, vr g 24), (2, vr g 48), (3, vi i)] 250 [] := by
  obtain ⟨P1, M1, K1⟩ := s_coef (g := g) ⟨(sx_b g (i + 1)).1, (sx_b g (i + 1)).2, (sx_b g (i + 2)).1, (sx_b g (i + 2)).2⟩ σ I
  refine j_aload_n eL_law_250 rfl ?_
  refine j_aload_n eL_law_251 rfl ?_
  refine j_iload_n eL_law_252 rfl ?_
  refine j_iconst 1 eL_law_253 ?_
  refine j_iadd eL_law_254 ?_
  refine j_sald hM (by omega) eL_law_255 ?_
  refine j_aload_n eL_law_256 rfl ?_
  refine j_iload_n eL_law_257 rfl ?_
  refine j_iconst 2 eL_law_258 ?_
  refine j_iadd eL_law_259 ?_
  refine j_sald hM (by omega) eL_law_260 ?_
  refine j_cV2 zX11_coef lkL_32 ⟨Nat.le_of_ble_eq_true rfl, Nat.le_of_ble_eq_true rfl⟩ ly24 rfl rfl M1 (Nat.le_of_ble_eq_true rfl) eL_law_261 (k_L (fun v1 σ1 h1 => ?_))
  obtain ⟨P2, M2, K2⟩ := K1 v1 σ1 h1
  refine j_aload_n eL_law_264 rfl ?_
  refine j_aload_n eL_law_265 rfl ?_
  refine j_iload_n eL_law_266 rfl ?_
  refine j_iconst 1 eL_law_267 ?_
  refine j_iadd eL_law_268 ?_
  refine j_sald hM (by omega) eL_law_269 ?_
  refine j_aload_n eL_law_270 rfl ?_
  refine j_iload_n eL_law_271 rfl ?_
  refine j_iconst 2 eL_law_272 ?_
  refine j_iadd eL_law_273 ?_
  refine j_sald hM (by omega) eL_law_274 ?_
  refine j_cV2 zX12_coef lkL_36 ⟨Nat.le_of_ble_eq_true rfl, Nat.le_of_ble_eq_true rfl⟩ ly48 rfl rfl M2 (Nat.le_of_ble_eq_true rfl) eL_law_275 (k_L (fun v2 σ2 h2 => ?_))
  obtain ⟨e1, I2⟩ := K2 v2 σ2 h2
  refine j_eqL e1 eL_law_278 eL_law_279 ?_
  exact kk σ2 I2
theorem law_5 {g : Gl} {σ : Sg} {i : Int} (hM : g.2.2.2.2.1.2.1 ≤ 2147483647) (hi : 0 ≤ i ∧ i + 4 < (g.2.2.2.2.1.2.1 : Int)) (I : Inv σ) (kk : ∀ τ, Inv τ → jv g mL_law (FLw g) τ [(0, Value.ref g.2.2.2.2.1.1), (1, vr g 24), (2, vr g 48), (3, vi i)] 976 []) : jv g mL_law (FLw g) σ [(0, Value.ref g.2.2.2.2.1.1), (1, vr g 24), (2, vr g 48), (3, vi i)] 284 [] := by
  obtain ⟨P1, M1, K1⟩ := s_box (g := g) ⟨(sx_b g (i + 1)).1, (sx_b g (i + 1)).2, (sx_b g (i + 2)).1, (sx_b g (i + 2)).2⟩ σ I
  refine j_aload_n eL_law_284 rfl ?_
  refine j_aload_n eL_law_285 rfl ?_
  refine j_iload_n eL_law_286 rfl ?_
  refine j_iconst 1 eL_law_287 ?_
  refine j_iadd eL_law_288 ?_
  refine j_sald hM (by omega) eL_law_289 ?_
  refine j_aload_n eL_law_290 rfl ?_
  refine j_iload_n eL_law_291 rfl ?_
  refine j_iconst 2 eL_law_292 ?_
  refine j_iadd eL_law_293 ?_
  refine j_sald hM (by omega) eL_law_294 ?_
  refine j_cV2 zX11_box lkL_37 ⟨Nat.le_of_ble_eq_true rfl, Nat.le_of_ble_eq_true rfl⟩ ly24 rfl rfl M1 (Nat.le_of_ble_eq_true rfl) eL_law_295 (k_L (fun v1 σ1 h1 => ?_))
  obtain ⟨P2, M2, K2⟩ := K1 v1 σ1 h1
  refine j_aload_n eL_law_298 rfl ?_
  refine j_aload_n eL_law_299 rfl ?_
  refine j_iload_n eL_law_300 rfl ?_
  refine j_iconst 1 eL_law_301 ?_
  refine j_iadd eL_law_302 ?_
  refine j_sald hM (by omega) eL_law_303 ?_
  refine j_aload_n eL_law_304 rfl ?_
  refine j_iload_n eL_law_305 rfl ?_
  refine j_iconst 2 eL_law_306 ?_
  refine j_iadd eL_law_307 ?_
  refine j_sald hM (by omega) eL_law_308 ?_
  refine j_cV2 zX12_box lkL_40 ⟨Nat.le_of_ble_eq_true rfl, Nat.le_of_ble_eq_true rfl⟩ ly48 rfl rfl M2 (Nat.le_of_ble_eq_true rfl) eL_law_309 (k_L (fun v2 σ2 h2 => ?_))
  obtain ⟨e1, I2⟩ := K2 v2 σ2 h2
  refine j_eqL e1 eL_law_312 eL_law_313 ?_
  exact kk σ2 I2
theorem law_6 {g : Gl} {σ : Sg} {i : Int} (hM : g.2.2.2.2.1.2.1 ≤ 2147483647) (hi : 0 ≤ i ∧ i + 4 < (g.2.2.2.2.1.2.1 : Int)) (I : Inv σ) (kk : ∀ τ, Inv τ → jv g mL_law (FLw g) τ [(0, Value.ref g.2.2.2.2.1.1), (1, vr g 24), (2, vr g 48), (3, vi i)] 976 []) : jv g mL_law (FLw g) σ [(0, Value.ref g.2.2.2.2.1.1), (1, vr g 24), (2, vr g 48), (3, vi i)] 318 [] := by
  obtain ⟨P1, M1, K1⟩ := s_coefs (g := g) ⟨(sx_b g (i + 1)).1, (sx_b g (i + 1)).2, (sx_b g (i + 2)).1, (sx_b g (i + 2)).2, (sx_b g (i + 3)).1, (sx_b g (i + 3)).2⟩ σ I
  refine j_aload_n eL_law_318 rfl ?_
  refine j_aload_n eL_law_319 rfl ?_
  refine j_iload_n eL_law_320 rfl ?_
  refine j_iconst 1 eL_law_321 ?_
  refine j_iadd eL_law_322 ?_
  refine j_sald hM (by omega) eL_law_323 ?_
  refine j_aload_n eL_law_324 rfl ?_
  refine j_iload_n eL_law_325 rfl ?_
  refine j_iconst 2 eL_law_326 ?_
  refine j_iadd eL_law_327 ?_
  refine j_sald hM (by omega) eL_law_328 ?_
  refine j_aload_n eL_law_329 rfl ?_
  refine j_iload_n eL_law_330 rfl ?_
  refine j_iconst 3 eL_law_331 ?_
  refine j_iadd eL_law_332 ?_
  refine j_sald hM (by omega) eL_law_333 ?_
  refine j_cV3 zX11_coefs lkL_41 ⟨Nat.le_of_ble_eq_true rfl, Nat.le_of_ble_eq_true rfl⟩ ly24 rfl rfl M1 (Nat.le_of_ble_eq_true rfl) eL_law_334 (k_I (fun v1 σ1 h1 => ?_))
  obtain ⟨P2, M2, K2⟩ := K1 v1 σ1 h1
  refine j_aload_n eL_law_337 rfl ?_
  refine j_aload_n eL_law_338 rfl ?_
  refine j_iload_n eL_law_339 rfl ?_
  refine j_iconst 1 eL_law_340 ?_
  refine j_iadd eL_law_341 ?_
  refine j_sald hM (by omega) eL_law_342 ?_
  refine j_aload_n eL_law_343 rfl ?_
  refine j_iload_n eL_law_344 rfl ?_
  refine j_iconst 2 eL_law_345 ?_
  refine j_iadd eL_law_346 ?_
  refine j_sald hM (by omega) eL_law_347 ?_
  refine j_aload_n eL_law_348 rfl ?_
  refine j_iload_n eL_law_349 rfl ?_
  refine j_iconst 3 eL_law_350 ?_
  refine j_iadd eL_law_351 ?_
  refine j_sald hM (by omega) eL_law_352 ?_
  refine j_cV3 zX12_coefs lkL_45 ⟨Nat.le_of_ble_eq_true rfl, Nat.le_of_ble_eq_true rfl⟩ ly48 rfl rfl M2 (Nat.le_of_ble_eq_true rfl) eL_law_353 (k_I (fun v2 σ2 h2 => ?_))
  obtain ⟨e1, I2⟩ := K2 v2 σ2 h2
  refine j_eqI e1 eL_law_356 ?_
  exact kk σ2 I2
theorem law_7 {g : Gl} {σ : Sg} {i : Int} (hM : g.2.2.2.2.1.2.1 ≤ 2147483647) (hi : 0 ≤ i ∧ i + 4 < (g.2.2.2.2.1.2.1 : Int)) (I : Inv σ) (kk : ∀ τ, Inv τ → jv g mL_law (FLw g) τ [(0, Value.ref g.2.2.2.2.1.1), (1, vr g 24), (2, vr g 48), (3, vi i)] 976 []) : jv g mL_law (FLw g) σ [(0, Value.ref g.2.2.2.2.1.1), (1, vr g 24), (2, vr g 48), (3, vi i)] 361 [] := by
  obtain ⟨P1, M1, K1⟩ := s_ends (g := g) ⟨(sx_b g (i + 1)).1, (sx_b g (i + 1)).2, (sx_b g (i + 2)).1, (sx_b g (i + 2)).2, (sx_b g (i + 3)).1, (sx_b g (i + 3)).2⟩ σ I
  refine j_aload_n eL_law_361 rfl ?_
  refine j_aload_n eL_law_362 rfl ?_
  refine j_iload_n eL_law_363 rfl ?_
  refine j_iconst 1 eL_law_364 ?_
  refine j_iadd eL_law_365 ?_
  refine j_sald hM (by omega) eL_law_366 ?_
  refine j_aload_n eL_law_367 rfl ?_
  refine j_iload_n eL_law_368 rfl ?_
  refine j_iconst 2 eL_law_369 ?_
  refine j_iadd eL_law_370 ?_
  refine j_sald hM (by omega) eL_law_371 ?_
  refine j_aload_n eL_law_372 rfl ?_
  refine j_iload_n eL_law_373 rfl ?_
  refine j_iconst 3 eL_law_374 ?_
  refine j_iadd eL_law_375 ?_
  refine j_sald hM (by omega) eL_law_376 ?_
  refine j_cV3 zX11_ends lkL_46 ⟨Nat.le_of_ble_eq_true rfl, Nat.le_of_ble_eq_true rfl⟩ ly24 rfl rfl M1 (Nat.le_of_ble_eq_true rfl) eL_law_377 (k_I (fun v1 σ1 h1 => ?_))
  obtain ⟨P2, M2, K2⟩ := K1 v1 σ1 h1
  refine j_aload_n eL_law_380 rfl ?_
  refine j_aload_n eL_law_381 rfl ?_
  refine j_iload_n eL_law_382 rfl ?_
  refine j_iconst 1 eL_law_383 ?_
  refine j_iadd eL_law_384 ?_
  refine j_sald hM (by omega) eL_law_385 ?_
  refine j_aload_n eL_law_386 rfl ?_
  refine j_iload_n eL_law_387 rfl ?_
  refine j_iconst 2 eL_law_388 ?_
  refine j_iadd eL_law_389 ?_
  refine j_sald hM (by omega) eL_law_390 ?_
  refine j_aload_n eL_law_391 rfl ?_
  refine j_iload_n eL_law_392 rfl ?_
  refine j_iconst 3 eL_law_393 ?_
  refine j_iadd eL_law_394 ?_
  refine j_sald hM (by omega) eL_law_395 ?_
  refine j_cV3 zX12_ends lkL_49 ⟨Nat.le_of_ble_eq_true rfl, Nat.le_of_ble_eq_true rfl⟩ ly48 rfl rfl M2 (Nat.le_of_ble_eq_true rfl) eL_law_396 (k_I (fun v2 σ2 h2 => ?_))
  obtain ⟨e1, I2⟩ := K2 v2 σ2 h2
  refine j_eqI e1 eL_law_399 ?_
  exact kk σ2 I2
theorem law_8 {g : Gl} {σ : Sg} {i : Int} (hM : g.2.2.2.2.1.2.1 ≤ 2147483647) (hi : 0 ≤ i ∧ i + 4 < (g.2.2.2.2.1.2.1 : Int)) (I : Inv σ) (kk : ∀ τ, Inv τ → jv g mL_law (FLw g) τ [(0, Value.ref g.2.2.2.2.1.1), (1, vr g 24), (2, vr g 48), (3, vi i)] 976 []) : jv g mL_law (FLw g) σ [(0, Value.ref g.2.2.2.2.1.1), (1, vr g 24), (2, vr g 48), (3, vi i)] 404 [] := by
  obtain ⟨P1, M1, K1⟩ := s_wishes (g := g) ⟨(sx_b g (i + 1)).1, (sx_b g (i + 1)).2, (sx_b g (i + 2)).1, (sx_b g (i + 2)).2⟩ σ I
  refine j_aload_n eL_law_404 rfl ?_
  refine j_aload_n eL_law_405 rfl ?_
  refine j_iload_n eL_law_406 rfl ?_
  refine j_iconst 1 eL_law_407 ?_
  refine j_iadd eL_law_408 ?_
  refine j_sald hM (by omega) eL_law_409 ?_
  refine j_aload_n eL_law_410 rfl ?_
  refine j_iload_n eL_law_411 rfl ?_
  refine j_iconst 2 eL_law_412 ?_
  refine j_iadd eL_law_413 ?_
  refine j_sald hM (by omega) eL_law_414 ?_
  refine j_cV2 zX11_wishes lkL_50 ⟨Nat.le_of_ble_eq_true rfl, Nat.le_of_ble_eq_true rfl⟩ ly24 rfl rfl M1 (Nat.le_of_ble_eq_true rfl) eL_law_415 (k_I (fun v1 σ1 h1 => ?_))
  obtain ⟨P2, M2, K2⟩ := K1 v1 σ1 h1
  refine j_aload_n eL_law_418 rfl ?_
  refine j_aload_n eL_law_419 rfl ?_
  refine j_iload_n eL_law_420 rfl ?_
  refine j_iconst 1 eL_law_421 ?_
  refine j_iadd eL_law_422 ?_
  refine j_sald hM (by omega) eL_law_423 ?_
  refine j_aload_n eL_law_424 rfl ?_
  refine j_iload_n eL_law_425 rfl ?_
  refine j_iconst 2 eL_law_426 ?_
  refine j_iadd eL_law_427 ?_
  refine j_sald hM (by omega) eL_law_428 ?_
  refine j_cV2 zX12_wishes lkL_53 ⟨Nat.le_of_ble_eq_true rfl, Nat.le_of_ble_eq_true rfl⟩ ly48 rfl rfl M2 (Nat.le_of_ble_eq_true rfl) eL_law_429 (k_I (fun v2 σ2 h2 => ?_))
  obtain ⟨e1, I2⟩ := K2 v2 σ2 h2
  refine j_eqI e1 eL_law_432 ?_
  exact kk σ2 I2
theorem law_9 {g : Gl} {σ : Sg} {i : Int} (hM : g.2.2.2.2.1.2.1 ≤ 2147483647) (hi : 0 ≤ i ∧ i + 4 < (g.2.2.2.2.1.2.1 : Int)) (I : Inv σ) (kk : ∀ τ, Inv τ → jv g mL_law (FLw g) τ [(0, Value.ref g.2.2.2.2.1.1), (1, vr g 24), (2, vr g 48), (3, vi i)] 976 []) : jv g mL_law (FLw g) σ [(0, Value.ref g.2.2.2.2.1.1), (1, vr g 24), (2, vr g 48), (3, vi i)] 437 [] := by
  obtain ⟨P1, M1, K1⟩ := s_undo (g := g) σ I
  refine j_aload_n eL_law_437 rfl ?_
  refine j_cV0 zX11_undo lkL_54 ⟨Nat.le_of_ble_eq_true rfl, Nat.le_of_ble_eq_true rfl⟩ ly24 rfl rfl M1 (Nat.le_of_ble_eq_true rfl) eL_law_438 (k_I (fun v1 σ1 h1 => ?_))
  obtain ⟨P2, M2, K2⟩ := K1 v1 σ1 h1
  refine j_aload_n eL_law_441 rfl ?_
  refine j_cV0 zX12_undo lkL_57 ⟨Nat.le_of_ble_eq_true rfl, Nat.le_of_ble_eq_true rfl⟩ ly48 rfl rfl M2 (Nat.le_of_ble_eq_true rfl) eL_law_442 (k_I (fun v2 σ2 h2 => ?_))
  obtain ⟨e1, I2⟩ := K2 v2 σ2 h2
  refine j_eqI e1 eL_law_445 ?_
  exact kk σ2 I2
theorem law_10 {g : Gl} {σ : Sg} {i : Int} (hM : g.2.2.2.2.1.2.1 ≤ 2147483647) (hi : 0 ≤ i ∧ i + 4 < (g.2.2.2.2.1.2.1 : Int)) (I : Inv σ) (kk : ∀ τ, Inv τ → jv g mL_law (FLw g) τ [(0, Value.ref g.2.2.2.2.1.1), (1, vr g 24), (2, vr g 48), (3, vi i)] 976 []) : jv g mL_law (FLw g) σ [(0, Value.ref g.2.2.2.2.1.1), (1, vr g 24), (2, vr g 48), (3, vi i)] 450 [] := by
  obtain ⟨P1, M1, K1⟩ := s_control (g := g) ⟨(sx_b g (i + 1)).1, (sx_b g (i + 1)).2, (sx_b g (i + 2)).1, (sx_b g (i + 2)).2, (sx_b g (i + 3)).1, (sx_b g (i + 3)).2, (sx_b g (i + 4)).1, (sx_b g (i + 4)).2⟩ σ I
  refine j_aload_n eL_law_450 rfl ?_
  refine j_aload_n eL_law_451 rfl ?_
  refine j_iload_n eL_law_452 rfl ?_
  refine j_iconst 1 eL_law_453 ?_
  refine j_iadd eL_law_454 ?_
  refine j_sald hM (by omega) eL_law_455 ?_
  refine j_aload_n eL_law_456 rfl ?_
  refine j_iload_n eL_law_457 rfl ?_
  refine j_iconst 2 eL_law_458 ?_
  refine j_iadd eL_law_459 ?_
  refine j_sald hM (by omega) eL_law_460 ?_
  refine j_aload_n eL_law_461 rfl ?_
  refine j_iload_n eL_law_462 rfl ?_
  refine j_iconst 3 eL_law_463 ?_
  refine j_iadd eL_law_464 ?_
  refine j_sald hM (by omega) eL_law_465 ?_
  refine j_aload_n eL_law_466 rfl ?_
  refine j_iload_n eL_law_467 rfl ?_
  refine j_iconst 4 eL_law_468 ?_
  refine j_iadd eL_law_469 ?_
  refine j_sald hM (by omega) eL_law_470 ?_
  refine j_cV4 zX11_control lkL_58 ⟨Nat.le_of_ble_eq_true rfl, Nat.le_of_ble_eq_true rfl⟩ ly24 rfl rfl M1 (Nat.le_of_ble_eq_true rfl) eL_law_471 (k_L (fun v1 σ1 h1 => ?_))
  obtain ⟨P2, M2, K2⟩ := K1 v1 σ1 h1
  refine j_aload_n eL_law_474 rfl ?_
  refine j_aload_n eL_law_475 rfl ?_
  refine j_iload_n eL_law_476 rfl ?_
  refine j_iconst 1 eL_law_477 ?_
  refine j_iadd eL_law_478 ?_
  refine j_sald hM (by omega) eL_law_479 ?_
  refine j_aload_n eL_law_480 rfl ?_
  refine j_iload_n eL_law_481 rfl ?_
  refine j_iconst 2 eL_law_482 ?_
  refine j_iadd eL_law_483 ?_
  refine j_sald hM (by omega) eL_law_484 ?_
  refine j_aload_n eL_law_485 rfl ?_
  refine j_iload_n eL_law_486 rfl ?_
  refine j_iconst 3 eL_law_487 ?_
  refine j_iadd eL_law_488 ?_
  refine j_sald hM (by omega) eL_law_489 ?_
  refine j_aload_n eL_law_490 rfl ?_
  refine j_iload_n eL_law_491 rfl ?_
  refine j_iconst 4 eL_law_492 ?_
  refine j_iadd eL_law_493 ?_
  refine j_sald hM (by omega) eL_law_494 ?_
  refine j_cV4 zX12_control lkL_62 ⟨Nat.le_of_ble_eq_true rfl, Nat.le_of_ble_eq_true rfl⟩ ly48 rfl rfl M2 (Nat.le_of_ble_eq_true rfl) eL_law_495 (k_L (fun v2 σ2 h2 => ?_))
  obtain ⟨e1, I2⟩ := K2 v2 σ2 h2
  refine j_eqL e1 eL_law_498 eL_law_499 ?_
  exact kk σ2 I2
theorem law_11 {g : Gl} {σ : Sg} {i : Int} (hM : g.2.2.2.2.1.2.1 ≤ 2147483647) (hi : 0 ≤ i ∧ i + 4 < (g.2.2.2.2.1.2.1 : Int)) (I : Inv σ) (kk : ∀ τ, Inv τ → jv g mL_law (FLw g) τ [(0, Value.ref g.2.2.2.2.1.1), (1, vr g 24), (2, vr g 48), (3, vi i)] 976 []) : jv g mL_law (FLw g) σ [(0, Value.ref g.2.2.2.2.1.1), (1, vr g 24), (2, vr g 48), (3, vi i)] 504 [] := by
  obtain ⟨P1, M1, K1⟩ := s_variation (g := g) ⟨(sx_b g (i + 1)).1, (sx_b g (i + 1)).2, (sx_b g (i + 2)).1, (sx_b g (i + 2)).2⟩ σ I
  refine j_aload_n eL_law_504 rfl ?_
  refine j_aload_n eL_law_505 rfl ?_
  refine j_iload_n eL_law_506 rfl ?_
  refine j_iconst 1 eL_law_507 ?_
  refine j_iadd eL_law_508 ?_
  refine j_sald hM (by omega) eL_law_509 ?_
  refine j_aload_n eL_law_510 rfl ?_
  refine j_iload_n eL_law_511 rfl ?_
  refine j_iconst 2 eL_law_512 ?_
  refine j_iadd eL_law_513 ?_
  refine j_sald hM (by omega) eL_law_514 ?_
  refine j_cV2 zX11_variation lkL_63 ⟨Nat.le_of_ble_eq_true rfl, Nat.le_of_ble_eq_true rfl⟩ ly24 rfl rfl M1 (Nat.le_of_ble_eq_true rfl) eL_law_515 (k_I (fun v1 σ1 h1 => ?_))
  obtain ⟨P2, M2, K2⟩ := K1 v1 σ1 h1
  refine j_aload_n eL_law_518 rfl ?_
  refine j_aload_n eL_law_519 rfl ?_
  refine j_iload_n eL_law_520 rfl ?_
  refine j_iconst 1 eL_law_521 ?_
  refine j_iadd eL_law_522 ?_
  refine j_sald hM (by omega) eL_law_523 ?_
  refine j_aload_n eL_law_524 rfl ?_
  refine j_iload_n eL_law_525 rfl ?_
  refine j_iconst 2 eL_law_526 ?_
  refine j_iadd eL_law_527 ?_
  refine j_sald hM (by omega) eL_law_528 ?_
  refine j_cV2 zX12_variation lkL_66 ⟨Nat.le_of_ble_eq_true rfl, Nat.le_of_ble_eq_true rfl⟩ ly48 rfl rfl M2 (Nat.le_of_ble_eq_true rfl) eL_law_529 (k_I (fun v2 σ2 h2 => ?_))
  obtain ⟨e1, I2⟩ := K2 v2 σ2 h2
  refine j_eqI e1 eL_law_532 ?_
  exact kk σ2 I2
theorem law_12 {g : Gl} {σ : Sg} {i : Int} (hM : g.2.2.2.2.1.2.1 ≤ 2147483647) (hi : 0 ≤ i ∧ i + 4 < (g.2.2.2.2.1.2.1 : Int)) (I : Inv σ) (kk : ∀ τ, Inv τ → jv g mL_law (FLw g) τ [(0, Value.ref g.2.2.2.2.1.1), (1, vr g 24), (2, vr g 48), (3, vi i)] 976 []) : jv g mL_law (FLw g) σ [(0, Value.ref g.2.2.2.2.1.1), (1, vr g 24), (2, vr g 48), (3, vi i)] 537 [] := by
  obtain ⟨P1, M1, K1⟩ := s_end (g := g) ⟨(sx_b g (i + 1)).1, (sx_b g (i + 1)).2, (sx_b g (i + 2)).1, (sx_b g (i + 2)).2, (sx_b g (i + 3)).1, (sx_b g (i + 3)).2⟩ σ I
  refine j_aload_n eL_law_537 rfl ?_
  refine j_aload_n eL_law_538 rfl ?_
  refine j_iload_n eL_law_539 rfl ?_
  refine j_iconst 1 eL_law_540 ?_
  refine j_iadd eL_law_541 ?_
  refine j_sald hM (by omega) eL_law_542 ?_
  refine j_aload_n eL_law_543 rfl ?_
  refine j_iload_n eL_law_544 rfl ?_
  refine j_iconst 2 eL_law_545 ?_
  refine j_iadd eL_law_546 ?_
  refine j_sald hM (by omega) eL_law_547 ?_
  refine j_aload_n eL_law_548 rfl ?_
  refine j_iload_n eL_law_549 rfl ?_
  refine j_iconst 3 eL_law_550 ?_
  refine j_iadd eL_law_551 ?_
  refine j_sald hM (by omega) eL_law_552 ?_
  refine j_cV3 zX11_end lkL_67 ⟨Nat.le_of_ble_eq_true rfl, Nat.le_of_ble_eq_true rfl⟩ ly24 rfl rfl M1 (Nat.le_of_ble_eq_true rfl) eL_law_553 (k_L (fun v1 σ1 h1 => ?_))
  obtain ⟨P2, M2, K2⟩ := K1 v1 σ1 h1
  refine j_aload_n eL_law_556 rfl ?_
  refine j_aload_n eL_law_557 rfl ?_
  refine j_iload_n eL_law_558 rfl ?_
  refine j_iconst 1 eL_law_559 ?_
  refine j_iadd eL_law_560 ?_
  refine j_sald hM (by omega) eL_law_561 ?_
  refine j_aload_n eL_law_562 rfl ?_
  refine j_iload_n eL_law_563 rfl ?_
  refine j_iconst 2 eL_law_564 ?_
  refine j_iadd eL_law_565 ?_
  refine j_sald hM (by omega) eL_law_566 ?_
  refine j_aload_n eL_law_567 rfl ?_
  refine j_iload_n eL_law_568 rfl ?_
  refine j_iconst 3 eL_law_569 ?_
  refine j_iadd eL_law_570 ?_
  refine j_sald hM (by omega) eL_law_571 ?_
  refine j_cV3 zX12_end lkL_71 ⟨Nat.le_of_ble_eq_true rfl, Nat.le_of_ble_eq_true rfl⟩ ly48 rfl rfl M2 (Nat.le_of_ble_eq_true rfl) eL_law_572 (k_L (fun v2 σ2 h2 => ?_))
  obtain ⟨e1, I2⟩ := K2 v2 σ2 h2
  refine j_eqL e1 eL_law_575 eL_law_576 ?_
  exact kk σ2 I2
theorem law_13 {g : Gl} {σ : Sg} {i : Int} (hM : g.2.2.2.2.1.2.1 ≤ 2147483647) (hi : 0 ≤ i ∧ i + 4 < (g.2.2.2.2.1.2.1 : Int)) (I : Inv σ) (kk : ∀ τ, Inv τ → jv g mL_law (FLw g) τ [(0, Value.ref g.2.2.2.2.1.1), (1, vr g 24), (2, vr g 48), (3, vi i)] 976 []) : jv g mL_law (FLw g) σ [(0, Value.ref g.2.2.2.2.1.1), (1, vr g 24), (2, vr g 48), (3, vi i)] 581 [] := by
  obtain ⟨P1, M1, K1⟩ := s_value (g := g) ⟨(sx_b g (i + 1)).1, (sx_b g (i + 1)).2, (sx_b g (i + 2)).1, (sx_b g (i + 2)).2, (sx_b g (i + 3)).1, (sx_b g (i + 3)).2⟩ σ I
  refine j_aload_n eL_law_581 rfl ?_
  refine j_aload_n eL_law_582 rfl ?_
  refine j_iload_n eL_law_583 rfl ?_
  refine j_iconst 1 eL_law_584 ?_
  refine j_iadd eL_law_585 ?_
  refine j_sald hM (by omega) eL_law_586 ?_
  refine j_aload_n eL_law_587 rfl ?_
  refine j_iload_n eL_law_588 rfl ?_
  refine j_iconst 2 eL_law_589 ?_
  refine j_iadd eL_law_590 ?_
  refine j_sald hM (by omega) eL_law_591 ?_
  refine j_aload_n eL_law_592 rfl ?_
  refine j_iload_n eL_law_593 rfl ?_
  refine j_iconst 3 eL_law_594 ?_
  refine j_iadd eL_law_595 ?_
  refine j_sald hM (by omega) eL_law_596 ?_
  refine j_cV3 zX11_value lkL_72 ⟨Nat.le_of_ble_eq_true rfl, Nat.le_of_ble_eq_true rfl⟩ ly24 rfl rfl M1 (Nat.le_of_ble_eq_true rfl) eL_law_597 (k_L (fun v1 σ1 h1 => ?_))
  obtain ⟨P2, M2, K2⟩ := K1 v1 σ1 h1
  refine j_aload_n eL_law_600 rfl ?_
  refine j_aload_n eL_law_601 rfl ?_
  refine j_iload_n eL_law_602 rfl ?_
  refine j_iconst 1 eL_law_603 ?_
  refine j_iadd eL_law_604 ?_
  refine j_sald hM (by omega) eL_law_605 ?_
  refine j_aload_n eL_law_606 rfl ?_
  refine j_iload_n eL_law_607 rfl ?_
  refine j_iconst 2 eL_law_608 ?_
  refine j_iadd eL_law_609 ?_
  refine j_sald hM (by omega) eL_law_610 ?_
  refine j_aload_n eL_law_611 rfl ?_
  refine j_iload_n eL_law_612 rfl ?_
  refine j_iconst 3 eL_law_613 ?_
  refine j_iadd eL_law_614 ?_
  refine j_sald hM (by omega) eL_law_615 ?_
  refine j_cV3 zX12_value lkL_75 ⟨Nat.le_of_ble_eq_true rfl, Nat.le_of_ble_eq_true rfl⟩ ly48 rfl rfl M2 (Nat.le_of_ble_eq_true rfl) eL_law_616 (k_L (fun v2 σ2 h2 => ?_))
  obtain ⟨e1, I2⟩ := K2 v2 σ2 h2
  refine j_eqL e1 eL_law_619 eL_law_620 ?_
  exact kk σ2 I2
theorem law_14 {g : Gl} {σ : Sg} {i : Int} (hM : g.2.2.2.2.1.2.1 ≤ 2147483647) (hi : 0 ≤ i ∧ i + 4 < (g.2.2.2.2.1.2.1 : Int)) (I : Inv σ) (kk : ∀ τ, Inv τ → jv g mL_law (FLw g) τ [(0, Value.ref g.2.2.2.2.1.1), (1, vr g 24), (2, vr g 48), (3, vi i)] 976 []) : jv g mL_law (FLw g) σ [(0, Value.ref g.2.2.2.2.1.1), (1, vr g 24), (2, vr g 48), (3, vi i)] 625 [] := by
  obtain ⟨P1, M1, K1⟩ := s_brackets (g := g) σ I
  refine j_aload_n eL_law_625 rfl ?_
  refine j_cV0 zX11_brackets lkL_76 ⟨Nat.le_of_ble_eq_true rfl, Nat.le_of_ble_eq_true rfl⟩ ly24 rfl rfl M1 (Nat.le_of_ble_eq_true rfl) eL_law_626 (k_I (fun v1 σ1 h1 => ?_))
  obtain ⟨P2, M2, K2⟩ := K1 v1 σ1 h1
  refine j_aload_n eL_law_629 rfl ?_
  refine j_cV0 zX12_brackets lkL_79 ⟨Nat.le_of_ble_eq_true rfl, Nat.le_of_ble_eq_true rfl⟩ ly48 rfl rfl M2 (Nat.le_of_ble_eq_true rfl) eL_law_630 (k_I (fun v2 σ2 h2 => ?_))
  obtain ⟨e1, I2⟩ := K2 v2 σ2 h2
  refine j_eqI e1 eL_law_633 ?_
  exact kk σ2 I2
theorem law_15 {g : Gl} {σ : Sg} {i : Int} (hM : g.2.2.2.2.1.2.1 ≤ 2147483647) (hi : 0 ≤ i ∧ i + 4 < (g.2.2.2.2.1.2.1 : Int)) (I : Inv σ) (kk : ∀ τ, Inv τ → jv g mL_law (FLw g) τ [(0, Value.ref g.2.2.2.2.1.1), (1, vr g 24), (2, vr g 48), (3, vi i)] 976 []) : jv g mL_law (FLw g) σ [(0, Value.ref g.2.2.2.2.1.1), (1, vr g 24), (2, vr g 48), (3, vi i)] 638 [] := by
  obtain ⟨P1, M1, K1⟩ := s_bracket (g := g) ⟨(sx_b g (i + 1)).1, (sx_b g (i + 1)).2, (sx_b g (i + 2)).1, (sx_b g (i + 2)).2⟩ σ I
  refine j_aload_n eL_law_638 rfl ?_
  refine j_aload_n eL_law_639 rfl ?_
  refine j_iload_n eL_law_640 rfl ?_
  refine j_iconst 1 eL_law_641 ?_
  refine j_iadd eL_law_642 ?_
  refine j_sald hM (by omega) eL_law_643 ?_
  refine j_aload_n eL_law_644 rfl ?_
  refine j_iload_n eL_law_645 rfl ?_
  refine j_iconst 2 eL_law_646 ?_
  refine j_iadd eL_law_647 ?_
  refine j_sald hM (by omega) eL_law_648 ?_
  refine j_cV2 zX11_bracket lkL_80 ⟨Nat.le_of_ble_eq_true rfl, Nat.le_of_ble_eq_true rfl⟩ ly24 rfl rfl M1 (Nat.le_of_ble_eq_true rfl) eL_law_649 (k_I (fun v1 σ1 h1 => ?_))
  obtain ⟨P2, M2, K2⟩ := K1 v1 σ1 h1
  refine j_aload_n eL_law_652 rfl ?_
  refine j_aload_n eL_law_653 rfl ?_
  refine j_iload_n eL_law_654 rfl ?_
  refine j_iconst 1 eL_law_655 ?_
  refine j_iadd eL_law_656 ?_
  refine j_sald hM (by omega) eL_law_657 ?_
  refine j_aload_n eL_law_658 rfl ?_
  refine j_iload_n eL_law_659 rfl ?_
  refine j_iconst 2 eL_law_660 ?_
  refine j_iadd eL_law_661 ?_
  refine j_sald hM (by omega) eL_law_662 ?_
  refine j_cV2 zX12_bracket lkL_83 ⟨Nat.le_of_ble_eq_true rfl, Nat.le_of_ble_eq_true rfl⟩ ly48 rfl rfl M2 (Nat.le_of_ble_eq_true rfl) eL_law_663 (k_I (fun v2 σ2 h2 => ?_))
  obtain ⟨e1, I2⟩ := K2 v2 σ2 h2
  refine j_eqI e1 eL_law_666 ?_
  exact kk σ2 I2
theorem law_16 {g : Gl} {σ : Sg} {i : Int} (hM : g.2.2.2.2.1.2.1 ≤ 2147483647) (hi : 0 ≤ i ∧ i + 4 < (g.2.2.2.2.1.2.1 : Int)) (I : Inv σ) (kk : ∀ τ, Inv τ → jv g mL_law (FLw g) τ [(0, Value.ref g.2.2.2.2.1.1), (1, vr g 24), (2, vr g 48), (3, vi i)] 976 []) : jv g mL_law (FLw g) σ [(0, Value.ref g.2.2.2.2.1.1), (1, vr g 24), (2, vr g 48), (3, vi i)] 671 [] := by
  obtain ⟨P1, M1, K1⟩ := s_makes (g := g) σ I
  refine j_aload_n eL_law_671 rfl ?_
  refine j_cV0 zX11_makes lkL_84 ⟨Nat.le_of_ble_eq_true rfl, Nat.le_of_ble_eq_true rfl⟩ ly24 rfl rfl M1 (Nat.le_of_ble_eq_true rfl) eL_law_672 (k_I (fun v1 σ1 h1 => ?_))
  obtain ⟨P2, M2, K2⟩ := K1 v1 σ1 h1
  refine j_aload_n eL_law_675 rfl ?_
  refine j_cV0 zX12_makes lkL_87 ⟨Nat.le_of_ble_eq_true rfl, Nat.le_of_ble_eq_true rfl⟩ ly48 rfl rfl M2 (Nat.le_of_ble_eq_true rfl) eL_law_676 (k_I (fun v2 σ2 h2 => ?_))
  obtain ⟨e1, I2⟩ := K2 v2 σ2 h2
  refine j_eqI e1 eL_law_679 ?_
  exact kk σ2 I2
theorem law_17 {g : Gl} {σ : Sg} {i : Int} (hM : g.2.2.2.2.1.2.1 ≤ 2147483647) (hi : 0 ≤ i ∧ i + 4 < (g.2.2.2.2.1.2.1 : Int)) (I : Inv σ) (kk : ∀ τ, Inv τ → jv g mL_law (FLw g) τ [(0, Value.ref g.2.2.2.2.1.1), (1, vr g 24), (2, vr g 48), (3, vi i)] 976 []) : jv g mL_law (FLw g) σ [(0, Value.ref g.2.2.2.2.1.1), (1, vr g 24), (2, vr g 48), (3, vi i)] 684 [] := by
  obtain ⟨P1, M1, K1⟩ := s_paper (g := g) (sx_b g (i + 1)) σ I
  refine j_aload_n eL_law_684 rfl ?_
  refine j_aload_n eL_law_685 rfl ?_
  refine j_iload_n eL_law_686 rfl ?_
  refine j_iconst 1 eL_law_687 ?_
  refine j_iadd eL_law_688 ?_
  refine j_sald hM (by omega) eL_law_689 ?_
  refine j_cV1 zX11_paper lkL_88 ⟨Nat.le_of_ble_eq_true rfl, Nat.le_of_ble_eq_true rfl⟩ ly24 rfl rfl M1 (Nat.le_of_ble_eq_true rfl) eL_law_690 (k_I (fun v1 σ1 h1 => ?_))
  obtain ⟨P2, M2, K2⟩ := K1 v1 σ1 h1
  refine j_aload_n eL_law_693 rfl ?_
  refine j_aload_n eL_law_694 rfl ?_
  refine j_iload_n eL_law_695 rfl ?_
  refine j_iconst 1 eL_law_696 ?_
  refine j_iadd eL_law_697 ?_
  refine j_sald hM (by omega) eL_law_698 ?_
  refine j_cV1 zX12_paper lkL_91 ⟨Nat.le_of_ble_eq_true rfl, Nat.le_of_ble_eq_true rfl⟩ ly48 rfl rfl M2 (Nat.le_of_ble_eq_true rfl) eL_law_699 (k_I (fun v2 σ2 h2 => ?_))
  obtain ⟨e1, I2⟩ := K2 v2 σ2 h2
  refine j_eqI e1 eL_law_702 ?_
  exact kk σ2 I2
theorem law_18 {g : Gl} {σ : Sg} {i : Int} (hM : g.2.2.2.2.1.2.1 ≤ 2147483647) (hi : 0 ≤ i ∧ i + 4 < (g.2.2.2.2.1.2.1 : Int)) (I : Inv σ) (kk : ∀ τ, Inv τ → jv g mL_law (FLw g) τ [(0, Value.ref g.2.2.2.2.1.1), (1, vr g 24), (2, vr g 48), (3, vi i)] 976 []) : jv g mL_law (FLw g) σ [(0, Value.ref g.2.2.2.2.1.1), (1, vr g 24), (2, vr g 48), (3, vi i)] 707 [] := by
  obtain ⟨P1, M1, K1⟩ := s_witness (g := g) (sx_b g (i + 1)) σ I
  refine j_aload_n eL_law_707 rfl ?_
  refine j_aload_n eL_law_708 rfl ?_
  refine j_iload_n eL_law_709 rfl ?_
  refine j_iconst 1 eL_law_710 ?_
  refine j_iadd eL_law_711 ?_
  refine j_sald hM (by omega) eL_law_712 ?_
  refine j_cV1 zX11_witness lkL_92 ⟨Nat.le_of_ble_eq_true rfl, Nat.le_of_ble_eq_true rfl⟩ ly24 rfl rfl M1 (Nat.le_of_ble_eq_true rfl) eL_law_713 (k_L (fun v1 σ1 h1 => ?_))
  obtain ⟨P2, M2, K2⟩ := K1 v1 σ1 h1
  refine j_aload_n eL_law_716 rfl ?_
  refine j_aload_n eL_law_717 rfl ?_
  refine j_iload_n eL_law_718 rfl ?_
  refine j_iconst 1 eL_law_719 ?_
  refine j_iadd eL_law_720 ?_
  refine j_sald hM (by omega) eL_law_721 ?_
  refine j_cV1 zX12_witness lkL_96 ⟨Nat.le_of_ble_eq_true rfl, Nat.le_of_ble_eq_true rfl⟩ ly48 rfl rfl M2 (Nat.le_of_ble_eq_true rfl) eL_law_722 (k_L (fun v2 σ2 h2 => ?_))
  obtain ⟨e1, I2⟩ := K2 v2 σ2 h2
  refine j_eqL e1 eL_law_725 eL_law_726 ?_
  exact kk σ2 I2
theorem law_19 {g : Gl} {σ : Sg} {i : Int} (hM : g.2.2.2.2.1.2.1 ≤ 2147483647) (hi : 0 ≤ i ∧ i + 4 < (g.2.2.2.2.1.2.1 : Int)) (I : Inv σ) (kk : ∀ τ, Inv τ → jv g mL_law (FLw g) τ [(0, Value.ref g.2.2.2.2.1.1), (1, vr g 24), (2, vr g 48), (3, vi i)] 976 []) : jv g mL_law (FLw g) σ [(0, Value.ref g.2.2.2.2.1.1), (1, vr g 24), (2, vr g 48), (3, vi i)] 731 [] := by
  obtain ⟨P1, M1, K1⟩ := s_proves (g := g) σ I
  refine j_aload_n eL_law_731 rfl ?_
  refine j_cV0 zX11_proves lkL_97 ⟨Nat.le_of_ble_eq_true rfl, Nat.le_of_ble_eq_true rfl⟩ ly24 rfl rfl M1 (Nat.le_of_ble_eq_true rfl) eL_law_732 (k_I (fun v1 σ1 h1 => ?_))
  obtain ⟨P2, M2, K2⟩ := K1 v1 σ1 h1
  refine j_aload_n eL_law_735 rfl ?_
  refine j_cV0 zX12_proves lkL_100 ⟨Nat.le_of_ble_eq_true rfl, Nat.le_of_ble_eq_true rfl⟩ ly48 rfl rfl M2 (Nat.le_of_ble_eq_true rfl) eL_law_736 (k_I (fun v2 σ2 h2 => ?_))
  obtain ⟨e1, I2⟩ := K2 v2 σ2 h2
  refine j_eqI e1 eL_law_739 ?_
  exact kk σ2 I2
theorem law_20 {g : Gl} {σ : Sg} {i : Int} (hM : g.2.2.2.2.1.2.1 ≤ 2147483647) (hi : 0 ≤ i ∧ i + 4 < (g.2.2.2.2.1.2.1 : Int)) (I : Inv σ) (kk : ∀ τ, Inv τ → jv g mL_law (FLw g) τ [(0, Value.ref g.2.2.2.2.1.1), (1, vr g 24), (2, vr g 48), (3, vi i)] 976 []) : jv g mL_law (FLw g) σ [(0, Value.ref g.2.2.2.2.1.1), (1, vr g 24), (2, vr g 48), (3, vi i)] 744 [] := by
  obtain ⟨P1, M1, K1⟩ := s_narrowed (g := g) ⟨(sx_b g (i + 1)).1, (sx_b g (i + 1)).2, (sx_b g (i + 2)).1, (sx_b g (i + 2)).2, (sx_b g (i + 3)).1, (sx_b g (i + 3)).2⟩ σ I
  refine j_aload_n eL_law_744 rfl ?_
  refine j_aload_n eL_law_745 rfl ?_
  refine j_iload_n eL_law_746 rfl ?_
  refine j_iconst 1 eL_law_747 ?_
  refine j_iadd eL_law_748 ?_
  refine j_sald hM (by omega) eL_law_749 ?_
  refine j_aload_n eL_law_750 rfl ?_
  refine j_iload_n eL_law_751 rfl ?_
  refine j_iconst 2 eL_law_752 ?_
  refine j_iadd eL_law_753 ?_
  refine j_sald hM (by omega) eL_law_754 ?_
  refine j_aload_n eL_law_755 rfl ?_
  refine j_iload_n eL_law_756 rfl ?_
  refine j_iconst 3 eL_law_757 ?_
  refine j_iadd eL_law_758 ?_
  refine j_sald hM (by omega) eL_law_759 ?_
  refine j_cV3 zX11_narrowed lkL_101 ⟨Nat.le_of_ble_eq_true rfl, Nat.le_of_ble_eq_true rfl⟩ ly24 rfl rfl M1 (Nat.le_of_ble_eq_true rfl) eL_law_760 (k_L (fun v1 σ1 h1 => ?_))
  obtain ⟨P2, M2, K2⟩ := K1 v1 σ1 h1
  refine j_aload_n eL_law_763 rfl ?_
  refine j_aload_n eL_law_764 rfl ?_
  refine j_iload_n eL_law_765 rfl ?_
  refine j_iconst 1 eL_law_766 ?_
  refine j_iadd eL_law_767 ?_
  refine j_sald hM (by omega) eL_law_768 ?_
  refine j_aload_n eL_law_769 rfl ?_
  refine j_iload_n eL_law_770 rfl ?_
  refine j_iconst 2 eL_law_771 ?_
  refine j_iadd eL_law_772 ?_
  refine j_sald hM (by omega) eL_law_773 ?_
  refine j_aload_n eL_law_774 rfl ?_
  refine j_iload_n eL_law_775 rfl ?_
  refine j_iconst 3 eL_law_776 ?_
  refine j_iadd eL_law_777 ?_
  refine j_sald hM (by omega) eL_law_778 ?_
  refine j_cV3 zX12_narrowed lkL_104 ⟨Nat.le_of_ble_eq_true rfl, Nat.le_of_ble_eq_true rfl⟩ ly48 rfl rfl M2 (Nat.le_of_ble_eq_true rfl) eL_law_779 (k_L (fun v2 σ2 h2 => ?_))
  obtain ⟨e1, I2⟩ := K2 v2 σ2 h2
  refine j_eqL e1 eL_law_782 eL_law_783 ?_
  exact kk σ2 I2
theorem law_21 {g : Gl} {σ : Sg} {i : Int} (hM : g.2.2.2.2.1.2.1 ≤ 2147483647) (hi : 0 ≤ i ∧ i + 4 < (g.2.2.2.2.1.2.1 : Int)) (I : Inv σ) (kk : ∀ τ, Inv τ → jv g mL_law (FLw g) τ [(0, Value.ref g.2.2.2.2.1.1), (1, vr g 24), (2, vr g 48), (3, vi i)] 976 []) : jv g mL_law (FLw g) σ [(0, Value.ref g.2.2.2.2.1.1), (1, vr g 24), (2, vr g 48), (3, vi i)] 788 [] := by
  obtain ⟨P1, M1, K1⟩ := s_sure (g := g) (sx_b g (i + 1)) σ I
  refine j_aload_n eL_law_788 rfl ?_
  refine j_aload_n eL_law_789 rfl ?_
  refine j_iload_n eL_law_790 rfl ?_
  refine j_iconst 1 eL_law_791 ?_
  refine j_iadd eL_law_792 ?_
  refine j_sald hM (by omega) eL_law_793 ?_
  refine j_cV1 zX11_sure lkL_105 ⟨Nat.le_of_ble_eq_true rfl, Nat.le_of_ble_eq_true rfl⟩ ly24 rfl rfl M1 (Nat.le_of_ble_eq_true rfl) eL_law_794 (k_I (fun v1 σ1 h1 => ?_))
  obtain ⟨P2, M2, K2⟩ := K1 v1 σ1 h1
  refine j_aload_n eL_law_797 rfl ?_
  refine j_aload_n eL_law_798 rfl ?_
  refine j_iload_n eL_law_799 rfl ?_
  refine j_iconst 1 eL_law_800 ?_
  refine j_iadd eL_law_801 ?_
  refine j_sald hM (by omega) eL_law_802 ?_
  refine j_cV1 zX12_sure lkL_108 ⟨Nat.le_of_ble_eq_true rfl, Nat.le_of_ble_eq_true rfl⟩ ly48 rfl rfl M2 (Nat.le_of_ble_eq_true rfl) eL_law_803 (k_I (fun v2 σ2 h2 => ?_))
  obtain ⟨e1, I2⟩ := K2 v2 σ2 h2
  refine j_eqI e1 eL_law_806 ?_
  exact kk σ2 I2
theorem law_22 {g : Gl} {σ : Sg} {i : Int} (hM : g.2.2.2.2.1.2.1 ≤ 2147483647) (hi : 0 ≤ i ∧ i + 4 < (g.2.2.2.2.1.2.1 : Int)) (I : Inv σ) (kk : ∀ τ, Inv τ → jv g mL_law (FLw g) τ [(0, Value.ref g.2.2.2.2.1.1), (1, vr g 24), (2, vr g 48), (3, vi i)] 976 []) : jv g mL_law (FLw g) σ [(0, Value.ref g.2.2.2.2.1.1), (1, vr g 24), (2, vr g 48), (3, vi i)] 811 [] := by
  obtain ⟨P1, M1, K1⟩ := s_first (g := g) σ I
  refine j_aload_n eL_law_811 rfl ?_
  refine j_cV0 zX11_first lkL_109 ⟨Nat.le_of_ble_eq_true rfl, Nat.le_of_ble_eq_true rfl⟩ ly24 rfl rfl M1 (Nat.le_of_ble_eq_true rfl) eL_law_812 (k_I (fun v1 σ1 h1 => ?_))
  obtain ⟨P2, M2, K2⟩ := K1 v1 σ1 h1
  refine j_aload_n eL_law_815 rfl ?_
  refine j_cV0 zX12_first lkL_112 ⟨Nat.le_of_ble_eq_true rfl, Nat.le_of_ble_eq_true rfl⟩ ly48 rfl rfl M2 (Nat.le_of_ble_eq_true rfl) eL_law_816 (k_I (fun v2 σ2 h2 => ?_))
  obtain ⟨e1, I2⟩ := K2 v2 σ2 h2
  refine j_eqI e1 eL_law_819 ?_
  exact kk σ2 I2
theorem law_23 {g : Gl} {σ : Sg} {i : Int} (hM : g.2.2.2.2.1.2.1 ≤ 2147483647) (hi : 0 ≤ i ∧ i + 4 < (g.2.2.2.2.1.2.1 : Int)) (I : Inv σ) (kk : ∀ τ, Inv τ → jv g mL_law (FLw g) τ [(0, Value.ref g.2.2.2.2.1.1), (1, vr g 24), (2, vr g 48), (3, vi i)] 976 []) : jv g mL_law (FLw g) σ [(0, Value.ref g.2.2.2.2.1.1), (1, vr g 24), (2, vr g 48), (3, vi i)] 824 [] := by
  obtain ⟨P1, M1, K1⟩ := s_wish (g := g) (sx_b g (i + 1)) σ I
  refine j_aload_n eL_law_824 rfl ?_
  refine j_aload_n eL_law_825 rfl ?_
  refine j_iload_n eL_law_826 rfl ?_
  refine j_iconst 1 eL_law_827 ?_
  refine j_iadd eL_law_828 ?_
  refine j_sald hM (by omega) eL_law_829 ?_
  refine j_cV1 zX11_wish lkL_113 ⟨Nat.le_of_ble_eq_true rfl, Nat.le_of_ble_eq_true rfl⟩ ly24 rfl rfl M1 (Nat.le_of_ble_eq_true rfl) eL_law_830 (k_L (fun v1 σ1 h1 => ?_))
  obtain ⟨P2, M2, K2⟩ := K1 v1 σ1 h1
  refine j_aload_n eL_law_833 rfl ?_
  refine j_aload_n eL_law_834 rfl ?_
  refine j_iload_n eL_law_835 rfl ?_
  refine j_iconst 1 eL_law_836 ?_
  refine j_iadd eL_law_837 ?_
  refine j_sald hM (by omega) eL_law_838 ?_
  refine j_cV1 zX12_wish lkL_116 ⟨Nat.le_of_ble_eq_true rfl, Nat.le_of_ble_eq_true rfl⟩ ly48 rfl rfl M2 (Nat.le_of_ble_eq_true rfl) eL_law_839 (k_L (fun v2 σ2 h2 => ?_))
  obtain ⟨e1, I2⟩ := K2 v2 σ2 h2
  refine j_eqL e1 eL_law_842 eL_law_843 ?_
  exact kk σ2 I2
theorem law_24 {g : Gl} {σ : Sg} {i : Int} (hM : g.2.2.2.2.1.2.1 ≤ 2147483647) (hi : 0 ≤ i ∧ i + 4 < (g.2.2.2.2.1.2.1 : Int)) (I : Inv σ) (kk : ∀ τ, Inv τ → jv g mL_law (FLw g) τ [(0, Value.ref g.2.2.2.2.1.1), (1, vr g 24), (2, vr g 48), (3, vi i)] 976 []) : jv g mL_law (FLw g) σ [(0, Value.ref g.2.2.2.2.1.1), (1, vr g 24), (2, vr g 48), (3, vi i)] 848 [] := by
  obtain ⟨P1, M1, K1⟩ := s_sees (g := g) ⟨(sx_b g (i + 1)).1, (sx_b g (i + 1)).2, (sx_b g (i + 2)).1, (sx_b g (i + 2)).2⟩ σ I
  refine j_aload_n eL_law_848 rfl ?_
  refine j_aload_n eL_law_849 rfl ?_
  refine j_iload_n eL_law_850 rfl ?_
  refine j_iconst 1 eL_law_851 ?_
  refine j_iadd eL_law_852 ?_
  refine j_sald hM (by omega) eL_law_853 ?_
  refine j_aload_n eL_law_854 rfl ?_
  refine j_iload_n eL_law_855 rfl ?_
  refine j_iconst 2 eL_law_856 ?_
  refine j_iadd eL_law_857 ?_
  refine j_sald hM (by omega) eL_law_858 ?_
  refine j_cV2 zX11_sees lkL_117 ⟨Nat.le_of_ble_eq_true rfl, Nat.le_of_ble_eq_true rfl⟩ ly24 rfl rfl M1 (Nat.le_of_ble_eq_true rfl) eL_law_859 (k_I (fun v1 σ1 h1 => ?_))
  obtain ⟨P2, M2, K2⟩ := K1 v1 σ1 h1
  refine j_aload_n eL_law_862 rfl ?_
  refine j_aload_n eL_law_863 rfl ?_
  refine j_iload_n eL_law_864 rfl ?_
  refine j_iconst 1 eL_law_865 ?_
  refine j_iadd eL_law_866 ?_
  refine j_sald hM (by omega) eL_law_867 ?_
  refine j_aload_n eL_law_868 rfl ?_
  refine j_iload_n eL_law_869 rfl ?_
  refine j_iconst 2 eL_law_870 ?_
  refine j_iadd eL_law_871 ?_
  refine j_sald hM (by omega) eL_law_872 ?_
  refine j_cV2 zX12_sees lkL_120 ⟨Nat.le_of_ble_eq_true rfl, Nat.le_of_ble_eq_true rfl⟩ ly48 rfl rfl M2 (Nat.le_of_ble_eq_true rfl) eL_law_873 (k_I (fun v2 σ2 h2 => ?_))
  obtain ⟨e1, I2⟩ := K2 v2 σ2 h2
  refine j_eqI e1 eL_law_876 ?_
  exact kk σ2 I2
theorem law_25 {g : Gl} {σ : Sg} {i : Int} (hM : g.2.2.2.2.1.2.1 ≤ 2147483647) (hi : 0 ≤ i ∧ i + 4 < (g.2.2.2.2.1.2.1 : Int)) (I : Inv σ) (kk : ∀ τ, Inv τ → jv g mL_law (FLw g) τ [(0, Value.ref g.2.2.2.2.1.1), (1, vr g 24), (2, vr g 48), (3, vi i)] 976 []) : jv g mL_law (FLw g) σ [(0, Value.ref g.2.2.2.2.1.1), (1, vr g 24), (2, vr g 48), (3, vi i)] 881 [] := by
  obtain ⟨P1, M1, K1⟩ := s_forget (g := g) σ I
  refine j_aload_n eL_law_881 rfl ?_
  refine j_cV0 zX11_forget lkL_121 ⟨Nat.le_of_ble_eq_true rfl, Nat.le_of_ble_eq_true rfl⟩ ly24 rfl rfl M1 (Nat.le_of_ble_eq_true rfl) eL_law_882 (k_I (fun v1 σ1 h1 => ?_))
  obtain ⟨P2, M2, K2⟩ := K1 v1 σ1 h1
  refine j_aload_n eL_law_885 rfl ?_
  refine j_cV0 zX12_forget lkL_124 ⟨Nat.le_of_ble_eq_true rfl, Nat.le_of_ble_eq_true rfl⟩ ly48 rfl rfl M2 (Nat.le_of_ble_eq_true rfl) eL_law_886 (k_I (fun v2 σ2 h2 => ?_))
  obtain ⟨e1, I2⟩ := K2 v2 σ2 h2
  refine j_eqI e1 eL_law_889 ?_
  exact kk σ2 I2
theorem law_26 {g : Gl} {σ : Sg} {i : Int} (hM : g.2.2.2.2.1.2.1 ≤ 2147483647) (hi : 0 ≤ i ∧ i + 4 < (g.2.2.2.2.1.2.1 : Int)) (I : Inv σ) (kk : ∀ τ, Inv τ → jv g mL_law (FLw g) τ [(0, Value.ref g.2.2.2.2.1.1), (1, vr g 24), (2, vr g 48), (3, vi i)] 976 []) : jv g mL_law (FLw g) σ [(0, Value.ref g.2.2.2.2.1.1), (1, vr g 24), (2, vr g 48), (3, vi i)] 894 [] := by
  obtain ⟨P1, M1, K1⟩ := s_unseen (g := g) σ I
  refine j_aload_n eL_law_894 rfl ?_
  refine j_cV0 zX11_unseen lkL_125 ⟨Nat.le_of_ble_eq_true rfl, Nat.le_of_ble_eq_true rfl⟩ ly24 rfl rfl M1 (Nat.le_of_ble_eq_true rfl) eL_law_895 (k_I (fun v1 σ1 h1 => ?_))
  obtain ⟨P2, M2, K2⟩ := K1 v1 σ1 h1
  refine j_aload_n eL_law_898 rfl ?_
  refine j_cV0 zX12_unseen lkL_128 ⟨Nat.le_of_ble_eq_true rfl, Nat.le_of_ble_eq_true rfl⟩ ly48 rfl rfl M2 (Nat.le_of_ble_eq_true rfl) eL_law_899 (k_I (fun v2 σ2 h2 => ?_))
  obtain ⟨e1, I2⟩ := K2 v2 σ2 h2
  refine j_eqI e1 eL_law_902 ?_
  exact kk σ2 I2
theorem law_27 {g : Gl} {σ : Sg} {i : Int} (hM : g.2.2.2.2.1.2.1 ≤ 2147483647) (hi : 0 ≤ i ∧ i + 4 < (g.2.2.2.2.1.2.1 : Int)) (I : Inv σ) (kk : ∀ τ, Inv τ → jv g mL_law (FLw g) τ [(0, Value.ref g.2.2.2.2.1.1), (1, vr g 24), (2, vr g 48), (3, vi i)] 976 []) : jv g mL_law (FLw g) σ [(0, Value.ref g.2.2.2.2.1.1), (1, vr g 24), (2, vr g 48), (3, vi i)] 907 [] := by
  obtain ⟨P1, M1, K1⟩ := s_keep (g := g) (sx_b g (i + 1)) σ I
  refine j_aload_n eL_law_907 rfl ?_
  refine j_aload_n eL_law_908 rfl ?_
  refine j_iload_n eL_law_909 rfl ?_
  refine j_iconst 1 eL_law_910 ?_
  refine j_iadd eL_law_911 ?_
  refine j_sald hM (by omega) eL_law_912 ?_
  refine j_cV1 zX11_keep lkL_129 ⟨Nat.le_of_ble_eq_true rfl, Nat.le_of_ble_eq_true rfl⟩ ly24 rfl rfl M1 (Nat.le_of_ble_eq_true rfl) eL_law_913 (k_I (fun v1 σ1 h1 => ?_))
  obtain ⟨P2, M2, K2⟩ := K1 v1 σ1 h1
  refine j_aload_n eL_law_916 rfl ?_
  refine j_aload_n eL_law_917 rfl ?_
  refine j_iload_n eL_law_918 rfl ?_
  refine j_iconst 1 eL_law_919 ?_
  refine j_iadd eL_law_920 ?_
  refine j_sald hM (by omega) eL_law_921 ?_
  refine j_cV1 zX12_keep lkL_132 ⟨Nat.le_of_ble_eq_true rfl, Nat.le_of_ble_eq_true rfl⟩ ly48 rfl rfl M2 (Nat.le_of_ble_eq_true rfl) eL_law_922 (k_I (fun v2 σ2 h2 => ?_))
  obtain ⟨e1, I2⟩ := K2 v2 σ2 h2
  refine j_eqI e1 eL_law_925 ?_
  exact kk σ2 I2
theorem law_28 {g : Gl} {σ : Sg} {i : Int} (hM : g.2.2.2.2.1.2.1 ≤ 2147483647) (hi : 0 ≤ i ∧ i + 4 < (g.2.2.2.2.1.2.1 : Int)) (I : Inv σ) (kk : ∀ τ, Inv τ → jv g mL_law (FLw g) τ [(0, Value.ref g.2.2.2.2.1.1), (1, vr g 24), (2, vr g 48), (3, vi i)] 976 []) : jv g mL_law (FLw g) σ [(0, Value.ref g.2.2.2.2.1.1), (1, vr g 24), (2, vr g 48), (3, vi i)] 930 [] := by
  obtain ⟨P1, M1, K1⟩ := s_back (g := g) (sx_b g (i + 1)) σ I
  refine j_aload_n eL_law_930 rfl ?_
  refine j_aload_n eL_law_931 rfl ?_
  refine j_iload_n eL_law_932 rfl ?_
  refine j_iconst 1 eL_law_933 ?_
  refine j_iadd eL_law_934 ?_
  refine j_sald hM (by omega) eL_law_935 ?_
  refine j_cV1 zX11_back lkL_133 ⟨Nat.le_of_ble_eq_true rfl, Nat.le_of_ble_eq_true rfl⟩ ly24 rfl rfl M1 (Nat.le_of_ble_eq_true rfl) eL_law_936 (k_I (fun v1 σ1 h1 => ?_))
  obtain ⟨P2, M2, K2⟩ := K1 v1 σ1 h1
  refine j_aload_n eL_law_939 rfl ?_
  refine j_aload_n eL_law_940 rfl ?_
  refine j_iload_n eL_law_941 rfl ?_
  refine j_iconst 1 eL_law_942 ?_
  refine j_iadd eL_law_943 ?_
  refine j_sald hM (by omega) eL_law_944 ?_
  refine j_cV1 zX12_back lkL_136 ⟨Nat.le_of_ble_eq_true rfl, Nat.le_of_ble_eq_true rfl⟩ ly48 rfl rfl M2 (Nat.le_of_ble_eq_true rfl) eL_law_945 (k_I (fun v2 σ2 h2 => ?_))
  obtain ⟨e1, I2⟩ := K2 v2 σ2 h2
  refine j_eqI e1 eL_law_948 ?_
  exact kk σ2 I2
theorem law_29 {g : Gl} {σ : Sg} {i : Int} (hM : g.2.2.2.2.1.2.1 ≤ 2147483647) (hi : 0 ≤ i ∧ i + 4 < (g.2.2.2.2.1.2.1 : Int)) (I : Inv σ) (kk : ∀ τ, Inv τ → jv g mL_law (FLw g) τ [(0, Value.ref g.2.2.2.2.1.1), (1, vr g 24), (2, vr g 48), (3, vi i)] 976 []) : jv g mL_law (FLw g) σ [(0, Value.ref g.2.2.2.2.1.1), (1, vr g 24), (2, vr g 48), (3, vi i)] 953 [] := by
  obtain ⟨P1, M1, K1⟩ := s_count (g := g) (sx_b g (i + 1)) σ I
  refine j_aload_n eL_law_953 rfl ?_
  refine j_aload_n eL_law_954 rfl ?_
  refine j_iload_n eL_law_955 rfl ?_
  refine j_iconst 1 eL_law_956 ?_
  refine j_iadd eL_law_957 ?_
  refine j_sald hM (by omega) eL_law_958 ?_
  refine j_cV1 zX11_count lkL_137 ⟨Nat.le_of_ble_eq_true rfl, Nat.le_of_ble_eq_true rfl⟩ ly24 rfl rfl M1 (Nat.le_of_ble_eq_true rfl) eL_law_959 (k_I (fun v1 σ1 h1 => ?_))
  obtain ⟨P2, M2, K2⟩ := K1 v1 σ1 h1
  refine j_aload_n eL_law_962 rfl ?_
  refine j_aload_n eL_law_963 rfl ?_
  refine j_iload_n eL_law_964 rfl ?_
  refine j_iconst 1 eL_law_965 ?_
  refine j_iadd eL_law_966 ?_
  refine j_sald hM (by omega) eL_law_967 ?_
  refine j_cV1 zX12_count lkL_140 ⟨Nat.le_of_ble_eq_true rfl, Nat.le_of_ble_eq_true rfl⟩ ly48 rfl rfl M2 (Nat.le_of_ble_eq_true rfl) eL_law_968 (k_I (fun v2 σ2 h2 => ?_))
  obtain ⟨e1, I2⟩ := K2 v2 σ2 h2
  refine j_eqI e1 eL_law_971 ?_
  exact kk σ2 I2
theorem law_loop {g : Gl} (hL : g.2.2.2.2.1.2.1 ≤ 2560) : ∀ (t : Nat) (i : Int) (σ : Sg), (g.2.2.2.2.1.2.1 : Int) - i < t → (0 ≤ i ∧ i ≤ (g.2.2.2.2.1.2.1 : Int)) → Inv σ → jv g mL_law (FLw g) σ [(0, Value.ref g.2.2.2.2.1.1), (1, vr g 24), (2, vr g 48), (3, vi i)] 18 [] := by
  have hM : g.2.2.2.2.1.2.1 ≤ 2147483647 := by omega
  intro t
  induction t with
  | zero =>
    intro i σ h1 h2
    exfalso
    omega
  | succ t ih =>
    intro i σ h1 h2 I
    refine j_iload_n eL_law_18 rfl ?_
    refine j_aload_n eL_law_19 rfl ?_
    refine j_slen eL_law_20 ?_
    refine j_iconst 5 eL_law_21 ?_
    refine j_isub eL_law_22 ?_
    refine j_icmp_gt eL_law_23 (by omega) (fun h23 => ?_) (fun h23 => ?_)
    · refine j_iconst 1 eL_law_982 ?_
      exact r_law eL_law_983
    · have kk : ∀ τ, Inv τ → jv g mL_law (FLw g) τ [(0, Value.ref g.2.2.2.2.1.1), (1, vr g 24), (2, vr g 48), (3, vi i)] 976 [] := by
        intro τ Iτ
        refine j_iinc eL_law_976 rfl (Nat.le_of_ble_eq_true rfl) ?_
        refine j_goto eL_law_979 ?_
        refine jv_lv ?_ (ih (i + 5) τ (by omega) (by omega) Iτ)
        exact lvC rfl (lvC rfl (lvC rfl (lvC rfl (lv0))))
      refine j_aload_n eL_law_26 rfl ?_
      refine j_iload_n eL_law_27 rfl ?_
      refine j_sald hM (by omega) eL_law_28 ?_
      refine j_bipush 31 eL_law_29 (by decide) ?_
      obtain ⟨v, vb, ev⟩ := and31 (g.2.2.2.2.1.2.2 i.toNat).toInt
      refine j_iand ev eL_law_31 ?_
      have hi : 0 ≤ i ∧ i + 4 < (g.2.2.2.2.1.2.1 : Int) := by omega
      rcases (show v = 0 ∨ v = 1 ∨ v = 2 ∨ v = 3 ∨ v = 4 ∨ v = 5 ∨ v = 6 ∨ v = 7 ∨ v = 8 ∨ v = 9 ∨ v = 10 ∨ v = 11 ∨ v = 12 ∨ v = 13 ∨ v = 14 ∨ v = 15 ∨ v = 16 ∨ v = 17 ∨ v = 18 ∨ v = 19 ∨ v = 20 ∨ v = 21 ∨ v = 22 ∨ v = 23 ∨ v = 24 ∨ v = 25 ∨ v = 26 ∨ v = 27 ∨ v = 28 ∨ v = 29 ∨ (v < 0 ∨ 29 < v) by omega) with hv | hv | hv | hv | hv | hv | hv | hv | hv | hv | hv | hv | hv | hv | hv | hv | hv | hv | hv | hv | hv | hv | hv | hv | hv | hv | hv | hv | hv | hv | hv
      · refine j_tsIn eL_law_32.1 (by omega) (by omega) (by omega) (off := 136) (tgt := 168) (by rw [hv]; rfl) (by decide) ?_
        exact law_0 hM hi I kk
      · refine j_tsIn eL_law_32.1 (by omega) (by omega) (by omega) (off := 159) (tgt := 191) (by rw [hv]; rfl) (by decide) ?_
        exact law_1 hM hi I kk
      · refine j_tsIn eL_law_32.1 (by omega) (by omega) (by omega) (off := 172) (tgt := 204) (by rw [hv]; rfl) (by decide) ?_
        exact law_2 hM hi I kk
      · refine j_tsIn eL_law_32.1 (by omega) (by omega) (by omega) (off := 185) (tgt := 217) (by rw [hv]; rfl) (by decide) ?_
        exact law_3 hM hi I kk
      · refine j_tsIn eL_law_32.1 (by omega) (by omega) (by omega) (off := 218) (tgt := 250) (by rw [hv]; rfl) (by decide) ?_
        exact law_4 hM hi I kk
      · refine j_tsIn eL_law_32.1 (by omega) (by omega) (by omega) (off := 252) (tgt := 284) (by rw [hv]; rfl) (by decide) ?_
        exact law_5 hM hi I kk
      · refine j_tsIn eL_law_32.1 (by omega) (by omega) (by omega) (off := 286) (tgt := 318) (by rw [hv]; rfl) (by decide) ?_
        exact law_6 hM hi I kk
      · refine j_tsIn eL_law_32.1 (by omega) (by omega) (by omega) (off := 329) (tgt := 361) (by rw [hv]; rfl) (by decide) ?_
        exact law_7 hM hi I kk
      · refine j_tsIn eL_law_32.1 (by omega) (by omega) (by omega) (off := 372) (tgt := 404) (by rw [hv]; rfl) (by decide) ?_
        exact law_8 hM hi I kk
      · refine j_tsIn eL_law_32.1 (by omega) (by omega) (by omega) (off := 405) (tgt := 437) (by rw [hv]; rfl) (by decide) ?_
        exact law_9 hM hi I kk
      · refine j_tsIn eL_law_32.1 (by omega) (by omega) (by omega) (off := 418) (tgt := 450) (by rw [hv]; rfl) (by decide) ?_
        exact law_10 hM hi I kk
      · refine j_tsIn eL_law_32.1 (by omega) (by omega) (by omega) (off := 472) (tgt := 504) (by rw [hv]; rfl) (by decide) ?_
        exact law_11 hM hi I kk
      · refine j_tsIn eL_law_32.1 (by omega) (by omega) (by omega) (off := 505) (tgt := 537) (by rw [hv]; rfl) (by decide) ?_
        exact law_12 hM hi I kk
      · refine j_tsIn eL_law_32.1 (by omega) (by omega) (by omega) (off := 549) (tgt := 581) (by rw [hv]; rfl) (by decide) ?_
        exact law_13 hM hi I kk
      · refine j_tsIn eL_law_32.1 (by omega) (by omega) (by omega) (off := 593) (tgt := 625) (by rw [hv]; rfl) (by decide) ?_
        exact law_14 hM hi I kk
      · refine j_tsIn eL_law_32.1 (by omega) (by omega) (by omega) (off := 606) (tgt := 638) (by rw [hv]; rfl) (by decide) ?_
        exact law_15 hM hi I kk
      · refine j_tsIn eL_law_32.1 (by omega) (by omega) (by omega) (off := 639) (tgt := 671) (by rw [hv]; rfl) (by decide) ?_
        exact law_16 hM hi I kk
      · refine j_tsIn eL_law_32.1 (by omega) (by omega) (by omega) (off := 652) (tgt := 684) (by rw [hv]; rfl) (by decide) ?_
        exact law_17 hM hi I kk
      · refine j_tsIn eL_law_32.1 (by omega) (by omega) (by omega) (off := 675) (tgt := 707) (by rw [hv]; rfl) (by decide) ?_
        exact law_18 hM hi I kk
      · refine j_tsIn eL_law_32.1 (by omega) (by omega) (by omega) (off := 699) (tgt := 731) (by rw [hv]; rfl) (by decide) ?_
        exact law_19 hM hi I kk
      · refine j_tsIn eL_law_32.1 (by omega) (by omega) (by omega) (off := 712) (tgt := 744) (by rw [hv]; rfl) (by decide) ?_
        exact law_20 hM hi I kk
      · refine j_tsIn eL_law_32.1 (by omega) (by omega) (by omega) (off := 756) (tgt := 788) (by rw [hv]; rfl) (by decide) ?_
        exact law_21 hM hi I kk
      · refine j_tsIn eL_law_32.1 (by omega) (by omega) (by omega) (off := 779) (tgt := 811) (by rw [hv]; rfl) (by decide) ?_
        exact law_22 hM hi I kk
      · refine j_tsIn eL_law_32.1 (by omega) (by omega) (by omega) (off := 792) (tgt := 824) (by rw [hv]; rfl) (by decide) ?_
        exact law_23 hM hi I kk
      · refine j_tsIn eL_law_32.1 (by omega) (by omega) (by omega) (off := 816) (tgt := 848) (by rw [hv]; rfl) (by decide) ?_
        exact law_24 hM hi I kk
      · refine j_tsIn eL_law_32.1 (by omega) (by omega) (by omega) (off := 849) (tgt := 881) (by rw [hv]; rfl) (by decide) ?_
        exact law_25 hM hi I kk
      · refine j_tsIn eL_law_32.1 (by omega) (by omega) (by omega) (off := 862) (tgt := 894) (by rw [hv]; rfl) (by decide) ?_
        exact law_26 hM hi I kk
      · refine j_tsIn eL_law_32.1 (by omega) (by omega) (by omega) (off := 875) (tgt := 907) (by rw [hv]; rfl) (by decide) ?_
        exact law_27 hM hi I kk
      · refine j_tsIn eL_law_32.1 (by omega) (by omega) (by omega) (off := 898) (tgt := 930) (by rw [hv]; rfl) (by decide) ?_
        exact law_28 hM hi I kk
      · refine j_tsIn eL_law_32.1 (by omega) (by omega) (by omega) (off := 921) (tgt := 953) (by rw [hv]; rfl) (by decide) ?_
        exact law_29 hM hi I kk
      · refine j_tsOut eL_law_32.1 (by omega) hv (tgt := 976) (by decide) ?_
        exact kk σ I
