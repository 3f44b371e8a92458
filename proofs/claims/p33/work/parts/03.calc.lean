/-! the calculus: worlds, contexts, the judgement ga_W and its rows -/
def ga_cz (G : ga_G) : ga_V → Value
  | .inl z => .int (Int32.ofInt z)
  | .inr k => .ref (ga_ad G k)
def ga_f1 (G : ga_G) (I : ga_I) (k j : Nat) : Option Nat → Value
  | none => .int (Int32.ofInt (I k j))
  | some r => .ref (ga_ad G r)
def ga_fv (G : ga_G) (I : ga_I) (k : Nat) (fs : List (Option Nat)) : List Value := fs.mapIdx (fun j o => ga_f1 G I k j o)
def ga_ce (G : ga_G) (I : ga_I) (k : Nat) : ga_Sh → va_E
  | .inl (ci, fs) => .inr (ci, ga_fv G I k fs)
  | .inr (.inl (t, n)) => .inl (ga_cy G t, (n, .inl (fun j => Int32.ofInt (I k j))))
  | .inr (.inr ts) => .inl (ga_cy G 3, (ts.length, .inr (.inr (.inr (.inr (fun j => some (ga_ad G (ts.getD j 0))))))))
def ga_ws (G : ga_G) (I : ga_I) : va_W := (List.range 348).map (fun k => (ga_ad G k, ga_ce G I k (ga_sh k)))
theorem ga_ws_at (G : ga_G) (I : ga_I) {k : Nat} (hk : k < 348) : (ga_ws G I)[k]? = some (ga_ad G k, ga_ce G I k (ga_sh k)) := by
  unfold ga_ws
  rw [List.getElem?_map, List.getElem?_range hk]
  rfl
theorem ga_ws_ge (G : ga_G) (I : ga_I) {k : Nat} (hk : ¬ k < 348) : (ga_ws G I)[k]? = none := by
  unfold ga_ws
  rw [List.getElem?_map, List.getElem?_eq_none (by simpa using hk)]
  rfl
theorem ga_ws_set {G : ga_G} {I I' : ga_I} {k : Nat} {c : va_E} (hk : k < 348) (hc : ga_ce G I' k (ga_sh k) = c) (ho : ∀ q, q ≠ k → ga_ce G I' q (ga_sh q) = ga_ce G I q (ga_sh q)) : (ga_ws G I).set k (ga_ad G k, c) = ga_ws G I' := by
  apply List.ext_getElem?
  intro q
  by_cases hq : q < 348
  · rw [ga_ws_at G I' hq]
    by_cases e : k = q
    · subst e
      rw [List.getElem?_set_self (by simp [ga_ws]; omega), hc]
    · rw [List.getElem?_set_ne e, ga_ws_at G I hq, ho q (fun h => e h.symm)]
  · rw [ga_ws_ge G I' hq]
    rw [List.getElem?_eq_none (by simp [ga_ws]; omega)]
abbrev ga_ok (G : ga_G) : Prop := (∀ k, k < 348 → ga_ad G k = ga_ba G + k) ∧ ga_b G < ga_ba G ∧ ga_ad G 1000 = ga_b G
def ga_A (G : ga_G) : Nat → Prop := fun q => ga_ba G ≤ q
theorem ga_apart {G : ga_G} (h : ga_ok G) (I : ga_I) : va_D (ga_A G) (ga_ws G I) := by
  refine ⟨fun i j p q hi hj e => ?_, fun k q hk => ?_⟩
  · by_cases h1 : i < 348
    · by_cases h2 : j < 348
      · rw [ga_ws_at G I h1] at hi
        rw [ga_ws_at G I h2] at hj
        cases hi; cases hj
        have e1 : ga_ad G i = ga_ad G j := e
        rw [h.1 i h1, h.1 j h2] at e1
        omega
      · rw [ga_ws_ge G I h2] at hj; cases hj
    · rw [ga_ws_ge G I h1] at hi; cases hi
  · by_cases h1 : k < 348
    · rw [ga_ws_at G I h1] at hk
      cases hk
      show ga_ba G ≤ ga_ad G k
      rw [h.1 k h1]; omega
    · rw [ga_ws_ge G I h1] at hk; cases hk
def ga_ty (G : ga_G) : List (ClassId × FieldType) := [(ga_cy G 0, .int), (ga_cy G 1, .boolean), (ga_cy G 2, .char), (ga_cy G 3, .object "GainTables$State")]
def ga_RG (I : ga_I) : Prop := ∀ k j, ga_rg (I k j)
/-- the heap holds the world -/
abbrev ga_Wd (G : ga_G) (I : ga_I) (H : Heap) : Prop := va_P (ga_D G) ga_cl (ga_ws G I) H
def ga_has (G : ga_G) (n : Nat) (ls : Array Slot) (lst : List (Option ga_V)) : Prop := ls.size = n ∧ lst.length = n ∧ lv_wf ls ∧ ∀ (i : Nat) (v : ga_V), lst[i]? = some (some v) → ls[i]? = some (.val (ga_cz G v))
theorem ga_cat (G : ga_G) (v : ga_V) : (ga_cz G v).category = 1 := by
  cases v <;> rfl
def ga_lv (G : ga_G) (lst : List (Option ga_V)) : List (Nat × Value) := (List.range lst.length).filterMap (fun i => (lst.getD i none).map (fun v => (i, ga_cz G v)))
theorem ga_lv_mem {G : ga_G} {lst : List (Option ga_V)} {q : Nat × Value} : q ∈ ga_lv G lst ↔ ∃ i v, lst[i]? = some (some v) ∧ q = (i, ga_cz G v) := by
  unfold ga_lv
  rw [List.mem_filterMap]
  constructor
  · rintro ⟨i, hi, h⟩
    rw [List.mem_range] at hi
    rw [Option.map_eq_some_iff] at h
    obtain ⟨v, h1, h2⟩ := h
    refine ⟨i, v, ?_, h2.symm⟩
    rw [List.getD_eq_getElem?_getD] at h1
    rw [List.getElem?_eq_getElem hi] at h1 ⊢
    exact congrArg some h1
  · rintro ⟨i, v, h, rfl⟩
    have hi := (List.getElem?_eq_some_iff.mp h).1
    refine ⟨i, List.mem_range.mpr hi, ?_⟩
    rw [List.getD_eq_getElem?_getD, h]
    rfl
theorem ga_has_lv {G : ga_G} {n : Nat} {ls : Array Slot} {lst : List (Option ga_V)} (h : ga_has G n ls lst) : lv_has ls n (ga_lv G lst) := by
  refine ⟨h.1, h.2.2.1, fun q hq => ?_⟩
  obtain ⟨i, v, h1, rfl⟩ := ga_lv_mem.mp hq
  exact h.2.2.2 i v h1
theorem ga_has_set {G : ga_G} {n i : Nat} {ls ls' : Array Slot} {lst : List (Option ga_V)} {v : ga_V} (h : ga_has G n ls lst) (hi : i < lst.length) (h' : lv_has ls' n ((i, ga_cz G v) :: (ga_lv G lst).filter (fun q => !(q.1 == i) && !(q.1 + 1 == i && q.2.category == 2)))) : ga_has G n ls' (lst.set i (some v)) := by
  refine ⟨h'.1, by rw [List.length_set]; exact h.2.1, h'.2.1, fun j w hj => ?_⟩
  by_cases e : i = j
  · subst e
    rw [List.getElem?_set_self hi] at hj
    cases hj
    exact h'.2.2 _ List.mem_cons_self
  · rw [List.getElem?_set_ne e] at hj
    refine h'.2.2 (j, ga_cz G w) (List.mem_cons_of_mem _ (List.mem_filter.mpr ⟨ga_lv_mem.mpr ⟨j, w, hj, rfl⟩, ?_⟩))
    have e2 : ¬ j = i := fun q => e q.symm
    simp [ga_cat, e2]
/-- fewer locals are known -/
theorem ga_has_less {G : ga_G} {n : Nat} {ls : Array Slot} {lst lst' : List (Option ga_V)} (h : ga_has G n ls lst) (hl : lst'.length = lst.length) (hk : ∀ (i : Nat) (v : ga_V), lst'[i]? = some (some v) → lst[i]? = some (some v)) : ga_has G n ls lst' :=
  ⟨h.1, hl.trans h.2.1, h.2.2.1, fun i v hv => h.2.2.2 i v (hk i v hv)⟩
/-- the two links between nest mates that are calls of static methods -/
def ga_Nx (_ : State) : Prop := True
def ga_Ctx (G : ga_G) (d : Nat) (mt : ga_M) (p : Program) (R : Room) (s : State) (m : MethodId) (args : Array Value) (c : Code) (cells slots : Nat) : Prop :=
  p.tables.exec = Jvm.exec ∧ c.code = mt.2.1 ∧ c.maxLocals = mt.2.2.1 ∧ s.vm.findClass mt.1.cls = some m.cls ∧ (∀ w ∈ ga_T, w.before args s = true) ∧ va_K (ga_D G) ga_cl (ga_ty G) s ∧ va_X (ga_b G) (ga_L G) (ga_xs G) s s.heap ∧ ga_b G < s.heap.size ∧ ga_ok G ∧ (d ≤ R.frames ∧ 43 * d ≤ R.locals) ∧ cells ≤ R.cells ∧ slots ≤ R.slots ∧ ga_Nx s
def ga_fit (r : Option FieldType) (ins : Instr) (v : Option ga_V) : Prop :=
  (r = none ∧ ins = .return_ ∧ v = none) ∨ (r = some .int ∧ ins = .ireturn ∧ ∃ z, v = some (.inl z)) ∨ (r = some .boolean ∧ ins = .ireturn ∧ (v = some (.inl 0) ∨ v = some (.inl 1))) ∨ (∃ C, r = some (.object C) ∧ ins = .areturn ∧ ∃ k, v = some (.inr k))
def ga_Ret (G : ga_G) (mt : ga_M) (E : Option ga_V → ga_I → Prop) (p : Program) (e : Env) (R : Room) (s : State) (m : MethodId) (args : Array Value) (below : List Frame) (meth : Method) (c : Code) (cells slots : Nat) (Q : State → Prop) : Prop :=
  ∀ (pc : Nat) (ls : Array Slot) (H : Heap) (locs : List Loc) (I : ga_I) (v : Option ga_V) (ins : Instr), decode mt.2.1 pc = .ok (ins, 1) → ga_fit mt.2.2.2 ins v → E v I → ga_RG I → ga_Wd G I H → va_S (ga_A G) s.heap H locs → W p (ga_l G) e R s m args below meth c H locs cells slots Q (F0 m pc ls (v.toList.map (ga_cz G)))
/-- from this place of the method, in this state, it comes to its end with E -/
def ga_W (G : ga_G) (d : Nat) (mt : ga_M) (pc : Nat) (lst : List (Option ga_V)) (st : List ga_V) (I : ga_I) (E : Option ga_V → ga_I → Prop) : Prop :=
  ∀ (p : Program) (e : Env) (R : Room) (s : State) (m : MethodId) (args : Array Value) (below : List Frame) (meth : Method) (c : Code) (cells slots : Nat) (Q : State → Prop),
    ga_Ctx G d mt p R s m args c cells slots → ga_Ret G mt E p e R s m args below meth c cells slots Q → ga_RG I →
    ∀ (H : Heap) (locs : List Loc) (ls : Array Slot), ga_Wd G I H → va_S (ga_A G) s.heap H locs → ga_has G mt.2.2.1 ls lst → W p (ga_l G) e R s m args below meth c H locs cells slots Q (F0 m pc ls (st.map (ga_cz G)))
section GW
variable {G : ga_G} {d : Nat} {mt : ga_M} {pc : Nat} {lst : List (Option ga_V)} {st : List ga_V} {I : ga_I} {E : Option ga_V → ga_I → Prop}
theorem gw_RG (K : ga_RG I → ga_W G d mt pc lst st I E) : ga_W G d mt pc lst st I E := by
  intro p e R s m args below meth c cells slots Q C hr hI H locs ls hP hS hL
  exact K hI p e R s m args below meth c cells slots Q C hr hI H locs ls hP hS hL
theorem gw_less {lst' : List (Option ga_V)} (K : ga_W G d mt pc lst' st I E) (hl : lst'.length = lst.length) (hk : ∀ (i : Nat) (v : ga_V), lst'[i]? = some (some v) → lst[i]? = some (some v)) : ga_W G d mt pc lst st I E := by
  intro p e R s m args below meth c cells slots Q C hr hI H locs ls hP hS hL
  exact K p e R s m args below meth c cells slots Q C hr hI H locs ls hP hS (ga_has_less hL hl hk)
theorem gw_mono {E' : Option ga_V → ga_I → Prop} (h : ∀ v I', E' v I' → E v I') (K : ga_W G d mt pc lst st I E') : ga_W G d mt pc lst st I E := by
  intro p e R s m args below meth c cells slots Q C hr hI H locs ls hP hS hL
  exact K p e R s m args below meth c cells slots Q C (fun pc ls H locs I v ins h1 h2 h3 => hr pc ls H locs I v ins h1 h2 (h v I h3)) hI H locs ls hP hS hL
-- loads, constants, stores
theorem gw_iload_n {k : Fin 4} {z : Int} (i : Nat) (hd : decode mt.2.1 pc = .ok (.iload_n k, 1)) (hk : (k : Nat) = i) (hl : lst[i]? = some (some (.inl z))) (K : ga_W G d mt (pc + 1) lst (.inl z :: st) I E) : ga_W G d mt pc lst st I E := by
  intro p e R s m args below meth c cells slots Q C hr hI H locs ls hP hS hL
  exact lv_iload_n C.1 C.2.1 hd hk (hL.2.2.2 i _ hl) (K p e R s m args below meth c cells slots Q C hr hI H locs ls hP hS hL)
theorem gw_iload {z : Int} (i : Nat) (hd : decode mt.2.1 pc = .ok (.iload i, 2)) (hl : lst[i]? = some (some (.inl z))) (K : ga_W G d mt (pc + 2) lst (.inl z :: st) I E) : ga_W G d mt pc lst st I E := by
  intro p e R s m args below meth c cells slots Q C hr hI H locs ls hP hS hL
  exact lv_iload C.1 C.2.1 hd (hL.2.2.2 i _ hl) (K p e R s m args below meth c cells slots Q C hr hI H locs ls hP hS hL)
theorem gw_aload_n {k : Fin 4} {z : Nat} (i : Nat) (hd : decode mt.2.1 pc = .ok (.aload_n k, 1)) (hk : (k : Nat) = i) (hl : lst[i]? = some (some (.inr z))) (K : ga_W G d mt (pc + 1) lst (.inr z :: st) I E) : ga_W G d mt pc lst st I E := by
  intro p e R s m args below meth c cells slots Q C hr hI H locs ls hP hS hL
  exact lv_aload_n C.1 C.2.1 hd hk (hL.2.2.2 i _ hl) (K p e R s m args below meth c cells slots Q C hr hI H locs ls hP hS hL)
theorem gw_aload {z : Nat} (i : Nat) (hd : decode mt.2.1 pc = .ok (.aload i, 2)) (hl : lst[i]? = some (some (.inr z))) (K : ga_W G d mt (pc + 2) lst (.inr z :: st) I E) : ga_W G d mt pc lst st I E := by
  intro p e R s m args below meth c cells slots Q C hr hI H locs ls hP hS hL
  exact lv_aload C.1 C.2.1 hd (hL.2.2.2 i _ hl) (K p e R s m args below meth c cells slots Q C hr hI H locs ls hP hS hL)
theorem gw_iconst {n : Int} (hd : decode mt.2.1 pc = .ok (.iconst n, 1)) (K : ga_W G d mt (pc + 1) lst (.inl n :: st) I E) : ga_W G d mt pc lst st I E := by
  intro p e R s m args below meth c cells slots Q C hr hI H locs ls hP hS hL
  exact lv_iconst C.1 C.2.1 hd rfl (K p e R s m args below meth c cells slots Q C hr hI H locs ls hP hS hL)
theorem gw_bipush {n : Int} (hd : decode mt.2.1 pc = .ok (.bipush n, 2)) (hn : (Int8.ofInt n).toInt32 = Int32.ofInt n) (K : ga_W G d mt (pc + 2) lst (.inl n :: st) I E) : ga_W G d mt pc lst st I E := by
  intro p e R s m args below meth c cells slots Q C hr hI H locs ls hP hS hL
  exact lv_bipush C.1 C.2.1 hd hn (K p e R s m args below meth c cells slots Q C hr hI H locs ls hP hS hL)
theorem gw_sipush {n : Int} (hd : decode mt.2.1 pc = .ok (.sipush n, 3)) (hn : (Int16.ofInt n).toInt32 = Int32.ofInt n) (K : ga_W G d mt (pc + 3) lst (.inl n :: st) I E) : ga_W G d mt pc lst st I E := by
  intro p e R s m args below meth c cells slots Q C hr hI H locs ls hP hS hL
  exact lv_sipush C.1 C.2.1 hd hn (K p e R s m args below meth c cells slots Q C hr hI H locs ls hP hS hL)
theorem gw_ldc {idx : Nat} {x : Int32} {n : Int} (hd : decode mt.2.1 pc = .ok (.ldc idx, 2)) (hw : Cond.constant mt.1.cls idx x ∈ ga_T) (hn : x = Int32.ofInt n) (K : ga_W G d mt (pc + 2) lst (.inl n :: st) I E) : ga_W G d mt pc lst st I E := by
  intro p e R s m args below meth c cells slots Q C hr hI H locs ls hP hS hL
  subst hn
  exact lv_ldc C.1 C.2.1 C.2.2.2.1 (C.2.2.2.2.1 _ hw) hd (K p e R s m args below meth c cells slots Q C hr hI H locs ls hP hS hL)
theorem gw_istore_n {k : Fin 4} {z : Int} (i : Nat) {lst' : List (Option ga_V)} (hd : decode mt.2.1 pc = .ok (.istore_n k, 1)) (hk : (k : Nat) = i) (hi : i < lst.length) (hl : lst.set i (some (.inl z)) = lst') (K : ga_W G d mt (pc + 1) lst' st I E) : ga_W G d mt pc lst (.inl z :: st) I E := by
  intro p e R s m args below meth c cells slots Q C hr hI H locs ls hP hS hL
  subst hl
  exact lv_istore_n C.1 C.2.1 hd hk (ga_has_lv hL) (by rw [← hL.2.1]; exact hi) rfl (fun ls' h' => K p e R s m args below meth c cells slots Q C hr hI H locs ls' hP hS (ga_has_set (v := .inl z) hL hi h'))
theorem gw_istore {z : Int} (i : Nat) {lst' : List (Option ga_V)} (hd : decode mt.2.1 pc = .ok (.istore i, 2)) (hi : i < lst.length) (hl : lst.set i (some (.inl z)) = lst') (K : ga_W G d mt (pc + 2) lst' st I E) : ga_W G d mt pc lst (.inl z :: st) I E := by
  intro p e R s m args below meth c cells slots Q C hr hI H locs ls hP hS hL
  subst hl
  exact lv_istore C.1 C.2.1 hd (ga_has_lv hL) (by rw [← hL.2.1]; exact hi) rfl (fun ls' h' => K p e R s m args below meth c cells slots Q C hr hI H locs ls' hP hS (ga_has_set (v := .inl z) hL hi h'))
theorem gw_astore_n {k : Fin 4} {z : Nat} (i : Nat) {lst' : List (Option ga_V)} (hd : decode mt.2.1 pc = .ok (.astore_n k, 1)) (hk : (k : Nat) = i) (hi : i < lst.length) (hl : lst.set i (some (.inr z)) = lst') (K : ga_W G d mt (pc + 1) lst' st I E) : ga_W G d mt pc lst (.inr z :: st) I E := by
  intro p e R s m args below meth c cells slots Q C hr hI H locs ls hP hS hL
  subst hl
  exact lv_astore_n C.1 C.2.1 hd hk (ga_has_lv hL) (by rw [← hL.2.1]; exact hi) rfl (fun ls' h' => K p e R s m args below meth c cells slots Q C hr hI H locs ls' hP hS (ga_has_set (v := .inr z) hL hi h'))
theorem gw_astore {z : Nat} (i : Nat) {lst' : List (Option ga_V)} (hd : decode mt.2.1 pc = .ok (.astore i, 2)) (hi : i < lst.length) (hl : lst.set i (some (.inr z)) = lst') (K : ga_W G d mt (pc + 2) lst' st I E) : ga_W G d mt pc lst (.inr z :: st) I E := by
  intro p e R s m args below meth c cells slots Q C hr hI H locs ls hP hS hL
  subst hl
  exact lv_astore C.1 C.2.1 hd (ga_has_lv hL) (by rw [← hL.2.1]; exact hi) rfl (fun ls' h' => K p e R s m args below meth c cells slots Q C hr hI H locs ls' hP hS (ga_has_set (v := .inr z) hL hi h'))
theorem gw_iinc {z : Int} {n : Int} (i : Nat) {lst' : List (Option ga_V)} (hd : decode mt.2.1 pc = .ok (.iinc i n, 3)) (hv : lst[i]? = some (some (.inl z))) (hl : lst.set i (some (.inl (z + n))) = lst') (K : ga_W G d mt (pc + 3) lst' st I E) : ga_W G d mt pc lst st I E := by
  intro p e R s m args below meth c cells slots Q C hr hI H locs ls hP hS hL
  subst hl
  have hi : i < lst.length := (List.getElem?_eq_some_iff.mp hv).1
  obtain ⟨k, hk⟩ := List.getElem?_of_mem (ga_lv_mem (G := G).mpr ⟨i, _, hv, rfl⟩)
  exact lv_iinc C.1 C.2.1 hd (ga_has_lv hL) (k := k) hk (ga_oadd z n) (by rw [← hL.2.1]; exact hi) rfl (fun ls' h' => K p e R s m args below meth c cells slots Q C hr hI H locs ls' hP hS (ga_has_set (v := .inl (z + n)) hL hi h'))
-- arithmetic
theorem gw_iadd {a b : Int} (hd : decode mt.2.1 pc = .ok (.iadd, 1)) (K : ga_W G d mt (pc + 1) lst (.inl (a + b) :: st) I E) : ga_W G d mt pc lst (.inl b :: .inl a :: st) I E := by
  intro p e R s m args below meth c cells slots Q C hr hI H locs ls hP hS hL
  refine lv_iadd C.1 C.2.1 hd ?_
  rw [ga_oadd]
  exact K p e R s m args below meth c cells slots Q C hr hI H locs ls hP hS hL
theorem gw_isub {a b : Int} (hd : decode mt.2.1 pc = .ok (.isub, 1)) (K : ga_W G d mt (pc + 1) lst (.inl (a - b) :: st) I E) : ga_W G d mt pc lst (.inl b :: .inl a :: st) I E := by
  intro p e R s m args below meth c cells slots Q C hr hI H locs ls hP hS hL
  refine lv_isub C.1 C.2.1 hd ?_
  rw [ga_osub]
  exact K p e R s m args below meth c cells slots Q C hr hI H locs ls hP hS hL
theorem gw_imul {a b : Int} (hd : decode mt.2.1 pc = .ok (.imul, 1)) (K : ga_W G d mt (pc + 1) lst (.inl (a * b) :: st) I E) : ga_W G d mt pc lst (.inl b :: .inl a :: st) I E := by
  intro p e R s m args below meth c cells slots Q C hr hI H locs ls hP hS hL
  refine lv_imul C.1 C.2.1 hd ?_
  rw [ga_omul]
  exact K p e R s m args below meth c cells slots Q C hr hI H locs ls hP hS hL
theorem ga_ne0 {b : Int} (hb : ga_rg b) (hb0 : b ≠ 0) : ¬ Int32.ofInt b = 0 := fun h => hb0 ((ga_eq hb (b := 0) ⟨by omega, by omega⟩).mp h)
theorem gw_idiv {a b : Int} (hd : decode mt.2.1 pc = .ok (.idiv, 1)) (ha : ga_rg a) (hb : ga_rg b) (hb0 : 0 < b) (K : ga_W G d mt (pc + 1) lst (.inl (a.tdiv b) :: st) I E) : ga_W G d mt pc lst (.inl b :: .inl a :: st) I E := by
  intro p e R s m args below meth c cells slots Q C hr hI H locs ls hP hS hL
  refine lv_idiv C.1 C.2.1 hd (ga_ne0 hb (by omega)) ?_
  rw [ga_div ha hb hb0]
  exact K p e R s m args below meth c cells slots Q C hr hI H locs ls hP hS hL
theorem gw_irem {a b : Int} (hd : decode mt.2.1 pc = .ok (.irem, 1)) (ha : ga_rg a) (hb : ga_rg b) (hb0 : 0 < b) (K : ga_W G d mt (pc + 1) lst (.inl (a.tmod b) :: st) I E) : ga_W G d mt pc lst (.inl b :: .inl a :: st) I E := by
  intro p e R s m args below meth c cells slots Q C hr hI H locs ls hP hS hL
  refine lv_irem C.1 C.2.1 hd (ga_ne0 hb (by omega)) ?_
  rw [ga_rem ha hb hb0]
  exact K p e R s m args below meth c cells slots Q C hr hI H locs ls hP hS hL
theorem gw_i2c {a : Int} (hd : decode mt.2.1 pc = .ok (.i2c, 1)) (h0 : 0 ≤ a) (h1 : a < 65536) (K : ga_W G d mt (pc + 1) lst (.inl a :: st) I E) : ga_W G d mt pc lst (.inl a :: st) I E := by
  intro p e R s m args below meth c cells slots Q C hr hI H locs ls hP hS hL
  obtain ⟨n, rfl⟩ := Int.eq_ofNat_of_zero_le h0
  have e1 : Int32.ofInt ((n : Nat) : Int) = nI n := rfl
  refine lv_i2c C.1 C.2.1 hd (v := Int32.ofInt ((n : Nat) : Int)) ?_ (K p e R s m args below meth c cells slots Q C hr hI H locs ls hP hS hL)
  rw [e1, pk_char, pk_tn (by omega), Nat.mod_eq_of_lt (by omega)]
-- the stack
theorem gw_dup {v : ga_V} (hd : decode mt.2.1 pc = .ok (.dup, 1)) (K : ga_W G d mt (pc + 1) lst (v :: v :: st) I E) : ga_W G d mt pc lst (v :: st) I E := by
  intro p e R s m args below meth c cells slots Q C hr hI H locs ls hP hS hL
  exact lv_dup C.1 C.2.1 hd (ga_cat G v) (K p e R s m args below meth c cells slots Q C hr hI H locs ls hP hS hL)
theorem gw_dup2 {v w : ga_V} (hd : decode mt.2.1 pc = .ok (.dup2, 1)) (K : ga_W G d mt (pc + 1) lst (v :: w :: v :: w :: st) I E) : ga_W G d mt pc lst (v :: w :: st) I E := by
  intro p e R s m args below meth c cells slots Q C hr hI H locs ls hP hS hL
  exact lv_dup2_11 C.1 C.2.1 hd (ga_cat G v) (ga_cat G w) (K p e R s m args below meth c cells slots Q C hr hI H locs ls hP hS hL)
theorem gw_pop {v : ga_V} (hd : decode mt.2.1 pc = .ok (.pop, 1)) (K : ga_W G d mt (pc + 1) lst st I E) : ga_W G d mt pc lst (v :: st) I E := by
  intro p e R s m args below meth c cells slots Q C hr hI H locs ls hP hS hL
  exact lv_pop C.1 C.2.1 hd (ga_cat G v) (K p e R s m args below meth c cells slots Q C hr hI H locs ls hP hS hL)
-- branches
theorem gw_goto {off : Int} (tgt : Nat) (hd : decode mt.2.1 pc = .ok (.goto off, 3)) (ht : (pc : Int) + off = (tgt : Int)) (K : ga_W G d mt tgt lst st I E) : ga_W G d mt pc lst st I E := by
  intro p e R s m args below meth c cells slots Q C hr hI H locs ls hP hS hL
  exact lv_goto C.1 C.2.1 hd ht (K p e R s m args below meth c cells slots Q C hr hI H locs ls hP hS hL)
theorem gw_ifnull {k : Nat} {off : Int} (hd : decode mt.2.1 pc = .ok (.ifnull off, 3)) (K : ga_W G d mt (pc + 3) lst st I E) : ga_W G d mt pc lst (.inr k :: st) I E := by
  intro p e R s m args below meth c cells slots Q C hr hI H locs ls hP hS hL
  exact lv_ifnull C.1 C.2.1 hd (K p e R s m args below meth c cells slots Q C hr hI H locs ls hP hS hL)
end GW
section GX
variable {G : ga_G} {d : Nat} {mt : ga_M} {pc : Nat} {lst : List (Option ga_V)} {st : List ga_V} {I : ga_I} {E : Option ga_V → ga_I → Prop}
theorem gw_icmp_eq {a b : Int} {off : Int} (tgt : Nat) (hd : decode mt.2.1 pc = .ok (.if_icmp .eq off, 3)) (ht : (pc : Int) + off = (tgt : Int)) (ha : ga_rg a) (hb : ga_rg b) (K1 : a = b → ga_W G d mt tgt lst st I E) (K2 : ¬ (a = b) → ga_W G d mt (pc + 3) lst st I E) : ga_W G d mt pc lst (.inl b :: .inl a :: st) I E := by
  intro p e R s m args below meth c cells slots Q C hr hI H locs ls hP hS hL
  refine lv_icmp_eq C.1 C.2.1 hd ht (fun h => K1 ((ga_eq ha hb).mp h) p e R s m args below meth c cells slots Q C hr hI H locs ls hP hS hL) (fun h => K2 (fun q => h ((ga_eq ha hb).mpr q)) p e R s m args below meth c cells slots Q C hr hI H locs ls hP hS hL)
theorem gw_if_eq {a : Int} {off : Int} (tgt : Nat) (hd : decode mt.2.1 pc = .ok (.ifCond .eq off, 3)) (ht : (pc : Int) + off = (tgt : Int)) (ha : ga_rg a) (K1 : a = 0 → ga_W G d mt tgt lst st I E) (K2 : ¬ (a = 0) → ga_W G d mt (pc + 3) lst st I E) : ga_W G d mt pc lst (.inl a :: st) I E := by
  intro p e R s m args below meth c cells slots Q C hr hI H locs ls hP hS hL
  have hz : ga_rg 0 := ⟨by omega, by omega⟩
  refine lv_if_eq C.1 C.2.1 hd ht (fun h => K1 ((ga_eq ha hz).mp h) p e R s m args below meth c cells slots Q C hr hI H locs ls hP hS hL) (fun h => K2 (fun q => h ((ga_eq ha hz).mpr q)) p e R s m args below meth c cells slots Q C hr hI H locs ls hP hS hL)
theorem gw_icmp_ne {a b : Int} {off : Int} (tgt : Nat) (hd : decode mt.2.1 pc = .ok (.if_icmp .ne off, 3)) (ht : (pc : Int) + off = (tgt : Int)) (ha : ga_rg a) (hb : ga_rg b) (K1 : a ≠ b → ga_W G d mt tgt lst st I E) (K2 : a = b → ga_W G d mt (pc + 3) lst st I E) : ga_W G d mt pc lst (.inl b :: .inl a :: st) I E := by
  intro p e R s m args below meth c cells slots Q C hr hI H locs ls hP hS hL
  refine lv_icmp_ne C.1 C.2.1 hd ht (fun h => K1 ((not_congr (ga_eq ha hb)).mp h) p e R s m args below meth c cells slots Q C hr hI H locs ls hP hS hL) (fun h => K2 ((ga_eq ha hb).mp h) p e R s m args below meth c cells slots Q C hr hI H locs ls hP hS hL)
theorem gw_if_ne {a : Int} {off : Int} (tgt : Nat) (hd : decode mt.2.1 pc = .ok (.ifCond .ne off, 3)) (ht : (pc : Int) + off = (tgt : Int)) (ha : ga_rg a) (K1 : a ≠ 0 → ga_W G d mt tgt lst st I E) (K2 : a = 0 → ga_W G d mt (pc + 3) lst st I E) : ga_W G d mt pc lst (.inl a :: st) I E := by
  intro p e R s m args below meth c cells slots Q C hr hI H locs ls hP hS hL
  have hz : ga_rg 0 := ⟨by omega, by omega⟩
  refine lv_if_ne C.1 C.2.1 hd ht (fun h => K1 ((not_congr (ga_eq ha hz)).mp h) p e R s m args below meth c cells slots Q C hr hI H locs ls hP hS hL) (fun h => K2 ((ga_eq ha hz).mp h) p e R s m args below meth c cells slots Q C hr hI H locs ls hP hS hL)
theorem gw_icmp_lt {a b : Int} {off : Int} (tgt : Nat) (hd : decode mt.2.1 pc = .ok (.if_icmp .lt off, 3)) (ht : (pc : Int) + off = (tgt : Int)) (ha : ga_rg a) (hb : ga_rg b) (K1 : a < b → ga_W G d mt tgt lst st I E) (K2 : ¬ (a < b) → ga_W G d mt (pc + 3) lst st I E) : ga_W G d mt pc lst (.inl b :: .inl a :: st) I E := by
  intro p e R s m args below meth c cells slots Q C hr hI H locs ls hP hS hL
  refine lv_icmp_lt C.1 C.2.1 hd ht (fun h => K1 ((ga_lt ha hb).mp h) p e R s m args below meth c cells slots Q C hr hI H locs ls hP hS hL) (fun h => K2 (fun q => h ((ga_lt ha hb).mpr q)) p e R s m args below meth c cells slots Q C hr hI H locs ls hP hS hL)
theorem gw_if_lt {a : Int} {off : Int} (tgt : Nat) (hd : decode mt.2.1 pc = .ok (.ifCond .lt off, 3)) (ht : (pc : Int) + off = (tgt : Int)) (ha : ga_rg a) (K1 : a < 0 → ga_W G d mt tgt lst st I E) (K2 : ¬ (a < 0) → ga_W G d mt (pc + 3) lst st I E) : ga_W G d mt pc lst (.inl a :: st) I E := by
  intro p e R s m args below meth c cells slots Q C hr hI H locs ls hP hS hL
  have hz : ga_rg 0 := ⟨by omega, by omega⟩
  refine lv_if_lt C.1 C.2.1 hd ht (fun h => K1 ((ga_lt ha hz).mp h) p e R s m args below meth c cells slots Q C hr hI H locs ls hP hS hL) (fun h => K2 (fun q => h ((ga_lt ha hz).mpr q)) p e R s m args below meth c cells slots Q C hr hI H locs ls hP hS hL)
theorem gw_icmp_ge {a b : Int} {off : Int} (tgt : Nat) (hd : decode mt.2.1 pc = .ok (.if_icmp .ge off, 3)) (ht : (pc : Int) + off = (tgt : Int)) (ha : ga_rg a) (hb : ga_rg b) (K1 : b ≤ a → ga_W G d mt tgt lst st I E) (K2 : ¬ (b ≤ a) → ga_W G d mt (pc + 3) lst st I E) : ga_W G d mt pc lst (.inl b :: .inl a :: st) I E := by
  intro p e R s m args below meth c cells slots Q C hr hI H locs ls hP hS hL
  refine lv_icmp_ge C.1 C.2.1 hd ht (fun h => K1 ((ga_le hb ha).mp h) p e R s m args below meth c cells slots Q C hr hI H locs ls hP hS hL) (fun h => K2 (fun q => h ((ga_le hb ha).mpr q)) p e R s m args below meth c cells slots Q C hr hI H locs ls hP hS hL)
theorem gw_if_ge {a : Int} {off : Int} (tgt : Nat) (hd : decode mt.2.1 pc = .ok (.ifCond .ge off, 3)) (ht : (pc : Int) + off = (tgt : Int)) (ha : ga_rg a) (K1 : 0 ≤ a → ga_W G d mt tgt lst st I E) (K2 : ¬ (0 ≤ a) → ga_W G d mt (pc + 3) lst st I E) : ga_W G d mt pc lst (.inl a :: st) I E := by
  intro p e R s m args below meth c cells slots Q C hr hI H locs ls hP hS hL
  have hz : ga_rg 0 := ⟨by omega, by omega⟩
  refine lv_if_ge C.1 C.2.1 hd ht (fun h => K1 ((ga_le hz ha).mp h) p e R s m args below meth c cells slots Q C hr hI H locs ls hP hS hL) (fun h => K2 (fun q => h ((ga_le hz ha).mpr q)) p e R s m args below meth c cells slots Q C hr hI H locs ls hP hS hL)
theorem gw_icmp_gt {a b : Int} {off : Int} (tgt : Nat) (hd : decode mt.2.1 pc = .ok (.if_icmp .gt off, 3)) (ht : (pc : Int) + off = (tgt : Int)) (ha : ga_rg a) (hb : ga_rg b) (K1 : b < a → ga_W G d mt tgt lst st I E) (K2 : ¬ (b < a) → ga_W G d mt (pc + 3) lst st I E) : ga_W G d mt pc lst (.inl b :: .inl a :: st) I E := by
  intro p e R s m args below meth c cells slots Q C hr hI H locs ls hP hS hL
  refine lv_icmp_gt C.1 C.2.1 hd ht (fun h => K1 ((ga_lt hb ha).mp h) p e R s m args below meth c cells slots Q C hr hI H locs ls hP hS hL) (fun h => K2 (fun q => h ((ga_lt hb ha).mpr q)) p e R s m args below meth c cells slots Q C hr hI H locs ls hP hS hL)
theorem gw_if_gt {a : Int} {off : Int} (tgt : Nat) (hd : decode mt.2.1 pc = .ok (.ifCond .gt off, 3)) (ht : (pc : Int) + off = (tgt : Int)) (ha : ga_rg a) (K1 : 0 < a → ga_W G d mt tgt lst st I E) (K2 : ¬ (0 < a) → ga_W G d mt (pc + 3) lst st I E) : ga_W G d mt pc lst (.inl a :: st) I E := by
  intro p e R s m args below meth c cells slots Q C hr hI H locs ls hP hS hL
  have hz : ga_rg 0 := ⟨by omega, by omega⟩
  refine lv_if_gt C.1 C.2.1 hd ht (fun h => K1 ((ga_lt hz ha).mp h) p e R s m args below meth c cells slots Q C hr hI H locs ls hP hS hL) (fun h => K2 (fun q => h ((ga_lt hz ha).mpr q)) p e R s m args below meth c cells slots Q C hr hI H locs ls hP hS hL)
theorem gw_icmp_le {a b : Int} {off : Int} (tgt : Nat) (hd : decode mt.2.1 pc = .ok (.if_icmp .le off, 3)) (ht : (pc : Int) + off = (tgt : Int)) (ha : ga_rg a) (hb : ga_rg b) (K1 : a ≤ b → ga_W G d mt tgt lst st I E) (K2 : ¬ (a ≤ b) → ga_W G d mt (pc + 3) lst st I E) : ga_W G d mt pc lst (.inl b :: .inl a :: st) I E := by
  intro p e R s m args below meth c cells slots Q C hr hI H locs ls hP hS hL
  refine lv_icmp_le C.1 C.2.1 hd ht (fun h => K1 ((ga_le ha hb).mp h) p e R s m args below meth c cells slots Q C hr hI H locs ls hP hS hL) (fun h => K2 (fun q => h ((ga_le ha hb).mpr q)) p e R s m args below meth c cells slots Q C hr hI H locs ls hP hS hL)
theorem gw_if_le {a : Int} {off : Int} (tgt : Nat) (hd : decode mt.2.1 pc = .ok (.ifCond .le off, 3)) (ht : (pc : Int) + off = (tgt : Int)) (ha : ga_rg a) (K1 : a ≤ 0 → ga_W G d mt tgt lst st I E) (K2 : ¬ (a ≤ 0) → ga_W G d mt (pc + 3) lst st I E) : ga_W G d mt pc lst (.inl a :: st) I E := by
  intro p e R s m args below meth c cells slots Q C hr hI H locs ls hP hS hL
  have hz : ga_rg 0 := ⟨by omega, by omega⟩
  refine lv_if_le C.1 C.2.1 hd ht (fun h => K1 ((ga_le ha hz).mp h) p e R s m args below meth c cells slots Q C hr hI H locs ls hP hS hL) (fun h => K2 (fun q => h ((ga_le ha hz).mpr q)) p e R s m args below meth c cells slots Q C hr hI H locs ls hP hS hL)
/-- the answer of a test as a number -/
def ga_bb (b : Bool) : Int := cond b 1 0
theorem ga_bb_01 (b : Bool) : ga_bb b = 0 ∨ ga_bb b = 1 := by cases b <;> simp [ga_bb]
theorem ga_bb_rg (b : Bool) : ga_rg (ga_bb b) := by cases b <;> simp [ga_bb, ga_rg]
theorem ga_bb_0 {b : Bool} : ga_bb b = 0 ↔ b = false := by cases b <;> simp [ga_bb]
theorem gw_ifb_eq {b : Bool} {off : Int} (tgt : Nat) (hd : decode mt.2.1 pc = .ok (.ifCond .eq off, 3)) (ht : (pc : Int) + off = (tgt : Int)) (K1 : b = false → ga_W G d mt tgt lst st I E) (K2 : b = true → ga_W G d mt (pc + 3) lst st I E) : ga_W G d mt pc lst (.inl (ga_bb b) :: st) I E := by
  refine gw_if_eq tgt hd ht (ga_bb_rg b) (fun h => K1 (ga_bb_0.mp h)) (fun h => K2 ?_)
  cases b
  · exact absurd (ga_bb_0.mpr rfl) h
  · rfl
theorem gw_ifb_ne {b : Bool} {off : Int} (tgt : Nat) (hd : decode mt.2.1 pc = .ok (.ifCond .ne off, 3)) (ht : (pc : Int) + off = (tgt : Int)) (K1 : b = true → ga_W G d mt tgt lst st I E) (K2 : b = false → ga_W G d mt (pc + 3) lst st I E) : ga_W G d mt pc lst (.inl (ga_bb b) :: st) I E := by
  refine gw_if_ne tgt hd ht (ga_bb_rg b) (fun h => K1 ?_) (fun h => K2 (ga_bb_0.mp h))
  cases b
  · exact absurd (ga_bb_0.mpr rfl) h
  · rfl
/-- what a place of the method has left of the locals' knowledge -/
def ga_lk : List (Option ga_V) → List (Option ga_V) → Prop
  | [], [] => True
  | none :: a, _ :: b => ga_lk a b
  | some v :: a, w :: b => w = some v ∧ ga_lk a b
  | _, _ => False
theorem ga_lk_ok : ∀ {a b : List (Option ga_V)}, ga_lk a b → a.length = b.length ∧ ∀ (i : Nat) (v : ga_V), a[i]? = some (some v) → b[i]? = some (some v)
  | [], [], _ => ⟨rfl, fun i v h => by simp at h⟩
  | none :: a, w :: b, h => by
    obtain ⟨h1, h2⟩ := ga_lk_ok (a := a) (b := b) h
    refine ⟨by simp [h1], fun i v hv => ?_⟩
    cases i with
    | zero => simp at hv
    | succ i => simpa using h2 i v (by simpa using hv)
  | some x :: a, w :: b, h => by
    obtain ⟨h1, h2⟩ := ga_lk_ok (a := a) (b := b) h.2
    refine ⟨by simp [h1], fun i v hv => ?_⟩
    cases i with
    | zero =>
      have e : x = v := by simpa using hv
      rw [h.1, e]; rfl
    | succ i => simpa using h2 i v (by simpa using hv)
  | [], _ :: _, h => h.elim
  | none :: _, [], h => h.elim
  | some _ :: _, [], h => h.elim
theorem gw_le {lst' : List (Option ga_V)} (K : ga_W G d mt pc lst' st I E) (h : ga_lk lst' lst) : ga_W G d mt pc lst st I E := gw_less K (ga_lk_ok h).1 (ga_lk_ok h).2
end GX
