/-! the law: a calculus with longs -/
def an (y m : Int) : Int := (Int32.ofInt y &&& Int32.ofInt m).toInt
def sh (y k : Int) : Int := (Int32.ofInt y >>> (Int32.ofInt k &&& 31)).toInt
abbrev gl_V : Type := ga_V ⊕ Int64
def gl_cz (G : ga_G) : gl_V → Value
  | .inl v => ga_cz G v
  | .inr x => .long x
def gl_has (G : ga_G) (n : Nat) (ls : Array Slot) (lst : List (Option gl_V)) : Prop := ls.size = n ∧ lst.length = n ∧ lv_wf ls ∧ ∀ (i : Nat) (v : gl_V), lst[i]? = some (some v) → ls[i]? = some (.val (gl_cz G v))
def gl_lv (G : ga_G) (lst : List (Option gl_V)) : List (Nat × Value) := (List.range lst.length).filterMap (fun i => (lst.getD i none).map (fun v => (i, gl_cz G v)))
theorem gl_lv_mem {G : ga_G} {lst : List (Option gl_V)} {q : Nat × Value} : q ∈ gl_lv G lst ↔ ∃ i v, lst[i]? = some (some v) ∧ q = (i, gl_cz G v) := by
  unfold gl_lv
  rw [List.mem_filterMap]
  constructor
  · rintro ⟨i, hi, h⟩
    rw [List.mem_range] at hi
    rw [Option.map_eq_some_iff] at h
    obtain ⟨v, h1, h2⟩ := h
    refine ⟨i, v, ?_, h2.symm⟩
    rw [List.getD_eq_getElem?_getD] at h1
    rw [List.getElem?_eq_getElem hi] at h1 ⊢
    exact congrArg some h1
  · rintro ⟨i, v, h, rfl⟩
    have hi := (List.getElem?_eq_some_iff.mp h).1
    refine ⟨i, List.mem_range.mpr hi, ?_⟩
    rw [List.getD_eq_getElem?_getD, h]
    rfl
theorem gl_has_lv {G : ga_G} {n : Nat} {ls : Array Slot} {lst : List (Option gl_V)} (h : gl_has G n ls lst) : lv_has ls n (gl_lv G lst) := by
  refine ⟨h.1, h.2.2.1, fun q hq => ?_⟩
  obtain ⟨i, v, h1, rfl⟩ := gl_lv_mem.mp hq
  exact h.2.2.2 i v h1
/-- no long stands just ahead of the place -/
def gl_nb (lst : List (Option gl_V)) : Nat → Bool
  | 0 => true
  | i + 1 => match lst[i]? with
    | some (some (.inr _)) => false
    | _ => true
theorem gl_nb_ok {G : ga_G} {lst : List (Option gl_V)} {i j : Nat} {w : gl_V} (h : gl_nb lst i = true) (hj : lst[j]? = some (some w)) : ((j + 1 == i) && (gl_cz G w).category == 2) = false := by
  by_cases e : j + 1 = i
  · subst e
    cases w with
    | inl v => simp [gl_cz, ga_cat]
    | inr x => simp [gl_nb, hj] at h
  · simp [e]
theorem gl_has_set {G : ga_G} {n i : Nat} {ls ls' : Array Slot} {lst : List (Option gl_V)} {v : gl_V} (h : gl_has G n ls lst) (hi : i < lst.length) (hb : gl_nb lst i = true) (h' : lv_has ls' n ((i, gl_cz G v) :: (gl_lv G lst).filter (fun q => !(q.1 == i) && !(q.1 + 1 == i && q.2.category == 2)))) : gl_has G n ls' (lst.set i (some v)) := by
  refine ⟨h'.1, by rw [List.length_set]; exact h.2.1, h'.2.1, fun j w hj => ?_⟩
  by_cases e : i = j
  · subst e
    rw [List.getElem?_set_self hi] at hj
    cases hj
    exact h'.2.2 _ List.mem_cons_self
  · rw [List.getElem?_set_ne e] at hj
    refine h'.2.2 (j, gl_cz G w) (List.mem_cons_of_mem _ (List.mem_filter.mpr ⟨gl_lv_mem.mpr ⟨j, w, hj, rfl⟩, ?_⟩))
    have e2 : ¬ j = i := fun q => e q.symm
    have e3 := gl_nb_ok (G := G) hb hj
    show (!(j == i) && !((j + 1 == i) && (gl_cz G w).category == 2)) = true
    rw [e3]
    simp [e2]
theorem gl_has_set2 {G : ga_G} {n i : Nat} {ls ls' : Array Slot} {lst : List (Option gl_V)} {v : gl_V} (h : gl_has G n ls lst) (hi : i + 1 < lst.length) (hb : gl_nb lst i = true) (h' : lv_has ls' n ((i, gl_cz G v) :: (gl_lv G lst).filter (fun q => !(q.1 == i) && (!(q.1 == i + 1) && !(q.1 + 1 == i && q.2.category == 2))))) : gl_has G n ls' ((lst.set i (some v)).set (i + 1) none) := by
  refine ⟨h'.1, by rw [List.length_set, List.length_set]; exact h.2.1, h'.2.1, fun j w hj => ?_⟩
  by_cases e1 : i + 1 = j
  · subst e1
    rw [List.getElem?_set_self (by rw [List.length_set]; exact hi)] at hj
    cases hj
  · rw [List.getElem?_set_ne e1] at hj
    by_cases e : i = j
    · subst e
      rw [List.getElem?_set_self (by omega)] at hj
      cases hj
      exact h'.2.2 _ List.mem_cons_self
    · rw [List.getElem?_set_ne e] at hj
      refine h'.2.2 (j, gl_cz G w) (List.mem_cons_of_mem _ (List.mem_filter.mpr ⟨gl_lv_mem.mpr ⟨j, w, hj, rfl⟩, ?_⟩))
      have e2 : ¬ j = i := fun q => e q.symm
      have e4 : ¬ j = i + 1 := fun q => e1 q.symm
      have e3 := gl_nb_ok (G := G) hb hj
      show (!(j == i) && (!(j == i + 1) && !((j + 1 == i) && (gl_cz G w).category == 2))) = true
      rw [e3]
      simp [e2, e4]
/-- fewer locals are known -/
theorem gl_has_less {G : ga_G} {n : Nat} {ls : Array Slot} {lst lst' : List (Option gl_V)} (h : gl_has G n ls lst) (hl : lst'.length = lst.length) (hk : ∀ (i : Nat) (v : gl_V), lst'[i]? = some (some v) → lst[i]? = some (some v)) : gl_has G n ls lst' :=
  ⟨h.1, hl.trans h.2.1, h.2.2.1, fun i v hv => h.2.2.2 i v (hk i v hv)⟩
theorem gl_has_ga {G : ga_G} {n : Nat} {ls : Array Slot} {lst : List (Option ga_V)} (h : ga_has G n ls lst) : gl_has G n ls (lst.map (fun o => o.map Sum.inl)) := by
  refine ⟨h.1, by rw [List.length_map]; exact h.2.1, h.2.2.1, fun i v hv => ?_⟩
  rw [List.getElem?_map] at hv
  cases e : lst[i]? with
  | none => rw [e] at hv; cases hv
  | some o =>
    rw [e] at hv
    cases o with
    | none => cases hv
    | some w =>
      cases hv
      exact h.2.2.2 i w e
def gl_fit (r : Option FieldType) (ins : Instr) (v : Option gl_V) : Prop :=
  (r = some .long ∧ ins = .lreturn ∧ ∃ x, v = some (.inr x)) ∨ (r = some .boolean ∧ ins = .ireturn ∧ (v = some (.inl (.inl 0)) ∨ v = some (.inl (.inl 1))))
def gl_Ret (G : ga_G) (mt : ga_M) (E : Option gl_V → ga_I → Prop) (p : Program) (e : Env) (R : Room) (s : State) (m : MethodId) (args : Array Value) (below : List Frame) (meth : Method) (c : Code) (cells slots : Nat) (Q : State → Prop) : Prop :=
  ∀ (pc : Nat) (ls : Array Slot) (H : Heap) (locs : List Loc) (I : ga_I) (v : Option gl_V) (ins : Instr), decode mt.2.1 pc = .ok (ins, 1) → gl_fit mt.2.2.2 ins v → E v I → ga_RG I → ga_Wd G I H → va_S (ga_A G) s.heap H locs → W p (ga_l G) e R s m args below meth c H locs cells slots Q (F0 m pc ls (v.toList.map (gl_cz G)))
/-- from this place of the method, in this state, it comes to its end with E -/
def gl_W (G : ga_G) (d : Nat) (mt : ga_M) (pc : Nat) (lst : List (Option gl_V)) (st : List gl_V) (I : ga_I) (E : Option gl_V → ga_I → Prop) : Prop :=
  ∀ (p : Program) (e : Env) (R : Room) (s : State) (m : MethodId) (args : Array Value) (below : List Frame) (meth : Method) (c : Code) (cells slots : Nat) (Q : State → Prop),
    ga_Ctx G d mt p R s m args c cells slots → gl_Ret G mt E p e R s m args below meth c cells slots Q → ga_RG I →
    ∀ (H : Heap) (locs : List Loc) (ls : Array Slot), ga_Wd G I H → va_S (ga_A G) s.heap H locs → gl_has G mt.2.2.1 ls lst → W p (ga_l G) e R s m args below meth c H locs cells slots Q (F0 m pc ls (st.map (gl_cz G)))
abbrev gI (z : Int) : gl_V := .inl (.inl z)
abbrev gR (k : Nat) : gl_V := .inl (.inr k)
abbrev gJ (x : Int64) : gl_V := .inr x
section GL
variable {G : ga_G} {d : Nat} {mt : ga_M} {pc : Nat} {lst : List (Option gl_V)} {st : List gl_V} {I : ga_I} {E : Option gl_V → ga_I → Prop}
theorem gl_RG (K : ga_RG I → gl_W G d mt pc lst st I E) : gl_W G d mt pc lst st I E := by
  intro p e R s m args below meth c cells slots Q C hr hI H locs ls hP hS hL
  exact K hI p e R s m args below meth c cells slots Q C hr hI H locs ls hP hS hL
theorem gl_less {lst' : List (Option gl_V)} (K : gl_W G d mt pc lst' st I E) (hl : lst'.length = lst.length) (hk : ∀ (i : Nat) (v : gl_V), lst'[i]? = some (some v) → lst[i]? = some (some v)) : gl_W G d mt pc lst st I E := by
  intro p e R s m args below meth c cells slots Q C hr hI H locs ls hP hS hL
  exact K p e R s m args below meth c cells slots Q C hr hI H locs ls hP hS (gl_has_less hL hl hk)
theorem gl_iload_n {k : Fin 4} {z : Int} (i : Nat) (hd : decode mt.2.1 pc = .ok (.iload_n k, 1)) (hk : (k : Nat) = i) (hl : lst[i]? = some (some (gI z))) (K : gl_W G d mt (pc + 1) lst (gI z :: st) I E) : gl_W G d mt pc lst st I E := by
  intro p e R s m args below meth c cells slots Q C hr hI H locs ls hP hS hL
  exact lv_iload_n C.1 C.2.1 hd hk (hL.2.2.2 i _ hl) (K p e R s m args below meth c cells slots Q C hr hI H locs ls hP hS hL)
theorem gl_iload {z : Int} (i : Nat) (hd : decode mt.2.1 pc = .ok (.iload i, 2)) (hl : lst[i]? = some (some (gI z))) (K : gl_W G d mt (pc + 2) lst (gI z :: st) I E) : gl_W G d mt pc lst st I E := by
  intro p e R s m args below meth c cells slots Q C hr hI H locs ls hP hS hL
  exact lv_iload C.1 C.2.1 hd (hL.2.2.2 i _ hl) (K p e R s m args below meth c cells slots Q C hr hI H locs ls hP hS hL)
theorem gl_aload_n {k : Fin 4} {z : Nat} (i : Nat) (hd : decode mt.2.1 pc = .ok (.aload_n k, 1)) (hk : (k : Nat) = i) (hl : lst[i]? = some (some (gR z))) (K : gl_W G d mt (pc + 1) lst (gR z :: st) I E) : gl_W G d mt pc lst st I E := by
  intro p e R s m args below meth c cells slots Q C hr hI H locs ls hP hS hL
  exact lv_aload_n C.1 C.2.1 hd hk (hL.2.2.2 i _ hl) (K p e R s m args below meth c cells slots Q C hr hI H locs ls hP hS hL)
theorem gl_aload {z : Nat} (i : Nat) (hd : decode mt.2.1 pc = .ok (.aload i, 2)) (hl : lst[i]? = some (some (gR z))) (K : gl_W G d mt (pc + 2) lst (gR z :: st) I E) : gl_W G d mt pc lst st I E := by
  intro p e R s m args below meth c cells slots Q C hr hI H locs ls hP hS hL
  exact lv_aload C.1 C.2.1 hd (hL.2.2.2 i _ hl) (K p e R s m args below meth c cells slots Q C hr hI H locs ls hP hS hL)
theorem gl_lload_n {k : Fin 4} {z : Int64} (i : Nat) (hd : decode mt.2.1 pc = .ok (.lload_n k, 1)) (hk : (k : Nat) = i) (hl : lst[i]? = some (some (gJ z))) (K : gl_W G d mt (pc + 1) lst (gJ z :: st) I E) : gl_W G d mt pc lst st I E := by
  intro p e R s m args below meth c cells slots Q C hr hI H locs ls hP hS hL
  exact lv_lload_n C.1 C.2.1 hd hk (hL.2.2.2 i _ hl) (K p e R s m args below meth c cells slots Q C hr hI H locs ls hP hS hL)
theorem gl_lload {z : Int64} (i : Nat) (hd : decode mt.2.1 pc = .ok (.lload i, 2)) (hl : lst[i]? = some (some (gJ z))) (K : gl_W G d mt (pc + 2) lst (gJ z :: st) I E) : gl_W G d mt pc lst st I E := by
  intro p e R s m args below meth c cells slots Q C hr hI H locs ls hP hS hL
  exact lv_lload C.1 C.2.1 hd (hL.2.2.2 i _ hl) (K p e R s m args below meth c cells slots Q C hr hI H locs ls hP hS hL)
theorem gl_iconst {n : Int} (hd : decode mt.2.1 pc = .ok (.iconst n, 1)) (K : gl_W G d mt (pc + 1) lst (gI n :: st) I E) : gl_W G d mt pc lst st I E := by
  intro p e R s m args below meth c cells slots Q C hr hI H locs ls hP hS hL
  exact lv_iconst C.1 C.2.1 hd rfl (K p e R s m args below meth c cells slots Q C hr hI H locs ls hP hS hL)
theorem gl_bipush {n : Int} (hd : decode mt.2.1 pc = .ok (.bipush n, 2)) (hn : (Int8.ofInt n).toInt32 = Int32.ofInt n) (K : gl_W G d mt (pc + 2) lst (gI n :: st) I E) : gl_W G d mt pc lst st I E := by
  intro p e R s m args below meth c cells slots Q C hr hI H locs ls hP hS hL
  exact lv_bipush C.1 C.2.1 hd hn (K p e R s m args below meth c cells slots Q C hr hI H locs ls hP hS hL)
theorem gl_sipush {n : Int} (hd : decode mt.2.1 pc = .ok (.sipush n, 3)) (hn : (Int16.ofInt n).toInt32 = Int32.ofInt n) (K : gl_W G d mt (pc + 3) lst (gI n :: st) I E) : gl_W G d mt pc lst st I E := by
  intro p e R s m args below meth c cells slots Q C hr hI H locs ls hP hS hL
  exact lv_sipush C.1 C.2.1 hd hn (K p e R s m args below meth c cells slots Q C hr hI H locs ls hP hS hL)
theorem gl_ldc {idx : Nat} {x : Int32} {n : Int} (hd : decode mt.2.1 pc = .ok (.ldc idx, 2)) (hw : Cond.constant mt.1.cls idx x ∈ ga_T) (hn : x = Int32.ofInt n) (K : gl_W G d mt (pc + 2) lst (gI n :: st) I E) : gl_W G d mt pc lst st I E := by
  intro p e R s m args below meth c cells slots Q C hr hI H locs ls hP hS hL
  subst hn
  exact lv_ldc C.1 C.2.1 C.2.2.2.1 (C.2.2.2.2.1 _ hw) hd (K p e R s m args below meth c cells slots Q C hr hI H locs ls hP hS hL)
theorem gl_ldc2 {idx : Nat} {x : Int64} (hd : decode mt.2.1 pc = .ok (.ldc2_w idx, 3)) (hw : Cond.constantLong mt.1.cls idx x ∈ ga_T) (K : gl_W G d mt (pc + 3) lst (gJ x :: st) I E) : gl_W G d mt pc lst st I E := by
  intro p e R s m args below meth c cells slots Q C hr hI H locs ls hP hS hL
  exact lv_ldc2 C.1 C.2.1 C.2.2.2.1 (C.2.2.2.2.1 _ hw) hd (K p e R s m args below meth c cells slots Q C hr hI H locs ls hP hS hL)
theorem gl_istore_n {k : Fin 4} {z : Int} (i : Nat) {lst' : List (Option gl_V)} (hd : decode mt.2.1 pc = .ok (.istore_n k, 1)) (hk : (k : Nat) = i) (hi : i < lst.length) (hb : gl_nb lst i = true) (hl : (lst.set i (some (gI z))) = lst') (K : gl_W G d mt (pc + 1) lst' st I E) : gl_W G d mt pc lst (gI z :: st) I E := by
  intro p e R s m args below meth c cells slots Q C hr hI H locs ls hP hS hL
  subst hl
  exact lv_istore_n C.1 C.2.1 hd hk (gl_has_lv hL) (by rw [← hL.2.1]; exact hi) rfl (fun ls' h' => K p e R s m args below meth c cells slots Q C hr hI H locs ls' hP hS (gl_has_set (v := gI z) hL hi hb h'))
theorem gl_istore {z : Int} (i : Nat) {lst' : List (Option gl_V)} (hd : decode mt.2.1 pc = .ok (.istore i, 2)) (hi : i < lst.length) (hb : gl_nb lst i = true) (hl : (lst.set i (some (gI z))) = lst') (K : gl_W G d mt (pc + 2) lst' st I E) : gl_W G d mt pc lst (gI z :: st) I E := by
  intro p e R s m args below meth c cells slots Q C hr hI H locs ls hP hS hL
  subst hl
  exact lv_istore C.1 C.2.1 hd (gl_has_lv hL) (by rw [← hL.2.1]; exact hi) rfl (fun ls' h' => K p e R s m args below meth c cells slots Q C hr hI H locs ls' hP hS (gl_has_set (v := gI z) hL hi hb h'))
theorem gl_lstore_n {k : Fin 4} {z : Int64} (i : Nat) {lst' : List (Option gl_V)} (hd : decode mt.2.1 pc = .ok (.lstore_n k, 1)) (hk : (k : Nat) = i) (hi : i + 1 < lst.length) (hb : gl_nb lst i = true) (hl : ((lst.set i (some (gJ z))).set (i + 1) none) = lst') (K : gl_W G d mt (pc + 1) lst' st I E) : gl_W G d mt pc lst (gJ z :: st) I E := by
  intro p e R s m args below meth c cells slots Q C hr hI H locs ls hP hS hL
  subst hl
  exact lv_lstore_n C.1 C.2.1 hd hk (gl_has_lv hL) (by rw [← hL.2.1]; exact hi) rfl (fun ls' h' => K p e R s m args below meth c cells slots Q C hr hI H locs ls' hP hS (gl_has_set2 (v := gJ z) hL hi hb h'))
theorem gl_lstore {z : Int64} (i : Nat) {lst' : List (Option gl_V)} (hd : decode mt.2.1 pc = .ok (.lstore i, 2)) (hi : i + 1 < lst.length) (hb : gl_nb lst i = true) (hl : ((lst.set i (some (gJ z))).set (i + 1) none) = lst') (K : gl_W G d mt (pc + 2) lst' st I E) : gl_W G d mt pc lst (gJ z :: st) I E := by
  intro p e R s m args below meth c cells slots Q C hr hI H locs ls hP hS hL
  subst hl
  exact lv_lstore C.1 C.2.1 hd (gl_has_lv hL) (by rw [← hL.2.1]; exact hi) rfl (fun ls' h' => K p e R s m args below meth c cells slots Q C hr hI H locs ls' hP hS (gl_has_set2 (v := gJ z) hL hi hb h'))
theorem gl_iinc {z : Int} {n : Int} (i : Nat) {lst' : List (Option gl_V)} (hd : decode mt.2.1 pc = .ok (.iinc i n, 3)) (hv : lst[i]? = some (some (gI z))) (hb : gl_nb lst i = true) (hl : lst.set i (some (gI (z + n))) = lst') (K : gl_W G d mt (pc + 3) lst' st I E) : gl_W G d mt pc lst st I E := by
  intro p e R s m args below meth c cells slots Q C hr hI H locs ls hP hS hL
  subst hl
  have hi : i < lst.length := (List.getElem?_eq_some_iff.mp hv).1
  obtain ⟨k, hk⟩ := List.getElem?_of_mem (gl_lv_mem (G := G).mpr ⟨i, _, hv, rfl⟩)
  exact lv_iinc C.1 C.2.1 hd (gl_has_lv hL) (k := k) hk (ga_oadd z n) (by rw [← hL.2.1]; exact hi) rfl (fun ls' h' => K p e R s m args below meth c cells slots Q C hr hI H locs ls' hP hS (gl_has_set (v := gI (z + n)) hL hi hb h'))
theorem gl_iadd {a b : Int} (hd : decode mt.2.1 pc = .ok (.iadd, 1)) (K : gl_W G d mt (pc + 1) lst (gI (a + b) :: st) I E) : gl_W G d mt pc lst (gI b :: gI a :: st) I E := by
  intro p e R s m args below meth c cells slots Q C hr hI H locs ls hP hS hL
  refine lv_iadd C.1 C.2.1 hd ?_
  rw [ga_oadd]
  exact K p e R s m args below meth c cells slots Q C hr hI H locs ls hP hS hL
theorem gl_isub {a b : Int} (hd : decode mt.2.1 pc = .ok (.isub, 1)) (K : gl_W G d mt (pc + 1) lst (gI (a - b) :: st) I E) : gl_W G d mt pc lst (gI b :: gI a :: st) I E := by
  intro p e R s m args below meth c cells slots Q C hr hI H locs ls hP hS hL
  refine lv_isub C.1 C.2.1 hd ?_
  rw [ga_osub]
  exact K p e R s m args below meth c cells slots Q C hr hI H locs ls hP hS hL
theorem gl_imul {a b : Int} (hd : decode mt.2.1 pc = .ok (.imul, 1)) (K : gl_W G d mt (pc + 1) lst (gI (a * b) :: st) I E) : gl_W G d mt pc lst (gI b :: gI a :: st) I E := by
  intro p e R s m args below meth c cells slots Q C hr hI H locs ls hP hS hL
  refine lv_imul C.1 C.2.1 hd ?_
  rw [ga_omul]
  exact K p e R s m args below meth c cells slots Q C hr hI H locs ls hP hS hL
theorem gl_iand {a b : Int} (hd : decode mt.2.1 pc = .ok (.iand, 1)) (K : gl_W G d mt (pc + 1) lst (gI (an a b) :: st) I E) : gl_W G d mt pc lst (gI b :: gI a :: st) I E := by
  intro p e R s m args below meth c cells slots Q C hr hI H locs ls hP hS hL
  refine lv_iand C.1 C.2.1 hd ?_
  have k := K p e R s m args below meth c cells slots Q C hr hI H locs ls hP hS hL
  have e2 : gl_cz G (gI (an a b)) = .int (Int32.ofInt a &&& Int32.ofInt b) := by show Value.int (Int32.ofInt (Int32.ofInt a &&& Int32.ofInt b).toInt) = _; rw [ga_of_I]
  rw [List.map_cons, e2] at k
  exact k
theorem gl_ishr {a b : Int} (hd : decode mt.2.1 pc = .ok (.ishr, 1)) (K : gl_W G d mt (pc + 1) lst (gI (sh a b) :: st) I E) : gl_W G d mt pc lst (gI b :: gI a :: st) I E := by
  intro p e R s m args below meth c cells slots Q C hr hI H locs ls hP hS hL
  refine lv_ishr C.1 C.2.1 hd ?_
  have k := K p e R s m args below meth c cells slots Q C hr hI H locs ls hP hS hL
  have e2 : gl_cz G (gI (sh a b)) = .int (Int32.ofInt a >>> (Int32.ofInt b &&& 31)) := by show Value.int (Int32.ofInt (Int32.ofInt a >>> (Int32.ofInt b &&& 31)).toInt) = _; rw [ga_of_I]
  rw [List.map_cons, e2] at k
  exact k
theorem gl_i2l {a : Int} (hd : decode mt.2.1 pc = .ok (.i2l, 1)) (K : gl_W G d mt (pc + 1) lst (gJ (Int32.ofInt a).toInt64 :: st) I E) : gl_W G d mt pc lst (gI a :: st) I E := by
  intro p e R s m args below meth c cells slots Q C hr hI H locs ls hP hS hL
  exact lv_i2l C.1 C.2.1 hd rfl (K p e R s m args below meth c cells slots Q C hr hI H locs ls hP hS hL)
theorem gl_ladd {a b : Int64} (hd : decode mt.2.1 pc = .ok (.ladd, 1)) (K : gl_W G d mt (pc + 1) lst (gJ (a + b) :: st) I E) : gl_W G d mt pc lst (gJ b :: gJ a :: st) I E := by
  intro p e R s m args below meth c cells slots Q C hr hI H locs ls hP hS hL
  exact lv_ladd C.1 C.2.1 hd (K p e R s m args below meth c cells slots Q C hr hI H locs ls hP hS hL)
theorem gl_lmul {a b : Int64} (hd : decode mt.2.1 pc = .ok (.lmul, 1)) (K : gl_W G d mt (pc + 1) lst (gJ (a * b) :: st) I E) : gl_W G d mt pc lst (gJ b :: gJ a :: st) I E := by
  intro p e R s m args below meth c cells slots Q C hr hI H locs ls hP hS hL
  exact lv_lmul C.1 C.2.1 hd (K p e R s m args below meth c cells slots Q C hr hI H locs ls hP hS hL)
theorem gl_lcmp {a b : Int64} (hd : decode mt.2.1 pc = .ok (.lcmp, 1)) (h : a = b) (K : gl_W G d mt (pc + 1) lst (gI 0 :: st) I E) : gl_W G d mt pc lst (gJ b :: gJ a :: st) I E := by
  intro p e R s m args below meth c cells slots Q C hr hI H locs ls hP hS hL
  subst h
  refine W.lcmp C.1 C.2.1 hd ?_
  have ee : lg_cmp a a = Int32.ofInt 0 := by simp [lg_cmp]
  rw [ee]
  exact K p e R s m args below meth c cells slots Q C hr hI H locs ls hP hS hL
theorem gl_goto {off : Int} (tgt : Nat) (hd : decode mt.2.1 pc = .ok (.goto off, 3)) (ht : (pc : Int) + off = (tgt : Int)) (K : gl_W G d mt tgt lst st I E) : gl_W G d mt pc lst st I E := by
  intro p e R s m args below meth c cells slots Q C hr hI H locs ls hP hS hL
  exact lv_goto C.1 C.2.1 hd ht (K p e R s m args below meth c cells slots Q C hr hI H locs ls hP hS hL)
theorem gl_icmp_eq {a b : Int} {off : Int} (tgt : Nat) (hd : decode mt.2.1 pc = .ok (.if_icmp .eq off, 3)) (ht : (pc : Int) + off = (tgt : Int)) (ha : ga_rg a) (hb : ga_rg b) (K1 : a = b → gl_W G d mt tgt lst st I E) (K2 : ¬ (a = b) → gl_W G d mt (pc + 3) lst st I E) : gl_W G d mt pc lst (gI b :: gI a :: st) I E := by
  intro p e R s m args below meth c cells slots Q C hr hI H locs ls hP hS hL
  exact lv_icmp_eq C.1 C.2.1 hd ht (fun h => K1 ((ga_eq ha hb).mp h) p e R s m args below meth c cells slots Q C hr hI H locs ls hP hS hL) (fun h => K2 (fun q => h ((ga_eq ha hb).mpr q)) p e R s m args below meth c cells slots Q C hr hI H locs ls hP hS hL)
theorem gl_icmp_ne {a b : Int} {off : Int} (tgt : Nat) (hd : decode mt.2.1 pc = .ok (.if_icmp .ne off, 3)) (ht : (pc : Int) + off = (tgt : Int)) (ha : ga_rg a) (hb : ga_rg b) (K1 : a ≠ b → gl_W G d mt tgt lst st I E) (K2 : a = b → gl_W G d mt (pc + 3) lst st I E) : gl_W G d mt pc lst (gI b :: gI a :: st) I E := by
  intro p e R s m args below meth c cells slots Q C hr hI H locs ls hP hS hL
  exact lv_icmp_ne C.1 C.2.1 hd ht (fun h => K1 ((not_congr (ga_eq ha hb)).mp h) p e R s m args below meth c cells slots Q C hr hI H locs ls hP hS hL) (fun h => K2 ((ga_eq ha hb).mp h) p e R s m args below meth c cells slots Q C hr hI H locs ls hP hS hL)
theorem gl_icmp_lt {a b : Int} {off : Int} (tgt : Nat) (hd : decode mt.2.1 pc = .ok (.if_icmp .lt off, 3)) (ht : (pc : Int) + off = (tgt : Int)) (ha : ga_rg a) (hb : ga_rg b) (K1 : a < b → gl_W G d mt tgt lst st I E) (K2 : ¬ (a < b) → gl_W G d mt (pc + 3) lst st I E) : gl_W G d mt pc lst (gI b :: gI a :: st) I E := by
  intro p e R s m args below meth c cells slots Q C hr hI H locs ls hP hS hL
  exact lv_icmp_lt C.1 C.2.1 hd ht (fun h => K1 ((ga_lt ha hb).mp h) p e R s m args below meth c cells slots Q C hr hI H locs ls hP hS hL) (fun h => K2 (fun q => h ((ga_lt ha hb).mpr q)) p e R s m args below meth c cells slots Q C hr hI H locs ls hP hS hL)
theorem gl_icmp_ge {a b : Int} {off : Int} (tgt : Nat) (hd : decode mt.2.1 pc = .ok (.if_icmp .ge off, 3)) (ht : (pc : Int) + off = (tgt : Int)) (ha : ga_rg a) (hb : ga_rg b) (K1 : b ≤ a → gl_W G d mt tgt lst st I E) (K2 : ¬ (b ≤ a) → gl_W G d mt (pc + 3) lst st I E) : gl_W G d mt pc lst (gI b :: gI a :: st) I E := by
  intro p e R s m args below meth c cells slots Q C hr hI H locs ls hP hS hL
  exact lv_icmp_ge C.1 C.2.1 hd ht (fun h => K1 ((ga_le hb ha).mp h) p e R s m args below meth c cells slots Q C hr hI H locs ls hP hS hL) (fun h => K2 (fun q => h ((ga_le hb ha).mpr q)) p e R s m args below meth c cells slots Q C hr hI H locs ls hP hS hL)
theorem gl_icmp_gt {a b : Int} {off : Int} (tgt : Nat) (hd : decode mt.2.1 pc = .ok (.if_icmp .gt off, 3)) (ht : (pc : Int) + off = (tgt : Int)) (ha : ga_rg a) (hb : ga_rg b) (K1 : b < a → gl_W G d mt tgt lst st I E) (K2 : ¬ (b < a) → gl_W G d mt (pc + 3) lst st I E) : gl_W G d mt pc lst (gI b :: gI a :: st) I E := by
  intro p e R s m args below meth c cells slots Q C hr hI H locs ls hP hS hL
  exact lv_icmp_gt C.1 C.2.1 hd ht (fun h => K1 ((ga_lt hb ha).mp h) p e R s m args below meth c cells slots Q C hr hI H locs ls hP hS hL) (fun h => K2 (fun q => h ((ga_lt hb ha).mpr q)) p e R s m args below meth c cells slots Q C hr hI H locs ls hP hS hL)
theorem gl_icmp_le {a b : Int} {off : Int} (tgt : Nat) (hd : decode mt.2.1 pc = .ok (.if_icmp .le off, 3)) (ht : (pc : Int) + off = (tgt : Int)) (ha : ga_rg a) (hb : ga_rg b) (K1 : a ≤ b → gl_W G d mt tgt lst st I E) (K2 : ¬ (a ≤ b) → gl_W G d mt (pc + 3) lst st I E) : gl_W G d mt pc lst (gI b :: gI a :: st) I E := by
  intro p e R s m args below meth c cells slots Q C hr hI H locs ls hP hS hL
  exact lv_icmp_le C.1 C.2.1 hd ht (fun h => K1 ((ga_le ha hb).mp h) p e R s m args below meth c cells slots Q C hr hI H locs ls hP hS hL) (fun h => K2 (fun q => h ((ga_le ha hb).mpr q)) p e R s m args below meth c cells slots Q C hr hI H locs ls hP hS hL)
theorem gl_if_eq {a : Int} {off : Int} (tgt : Nat) (hd : decode mt.2.1 pc = .ok (.ifCond .eq off, 3)) (ht : (pc : Int) + off = (tgt : Int)) (ha : ga_rg a) (K1 : a = 0 → gl_W G d mt tgt lst st I E) (K2 : ¬ (a = 0) → gl_W G d mt (pc + 3) lst st I E) : gl_W G d mt pc lst (gI a :: st) I E := by
  intro p e R s m args below meth c cells slots Q C hr hI H locs ls hP hS hL
  have hz : ga_rg 0 := ⟨by omega, by omega⟩
  exact lv_if_eq C.1 C.2.1 hd ht (fun h => K1 ((ga_eq ha hz).mp h) p e R s m args below meth c cells slots Q C hr hI H locs ls hP hS hL) (fun h => K2 (fun q => h ((ga_eq ha hz).mpr q)) p e R s m args below meth c cells slots Q C hr hI H locs ls hP hS hL)
theorem gl_if_ne {a : Int} {off : Int} (tgt : Nat) (hd : decode mt.2.1 pc = .ok (.ifCond .ne off, 3)) (ht : (pc : Int) + off = (tgt : Int)) (ha : ga_rg a) (K1 : a ≠ 0 → gl_W G d mt tgt lst st I E) (K2 : a = 0 → gl_W G d mt (pc + 3) lst st I E) : gl_W G d mt pc lst (gI a :: st) I E := by
  intro p e R s m args below meth c cells slots Q C hr hI H locs ls hP hS hL
  have hz : ga_rg 0 := ⟨by omega, by omega⟩
  exact lv_if_ne C.1 C.2.1 hd ht (fun h => K1 ((not_congr (ga_eq ha hz)).mp h) p e R s m args below meth c cells slots Q C hr hI H locs ls hP hS hL) (fun h => K2 ((ga_eq ha hz).mp h) p e R s m args below meth c cells slots Q C hr hI H locs ls hP hS hL)
theorem gl_if_lt {a : Int} {off : Int} (tgt : Nat) (hd : decode mt.2.1 pc = .ok (.ifCond .lt off, 3)) (ht : (pc : Int) + off = (tgt : Int)) (ha : ga_rg a) (K1 : a < 0 → gl_W G d mt tgt lst st I E) (K2 : ¬ (a < 0) → gl_W G d mt (pc + 3) lst st I E) : gl_W G d mt pc lst (gI a :: st) I E := by
  intro p e R s m args below meth c cells slots Q C hr hI H locs ls hP hS hL
  have hz : ga_rg 0 := ⟨by omega, by omega⟩
  exact lv_if_lt C.1 C.2.1 hd ht (fun h => K1 ((ga_lt ha hz).mp h) p e R s m args below meth c cells slots Q C hr hI H locs ls hP hS hL) (fun h => K2 (fun q => h ((ga_lt ha hz).mpr q)) p e R s m args below meth c cells slots Q C hr hI H locs ls hP hS hL)
theorem gl_if_ge {a : Int} {off : Int} (tgt : Nat) (hd : decode mt.2.1 pc = .ok (.ifCond .ge off, 3)) (ht : (pc : Int) + off = (tgt : Int)) (ha : ga_rg a) (K1 : 0 ≤ a → gl_W G d mt tgt lst st I E) (K2 : ¬ (0 ≤ a) → gl_W G d mt (pc + 3) lst st I E) : gl_W G d mt pc lst (gI a :: st) I E := by
  intro p e R s m args below meth c cells slots Q C hr hI H locs ls hP hS hL
  have hz : ga_rg 0 := ⟨by omega, by omega⟩
  exact lv_if_ge C.1 C.2.1 hd ht (fun h => K1 ((ga_le hz ha).mp h) p e R s m args below meth c cells slots Q C hr hI H locs ls hP hS hL) (fun h => K2 (fun q => h ((ga_le hz ha).mpr q)) p e R s m args below meth c cells slots Q C hr hI H locs ls hP hS hL)
theorem gl_if_gt {a : Int} {off : Int} (tgt : Nat) (hd : decode mt.2.1 pc = .ok (.ifCond .gt off, 3)) (ht : (pc : Int) + off = (tgt : Int)) (ha : ga_rg a) (K1 : 0 < a → gl_W G d mt tgt lst st I E) (K2 : ¬ (0 < a) → gl_W G d mt (pc + 3) lst st I E) : gl_W G d mt pc lst (gI a :: st) I E := by
  intro p e R s m args below meth c cells slots Q C hr hI H locs ls hP hS hL
  have hz : ga_rg 0 := ⟨by omega, by omega⟩
  exact lv_if_gt C.1 C.2.1 hd ht (fun h => K1 ((ga_lt hz ha).mp h) p e R s m args below meth c cells slots Q C hr hI H locs ls hP hS hL) (fun h => K2 (fun q => h ((ga_lt hz ha).mpr q)) p e R s m args below meth c cells slots Q C hr hI H locs ls hP hS hL)
theorem gl_if_le {a : Int} {off : Int} (tgt : Nat) (hd : decode mt.2.1 pc = .ok (.ifCond .le off, 3)) (ht : (pc : Int) + off = (tgt : Int)) (ha : ga_rg a) (K1 : a ≤ 0 → gl_W G d mt tgt lst st I E) (K2 : ¬ (a ≤ 0) → gl_W G d mt (pc + 3) lst st I E) : gl_W G d mt pc lst (gI a :: st) I E := by
  intro p e R s m args below meth c cells slots Q C hr hI H locs ls hP hS hL
  have hz : ga_rg 0 := ⟨by omega, by omega⟩
  exact lv_if_le C.1 C.2.1 hd ht (fun h => K1 ((ga_le ha hz).mp h) p e R s m args below meth c cells slots Q C hr hI H locs ls hP hS hL) (fun h => K2 (fun q => h ((ga_le ha hz).mpr q)) p e R s m args below meth c cells slots Q C hr hI H locs ls hP hS hL)
theorem gl_icmp_nes {a b : Int} {off : Int} (hd : decode mt.2.1 pc = .ok (.if_icmp .ne off, 3)) (tgt : Nat) (ht : (pc : Int) + off = (tgt : Int)) (ew : Int32.ofInt a = Int32.ofInt b) (K : gl_W G d mt (pc + 3) lst st I E) : gl_W G d mt pc lst (gI b :: gI a :: st) I E := by
  intro p e R s m args below meth c cells slots Q C hr hI H locs ls hP hS hL
  exact lv_icmp_ne C.1 C.2.1 hd ht (fun h => absurd ew h) (fun _ => K p e R s m args below meth c cells slots Q C hr hI H locs ls hP hS hL)
theorem gl_lreturn {x : Int64} (hd : decode mt.2.1 pc = .ok (.lreturn, 1)) (hrt : mt.2.2.2 = some .long) (h : E (some (gJ x)) I) : gl_W G d mt pc lst [gJ x] I E := by
  intro p e R s m args below meth c cells slots Q C hr hI H locs ls hP hS hL
  exact hr pc ls H locs I (some (gJ x)) _ hd (Or.inl ⟨hrt, rfl, x, rfl⟩) h hI hP hS
theorem gl_zreturn {z : Int} (hd : decode mt.2.1 pc = .ok (.ireturn, 1)) (hrt : mt.2.2.2 = some .boolean) (hz : z = 0 ∨ z = 1) (h : E (some (gI z)) I) : gl_W G d mt pc lst [gI z] I E := by
  intro p e R s m args below meth c cells slots Q C hr hI H locs ls hP hS hL
  exact hr pc ls H locs I (some (gI z)) _ hd (Or.inr ⟨hrt, rfl, by rcases hz with rfl | rfl; exact Or.inl rfl; exact Or.inr rfl⟩) h hI hP hS
/-- behind any call: of a method of the first calculus -/
theorem gl_back {p : Program} {e : Env} {R : Room} {s : State} {m : MethodId} {args : Array Value} {below : List Frame} {meth : Method} {c : Code} {cells slots : Nat} {Q : State → Prop} {H : Heap} {locs : List Loc} {ls : Array Slot} {st0 : List Value} {rest : List gl_V} {T0 : Type} {cz : T0 → Value} {f : T0 → gl_V} {E' : Option T0 → ga_I → Prop} {Qa : State → Outcome → State → Prop}
    (hQ : ∀ st oc t, Qa st oc t → (∃ (v : Option T0) (I' : ga_I), oc = .returned (v.map cz) ∧ E' v I' ∧ ga_RG I' ∧ ga_Wd G I' t.heap) ∧ va_F (ga_A G) st t) (hf : ∀ v, cz v = gl_cz G (f v))
    (C : ga_Ctx G d mt p R s m args c cells slots) (hR : gl_Ret G mt E p e R s m args below meth c cells slots Q) (hS : va_S (ga_A G) s.heap H locs) (hL : gl_has G mt.2.2.1 ls lst)
    (hr : va_Run p (ga_l G) e R s m args below meth c H locs cells slots 0 0 (F0 m pc ls st0) (rest.map (gl_cz G)) Qa (ga_A G)) (K : ∀ v I', E' v I' → gl_W G d mt (pc + 3) lst ((v.map f).toList ++ rest) I' E) : W p (ga_l G) e R s m args below meth c H locs cells slots Q (F0 m pc ls st0) := by
  intro T hT X
  obtain ⟨v, st₀, t, T', L, h0, X', hL', e1, e2, hq, stp⟩ := hr T hT X
  obtain ⟨⟨r, I', hv, hE, hI', hP'⟩, hz, hk⟩ := hQ _ _ _ hq
  cases hv
  rw [h0] at hz hk
  have hS1 : va_S (ga_A G) s.heap T'.heap (locs ++ L) := ⟨Nat.le_trans hS.1 (by rw [e1]; exact hz), fun q h1 h2 => by rw [e1, hk q (Nat.lt_of_lt_of_le h1 hS.1) h2]; exact hS.2.1 q h1 h2, fun q hq => by
      rcases List.mem_append.mp hq with h | h
      · exact hS.2.2 q h
      · exact hL' q h⟩
  obtain ⟨t2, a1, b1⟩ := K r I' hE p e R s m args below meth c cells slots Q C hR hI' T'.heap (locs ++ L) ls (by rw [e1]; exact hP') hS1 hL T' rfl X'
  refine ⟨t2, stp t2 ?_, b1⟩
  have e5 : (r.map cz).toList ++ rest.map (gl_cz G) = ((r.map f).toList ++ rest).map (gl_cz G) := by
    cases r with
    | none => rfl
    | some w => show cz w :: _ = gl_cz G (f w) :: _; rw [hf]; rfl
  rw [e5]
  exact a1
def gl_ct : gl_V → Nat
  | .inl _ => 1
  | .inr _ => 2
def gl_wd (l : List gl_V) : Nat := (l.map gl_ct).sum
theorem gl_cats (G : ga_G) (l : List gl_V) : ((l.map (gl_cz G)).map fun v => v.category).sum = gl_wd l := by
  induction l with
  | nil => rfl
  | cons a l ih =>
    have ec : (gl_cz G a).category = gl_ct a := by
      cases a with
      | inl v => exact ga_cat G v
      | inr x => rfl
    show (gl_cz G a).category + ((l.map (gl_cz G)).map fun v => v.category).sum = gl_ct a + gl_wd l
    rw [ih, ec]
theorem gl_invV {d' idx n k : Nat} {mt' : ga_M} {as : List ga_V} {rest : List gl_V} (hd : decode mt.2.1 pc = .ok (.invokevirtual idx, 3)) (hl : ga_LV mt.1.cls idx mt' n) (hk : k < 348 ∧ ∃ ci fs q, ga_sh k = .inl (ci, fs) ∧ ga_cl[ci]? = some q ∧ q.1 = mt'.1.cls) (hn : as.length = n) (hn2 : as.length + 1 ≤ mt'.2.2.1) (hrs : gl_wd rest ≤ 8) (hdd : d' + 1 = d) (hst : (as.map Sum.inl).reverse ++ gR k :: rest = st)
    (K : ga_W G d' mt' 0 (ga_en mt'.2.2.1 (.inr k :: as)) [] I (fun v I' => gl_W G d mt (pc + 3) lst ((v.map Sum.inl).toList ++ rest) I' E)) : gl_W G d mt pc lst st I E := by
  intro p e R s m args below meth c cells slots Q C hR hI H locs ls hP hS hL
  subst hdd; subst hst
  obtain ⟨hin, hml, him, hse, hpar⟩ := hl
  obtain ⟨hk1, ci, fs, q, hsh, hcl, hq⟩ := hk
  have he := ga_ws_at G I hk1
  rw [hsh] at he
  obtain ⟨hx, hb, hm, hown, hts, hK, hX, hbl, hok, hroom, hce, hsl, hNx⟩ := id C
  have hM := ga_met (d := d') hin hok hI (as := .inr k :: as) (by simpa using hn2) K
  have cw : CallW R s args mt.1.cls mt'.1.cls idx mt'.1 mt'.2.1 mt'.2.2.1 mt'.2.2.2 (ga_wm mt') (ga_rm d') 0 0 n := by
    refine ⟨callB_of n hts (ga_goodM hin) rfl rfl rfl (hts _ hin.2.2.2.1) (hts _ hml) ⟨hin.2.2.2.2.1, hin.2.2.2.2.2, hpar⟩ ⟨hroom.1, ?_⟩, hts _ him, hts _ hse⟩
    have h1 := hroom.2
    have h2 := hin.2.2.1
    show 8 + (mt'.2.2.1 + 11) + 43 * d' ≤ R.locals
    omega
  have hrecv : ∃ cellB : Cell, H[ga_ad G k]? = some cellB ∧ cellB.vm.isStatics = false ∧ s.vm.findClass mt'.1.cls = some cellB.cls := by
    have h := va_recv hK hP hcl he
    rw [hq] at h
    exact h
  have hst0 : (((as.map Sum.inl).reverse ++ gR k :: rest).map (gl_cz G)) = (as.map (ga_cz G)).reverse ++ .ref (ga_ad G k) :: rest.map (gl_cz G) := by
    rw [List.map_append, List.map_cons, List.map_reverse, List.map_map]; rfl
  rw [hst0]
  refine gl_back (T0 := ga_V) (cz := ga_cz G) (f := Sum.inl) (fun st oc t h => h) (fun v => rfl) C hR hS hL (va_runV (As := as.map (ga_cz G)) ⟨hx, hb, hm, hown, hts⟩ hM cw ⟨ga_blind G I _, hrecv, fun U hU hW => ⟨rfl, by rw [hU]; exact hP, va_K.moved hW.alike hK, by rw [hU]; exact va_X.moved hW.alike (ga_X_kept hok hX hbl hS), by rw [hU]; exact Nat.lt_of_lt_of_le hbl hS.1, trivial⟩⟩ rfl (by simpa using hn) hL.1 rfl (lv_room (by rw [gl_cats]; exact hrs)) hd ⟨hce, hsl⟩) (fun v I' h => h)
theorem gl_invS {d' idx n : Nat} {mt' : ga_M} {as : List ga_V} {rest : List gl_V} (hd : decode mt.2.1 pc = .ok (.invokestatic idx, 3)) (hl : ga_LS mt.1.cls idx mt' n) (hn : as.length = n) (hn2 : as.length ≤ mt'.2.2.1) (hrs : gl_wd rest ≤ 8) (hdd : d' + 1 = d) (hst : (as.map Sum.inl).reverse ++ rest = st)
    (K : ga_W G d' mt' 0 (ga_en mt'.2.2.1 as) [] I (fun v I' => gl_W G d mt (pc + 3) lst ((v.map Sum.inl).toList ++ rest) I' E)) : gl_W G d mt pc lst st I E := by
  intro p e R s m args below meth c cells slots Q C hR hI H locs ls hP hS hL
  subst hdd; subst hst
  obtain ⟨hin, hml, hstt, hpar⟩ := hl
  obtain ⟨hx, hb, hm, hown, hts, hK, hX, hbl, hok, hroom, hce, hsl, hNx⟩ := id C
  have hM := ga_met (d := d') hin hok hI (as := as) hn2 K
  have cw : CallB R s args mt.1.cls idx mt'.1 mt'.2.1 mt'.2.2.1 mt'.2.2.2 (ga_wm mt') (ga_rm d') 0 0 n ∧ (Cond.static mt'.1).before args s = true := by
    refine ⟨callB_of n hts (ga_goodM hin) rfl rfl rfl (hts _ hin.2.2.2.1) (hts _ hml) ⟨hin.2.2.2.2.1, hin.2.2.2.2.2, hpar⟩ ⟨hroom.1, ?_⟩, hts _ hstt⟩
    have h1 := hroom.2
    have h2 := hin.2.2.1
    show 8 + (mt'.2.2.1 + 11) + 43 * d' ≤ R.locals
    omega
  have hst0 : (((as.map Sum.inl).reverse ++ rest).map (gl_cz G)) = (as.map (ga_cz G)).reverse ++ rest.map (gl_cz G) := by
    rw [List.map_append, List.map_reverse, List.map_map]; rfl
  rw [hst0]
  refine gl_back (T0 := ga_V) (cz := ga_cz G) (f := Sum.inl) (fun st oc t h => h) (fun v => rfl) C hR hS hL (va_runS (As := as.map (ga_cz G)) ⟨hx, hb, hm, hown, hts⟩ hM cw ⟨ga_blind G I _, fun U hU hW => ⟨rfl, by rw [hU]; exact hP, va_K.moved hW.alike hK, by rw [hU]; exact va_X.moved hW.alike (ga_X_kept hok hX hbl hS), by rw [hU]; exact Nat.lt_of_lt_of_le hbl hS.1, trivial⟩⟩ rfl (by simpa using hn) hL.1 rfl (lv_room (by rw [gl_cats]; exact hrs)) hd ⟨hce, hsl⟩) (fun v I' h => h)
end GL
/-- from the first calculus to this one -/
theorem gl_of {G : ga_G} {d : Nat} {mt : ga_M} {pc : Nat} {lst : List (Option ga_V)} {st : List ga_V} {I : ga_I} {E : Option ga_V → ga_I → Prop} (hrt : mt.2.2.2 = some .boolean) (K : gl_W G d mt pc (lst.map (fun o => o.map Sum.inl)) (st.map Sum.inl) I (fun v J => ∃ w : ga_V, v = some (.inl w) ∧ E (some w) J)) : ga_W G d mt pc lst st I E := by
  intro p e R s m args below meth c cells slots Q C hr hI H locs ls hP hS hL
  have k := K p e R s m args below meth c cells slots Q C (fun pc1 ls1 H1 locs1 I1 v ins hd hfit hE hI1 hP1 hS1 => ?_) hI H locs ls hP hS (gl_has_ga hL)
  · rw [List.map_map] at k
    exact k
  · obtain ⟨w, rfl, hE⟩ := hE
    refine hr pc1 ls1 H1 locs1 I1 (some w) ins hd ?_ hE hI1 hP1 hS1
    rcases hfit with ⟨h, -, -⟩ | ⟨-, hi, h⟩
    · rw [hrt] at h; cases h
    · refine Or.inr (Or.inr (Or.inl ⟨hrt, hi, ?_⟩))
      rcases h with h | h
      · cases h; exact Or.inl rfl
      · cases h; exact Or.inr rfl
def gl_Qc (G : ga_G) (E : Option gl_V → ga_I → Prop) : Array Value → State → Outcome → State → Prop := fun _ st oc t => (∃ (v : Option gl_V) (I' : ga_I), oc = .returned (v.map (gl_cz G)) ∧ E v I' ∧ ga_RG I' ∧ ga_Wd G I' t.heap) ∧ va_F (ga_A G) st t
/-- the contract of a method that answers a long, out of its walk -/
theorem gl_met {G : ga_G} {d : Nat} {mt : ga_M} {as : List ga_V} {I : ga_I} {E : Option gl_V → ga_I → Prop} (hin : ga_In mt) (hrt : mt.2.2.2 = some .long) (hok : ga_ok G) (hI : ga_RG I) (hn : as.length ≤ mt.2.2.1) (K : gl_W G d mt 0 ((ga_en mt.2.2.1 as).map (fun o => o.map Sum.inl)) [] I E) : Met (ga_l G) mt.1 (ga_wm mt) (ga_rm d) (va_Pc (as.map (ga_cz G)) (ga_pre G I)) (gl_Qc G E) 0 0 (ga_A G) := by
  refine ga_ofW (cc := mt.2.1) (maxL := mt.2.2.1) (ret := mt.2.2.2) hin.2.1 rfl ?_
  intro p e s m args below meth c s₁ B hml hv
  obtain ⟨rfl, hP, hK, hX, hbl, hNx⟩ := hv
  have hts := atoms_spec (ws := ga_wm mt) B.pre
  have hown : s.vm.findClass mt.1.cls = some m.cls := findClass_of_methodNamed B.named
  have hlocks := B.notSynchronized
  have hr := B.returns
  have C : ga_Ctx G d mt p (headSpec (ga_wm mt) (ga_rm d)).room s m (as.map (ga_cz G)).toArray c 0 0 := ⟨B.exec, B.bytes, hml, hown, fun w hw => hts w (List.mem_cons_of_mem _ hw), hK, hX, hbl, hok, ⟨Nat.le_refl _, Nat.le_refl _⟩, Nat.zero_le _, Nat.zero_le _, hNx⟩
  rw [lg_entry_eq]
  refine K p e _ s m _ below meth c 0 0 _ C ?_ hI s.heap [] _ hP va_S.rf (gl_has_ga (ga_has_en hn))
  intro pc ls H locs I' v ins hd hfit hE hI' hP' hS'
  have hq : ∀ t : State, t.heap = H → s.WarmedH t.vm → gl_Qc G E (as.map (ga_cz G)).toArray s (.returned (v.map (gl_cz G))) t := fun t ht hW => ⟨⟨v, I', rfl, hE, hI', by rw [ht]; exact hP'⟩, hS'.F ht⟩
  rcases hfit with ⟨h1, rfl, x, rfl⟩ | ⟨h1, -, -⟩
  · exact W.lret B.exec B.bytes (hr.trans h1) hq hS'.2.2 hd
  · rw [hrt] at h1; cases h1
theorem gl_invL {G : ga_G} {d : Nat} {mt : ga_M} {pc : Nat} {lst : List (Option gl_V)} {st : List gl_V} {I : ga_I} {E : Option gl_V → ga_I → Prop} {d' idx n : Nat} {mt' : ga_M} {as : List ga_V} {rest : List gl_V} (hd : decode mt.2.1 pc = .ok (.invokestatic idx, 3)) (hl : ga_LS mt.1.cls idx mt' n) (hrt : mt'.2.2.2 = some .long) (hn : as.length = n) (hn2 : as.length ≤ mt'.2.2.1) (hrs : gl_wd rest ≤ 8) (hdd : d' + 1 = d) (hst : (as.map Sum.inl).reverse ++ rest = st)
    (K : gl_W G d' mt' 0 ((ga_en mt'.2.2.1 as).map (fun o => o.map Sum.inl)) [] I (fun v I' => gl_W G d mt (pc + 3) lst (v.toList ++ rest) I' E)) : gl_W G d mt pc lst st I E := by
  intro p e R s m args below meth c cells slots Q C hR hI H locs ls hP hS hL
  subst hdd; subst hst
  obtain ⟨hin, hml, hstt, hpar⟩ := hl
  obtain ⟨hx, hb, hm, hown, hts, hK, hX, hbl, hok, hroom, hce, hsl, hNx⟩ := id C
  have hM := gl_met (d := d') hin hrt hok hI (as := as) hn2 K
  have cw : CallB R s args mt.1.cls idx mt'.1 mt'.2.1 mt'.2.2.1 mt'.2.2.2 (ga_wm mt') (ga_rm d') 0 0 n ∧ (Cond.static mt'.1).before args s = true := by
    refine ⟨callB_of n hts (ga_goodM hin) rfl rfl rfl (hts _ hin.2.2.2.1) (hts _ hml) ⟨hin.2.2.2.2.1, hin.2.2.2.2.2, hpar⟩ ⟨hroom.1, ?_⟩, hts _ hstt⟩
    have h1 := hroom.2
    have h2 := hin.2.2.1
    show 8 + (mt'.2.2.1 + 11) + 43 * d' ≤ R.locals
    omega
  have hst0 : (((as.map Sum.inl).reverse ++ rest).map (gl_cz G)) = (as.map (ga_cz G)).reverse ++ rest.map (gl_cz G) := by
    rw [List.map_append, List.map_reverse, List.map_map]; rfl
  rw [hst0]
  refine gl_back (T0 := gl_V) (cz := gl_cz G) (f := id) (fun st oc t h => h) (fun v => rfl) C hR hS hL (va_runS (As := as.map (ga_cz G)) ⟨hx, hb, hm, hown, hts⟩ hM cw ⟨ga_blind G I _, fun U hU hW => ⟨rfl, by rw [hU]; exact hP, va_K.moved hW.alike hK, by rw [hU]; exact va_X.moved hW.alike (ga_X_kept hok hX hbl hS), by rw [hU]; exact Nat.lt_of_lt_of_le hbl hS.1, trivial⟩⟩ rfl (by simpa using hn) hL.1 rfl (lv_room (by rw [gl_cats]; exact hrs)) hd ⟨hce, hsl⟩) (fun v I' h => by
      have e : (v.map id).toList = v.toList := by cases v <;> rfl
      rw [e]; exact h)
