/-! the making of the cells: worlds of the first n cells -/
def gc_ws (G : ga_G) (X : Nat → va_E) (n : Nat) : va_W := (List.range n).map (fun q => (ga_ad G q, X q))
theorem gc_ws_at (G : ga_G) (X : Nat → va_E) {n q : Nat} (hq : q < n) : (gc_ws G X n)[q]? = some (ga_ad G q, X q) := by
  unfold gc_ws
  rw [List.getElem?_map, List.getElem?_range hq]
  rfl
theorem gc_ws_ge (G : ga_G) (X : Nat → va_E) {n q : Nat} (hq : ¬ q < n) : (gc_ws G X n)[q]? = none := by
  unfold gc_ws
  rw [List.getElem?_map, List.getElem?_eq_none (by simpa using hq)]
  rfl
theorem gc_ws_cong (G : ga_G) {X X' : Nat → va_E} {n : Nat} (h : ∀ q, q < n → X q = X' q) : gc_ws G X n = gc_ws G X' n := by
  apply List.ext_getElem?
  intro q
  by_cases hq : q < n
  · rw [gc_ws_at G X hq, gc_ws_at G X' hq, h q hq]
  · rw [gc_ws_ge G X hq, gc_ws_ge G X' hq]
theorem gc_push {G : ga_G} {X X' : Nat → va_E} {n : Nat} {e : va_E} (h0 : X' n = e) (h : ∀ q, q < n → X' q = X q) : gc_ws G X n ++ [(ga_ad G n, e)] = gc_ws G X' (n + 1) := by
  rw [gc_ws_cong G (X := X) (X' := X') (fun q hq => (h q hq).symm)]
  unfold gc_ws
  rw [List.range_succ, List.map_append, ← h0]
  rfl
theorem gc_set {G : ga_G} {X X' : Nat → va_E} {n k : Nat} {e : va_E} (hk : k < n) (h0 : X' k = e) (h : ∀ q, q < n → q ≠ k → X' q = X q) : (gc_ws G X n).set k (ga_ad G k, e) = gc_ws G X' n := by
  apply List.ext_getElem?
  intro q
  by_cases hq : q < n
  · rw [gc_ws_at G X' hq]
    by_cases e1 : k = q
    · subst e1
      rw [List.getElem?_set_self (by simp [gc_ws]; omega), h0]
    · rw [List.getElem?_set_ne e1, gc_ws_at G X hq, h q hq (fun z => e1 z.symm)]
  · rw [gc_ws_ge G X' hq, List.getElem?_eq_none (by simp [gc_ws]; omega)]
theorem gc_apart {G : ga_G} (h : ga_ok G) (X : Nat → va_E) {n : Nat} (hn : n ≤ 348) : va_D (ga_A G) (gc_ws G X n) := by
  refine ⟨fun i j p q hi hj e => ?_, fun k q hk => ?_⟩
  · by_cases h1 : i < n
    · by_cases h2 : j < n
      · rw [gc_ws_at G X h1] at hi
        rw [gc_ws_at G X h2] at hj
        cases hi; cases hj
        have e1 : ga_ad G i = ga_ad G j := e
        rw [h.1 i (by omega), h.1 j (by omega)] at e1
        omega
      · rw [gc_ws_ge G X h2] at hj; cases hj
    · rw [gc_ws_ge G X h1] at hi; cases hi
  · by_cases h1 : k < n
    · rw [gc_ws_at G X h1] at hk
      cases hk
      show ga_ba G ≤ ga_ad G k
      rw [h.1 k (by omega)]; omega
    · rw [gc_ws_ge G X h1] at hk; cases hk
/-- the heap holds the first n cells, and, ahead of the last, nothing behind them -/
abbrev gc_Wd (G : ga_G) (X : Nat → va_E) (n : Nat) (H : Heap) : Prop := va_P (ga_D G) ga_cl (gc_ws G X n) H ∧ (n < 348 → H.size = ga_ba G + n) ∧ n ≤ 348
/-- what is known of links between nest mates and of the class of the states' array -/
def gc_Nx (U : State) : Prop := ga_Nx U ∧ va_Nw (.methodLinkNest "GainTables$Table" 11 mt_Borders_init.1 "GainTables") U ∧ va_Nw (.methodLinkNest "GainTables$State" 40 mt_Path_init.1 "GainTables") U ∧ va_Nw (.methodLinkNest "GainTables" 25 mt_Text_init.1 "GainTables") U ∧ va_Nw (.methodLinkNest "GainTables" 39 mt_Borders_init.1 "GainTables") U ∧ va_Nw (.methodLinkNest "GainTables" 46 mt_Blend_init.1 "GainTables") U ∧ va_AO "GainTables$State" U
theorem gc_Nx.warm {s U : State} (hW : s.WarmedH U.vm) (h : gc_Nx s) : gc_Nx U := by
  obtain ⟨h0, h2, h3, h4, h5, h6, h7⟩ := h
  exact ⟨trivial, va_Nw.warmM hW h2, va_Nw.warmM hW h3, va_Nw.warmM hW h4, va_Nw.warmM hW h5, va_Nw.warmM hW h6, va_AO.moved hW.alike h7⟩
theorem gc_Nx.same {u U : State} (e : u.vm = U.vm) (h : gc_Nx u) : gc_Nx U := by
  obtain ⟨h0, h2, h3, h4, h5, h6, h7⟩ := h
  exact ⟨trivial, va_Nw.same rfl e h2, va_Nw.same rfl e h3, va_Nw.same rfl e h4, va_Nw.same rfl e h5, va_Nw.same rfl e h6, va_AO.moved (by rw [e]; exact Vm.Alike.refl _) h7⟩
def gc_Ctx (G : ga_G) (d : Nat) (mt : ga_M) (p : Program) (R : Room) (s : State) (m : MethodId) (args : Array Value) (meth : Method) (c : Code) (MC MS : Nat) : Prop :=
  ga_Ctx G d mt p R s m args c MC MS ∧ gc_Nx s ∧ (mt.1.name = "<init>" → meth.name = "<init>")
def gc_Ret (G : ga_G) (mt : ga_M) (E : (Nat → va_E) → Nat → Prop) (p : Program) (e : Env) (R : Room) (s : State) (m : MethodId) (args : Array Value) (below : List Frame) (meth : Method) (c : Code) (MC MS : Nat) (Q : State → Prop) : Prop :=
  ∀ (pc : Nat) (ls : Array Slot) (H : Heap) (locs : List Loc) (X : Nat → va_E) (n cells slots : Nat) (v : Option ga_V) (ins : Instr), decode mt.2.1 pc = .ok (ins, 1) → ga_fit mt.2.2.2 ins v → (v = none ∨ v = some (.inl 1)) → E X n → gc_Wd G X n H → va_S (ga_A G) s.heap H locs → cells ≤ MC → slots ≤ MS → W p (ga_l G) e R s m args below meth c H locs cells slots Q (F0 m pc ls (v.toList.map (ga_cz G)))
/-- as ga_W, in a world of the first n cells; so many cells and slots may still come -/
def gc_W (G : ga_G) (d : Nat) (mt : ga_M) (pc : Nat) (lst : List (Option ga_V)) (st : List ga_V) (X : Nat → va_E) (n rc rs : Nat) (E : (Nat → va_E) → Nat → Prop) : Prop :=
  ∀ (p : Program) (e : Env) (R : Room) (s : State) (m : MethodId) (args : Array Value) (below : List Frame) (meth : Method) (c : Code) (MC MS : Nat) (Q : State → Prop),
    gc_Ctx G d mt p R s m args meth c MC MS → gc_Ret G mt E p e R s m args below meth c MC MS Q →
    ∀ (H : Heap) (locs : List Loc) (ls : Array Slot) (cells slots : Nat), cells + rc ≤ MC → slots + rs ≤ MS → gc_Wd G X n H → va_S (ga_A G) s.heap H locs → ga_has G mt.2.2.1 ls lst → W p (ga_l G) e R s m args below meth c H locs cells slots Q (F0 m pc ls (st.map (ga_cz G)))
section MK
variable {G : ga_G} {d : Nat} {mt : ga_M} {pc : Nat} {lst : List (Option ga_V)} {st : List ga_V} {X : Nat → va_E} {n rc rs : Nat} {E : (Nat → va_E) → Nat → Prop}
theorem gc_cong {X' : Nat → va_E} (h : ∀ q, q < n → X q = X' q) (K : gc_W G d mt pc lst st X' n rc rs E) : gc_W G d mt pc lst st X n rc rs E := by
  intro p e R s m args below meth c MC MS Q C hr H locs ls cells slots hc hs hP hS hL
  refine K p e R s m args below meth c MC MS Q C hr H locs ls cells slots hc hs ⟨?_, hP.2⟩ hS hL
  rw [← gc_ws_cong G h]; exact hP.1
theorem gc_less {lst' : List (Option ga_V)} (K : gc_W G d mt pc lst' st X n rc rs E) (h : ga_lk lst' lst) : gc_W G d mt pc lst st X n rc rs E := by
  intro p e R s m args below meth c MC MS Q C hr H locs ls cells slots hc hs hP hS hL
  exact K p e R s m args below meth c MC MS Q C hr H locs ls cells slots hc hs hP hS (ga_has_less hL (ga_lk_ok h).1 (ga_lk_ok h).2)
theorem gc_room {rc' rs' : Nat} (h1 : rc' ≤ rc) (h2 : rs' ≤ rs) (K : gc_W G d mt pc lst st X n rc' rs' E) : gc_W G d mt pc lst st X n rc rs E := by
  intro p e R s m args below meth c MC MS Q C hr H locs ls cells slots hc hs hP hS hL
  exact K p e R s m args below meth c MC MS Q C hr H locs ls cells slots (by omega) (by omega) hP hS hL
theorem gc_aload_n {k : Fin 4} {z : Nat} (i : Nat) (hd : decode mt.2.1 pc = .ok (.aload_n k, 1)) (hk : (k : Nat) = i) (hl : lst[i]? = some (some (.inr z))) (K : gc_W G d mt (pc + 1) lst (.inr z :: st) X n rc rs E) : gc_W G d mt pc lst st X n rc rs E := by
  intro p e R s m args below meth c MC MS Q C hr H locs ls cells slots hc hs hP hS hL
  exact lv_aload_n C.1.1 C.1.2.1 hd hk (hL.2.2.2 i _ hl) (K p e R s m args below meth c MC MS Q C hr H locs ls cells slots hc hs hP hS hL)
theorem gc_iload_n {k : Fin 4} {z : Int} (i : Nat) (hd : decode mt.2.1 pc = .ok (.iload_n k, 1)) (hk : (k : Nat) = i) (hl : lst[i]? = some (some (.inl z))) (K : gc_W G d mt (pc + 1) lst (.inl z :: st) X n rc rs E) : gc_W G d mt pc lst st X n rc rs E := by
  intro p e R s m args below meth c MC MS Q C hr H locs ls cells slots hc hs hP hS hL
  exact lv_iload_n C.1.1 C.1.2.1 hd hk (hL.2.2.2 i _ hl) (K p e R s m args below meth c MC MS Q C hr H locs ls cells slots hc hs hP hS hL)
theorem gc_iconst {z : Int} (hd : decode mt.2.1 pc = .ok (.iconst z, 1)) (K : gc_W G d mt (pc + 1) lst (.inl z :: st) X n rc rs E) : gc_W G d mt pc lst st X n rc rs E := by
  intro p e R s m args below meth c MC MS Q C hr H locs ls cells slots hc hs hP hS hL
  exact lv_iconst C.1.1 C.1.2.1 hd rfl (K p e R s m args below meth c MC MS Q C hr H locs ls cells slots hc hs hP hS hL)
theorem gc_bipush {z : Int} (hd : decode mt.2.1 pc = .ok (.bipush z, 2)) (hn : (Int8.ofInt z).toInt32 = Int32.ofInt z) (K : gc_W G d mt (pc + 2) lst (.inl z :: st) X n rc rs E) : gc_W G d mt pc lst st X n rc rs E := by
  intro p e R s m args below meth c MC MS Q C hr H locs ls cells slots hc hs hP hS hL
  exact lv_bipush C.1.1 C.1.2.1 hd hn (K p e R s m args below meth c MC MS Q C hr H locs ls cells slots hc hs hP hS hL)
theorem gc_sipush {z : Int} (hd : decode mt.2.1 pc = .ok (.sipush z, 3)) (hn : (Int16.ofInt z).toInt32 = Int32.ofInt z) (K : gc_W G d mt (pc + 3) lst (.inl z :: st) X n rc rs E) : gc_W G d mt pc lst st X n rc rs E := by
  intro p e R s m args below meth c MC MS Q C hr H locs ls cells slots hc hs hP hS hL
  exact lv_sipush C.1.1 C.1.2.1 hd hn (K p e R s m args below meth c MC MS Q C hr H locs ls cells slots hc hs hP hS hL)
theorem gc_ldc {idx : Nat} {x : Int32} {z : Int} (hd : decode mt.2.1 pc = .ok (.ldc idx, 2)) (hw : Cond.constant mt.1.cls idx x ∈ ga_T) (hn : x = Int32.ofInt z) (K : gc_W G d mt (pc + 2) lst (.inl z :: st) X n rc rs E) : gc_W G d mt pc lst st X n rc rs E := by
  intro p e R s m args below meth c MC MS Q C hr H locs ls cells slots hc hs hP hS hL
  subst hn
  exact lv_ldc C.1.1 C.1.2.1 C.1.2.2.2.1 (C.1.2.2.2.2.1 _ hw) hd (K p e R s m args below meth c MC MS Q C hr H locs ls cells slots hc hs hP hS hL)
theorem gc_dup {v : ga_V} (hd : decode mt.2.1 pc = .ok (.dup, 1)) (K : gc_W G d mt (pc + 1) lst (v :: v :: st) X n rc rs E) : gc_W G d mt pc lst (v :: st) X n rc rs E := by
  intro p e R s m args below meth c MC MS Q C hr H locs ls cells slots hc hs hP hS hL
  exact lv_dup C.1.1 C.1.2.1 hd (ga_cat G v) (K p e R s m args below meth c MC MS Q C hr H locs ls cells slots hc hs hP hS hL)
theorem gc_istore_n {k : Fin 4} {z : Int} (i : Nat) {lst' : List (Option ga_V)} (hd : decode mt.2.1 pc = .ok (.istore_n k, 1)) (hk : (k : Nat) = i) (hi : i < lst.length) (hl : lst.set i (some (.inl z)) = lst') (K : gc_W G d mt (pc + 1) lst' st X n rc rs E) : gc_W G d mt pc lst (.inl z :: st) X n rc rs E := by
  intro p e R s m args below meth c MC MS Q C hr H locs ls cells slots hc hs hP hS hL
  subst hl
  exact lv_istore_n C.1.1 C.1.2.1 hd hk (ga_has_lv hL) (by rw [← hL.2.1]; exact hi) rfl (fun ls' h' => K p e R s m args below meth c MC MS Q C hr H locs ls' cells slots hc hs hP hS (ga_has_set (v := .inl z) hL hi h'))
theorem gc_astore_n {k : Fin 4} {z : Nat} (i : Nat) {lst' : List (Option ga_V)} (hd : decode mt.2.1 pc = .ok (.astore_n k, 1)) (hk : (k : Nat) = i) (hi : i < lst.length) (hl : lst.set i (some (.inr z)) = lst') (K : gc_W G d mt (pc + 1) lst' st X n rc rs E) : gc_W G d mt pc lst (.inr z :: st) X n rc rs E := by
  intro p e R s m args below meth c MC MS Q C hr H locs ls cells slots hc hs hP hS hL
  subst hl
  exact lv_astore_n C.1.1 C.1.2.1 hd hk (ga_has_lv hL) (by rw [← hL.2.1]; exact hi) rfl (fun ls' h' => K p e R s m args below meth c MC MS Q C hr H locs ls' cells slots hc hs hP hS (ga_has_set (v := .inr z) hL hi h'))
theorem gc_iinc {z : Int} {w : Int} (i : Nat) {lst' : List (Option ga_V)} (hd : decode mt.2.1 pc = .ok (.iinc i w, 3)) (hv : lst[i]? = some (some (.inl z))) (hl : lst.set i (some (.inl (z + w))) = lst') (K : gc_W G d mt (pc + 3) lst' st X n rc rs E) : gc_W G d mt pc lst st X n rc rs E := by
  intro p e R s m args below meth c MC MS Q C hr H locs ls cells slots hc hs hP hS hL
  subst hl
  have hi : i < lst.length := (List.getElem?_eq_some_iff.mp hv).1
  obtain ⟨k, hk⟩ := List.getElem?_of_mem (ga_lv_mem (G := G).mpr ⟨i, _, hv, rfl⟩)
  exact lv_iinc C.1.1 C.1.2.1 hd (ga_has_lv hL) (k := k) hk (ga_oadd z w) (by rw [← hL.2.1]; exact hi) rfl (fun ls' h' => K p e R s m args below meth c MC MS Q C hr H locs ls' cells slots hc hs hP hS (ga_has_set (v := .inl (z + w)) hL hi h'))
theorem gc_goto {off : Int} (tgt : Nat) (hd : decode mt.2.1 pc = .ok (.goto off, 3)) (ht : (pc : Int) + off = (tgt : Int)) (K : gc_W G d mt tgt lst st X n rc rs E) : gc_W G d mt pc lst st X n rc rs E := by
  intro p e R s m args below meth c MC MS Q C hr H locs ls cells slots hc hs hP hS hL
  exact lv_goto C.1.1 C.1.2.1 hd ht (K p e R s m args below meth c MC MS Q C hr H locs ls cells slots hc hs hP hS hL)
theorem gc_icmp_ge {a b : Int} {off : Int} (tgt : Nat) (hd : decode mt.2.1 pc = .ok (.if_icmp .ge off, 3)) (ht : (pc : Int) + off = (tgt : Int)) (ha : ga_rg a) (hb : ga_rg b) (K1 : b ≤ a → gc_W G d mt tgt lst st X n rc rs E) (K2 : ¬ (b ≤ a) → gc_W G d mt (pc + 3) lst st X n rc rs E) : gc_W G d mt pc lst (.inl b :: .inl a :: st) X n rc rs E := by
  intro p e R s m args below meth c MC MS Q C hr H locs ls cells slots hc hs hP hS hL
  refine lv_icmp_ge C.1.1 C.1.2.1 hd ht (fun h => K1 ((ga_le hb ha).mp h) p e R s m args below meth c MC MS Q C hr H locs ls cells slots hc hs hP hS hL) (fun h => K2 (fun q => h ((ga_le hb ha).mpr q)) p e R s m args below meth c MC MS Q C hr H locs ls cells slots hc hs hP hS hL)
theorem gc_return (hd : decode mt.2.1 pc = .ok (.return_, 1)) (hr : mt.2.2.2 = none) (h : E X n) : gc_W G d mt pc lst [] X n rc rs E := by
  intro p e R s m args below meth c MC MS Q C hR H locs ls cells slots hc hs hP hS hL
  exact hR pc ls H locs X n cells slots none _ hd (Or.inl ⟨hr, rfl, rfl⟩) (Or.inl rfl) h hP hS (by omega) (by omega)
/-- the constructor of Object -/
theorem gc_objI {idx k : Nat} (hd : decode mt.2.1 pc = .ok (.invokespecial idx, 3)) (hl : Cond.methodLink mt.1.cls idx Lib.objectInit ∈ ga_T) (hdd : 1 ≤ d) (K : gc_W G d mt (pc + 3) lst [] X n rc rs E) : gc_W G d mt pc lst [.inr k] X n rc rs E := by
  intro p e R s m args below meth c MC MS Q C hr H locs ls cells slots hc hs hP hS hL
  have hroom := C.1.2.2.2.2.2.2.2.2.2.1
  refine W.objInit C.1.1 C.1.2.1 C.1.2.2.2.1 (C.1.2.2.2.2.1 _ hl) (C.1.2.2.2.2.1 _ (ga_mem 28 (by decide +kernel))) (C.1.2.2.2.2.1 _ (ga_mem 29 (by decide +kernel))) rfl (hL.1.trans C.1.2.2.1.symm) rfl hd (by omega) (by show 2 * 0 + 0 + 12 ≤ _; omega) ?_
  exact K p e R s m args below meth c MC MS Q C hr H locs ls cells slots hc hs hP hS hL
/-- a new object -/
theorem gc_new {idx ci N : Nat} {Cn : String} {T : u_T} {fs : List Value} (ty : Nat → FieldType) (hd : decode mt.2.1 pc = .ok (.new idx, 3)) (hcl : ga_cl[ci]? = some (Cn, T, N)) (hin : ∀ w ∈ u_ws Cn T N, w ∈ ga_T) (hty : ∀ k, k < N → parseFieldDescriptor (T k).2.2.1 = some (ty k)) (hlk : Cond.classLink mt.1.cls idx Cn ∈ ga_T) (hinst : Cond.instantiable Cn N ∈ ga_T) (hini : Cond.initialized Cn ∈ ga_T) (hfs : ∀ j, j < N → defaultValue (ty j) = vp_V fs j) (hn : n < 348)
    (K : gc_W G d mt (pc + 3) lst (.inr n :: st) (fun q => if q = n then .inr (ci, fs) else X q) (n + 1) rc rs E) : gc_W G d mt pc lst st X n (rc + 1) (rs + N) E := by
  intro p e R s m args below meth c MC MS Q C hr H locs ls cells slots hc hs hP hS hL
  obtain ⟨hx, hb, hm, hown, hts, hK, hX, hbl, hok, hroom, hMC, hMS, hNx⟩ := C.1
  have hKn := hK.1 ci _ hcl
  have hz : H.size = ga_ad G n := (hP.2.1 hn).trans (hok.1 n hn).symm
  refine W.newcK hx hb hown (hts _ hlk) (hts _ hinst) (hts _ hini) rfl hd (by omega) (by omega) hKn.2.1 hz fun H1 kC hkC e1 z1 o1 => ?_
  have hk : ∀ (k : Nat) (x : Nat × va_E), (gc_ws G X n)[k]? = some x → H1[x.1]? = H[x.1]? := fun k x hx => o1 x.1 (by rw [← hz]; exact (hP.1 k x hx).lt)
  have hP1 : va_P (ga_D G) ga_cl (gc_ws G X n ++ [(ga_ad G n, .inr (ci, fs))]) H1 := (hP.1.kept hk).app (fun k x hx => by
    have h0 : k < 1 := (List.getElem?_eq_some_iff.mp hx).1
    rw [show k = 0 by omega] at hx
    cases hx
    exact ⟨_, hcl, (u_born ty hts hin hKn hkC e1 hty).to hfs⟩)
  rw [gc_push (X' := fun q => if q = n then .inr (ci, fs) else X q) (if_pos rfl) (fun q hq => if_neg (by omega))] at hP1
  exact K p e R s m args below meth c MC MS Q C hr H1 locs ls (cells + 1) (slots + N) (by omega) (by omega) ⟨hP1, fun h => by rw [z1, hok.1 n hn]; omega, by omega⟩ ⟨Nat.le_trans hS.1 (by omega), fun x h1 h2 => (o1 x (by rw [← hz]; exact Nat.lt_of_lt_of_le h1 hS.1)).trans (hS.2.1 x h1 h2), hS.2.2⟩ hL
/-- a new array of numbers -/
theorem gc_newa {atype : ArrayType} {t len : Nat} (hd : decode mt.2.1 pc = .ok (.newarray atype, 2)) (harr : Cond.arrayClass (newarray.typeOf atype) ∈ ga_T) (ht : (ga_ty G)[t]? = some (ga_cy G t, newarray.typeOf atype)) (hra : ∀ (U : State) (cA : ClassId), va_RA U cA (newarray.typeOf atype) → U.vm.findClass ("[" ++ (newarray.typeOf atype).toString) = some cA) (hdv : defaultValue (newarray.typeOf atype) = .int 0) (hcb : componentBytes (newarray.typeOf atype) ≤ 4) (hlen : len < 100000) (hn : n < 348)
    (K : gc_W G d mt (pc + 2) lst (.inr n :: st) (fun q => if q = n then .inl (ga_cy G t, len, .inl (fun _ => 0)) else X q) (n + 1) rc rs E) : gc_W G d mt pc lst (.inl (len : Int) :: st) X n (rc + 1) (rs + len) E := by
  intro p e R s m args below meth c MC MS Q C hr H locs ls cells slots hc hs hP hS hL
  obtain ⟨hx, hb, hm, hown, hts, hK, hX, hbl, hok, hroom, hMC, hMS, hNx⟩ := C.1
  have hz : H.size = ga_ad G n := (hP.2.1 hn).trans (hok.1 n hn).symm
  have hnn : ¬ Int32.ofInt (len : Int) < 0 := fun h => by
    have := (ga_lt (a := (len : Int)) (b := 0) ⟨by omega, by omega⟩ ⟨by omega, by omega⟩).mp h
    omega
  have hNN : (Int32.ofInt (len : Int)).toNatClampNeg = len := by rw [ga_nat ⟨by omega, by omega⟩]; omega
  refine va_newaK hx hb (hts _ harr) rfl hd rfl hnn hNN (Nat.le_trans (Nat.mul_le_mul (Nat.le_of_lt hlen) hcb) (by decide)) (by omega) (by omega) hz fun H1 cA e1 z1 o1 hAr hNm => ?_
  have ec : cA = ga_cy G t := Option.some.inj (hNm.symm.trans (hra s _ (hK.2 t _ ht).2))
  subst ec
  have hk : ∀ (k : Nat) (x : Nat × va_E), (gc_ws G X n)[k]? = some x → H1[x.1]? = H[x.1]? := fun k x hx => o1 x.1 (by rw [← hz]; exact (hP.1 k x hx).lt)
  have hP1 : va_P (ga_D G) ga_cl (gc_ws G X n ++ [(ga_ad G n, .inl (ga_cy G t, len, .inl (fun _ => 0)))]) H1 := (hP.1.kept hk).app (fun k x hx => by
    have h0 : k < 1 := (List.getElem?_eq_some_iff.mp hx).1
    rw [show k = 0 by omega] at hx
    cases hx
    show H1[ga_ad G n]? = some (vp_cell _ _)
    rw [e1, hdv]
    rfl)
  rw [gc_push (X' := fun q => if q = n then .inl (ga_cy G t, len, .inl (fun _ => 0)) else X q) (if_pos rfl) (fun q hq => if_neg (by omega))] at hP1
  exact K p e R s m args below meth c MC MS Q C hr H1 locs ls (cells + 1) (slots + len) (by omega) (by omega) ⟨hP1, fun h => by rw [z1, hok.1 n hn]; omega, by omega⟩ ⟨Nat.le_trans hS.1 (by omega), fun x h1 h2 => (o1 x (by rw [← hz]; exact Nat.lt_of_lt_of_le h1 hS.1)).trans (hS.2.1 x h1 h2), hS.2.2⟩ hL
end MK
