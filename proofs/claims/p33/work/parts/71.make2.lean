/-! the making of the cells: stores, calls -/
/-- a field that a constructor writes -/
def gc_FP (own : String) (idx ci j : Nat) (fin : Bool) (ty : FieldType) : Prop := ∃ (T : u_T) (N : Nat) (tyf : Nat → FieldType), ga_cl[ci]? = some (own, T, N) ∧ j < N ∧ (∀ w ∈ u_ws own T N, w ∈ ga_T) ∧ Cond.fieldLink own idx own (T j).2.1 (T j).2.2.1 ∈ ga_T ∧ (T j).1 = own ∧ (∀ k, k < N → parseFieldDescriptor (T k).2.2.1 = some (tyf k)) ∧ (∀ a, a < N → ∀ b, b < N → a ≠ b → (T a).2.1 ≠ (T b).2.1) ∧ (T j).2.2.2 = fin ∧ parseFieldDescriptor (T j).2.2.1 = some ty
/-- a constructor that is called -/
def gc_LI (own : String) (idx : Nat) (mt : ga_M) : Prop := ga_In mt ∧ mt.1.name = "<init>" ∧ Cond.instanceMethod mt.1 ∈ ga_T ∧ mt.2.2.2 = none ∧ (parseMethodDescriptor mt.1.desc).map (fun d => d.parameters.length) = some 0 ∧ (Cond.methodLink own idx mt.1 ∈ ga_T ∨ ∀ U, gc_Nx U → va_Nw (.methodLinkNest own idx mt.1 "GainTables") U)
def gc_rm (d mc ms : Nat) : Room := { frames := d, cells := mc, slots := ms, locals := 43 * d }
def gc_pre (G : ga_G) (X : Nat → va_E) (n : Nat) (U : State) : Prop := gc_Wd G X n U.heap ∧ va_K (ga_D G) ga_cl (ga_ty G) U ∧ va_X (ga_b G) (ga_L G) (ga_xs G) U U.heap ∧ ga_b G < U.heap.size ∧ gc_Nx U
def gc_Qc (G : ga_G) (E : (Nat → va_E) → Nat → Prop) : Array Value → State → Outcome → State → Prop := fun _ st oc t => (oc = .returned none ∧ ∃ (X : Nat → va_E) (n : Nat), E X n ∧ gc_Wd G X n t.heap) ∧ va_F (ga_A G) st t
theorem gc_blind (G : ga_G) (X : Nat → va_E) (n : Nat) (av : List Value) : FrameBlind (va_Pc av (gc_pre G X n)) := fun a U g mk q => by
  obtain ⟨q0, qP, qK, qX, qb, qn⟩ := q
  exact ⟨q0, qP, va_K.moved (u := U) (U := U.calling g mk a) (Vm.Alike.refl U.vm) qK, va_X.moved (u := U) (U := U.calling g mk a) (Vm.Alike.refl U.vm) qX, qb, gc_Nx.same (u := U) rfl qn⟩
/-- the contract of a constructor, or of what a constructor calls -/
theorem gc_met {G : ga_G} {d : Nat} {mt : ga_M} {as : List ga_V} {X : Nat → va_E} {n rc rs : Nat} {E : (Nat → va_E) → Nat → Prop} (hin : ga_In mt) (hret : mt.2.2.2 = none) (hok : ga_ok G) (hn : as.length ≤ mt.2.2.1) (K : gc_W G d mt 0 (ga_en mt.2.2.1 as) [] X n rc rs E) : Met (ga_l G) mt.1 (ga_wm mt) (gc_rm d rc rs) (va_Pc (as.map (ga_cz G)) (gc_pre G X n)) (gc_Qc G E) rc rs (ga_A G) := by
  refine ga_ofW (cc := mt.2.1) (maxL := mt.2.2.1) (ret := mt.2.2.2) hin.2.1 rfl ?_
  intro p e s m args below meth c s₁ B hml hv
  obtain ⟨rfl, hP, hK, hX, hbl, hNx⟩ := hv
  have hts := atoms_spec (ws := ga_wm mt) B.pre
  have hown : s.vm.findClass mt.1.cls = some m.cls := findClass_of_methodNamed B.named
  have hnam : meth.name = mt.1.name := (name_of_methodNamed B.named B.method).1
  have hlocks := B.notSynchronized
  have hr := B.returns
  have C : gc_Ctx G d mt p (headSpec (ga_wm mt) (gc_rm d rc rs)).room s m (as.map (ga_cz G)).toArray meth c rc rs := ⟨⟨B.exec, B.bytes, hml, hown, fun w hw => hts w (List.mem_cons_of_mem _ hw), hK, hX, hbl, hok, ⟨Nat.le_refl _, Nat.le_refl _⟩, Nat.le_refl _, Nat.le_refl _, hNx.1⟩, hNx, fun h => hnam.trans h⟩
  rw [lg_entry_eq]
  refine K p e _ s m _ below meth c rc rs _ C ?_ s.heap [] _ 0 0 (by omega) (by omega) hP va_S.rf (ga_has_en hn)
  intro pc ls H locs X' n' cells slots v ins hd hfit hv hE hP' hS' h1 h2
  refine W.widen h1 h2 ?_
  rcases hfit with ⟨-, rfl, rfl⟩ | ⟨w, -, -⟩ | ⟨w, -, -⟩ | ⟨Cn, w, -, -⟩
  rotate_left
  · rw [hret] at w; cases w
  · rw [hret] at w; cases w
  · rw [hret] at w; cases w
  exact W.vret B.exec B.bytes (hr.trans hret) (fun t ht hW => ⟨⟨rfl, X', n', hE, by rw [ht]; exact hP'⟩, hS'.F ht⟩) hS'.2.2 hd
section MK2
variable {G : ga_G} {d : Nat} {mt : ga_M} {pc : Nat} {lst : List (Option ga_V)} {st : List ga_V} {X : Nat → va_E} {n rc rs : Nat} {E : (Nat → va_E) → Nat → Prop}
/-- a final field is written -/
theorem gc_putF {idx ci j k : Nat} {ty : FieldType} {fs : List Value} {v : ga_V} (hd : decode mt.2.1 pc = .ok (.putfield idx, 3)) (hf : gc_FP mt.1.cls idx ci j true ty) (hin2 : mt.1.name = "<init>") (ho : X k = .inr (ci, fs)) (hk : k < n) (hl : j < fs.length) (hv : narrow ty (ga_cz G v) = ga_cz G v ∧ fits ty (ga_cz G v) = true)
    (K : gc_W G d mt (pc + 3) lst st (fun q => if q = k then .inr (ci, fs.set j (ga_cz G v)) else X q) n rc rs E) : gc_W G d mt pc lst (v :: .inr k :: st) X n rc rs E := by
  intro p e R s m args below meth c MC MS Q C hr H locs ls cells slots hc hs hP hS hL
  obtain ⟨T, N, tyf, hcl, hjN, hin, hlink, hdecl, hty, hnm, hfin, hpar⟩ := hf
  obtain ⟨hx, hb, hm, hown, hts, hK, hX, hbl, hok, hroom, hMC, hMS, hNx⟩ := C.1
  have hD := gc_apart hok X hP.2.2
  have he := gc_ws_at G X hk
  rw [ho] at he
  have hap := va_apart (own := mt.1.cls) hts hin tyf hty hnm hK hcl
  obtain ⟨r, h1, cell, q1, q2, q3, q4⟩ := hP.1 k _ he
  have hr0 : r = (mt.1.cls, T, N) := Option.some.inj (h1.symm.trans hcl)
  subst hr0
  obtain ⟨hS0, hfc, kC, hkC, hkind⟩ := hK.1 ci _ hcl
  obtain ⟨cf, kf, fi, f, hi, hsl⟩ := hS0 j hjN
  have hlay := hts _ (hin _ (u_in_lay hjN))
  unfold u_lay at hlay
  rw [if_pos hfin] at hlay
  have hst := (u_facts hfc hkC (u_lays hts hin hjN) hi).1
  have hcf : m.cls = cf := by
    obtain ⟨_, _, c', _, _, _, -, -, hf', -, -, -, hown2, -⟩ := Cond.laysFinal_spec hlay
    have e1 : c' = cf := by have := hi.symm.trans hf'; simp at this; exact this.1.symm
    rw [hdecl] at hown2
    rw [← e1]; exact Option.some.inj (hown.symm.trans hown2)
  have h6 := u_fits hfc hkC hkind (Or.inr hlay) hi hpar hv.1 hv.2
  refine W.putFinK hx hb hown (hts _ hlink) (by rw [hdecl] at hi; exact hi) hst hcf (C.2.2 hin2) (by rw [q2]; exact h6) q1 q3 (by rw [hsl]; exact k2_hasslot (q4 j hjN)) rfl rfl hd fun H1 e1 e2 e3 => ?_
  rw [hsl] at e1 ⊢
  have hP1 := hP.1.set (e := .inr (ci, fs.set j (ga_cz G v))) (H1 := H1) hD he ⟨_, hcl, t_OB.to (V := updV (vp_V fs) j (ga_cz G v)) ⟨_, e1, q2, q3, t_set q4 hap hjN (ga_cz G v)⟩ (fun i _ => vp_updV_set hl (ga_cz G v) i)⟩ e3
  rw [gc_set (X' := fun q => if q = k then .inr (ci, fs.set j (ga_cz G v)) else X q) hk (if_pos rfl) (fun q _ hq => if_neg hq)] at hP1
  exact K p e R s m args below meth c MC MS Q C hr H1 _ ls cells slots hc hs ⟨hP1, fun h => by rw [e2]; exact hP.2.1 h, hP.2.2⟩ (hS.put e2 e3 (hD.2 k _ he)) hL
/-- a field that isn't final is written -/
theorem gc_putI {idx ci j k : Nat} {ty : FieldType} {fs : List Value} {v : ga_V} (hd : decode mt.2.1 pc = .ok (.putfield idx, 3)) (hf : gc_FP mt.1.cls idx ci j false ty) (ho : X k = .inr (ci, fs)) (hk : k < n) (hl : j < fs.length) (hv : narrow ty (ga_cz G v) = ga_cz G v ∧ fits ty (ga_cz G v) = true)
    (K : gc_W G d mt (pc + 3) lst st (fun q => if q = k then .inr (ci, fs.set j (ga_cz G v)) else X q) n rc rs E) : gc_W G d mt pc lst (v :: .inr k :: st) X n rc rs E := by
  intro p e R s m args below meth c MC MS Q C hr H locs ls cells slots hc hs hP hS hL
  obtain ⟨T, N, tyf, hcl, hjN, hin, hlink, hdecl, hty, hnm, hfin, hpar⟩ := hf
  obtain ⟨hx, hb, hm, hown, hts, hK, hX, hbl, hok, hroom, hMC, hMS, hNx⟩ := C.1
  have hD := gc_apart hok X hP.2.2
  have he := gc_ws_at G X hk
  rw [ho] at he
  have hap := va_apart (own := mt.1.cls) hts hin tyf hty hnm hK hcl
  obtain ⟨r, h1, cell, q1, q2, q3, q4⟩ := hP.1 k _ he
  have hr0 : r = (mt.1.cls, T, N) := Option.some.inj (h1.symm.trans hcl)
  subst hr0
  obtain ⟨hS0, hfc, kC, hkC, hkind⟩ := hK.1 ci _ hcl
  obtain ⟨cf, kf, fi, f, hi, hsl⟩ := hS0 j hjN
  have hlay := hts _ (hin _ (u_in_lay hjN))
  unfold u_lay at hlay
  rw [if_neg (by rw [hfin]; decide)] at hlay
  have hst := (u_facts hfc hkC (u_lays hts hin hjN) hi).1
  have h6 := u_store hfc hkC hkind hlay hi hpar hv.1 hv.2
  refine W.putK hx hb (f := f) ⟨hown, hts _ hlink, ⟨_, _, _, by rw [hdecl] at hi; exact hi⟩, hst⟩ (by rw [q2]; exact h6) q1 q3 (by rw [hsl]; exact k2_hasslot (q4 j hjN)) rfl rfl hd fun H1 e1 e2 e3 => ?_
  rw [hsl] at e1 ⊢
  have hP1 := hP.1.set (e := .inr (ci, fs.set j (ga_cz G v))) (H1 := H1) hD he ⟨_, hcl, t_OB.to (V := updV (vp_V fs) j (ga_cz G v)) ⟨_, e1, q2, q3, t_set q4 hap hjN (ga_cz G v)⟩ (fun i _ => vp_updV_set hl (ga_cz G v) i)⟩ e3
  rw [gc_set (X' := fun q => if q = k then .inr (ci, fs.set j (ga_cz G v)) else X q) hk (if_pos rfl) (fun q _ hq => if_neg hq)] at hP1
  exact K p e R s m args below meth c MC MS Q C hr H1 _ ls cells slots hc hs ⟨hP1, fun h => by rw [e2]; exact hP.2.1 h, hP.2.2⟩ (hS.put e2 e3 (hD.2 k _ he)) hL
/-- a field is read -/
theorem gc_get {idx ci j k : Nat} {ty : FieldType} {fin : Bool} {fs : List Value} {v : ga_V} (hd : decode mt.2.1 pc = .ok (.getfield idx, 3)) (hf : gc_FP mt.1.cls idx ci j fin ty) (ho : X k = .inr (ci, fs)) (hk : k < n) (hv : fs[j]? = some (ga_cz G v)) (K : gc_W G d mt (pc + 3) lst (v :: st) X n rc rs E) : gc_W G d mt pc lst (.inr k :: st) X n rc rs E := by
  intro p e R s m args below meth c MC MS Q C hr H locs ls cells slots hc hs hP hS hL
  obtain ⟨T, N, tyf, hcl, hjN, hin, hlink, hdecl, hty, hnm, hfin, hpar⟩ := hf
  obtain ⟨hx, hb, hm, hown, hts, hK, hX, hbl, hok, hroom, hMC, hMS, hNx⟩ := C.1
  have he := gc_ws_at G X hk
  rw [ho] at he
  exact va_get hx hb (ref := mt.1.cls) hts hin hown hK hP.1 k he hcl j hjN (hts _ hlink) (fun x hx => by rw [hdecl] at hx; exact hx) hv hd (K p e R s m args below meth c MC MS Q C hr H locs ls cells slots hc hs hP hS hL)
theorem gc_alen {k t len : Nat} {a : (Nat → Int32) ⊕ (Nat → Int64) ⊕ (Nat → UInt32) ⊕ (Nat → UInt64) ⊕ (Nat → Option Nat)} (hd : decode mt.2.1 pc = .ok (.arraylength, 1)) (ho : X k = .inl (ga_cy G t, len, a)) (ht : t < 4) (hk : k < n) (K : gc_W G d mt (pc + 1) lst (.inl (len : Int) :: st) X n rc rs E) : gc_W G d mt pc lst (.inr k :: st) X n rc rs E := by
  intro p e R s m args below meth c MC MS Q C hr H locs ls cells slots hc hs hP hS hL
  have he := gc_ws_at G X hk
  rw [ho] at he
  have ht2 : ∃ ty, (ga_ty G)[t]? = some (ga_cy G t, ty) := by
    rcases (show t = 0 ∨ t = 1 ∨ t = 2 ∨ t = 3 by omega) with rfl | rfl | rfl | rfl <;> exact ⟨_, rfl⟩
  obtain ⟨ty, hty⟩ := ht2
  exact va_alen C.1.1 C.1.2.1 C.1.2.2.2.2.2.1 hP.1 k t he hty rfl hd (K p e R s m args below meth c MC MS Q C hr H locs ls cells slots hc hs hP hS hL)
theorem gc_iast {k len : Nat} {f : Nat → Int32} {i : Nat} {z : Int} (hd : decode mt.2.1 pc = .ok (.iastore, 1)) (ho : X k = .inl (ga_cy G 0, len, .inl f)) (hk : k < n) (hi : i < len) (hlen : len < 100000)
    (K : gc_W G d mt (pc + 1) lst st (fun q => if q = k then .inl (ga_cy G 0, len, .inl (upd f i (Int32.ofInt z))) else X q) n rc rs E) : gc_W G d mt pc lst (.inl z :: .inl (i : Int) :: .inr k :: st) X n rc rs E := by
  intro p e R s m args below meth c MC MS Q C hr H locs ls cells slots hc hs hP hS hL
  obtain ⟨hx, hb, hm, hown, hts, hK, hX, hbl, hok, hroom, hMC, hMS, hNx⟩ := C.1
  have hD := gc_apart hok X hP.2.2
  have he := gc_ws_at G X hk
  rw [ho] at he
  have hin : vp_in (Int32.ofInt (i : Int)) len := ga_in (by omega) (by omega) (by omega)
  have hNN : (Int32.ofInt (i : Int)).toNatClampNeg = i := by rw [ga_nat ⟨by omega, by omega⟩]; omega
  refine W.iast hx hb (hP.1 k _ he) ((hK.2 0 _ rfl).1 len (fun j => .int (f j))) (fun q => by cases q) (by show ¬ (_ ∨ (arrV _ _ _).slots.size ≤ _); rw [arrV_size]; exact hin) rfl rfl hd fun H1 e1 z1 o1 => ?_
  have hP1 := hP.1.set (e := .inl (ga_cy G 0, len, .inl (upd f i (Int32.ofInt z)))) hD he (by
    show H1[ga_ad G k]? = some (vp_cell _ _)
    rw [e1, vp_cell_i, vp_cell_i, arrV_store, hNN]
    congr 2
    funext q
    by_cases hq : q = i
    · subst hq
      simp [updV, upd]
    · simp [updV, upd, hq]) o1
  rw [gc_set (X' := fun q => if q = k then .inl (ga_cy G 0, len, .inl (upd f i (Int32.ofInt z))) else X q) hk (if_pos rfl) (fun q _ hq => if_neg hq)] at hP1
  exact K p e R s m args below meth c MC MS Q C hr H1 _ ls cells slots hc hs ⟨hP1, fun h => by rw [z1]; exact hP.2.1 h, hP.2.2⟩ (hS.put z1 o1 (hD.2 k _ he)) hL
/-- the array of states is made -/
theorem gc_anew {idx len : Nat} (hd : decode mt.2.1 pc = .ok (.anewarray idx, 3)) (hlk : Cond.classLink mt.1.cls idx "GainTables$State" ∈ ga_T) (hlen : len < 100000) (hn : n < 348)
    (K : gc_W G d mt (pc + 3) lst (.inr n :: st) (fun q => if q = n then .inl (ga_cy G 3, len, .inr (.inr (.inr (.inr (fun _ => none))))) else X q) (n + 1) rc rs E) : gc_W G d mt pc lst (.inl (len : Int) :: st) X n (rc + 1) (rs + len) E := by
  intro p e R s m args below meth c MC MS Q C hr H locs ls cells slots hc hs hP hS hL
  obtain ⟨hx, hb, hm, hown, hts, hK, hX, hbl, hok, hroom, hMC, hMS, hNx⟩ := C.1
  have hz : H.size = ga_ad G n := (hP.2.1 hn).trans (hok.1 n hn).symm
  have hnn : ¬ Int32.ofInt (len : Int) < 0 := fun h => by
    have := (ga_lt (a := (len : Int)) (b := 0) ⟨by omega, by omega⟩ ⟨by omega, by omega⟩).mp h
    omega
  have hNN : (Int32.ofInt (len : Int)).toNatClampNeg = len := by rw [ga_nat ⟨by omega, by omega⟩]; omega
  refine W.anew hx hb hown (hts _ hlk) (va_AO.use C.2.1.2.2.2.2.2.2) rfl hd rfl hnn (by rw [hNN]; omega) (by omega) (by rw [hNN]; omega) fun cA kA comp f1 f2 f3 f4 => ?_
  rw [hNN]
  generalize hH1 : H.push ({ cls := cA, slots := Array.replicate len .null, vm := .none } : Cell) = H1
  have z1 : H1.size = H.size + 1 := by rw [← hH1, Array.size_push]
  have e1 : H1[H.size]? = some (arrV cA len (fun _ => .null)) := by rw [← hH1, Array.getElem?_push_size, ← arrV_new]
  have o1 : ∀ q : Nat, q < H.size → H1[q]? = H[q]? := fun q hq => by rw [← hH1, Array.getElem?_push, if_neg (Nat.ne_of_lt hq)]
  have ec : cA = ga_cy G 3 := by
    obtain ⟨kA', comp', -, -, -, h4⟩ := (hK.2 3 (ga_cy G 3, .object "GainTables$State") rfl).2
    exact Option.some.inj (f1.symm.trans h4)
  subst ec
  have hk : ∀ (k : Nat) (x : Nat × va_E), (gc_ws G X n)[k]? = some x → H1[x.1]? = H[x.1]? := fun k x hx => o1 x.1 ((hP.1 k x hx).lt)
  have hP1 : va_P (ga_D G) ga_cl (gc_ws G X n ++ [(ga_ad G n, .inl (ga_cy G 3, len, .inr (.inr (.inr (.inr (fun _ => none))))))]) H1 := (hP.1.kept hk).app (fun k x hx => by
    have h0 : k < 1 := (List.getElem?_eq_some_iff.mp hx).1
    rw [show k = 0 by omega] at hx
    cases hx
    show H1[ga_ad G n]? = some (vp_cell _ _)
    rw [← hz, vp_cell_q]
    exact e1)
  rw [gc_push (X' := fun q => if q = n then .inl (ga_cy G 3, len, .inr (.inr (.inr (.inr (fun _ => none))))) else X q) (if_pos rfl) (fun q hq => if_neg (by omega))] at hP1
  show W p (ga_l G) e R s m args below meth c H1 locs (cells + 1) (slots + len) Q (F0 m (pc + 3) ls (.ref H.size :: st.map (ga_cz G)))
  rw [hz]
  exact K p e R s m args below meth c MC MS Q C hr H1 locs ls (cells + 1) (slots + len) (by omega) (by omega) ⟨hP1, fun h => by rw [z1, hz, hok.1 n hn]; omega, by omega⟩ ⟨Nat.le_trans hS.1 (by omega), fun x h1 h2 => (o1 x (Nat.lt_of_lt_of_le h1 hS.1)).trans (hS.2.1 x h1 h2), hS.2.2⟩ hL
/-- a state is put into the array -/
theorem gc_aast {k v len i : Nat} {f : Nat → Option Nat} {vs : List Value} (hd : decode mt.2.1 pc = .ok (.aastore, 1)) (ho : X k = .inl (ga_cy G 3, len, .inr (.inr (.inr (.inr f))))) (hv : X v = .inr (4, vs)) (hk : k < n) (hvn : v < n) (hi : i < len) (hlen : len < 100000)
    (K : gc_W G d mt (pc + 1) lst st (fun q => if q = k then .inl (ga_cy G 3, len, .inr (.inr (.inr (.inr (va_up f i (some (ga_ad G v))))))) else X q) n rc rs E) : gc_W G d mt pc lst (.inr v :: .inl (i : Int) :: .inr k :: st) X n rc rs E := by
  intro p e R s m args below meth c MC MS Q C hr H locs ls cells slots hc hs hP hS hL
  obtain ⟨hx, hb, hm, hown, hts, hK, hX, hbl, hok, hroom, hMC, hMS, hNx⟩ := C.1
  have hD := gc_apart hok X hP.2.2
  have he := gc_ws_at G X hk
  rw [ho] at he
  have hev := gc_ws_at G X hvn
  rw [hv] at hev
  have hcl : ga_cl[4]? = some (R_State, T_State, 15) := rfl
  have hNN : (Int32.ofInt (i : Int)).toNatClampNeg = i := by rw [ga_nat ⟨by omega, by omega⟩]; omega
  have h0 : ¬ Int32.ofInt (i : Int) < 0 := fun h => by
    have := (ga_lt (a := (i : Int)) (b := 0) ⟨by omega, by omega⟩ ⟨by omega, by omega⟩).mp h
    omega
  obtain ⟨r', hr', cellV, g1, g2, g3, -⟩ := hP.1 v _ hev
  have hcls := (hK.1 4 _ hcl).2
  obtain ⟨kA, comp, k1, k2, k3, -⟩ := (hK.2 3 (ga_cy G 3, .object "GainTables$State") rfl).2
  have hcomp : comp = (ga_D G).1 4 := Option.some.inj (k3.symm.trans hcls.1)
  subst hcomp
  obtain ⟨kC, hkC, -⟩ := hcls.2
  refine W.aast hx hb (hP.1 k _ he) (fun q h => by cases h) (fun h => by cases h) k1 k2 rfl hkC ⟨h0, by show _ < (arrV _ _ _).slots.size; rw [arrV_size, hNN]; exact hi⟩ g1 (fun q h => by rw [g3] at h; cases h) (by rw [g2]; exact hkC) (by rw [g2]; exact va_assign hcls) rfl rfl hd fun H1 e1 z1 o1 => ?_
  have hP1 := hP.1.set (e := .inl (ga_cy G 3, len, .inr (.inr (.inr (.inr (va_up f i (some (ga_ad G v)))))))) (H1 := H1) hD he (by
    show H1[ga_ad G k]? = some (vp_cell _ _)
    rw [e1, vp_cell_q, vp_cell_q, arrV_store, hNN]
    congr 2
    funext q
    by_cases hq : q = i
    · subst hq
      simp [updV, va_up, va_rf]
    · simp [updV, va_up, hq]) o1
  rw [gc_set (X' := fun q => if q = k then .inl (ga_cy G 3, len, .inr (.inr (.inr (.inr (va_up f i (some (ga_ad G v))))))) else X q) hk (if_pos rfl) (fun q _ hq => if_neg hq)] at hP1
  exact K p e R s m args below meth c MC MS Q C hr H1 _ ls cells slots hc hs ⟨hP1, fun h => by rw [z1]; exact hP.2.1 h, hP.2.2⟩ (hS.put z1 o1 (hD.2 k _ he)) hL
/-- behind any call -/
theorem gc_back {p : Program} {e : Env} {R : Room} {s : State} {m : MethodId} {args : Array Value} {below : List Frame} {meth : Method} {c : Code} {cells slots MC MS rc2 rs2 : Nat} {Q : State → Prop} {H : Heap} {locs : List Loc} {ls : Array Slot} {st0 : List Value} {E' : (Nat → va_E) → Nat → Prop} {a : Array Value}
    (C : gc_Ctx G d mt p R s m args meth c MC MS) (hR : gc_Ret G mt E p e R s m args below meth c MC MS Q) (h1 : cells + (rc2 + rc) ≤ MC) (h2 : slots + (rs2 + rs) ≤ MS) (hS : va_S (ga_A G) s.heap H locs) (hL : ga_has G mt.2.2.1 ls lst)
    (hr : va_Run p (ga_l G) e R s m args below meth c H locs cells slots rc2 rs2 (F0 m pc ls st0) (st.map (ga_cz G)) (gc_Qc G E' a) (ga_A G)) (K : ∀ X' n', E' X' n' → gc_W G d mt (pc + 3) lst st X' n' rc rs E) : W p (ga_l G) e R s m args below meth c H locs cells slots Q (F0 m pc ls st0) := by
  intro T hT X0
  obtain ⟨v, st₀, t, T', L, h0, X', hL', e1, e2, ⟨⟨hv, X1, n1, hE, hP'⟩, hz, hk⟩, stp⟩ := hr T hT X0
  cases hv
  rw [h0] at hz hk
  have hS1 : va_S (ga_A G) s.heap T'.heap (locs ++ L) := ⟨Nat.le_trans hS.1 (by rw [e1]; exact hz), fun q h1 h2 => by rw [e1, hk q (Nat.lt_of_lt_of_le h1 hS.1) h2]; exact hS.2.1 q h1 h2, fun q hq => by
      rcases List.mem_append.mp hq with h | h
      · exact hS.2.2 q h
      · exact hL' q h⟩
  obtain ⟨t2, a1, b1⟩ := K X1 n1 hE p e R s m args below meth c MC MS Q C hR T'.heap (locs ++ L) ls (cells + rc2) (slots + rs2) (by omega) (by omega) (by rw [e1]; exact hP') hS1 hL T' rfl X'
  exact ⟨t2, stp t2 a1, b1⟩
/-- a constructor is called -/
theorem gc_invI {d' idx k rc2 rs2 : Nat} {mt' : ga_M} (hd : decode mt.2.1 pc = .ok (.invokespecial idx, 3)) (hl : gc_LI mt.1.cls idx mt') (hn2 : 1 ≤ mt'.2.2.1) (hrs : st.length ≤ 8) (hdd : d' + 1 = d)
    (K : gc_W G d' mt' 0 (ga_en mt'.2.2.1 [.inr k]) [] X n rc2 rs2 (fun X' n' => gc_W G d mt (pc + 3) lst st X' n' rc rs E)) : gc_W G d mt pc lst (.inr k :: st) X n (rc2 + rc) (rs2 + rs) E := by
  intro p e R s m args below meth c MC MS Q C hr H locs ls cells slots hc hs hP hS hL
  subst hdd
  obtain ⟨hin, hnam, him, hret, hpar, hlk⟩ := hl
  obtain ⟨hx, hb, hm, hown, hts, hK, hX, hbl, hok, hroom, hMC, hMS, hNx0⟩ := C.1
  have hNx := C.2.1
  have hM := gc_met (d := d') hin hret hok (as := [.inr k]) (by simpa using hn2) K
  have hloc : 8 + (mt'.2.2.1 + 11) + 43 * d' ≤ R.locals := by
    have h1 := hroom.2
    have h2 := hin.2.2.1
    omega
  have hpre : PreS s H (va_Pc ([.inr k].map (ga_cz G)) (gc_pre G X n)) (.ref (ga_ad G k) :: []) := ⟨gc_blind G X n _, fun U hU hW => ⟨rfl, by rw [hU]; exact hP, va_K.moved hW.alike hK, by rw [hU]; exact va_X.moved hW.alike (ga_X_kept hok hX hbl hS), by rw [hU]; exact Nat.lt_of_lt_of_le hbl hS.1, hNx.warm hW⟩⟩
  have hw : ga_wm mt' = Cond.code mt'.1 mt'.2.1 mt'.2.2.1 none :: ga_T := by rw [← hret]; rfl
  have hrs' : (((st.map (ga_cz G)).map fun v => v.category).sum) ≤ 8 := by rw [ga_cats]; exact hrs
  rcases hlk with hlk | hlk
  · refine gc_back C hr hc hs hS hL (va_runI (y := mt'.1) (bytes := mt'.2.1) (maxL := mt'.2.2.1) (n := 0) (As := []) ⟨hx, hb, hm, hown, hts⟩ hM (cwI 0 hts (ga_goodM hin) hw rfl rfl (hts _ hin.2.2.2.1) (hts _ hlk) (hts _ him) hnam ⟨hin.2.2.2.2.1, hin.2.2.2.2.2, hpar⟩ ⟨hroom.1, hloc⟩) hpre rfl rfl hL.1 rfl (lv_room hrs') hd ⟨by omega, by omega⟩) (fun X' n' h => h)
  · refine gc_back C hr hc hs hS hL (va_runIN (y := mt'.1) (bytes := mt'.2.1) (maxL := mt'.2.2.1) (n := 0) (host := "GainTables") (As := []) ⟨hx, hb, hm, hown, hts⟩ hM ⟨va_cnB 0 hts (ga_goodM hin) hw rfl rfl (hlk s hNx) (hts _ hin.2.2.2.1) ⟨hin.2.2.2.2.1, hin.2.2.2.2.2, hpar⟩ ⟨hroom.1, hloc⟩, hnam, hts _ him⟩ hpre rfl rfl hL.1 rfl (lv_room hrs') hd ⟨by omega, by omega⟩) (fun X' n' h => h)
/-- a static method is called, that makes nothing -/
theorem gc_invS {d' idx nn : Nat} {mt' : ga_M} {as : List ga_V} {st' : List ga_V} (hd : decode mt.2.1 pc = .ok (.invokestatic idx, 3)) (hl : ga_LS mt.1.cls idx mt' nn) (hret : mt'.2.2.2 = none) (hn : as.length = nn) (hn2 : as.length ≤ mt'.2.2.1) (hrs : st.length ≤ 8) (hdd : d' + 1 = d) (hst : as.reverse ++ st = st')
    (K : gc_W G d' mt' 0 (ga_en mt'.2.2.1 as) [] X n 0 0 (fun X' n' => gc_W G d mt (pc + 3) lst st X' n' rc rs E)) : gc_W G d mt pc lst st' X n rc rs E := by
  intro p e R s m args below meth c MC MS Q C hr H locs ls cells slots hc hs hP hS hL
  subst hdd; subst hst
  obtain ⟨hin, hml, hstt, hpar⟩ := hl
  obtain ⟨hx, hb, hm, hown, hts, hK, hX, hbl, hok, hroom, hMC, hMS, hNx0⟩ := C.1
  have hNx := C.2.1
  have hM := gc_met (d := d') hin hret hok (as := as) hn2 K
  have cw : CallB R s args mt.1.cls idx mt'.1 mt'.2.1 mt'.2.2.1 mt'.2.2.2 (ga_wm mt') (gc_rm d' 0 0) 0 0 nn ∧ (Cond.static mt'.1).before args s = true := by
    refine ⟨callB_of nn hts (ga_goodM hin) rfl rfl rfl (hts _ hin.2.2.2.1) (hts _ hml) ⟨hin.2.2.2.2.1, hin.2.2.2.2.2, hpar⟩ ⟨hroom.1, ?_⟩, hts _ hstt⟩
    have h1 := hroom.2
    have h2 := hin.2.2.1
    show 8 + (mt'.2.2.1 + 11) + 43 * d' ≤ R.locals
    omega
  have hst0 : ((as.reverse ++ st).map (ga_cz G)) = (as.map (ga_cz G)).reverse ++ st.map (ga_cz G) := by simp
  rw [hst0]
  refine gc_back C hr (by omega) (by omega) hS hL (va_runS (As := as.map (ga_cz G)) ⟨hx, hb, hm, hown, hts⟩ hM cw ⟨gc_blind G X n _, fun U hU hW => ⟨rfl, by rw [hU]; exact hP, va_K.moved hW.alike hK, by rw [hU]; exact va_X.moved hW.alike (ga_X_kept hok hX hbl hS), by rw [hU]; exact Nat.lt_of_lt_of_le hbl hS.1, hNx.warm hW⟩⟩ rfl (by simpa using hn) hL.1 rfl (lv_room (by rw [ga_cats]; exact hrs)) hd ⟨by omega, by omega⟩) (fun X' n' h => h)
end MK2
