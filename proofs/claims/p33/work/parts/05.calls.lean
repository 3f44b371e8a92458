/-! the calculus: calls -/
def ga_rm (d : Nat) : Room := { frames := d, cells := 0, slots := 0, locals := 43 * d }
def ga_wm (mt : ga_M) : List Cond := .code mt.1 mt.2.1 mt.2.2.1 mt.2.2.2 :: ga_T
def ga_In (mt : ga_M) : Prop := Cond.code mt.1 mt.2.1 mt.2.2.1 mt.2.2.2 ∈ ga_T ∧ plainFor mt.1 = true ∧ mt.2.2.1 ≤ 24 ∧ Cond.initialized mt.1.cls ∈ ga_T ∧ (mt.1.cls ≠ "java/lang/invoke/MethodHandle" ∧ mt.1.cls ≠ "java/lang/invoke/VarHandle")
theorem ga_goodT : GoodIn ga_T ga_T := fun w hw => ⟨hw, good_of_word (List.mem_filter.mp hw).2⟩
theorem ga_goodM {mt : ga_M} (h : ga_In mt) : GoodIn ga_T (ga_wm mt) := fun w hw => by
  rcases List.mem_cons.mp hw with rfl | hw
  · exact ga_goodT _ h.1
  · exact ga_goodT _ hw
/-- what a call finds: the world, the classes, the script -/
def ga_pre (G : ga_G) (I : ga_I) (U : State) : Prop := ga_Wd G I U.heap ∧ va_K (ga_D G) ga_cl (ga_ty G) U ∧ va_X (ga_b G) (ga_L G) (ga_xs G) U U.heap ∧ ga_b G < U.heap.size ∧ ga_Nx U
def ga_Qc (G : ga_G) (E : Option ga_V → ga_I → Prop) : Array Value → State → Outcome → State → Prop := fun _ st oc t => (∃ (v : Option ga_V) (I' : ga_I), oc = .returned (v.map (ga_cz G)) ∧ E v I' ∧ ga_RG I' ∧ ga_Wd G I' t.heap) ∧ va_F (ga_A G) st t
def ga_en (n : Nat) (as : List ga_V) : List (Option ga_V) := as.map some ++ List.replicate (n - as.length) none
theorem ga_args_mem (G : ga_G) : ∀ (as : List ga_V) (k i : Nat) (v : ga_V), as[i]? = some v → (k + i, ga_cz G v) ∈ lv_args k (as.map (ga_cz G))
  | [], _, _, _, h => by simp at h
  | a :: as, k, 0, v, h => by
    have e : a = v := by simpa using h
    subst e
    simp [lv_args]
  | a :: as, k, i + 1, v, h => by
    have h2 := ga_args_mem G as (k + 1) i v (by simpa using h)
    have e : k + 1 + i = k + (i + 1) := by omega
    rw [e] at h2
    rw [List.map_cons, lv_args, if_neg (by rw [ga_cat]; decide)]
    exact List.mem_cons_of_mem _ h2
theorem ga_sl_len (G : ga_G) : ∀ as : List ga_V, (lg_sl (as.map (ga_cz G))).length = as.length
  | [] => by simp [lg_sl]
  | a :: as => by
    have h := ga_sl_len G as
    have hc : ¬ (ga_cz G a).category = 2 := by rw [ga_cat]; decide
    show (lg_sl (ga_cz G a :: as.map (ga_cz G))).length = _
    unfold lg_sl at h ⊢
    rw [List.flatMap_cons, List.length_append, h, if_neg hc]
    simp; omega
theorem ga_has_en {G : ga_G} {n : Nat} {as : List ga_V} (h : as.length ≤ n) : ga_has G n ((lg_sl (as.map (ga_cz G)) ++ List.replicate (n - (lg_sl (as.map (ga_cz G))).length) Slot.unset).toArray) (ga_en n as) := by
  have h1 := lv_entry (as.map (ga_cz G)) (n := n) (by rw [ga_sl_len]; exact h)
  refine ⟨h1.1, by simp [ga_en]; omega, h1.2.1, fun i v hv => ?_⟩
  unfold ga_en at hv
  by_cases hi : i < as.length
  · rw [List.getElem?_append_left (by simpa using hi), List.getElem?_map] at hv
    have hv2 : as[i]? = some v := by
      cases e : as[i]? with
      | none => rw [e] at hv; cases hv
      | some w => rw [e] at hv; exact Option.some.inj hv
    have h3 := ga_args_mem G as 0 i v hv2
    rw [Nat.zero_add] at h3
    exact h1.2.2 _ h3
  · rw [List.getElem?_append_right (by simpa using hi)] at hv
    have h4 := (List.mem_of_getElem? hv)
    have h5 := List.eq_of_mem_replicate h4
    cases h5
theorem ga_blind (G : ga_G) (I : ga_I) (av : List Value) : FrameBlind (va_Pc av (ga_pre G I)) := fun a U g mk q => by
  obtain ⟨q0, qP, qK, qX, qb, qn⟩ := q
  exact ⟨q0, qP, va_K.moved (u := U) (U := U.calling g mk a) (Vm.Alike.refl U.vm) qK, va_X.moved (u := U) (U := U.calling g mk a) (Vm.Alike.refl U.vm) qX, qb, trivial⟩
theorem ga_X_kept {G : ga_G} (hok : ga_ok G) {s : State} {H : Heap} {locs : List Loc} (hX : va_X (ga_b G) (ga_L G) (ga_xs G) s s.heap) (hb : ga_b G < s.heap.size) (hS : va_S (ga_A G) s.heap H locs) : va_X (ga_b G) (ga_L G) (ga_xs G) s H :=
  hX.kept (hS.2.1 _ hb (fun h => by have := hok.2.1; unfold ga_A at h; omega))
/-- a contract out of a walk, also of a method of the JDK that is plain -/
theorem ga_ofW {l : Launch} {y : MethodName} {ws ws' : List Cond} {rm : Room} {Pc : Array Value → State → Prop} {Qc : Array Value → State → Outcome → State → Prop} {mc ms : Nat} {free : Addr → Prop} {cc : ByteArray} {maxL : Nat} {ret : Option FieldType}
    (hy : plainFor y = true) (hw : ws = Cond.code y cc maxL ret :: ws')
    (body : ∀ p e s m args below meth c s₁, BodyLoose p l y (headSpec ws rm) cc maxL ret e s m args below meth c s₁ → c.maxLocals = maxL → Pc args s →
      W p l e (headSpec ws rm).room s m args below meth c s.heap [] 0 0 (MQ below Qc args s mc ms free) (entryFrame m args maxL)) : Met l y ws rm Pc Qc mc ms free := by
  refine MetFree.of_bodySF (code := cc) (maxLocals := maxL) (ret := ret) hy ?_ ?_
  · intro args s m h hn
    obtain ⟨meth, c, h1, h2, h3, h4, h5, h6, -, -⟩ := Cond.code_spec hn (atoms_spec (ws := ws) h _ (by rw [hw]; exact List.mem_cons_self))
    exact ⟨meth, c, h1, h2, h3, h4, h5, h6⟩
  · intro p e s m args below meth c s₁ B hml hP _
    have hh0 : s₁.heap = s.heap := by rw [B.state]; rfl
    obtain ⟨t, a1, o, b1, b2, b3⟩ := body p e s m args below meth c s₁ B hml hP s₁ hh0 (Stand.of_body B)
    exact ⟨t, o, a1, b1, b2, ⟨b3.1, b3.2⟩⟩
/-- the contract of a method, out of its walk -/
theorem ga_met {G : ga_G} {d : Nat} {mt : ga_M} {as : List ga_V} {I : ga_I} {E : Option ga_V → ga_I → Prop} (hin : ga_In mt) (hok : ga_ok G) (hI : ga_RG I) (hn : as.length ≤ mt.2.2.1) (K : ga_W G d mt 0 (ga_en mt.2.2.1 as) [] I E) : Met (ga_l G) mt.1 (ga_wm mt) (ga_rm d) (va_Pc (as.map (ga_cz G)) (ga_pre G I)) (ga_Qc G E) 0 0 (ga_A G) := by
  refine ga_ofW (cc := mt.2.1) (maxL := mt.2.2.1) (ret := mt.2.2.2) hin.2.1 rfl ?_
  intro p e s m args below meth c s₁ B hml hv
  obtain ⟨rfl, hP, hK, hX, hbl, hNx⟩ := hv
  have hts := atoms_spec (ws := ga_wm mt) B.pre
  have hown : s.vm.findClass mt.1.cls = some m.cls := findClass_of_methodNamed B.named
  have hlocks := B.notSynchronized
  have hr := B.returns
  have C : ga_Ctx G d mt p (headSpec (ga_wm mt) (ga_rm d)).room s m (as.map (ga_cz G)).toArray c 0 0 := ⟨B.exec, B.bytes, hml, hown, fun w hw => hts w (List.mem_cons_of_mem _ hw), hK, hX, hbl, hok, ⟨Nat.le_refl _, Nat.le_refl _⟩, Nat.zero_le _, Nat.zero_le _, hNx⟩
  rw [lg_entry_eq]
  refine K p e _ s m _ below meth c 0 0 _ C ?_ hI s.heap [] _ hP va_S.rf (ga_has_en hn)
  intro pc ls H locs I' v ins hd hfit hE hI' hP' hS'
  have hq : ∀ t : State, t.heap = H → s.WarmedH t.vm → ga_Qc G E (as.map (ga_cz G)).toArray s (.returned (v.map (ga_cz G))) t := fun t ht hW => ⟨⟨v, I', rfl, hE, hI', by rw [ht]; exact hP'⟩, hS'.F ht⟩
  rcases hfit with ⟨h1, rfl, rfl⟩ | ⟨h1, rfl, z, rfl⟩ | ⟨h1, rfl, hz⟩ | ⟨Cn, h1, rfl, k, rfl⟩
  · exact W.vret B.exec B.bytes (hr.trans h1) hq hS'.2.2 hd
  · exact W.iret B.exec B.bytes (hr.trans h1) hq hS'.2.2 hd
  · rcases hz with rfl | rfl
    · exact W.zret B.exec B.bytes (hr.trans h1) (v := Int32.ofInt 0) (by decide +kernel) hq hS'.2.2 hd
    · exact W.zret B.exec B.bytes (hr.trans h1) (v := Int32.ofInt 1) (by decide +kernel) hq hS'.2.2 hd
  · exact W.aret B.exec B.bytes (hr.trans h1) (Or.inl ⟨_, rfl⟩) (Or.inr ⟨_, rfl⟩) hq hS'.2.2 hd
theorem ga_wNat : Cond.native arraycopyName ∈ ga_T := ga_mem 310 (by decide +kernel)
theorem ga_wStat : Cond.static arraycopyName ∈ ga_T := ga_mem 309 (by decide +kernel)
theorem ga_wIni : Cond.initialized "java/lang/System" ∈ ga_T := ga_mem 21 (by decide +kernel)
section GC
variable {G : ga_G} {d : Nat} {mt : ga_M} {pc : Nat} {lst : List (Option ga_V)} {st : List ga_V} {I : ga_I} {E : Option ga_V → ga_I → Prop}
/-- returns -/
theorem gw_return (hd : decode mt.2.1 pc = .ok (.return_, 1)) (hr : mt.2.2.2 = none) (h : E none I) : ga_W G d mt pc lst [] I E := by
  intro p e R s m args below meth c cells slots Q C hR hI H locs ls hP hS hL
  exact hR pc ls H locs I none _ hd (Or.inl ⟨hr, rfl, rfl⟩) h hI hP hS
theorem gw_ireturn {z : Int} (hd : decode mt.2.1 pc = .ok (.ireturn, 1)) (hr : mt.2.2.2 = some .int) (h : E (some (.inl z)) I) : ga_W G d mt pc lst [.inl z] I E := by
  intro p e R s m args below meth c cells slots Q C hR hI H locs ls hP hS hL
  exact hR pc ls H locs I (some (.inl z)) _ hd (Or.inr (Or.inl ⟨hr, rfl, z, rfl⟩)) h hI hP hS
theorem gw_zreturn {z : Int} (hd : decode mt.2.1 pc = .ok (.ireturn, 1)) (hr : mt.2.2.2 = some .boolean) (hz : z = 0 ∨ z = 1) (h : E (some (.inl z)) I) : ga_W G d mt pc lst [.inl z] I E := by
  intro p e R s m args below meth c cells slots Q C hR hI H locs ls hP hS hL
  exact hR pc ls H locs I (some (.inl z)) _ hd (Or.inr (Or.inr (Or.inl ⟨hr, rfl, by rcases hz with rfl | rfl; exact Or.inl rfl; exact Or.inr rfl⟩))) h hI hP hS
theorem gw_areturn {k : Nat} {Cn : String} (hd : decode mt.2.1 pc = .ok (.areturn, 1)) (hr : mt.2.2.2 = some (.object Cn)) (h : E (some (.inr k)) I) : ga_W G d mt pc lst [.inr k] I E := by
  intro p e R s m args below meth c cells slots Q C hR hI H locs ls hP hS hL
  exact hR pc ls H locs I (some (.inr k)) _ hd (Or.inr (Or.inr (Or.inr ⟨Cn, hr, rfl, k, rfl⟩))) h hI hP hS
/-- behind any call -/
theorem ga_back {p : Program} {e : Env} {R : Room} {s : State} {m : MethodId} {args : Array Value} {below : List Frame} {meth : Method} {c : Code} {cells slots : Nat} {Q : State → Prop} {H : Heap} {locs : List Loc} {ls : Array Slot} {st0 : List Value} {rest : List ga_V} {E' : Option ga_V → ga_I → Prop} {a : Array Value}
    (C : ga_Ctx G d mt p R s m args c cells slots) (hR : ga_Ret G mt E p e R s m args below meth c cells slots Q) (hS : va_S (ga_A G) s.heap H locs) (hL : ga_has G mt.2.2.1 ls lst)
    (hr : va_Run p (ga_l G) e R s m args below meth c H locs cells slots 0 0 (F0 m pc ls st0) (rest.map (ga_cz G)) (ga_Qc G E' a) (ga_A G)) (K : ∀ v I', E' v I' → ga_W G d mt (pc + 3) lst (v.toList ++ rest) I' E) : W p (ga_l G) e R s m args below meth c H locs cells slots Q (F0 m pc ls st0) := by
  intro T hT X
  obtain ⟨v, st₀, t, T', L, h0, X', hL', e1, e2, ⟨⟨r, I', hv, hE, hI', hP'⟩, hz, hk⟩, stp⟩ := hr T hT X
  cases hv
  rw [h0] at hz hk
  have hS1 : va_S (ga_A G) s.heap T'.heap (locs ++ L) := ⟨Nat.le_trans hS.1 (by rw [e1]; exact hz), fun q h1 h2 => by rw [e1, hk q (Nat.lt_of_lt_of_le h1 hS.1) h2]; exact hS.2.1 q h1 h2, fun q hq => by
      rcases List.mem_append.mp hq with h | h
      · exact hS.2.2 q h
      · exact hL' q h⟩
  obtain ⟨t2, a1, b1⟩ := K r I' hE p e R s m args below meth c cells slots Q C hR hI' T'.heap (locs ++ L) ls (by rw [e1]; exact hP') hS1 hL T' rfl X'
  refine ⟨t2, stp t2 ?_, b1⟩
  have e5 : (r.map (ga_cz G)).toList ++ rest.map (ga_cz G) = (r.toList ++ rest).map (ga_cz G) := by
    cases r <;> rfl
  rw [e5]
  exact a1
theorem ga_cats (G : ga_G) (l : List ga_V) : ((l.map (ga_cz G)).map fun v => v.category).sum = l.length := by
  induction l with
  | nil => rfl
  | cons a l ih => simp [ga_cat] at ih ⊢; omega
def ga_LV (own : String) (idx : Nat) (mt : ga_M) (n : Nat) : Prop := ga_In mt ∧ Cond.methodLink own idx mt.1 ∈ ga_T ∧ Cond.instanceMethod mt.1 ∈ ga_T ∧ Cond.selects mt.1.cls mt.1 mt.1 ∈ ga_T ∧ (parseMethodDescriptor mt.1.desc).map (fun d => d.parameters.length) = some n
def ga_LS (own : String) (idx : Nat) (mt : ga_M) (n : Nat) : Prop := ga_In mt ∧ Cond.methodLink own idx mt.1 ∈ ga_T ∧ Cond.static mt.1 ∈ ga_T ∧ (parseMethodDescriptor mt.1.desc).map (fun d => d.parameters.length) = some n
theorem gw_invV {d' idx n k : Nat} {mt' : ga_M} {as rest : List ga_V} (hd : decode mt.2.1 pc = .ok (.invokevirtual idx, 3)) (hl : ga_LV mt.1.cls idx mt' n) (hk : k < 348 ∧ ∃ ci fs q, ga_sh k = .inl (ci, fs) ∧ ga_cl[ci]? = some q ∧ q.1 = mt'.1.cls) (hn : as.length = n) (hn2 : as.length + 1 ≤ mt'.2.2.1) (hrs : rest.length ≤ 8) (hdd : d' + 1 = d) (hst : as.reverse ++ .inr k :: rest = st)
    (K : ga_W G d' mt' 0 (ga_en mt'.2.2.1 (.inr k :: as)) [] I (fun v I' => ga_W G d mt (pc + 3) lst (v.toList ++ rest) I' E)) : ga_W G d mt pc lst st I E := by
  intro p e R s m args below meth c cells slots Q C hR hI H locs ls hP hS hL
  subst hdd; subst hst
  obtain ⟨hin, hml, him, hse, hpar⟩ := hl
  obtain ⟨hk1, ci, fs, q, hsh, hcl, hq⟩ := hk
  have he := ga_ws_at G I hk1
  rw [hsh] at he
  obtain ⟨hx, hb, hm, hown, hts, hK, hX, hbl, hok, hroom, hce, hsl, hNx⟩ := id C
  have hM := ga_met (d := d') hin hok hI (as := .inr k :: as) (by simpa using hn2) K
  have cw : CallW R s args mt.1.cls mt'.1.cls idx mt'.1 mt'.2.1 mt'.2.2.1 mt'.2.2.2 (ga_wm mt') (ga_rm d') 0 0 n := by
    refine ⟨callB_of n hts (ga_goodM hin) rfl rfl rfl (hts _ hin.2.2.2.1) (hts _ hml) ⟨hin.2.2.2.2.1, hin.2.2.2.2.2, hpar⟩ ⟨hroom.1, ?_⟩, hts _ him, hts _ hse⟩
    have h1 := hroom.2
    have h2 := hin.2.2.1
    show 8 + (mt'.2.2.1 + 11) + 43 * d' ≤ R.locals
    omega
  have hrecv : ∃ cellB : Cell, H[ga_ad G k]? = some cellB ∧ cellB.vm.isStatics = false ∧ s.vm.findClass mt'.1.cls = some cellB.cls := by
    have h := va_recv hK hP hcl he
    rw [hq] at h
    exact h
  have hst0 : ((as.reverse ++ .inr k :: rest).map (ga_cz G)) = (as.map (ga_cz G)).reverse ++ .ref (ga_ad G k) :: rest.map (ga_cz G) := by simp [ga_cz]
  rw [hst0]
  refine ga_back C hR hS hL (va_runV (As := as.map (ga_cz G)) ⟨hx, hb, hm, hown, hts⟩ hM cw ⟨ga_blind G I _, hrecv, fun U hU hW => ⟨rfl, by rw [hU]; exact hP, va_K.moved hW.alike hK, by rw [hU]; exact va_X.moved hW.alike (ga_X_kept hok hX hbl hS), by rw [hU]; exact Nat.lt_of_lt_of_le hbl hS.1, trivial⟩⟩ rfl (by simpa using hn) hL.1 rfl (lv_room (by rw [ga_cats]; exact hrs)) hd ⟨hce, hsl⟩) (fun v I' h => h)
theorem gw_invS {d' idx n : Nat} {mt' : ga_M} {as rest : List ga_V} (hd : decode mt.2.1 pc = .ok (.invokestatic idx, 3)) (hl : ga_LS mt.1.cls idx mt' n) (hn : as.length = n) (hn2 : as.length ≤ mt'.2.2.1) (hrs : rest.length ≤ 8) (hdd : d' + 1 = d) (hst : as.reverse ++ rest = st)
    (K : ga_W G d' mt' 0 (ga_en mt'.2.2.1 as) [] I (fun v I' => ga_W G d mt (pc + 3) lst (v.toList ++ rest) I' E)) : ga_W G d mt pc lst st I E := by
  intro p e R s m args below meth c cells slots Q C hR hI H locs ls hP hS hL
  subst hdd; subst hst
  obtain ⟨hin, hml, hstt, hpar⟩ := hl
  obtain ⟨hx, hb, hm, hown, hts, hK, hX, hbl, hok, hroom, hce, hsl, hNx⟩ := id C
  have hM := ga_met (d := d') hin hok hI (as := as) hn2 K
  have cw : CallB R s args mt.1.cls idx mt'.1 mt'.2.1 mt'.2.2.1 mt'.2.2.2 (ga_wm mt') (ga_rm d') 0 0 n ∧ (Cond.static mt'.1).before args s = true := by
    refine ⟨callB_of n hts (ga_goodM hin) rfl rfl rfl (hts _ hin.2.2.2.1) (hts _ hml) ⟨hin.2.2.2.2.1, hin.2.2.2.2.2, hpar⟩ ⟨hroom.1, ?_⟩, hts _ hstt⟩
    have h1 := hroom.2
    have h2 := hin.2.2.1
    show 8 + (mt'.2.2.1 + 11) + 43 * d' ≤ R.locals
    omega
  have hst0 : ((as.reverse ++ rest).map (ga_cz G)) = (as.map (ga_cz G)).reverse ++ rest.map (ga_cz G) := by simp
  rw [hst0]
  refine ga_back C hR hS hL (va_runS (As := as.map (ga_cz G)) ⟨hx, hb, hm, hown, hts⟩ hM cw ⟨ga_blind G I _, fun U hU hW => ⟨rfl, by rw [hU]; exact hP, va_K.moved hW.alike hK, by rw [hU]; exact va_X.moved hW.alike (ga_X_kept hok hX hbl hS), by rw [hU]; exact Nat.lt_of_lt_of_le hbl hS.1, trivial⟩⟩ rfl (by simpa using hn) hL.1 rfl (lv_room (by rw [ga_cats]; exact hrs)) hd ⟨hce, hsl⟩) (fun v I' h => h)
theorem gw_copy {idx ks kd ns nd : Nat} {sp dp n : Int} (hd : decode mt.2.1 pc = .ok (.invokestatic idx, 3)) (hl : Cond.methodLink mt.1.cls idx arraycopyName ∈ ga_T) (hs : ga_arr ks 0 ns) (ht : ga_arr kd 0 nd) (h1 : 0 ≤ sp) (h2 : 0 ≤ dp) (h3 : 0 ≤ n) (h4 : sp + n ≤ ns) (h5 : dp + n ≤ nd) (hdd : 1 ≤ d) (hrs : st.length ≤ 8)
    (K : ga_W G d mt (pc + 3) lst st (ga_cp I ks kd sp.toNat dp.toNat n.toNat) E) : ga_W G d mt pc lst (.inl n :: .inl dp :: .inr kd :: .inl sp :: .inr ks :: st) I E := by
  intro p e R s m args below meth c cells slots Q C hR hI H locs ls hP hS hL
  obtain ⟨hx, hb, hm, hown, hts, hK, hX, hbl, hok, hroom, hce, hsl, hNx⟩ := id C
  have ns' := ga_arr_n hs
  have nd' := ga_arr_n ht
  have e0 := ga_ws_at G I hs.1
  rw [hs.2] at e0
  have e1 := ga_ws_at G I ht.1
  rw [ht.2] at e1
  have nn : ∀ z : Int, 0 ≤ z → z < 2147483648 → ¬ Int32.ofInt z < 0 ∧ (Int32.ofInt z).toNatClampNeg = z.toNat := fun z q1 q2 => by
    refine ⟨fun h => ?_, ga_nat ⟨by omega, by omega⟩⟩
    have := (ga_lt (a := z) (b := 0) ⟨by omega, by omega⟩ ⟨by omega, by omega⟩).mp h
    omega
  obtain ⟨a1, b1⟩ := nn sp h1 (by omega)
  obtain ⟨a2, b2⟩ := nn dp h2 (by omega)
  obtain ⟨a3, b3⟩ := nn n h3 (by omega)
  refine va_copyi hx hb (hm.trans hL.1.symm) hown (hts _ hl) (hts _ ga_wNat) (hts _ ga_wStat) (hts _ ga_wIni) hK hP (ga_apart hok I) hS ks kd 0 0 e0 e1 rfl rfl rfl a1 a2 a3 (by rw [b1, b3]; omega) (by rw [b2, b3]; omega) (fun i hi => rfl) (Nat.le_trans hdd hroom.1) ?_ hd (fun H1 locs1 hP1 hD1 hS1 => ?_)
  · rw [ga_cats]
    have h9 := hroom.2
    have h8 : nativeFrameWords "java/lang/System" "arraycopy" 5 + 11 ≤ 35 := by decide +kernel
    omega
  · rw [b1, b2, b3] at hP1
    rw [ga_ws_set (I' := ga_cp I ks kd sp.toNat dp.toNat n.toNat) ht.1 (by
      rw [ht.2]
      show Sum.inl (ga_cy G 0, (nd, Sum.inl (fun j => Int32.ofInt (ga_cp I ks kd sp.toNat dp.toNat n.toNat kd j)))) = _
      congr 4
      funext j
      unfold va_cpy ga_cp
      by_cases q : dp.toNat ≤ j ∧ j < dp.toNat + n.toNat
      · rw [if_pos ⟨rfl, q⟩, if_pos q]
      · rw [if_neg (fun h => q h.2), if_neg q]) (fun q hq => ga_ce_other _ (fun b => by simp [ga_cp, hq]))] at hP1
    exact K p e R s m args below meth c cells slots Q C hR (ga_RG_cp hI _ _ _ _ _) H1 locs1 ls hP1 hS1 hL
end GC
