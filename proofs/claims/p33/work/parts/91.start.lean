/-! THE CLAIM OUT OF ONE WALK OF THE LAW'S BODY. Your part is whole_start (and what it stands on); all else here is the same for every law, but numbers. -/
def R_law : String := "GainTablesLaw"
def lw_P (b : Addr) (xs : List Int32) (args : Array Value) (s : State) : Prop := args = #[.ref b] ∧ s.IntsAt b xs ∧ xs.length ≤ 260 ∧ (Jvm.Cond.and given_1 narrow_1).before args s = true
def lw_Q (_ : Array Value) (s : State) (o : Outcome) (t : State) : Prop := o = .returned (some (.int 1)) ∧ Framed s o t [] 600000 7302249
def lw_Z (below : List Frame) (a : Array Value) (s : State) : State → Prop := fun t => ∃ o, t.status = .running ∧ Ended t below o ∧ lw_Q a s o t
/-- the law's own end, with 1 on the stack, nothing written that was there before, its room as the claim has it -/
theorem lw_ret {p : Program} {l : Launch} {e : Env} {s : State} {m : MethodId} {below : List Frame} {meth : Method} {c : Code} {b : Nat} (hx : p.tables.exec = Jvm.exec) (hb : c.code = code) (hr : meth.sig.returnType = ret) (hlocks : meth.locks = false) {pc : Nat} {H : Heap} {ls : Array Slot} (hdg : decode code pc = .ok (.ireturn, 1)) : W p l e room_1 s m #[Value.ref b] below meth c H [] 600000 7302249 (lw_Z below #[Value.ref b] s) (F0 m pc ls [.int 1]) := by
  intro T hT X
  obtain ⟨fs, hret, hrun, hended, hW, hframe⟩ := X.leave (v := some (.int 1)) (hlocks := hlocks) (fun h => by rw [hr] at h; cases h)
  have hmeth' : T.vm.method? m = some meth := X.method'
  refine ⟨T.setFrames fs, ?_, .returned (some (.int 1)), hrun, hended, rfl, ⟨_, rfl⟩, hW, hframe⟩
  jvm_step X.here [X.here.top, hx, hb, hdg, hmeth', hr, ret, narrow_b1]
  (try refine ⟨rfl, ?_⟩); (try refine ⟨rfl, ?_⟩)
  first | (intro acts; rw [hret _ acts rfl rfl rfl]) | rw [hret _ _ rfl rfl rfl]
  exact Steps.refl _
/-- what holds at the law's entry: the machine, the code, the tables' words (any of lw_tbl by 'hts w (by decide +kernel)'), the script of L ints xs at the cell b, what the Statement gives of the start (any of its parts by flat_of_before) -/
def lw_At (p : Program) (s : State) (m : MethodId) (meth : Method) (c : Code) (b L : Nat) (xs : Nat → Int32) : Prop :=
  p.tables.exec = Jvm.exec ∧ c.code = code ∧ meth.sig.returnType = ret ∧ c.maxLocals = 13 ∧ s.vm.findClass R_law = some m.cls ∧ (∀ w ∈ lw_tbl, w.before #[Value.ref b] s = true) ∧ va_X b L xs s s.heap ∧ b < s.heap.size ∧ meth.locks = false ∧ (Jvm.Cond.and given_1 narrow_1).before #[Value.ref b] s = true
-- ===== YOUR PART BEGINS =====
/-- YOUR PART: from the entry, for every script of at most 260 ints, the law comes to its end with true ('hflags': the launch's flags, for a law that throws: no stack traces) -/
theorem whole_start {p : Program} {e : Env} {s : State} {m : MethodId} {below : List Frame} {meth : Method} {c : Code} (l : Launch) (hflags : l.flags = flags0) {b L : Nat} {xs : Nat → Int32} (hL : L ≤ 260) (C0 : lw_At p s m meth c b L xs) : W p l e room_1 s m #[Value.ref b] below meth c s.heap [] 0 0 (lw_Z below #[Value.ref b] s) (entryFrame m ([Value.ref b] : List Value).toArray 13) := by
  obtain ⟨hx, hb, hr, hml, hown, hts, hX, hbl, hlocks, hgv⟩ := C0
  have hT : ∀ w ∈ ga_T, w.before #[Value.ref b] s = true := fun w hw => hts w (List.mem_filter.mp hw).1
  have kn : ∀ (C : String) (T : u_T) (N : Nat), (∀ w ∈ u_ws C T N, w ∈ ga_T) → Cond.instantiable C N ∈ ga_T → ∃ (cC : ClassId) (iS : Nat → Nat), u_Kn s C T N cC iS := fun C T N h1 h2 => u_known hT h1 (hT _ h2)
  obtain ⟨c0, i0, k0⟩ := kn R_Blend T_Blend 4 in_Blend ic_Blend.1
  obtain ⟨c1, i1, k1⟩ := kn R_Borders T_Borders 4 in_Borders ic_Borders.1
  obtain ⟨c2, i2, k2⟩ := kn R_History T_History 3 in_History ic_History.1
  obtain ⟨c3, i3, k3⟩ := kn R_Path T_Path 3 in_Path ic_Path.1
  obtain ⟨c4, i4, k4⟩ := kn R_State T_State 15 in_State ic_State.1
  obtain ⟨c5, i5, k5⟩ := kn R_Table T_Table 4 in_Table ic_Table.1
  obtain ⟨c6, i6, k6⟩ := kn R_Text T_Text 4 in_Text ic_Text.1
  obtain ⟨c7, i7, k7⟩ := kn R_GT T_GT 9 in_GT ic_GT.1
  have ar : ∀ ty, Cond.arrayClass ty ∈ ga_T → ∃ cA, ArrOfT s cA ty ∧ s.vm.findClass ("[" ++ ty.toString) = some cA := fun ty h => by
    obtain ⟨cA, kA, comp, h1, h2, h3⟩ := Cond.arrayClass_spec (hT _ h)
    exact ⟨cA, fun n z => ⟨fun k h => (by cases h), kA, h2, comp, h3⟩, h1⟩
  obtain ⟨y0, a0, f0⟩ := ar .int (ga_mem 63 (by decide +kernel))
  obtain ⟨y1, a1, f1⟩ := ar .boolean (ga_mem 102 (by decide +kernel))
  obtain ⟨y2, a2, f2⟩ := ar .char (ga_mem 201 (by decide +kernel))
  have hAO : (Cond.arrayOver (.object "GainTables$State")).before #[Value.ref b] s = true := hts _ (List.mem_of_getElem? (i := 169) (by decide +kernel))
  obtain ⟨comp, y3, kA, g1, g2, g3, g4, g5⟩ := Cond.arrayOver_spec hAO
  have hNx : gc_Nx s := ⟨trivial, va_Nw.of rfl (hts _ (List.mem_of_getElem? (i := 44) (by decide +kernel))), va_Nw.of rfl (hts _ (List.mem_of_getElem? (i := 87) (by decide +kernel))), va_Nw.of rfl (hts _ (List.mem_of_getElem? (i := 184) (by decide +kernel))), va_Nw.of rfl (hts _ (List.mem_of_getElem? (i := 205) (by decide +kernel))), va_Nw.of rfl (hts _ (List.mem_of_getElem? (i := 208) (by decide +kernel))), va_AO.of hAO⟩
  obtain ⟨G, hG⟩ : ∃ G : ga_G, G = (l, ((fun c => match c with | 0 => c0 | 1 => c1 | 2 => c2 | 3 => c3 | 4 => c4 | 5 => c5 | 6 => c6 | _ => c7), (fun c => match c with | 0 => i0 | 1 => i1 | 2 => i2 | 3 => i3 | 4 => i4 | 5 => i5 | 6 => i6 | _ => i7)), (fun k => if k = 1000 then b else s.heap.size + k), (fun k => match k with | 0 => y0 | 1 => y1 | 2 => y2 | _ => y3), s.heap.size, b, L, xs) := ⟨_, rfl⟩
  have hok : ga_ok G := by
    subst hG
    refine ⟨fun k hk => if_neg (by omega), hbl, ?_⟩
    show (if (1000 : Nat) = 1000 then b else s.heap.size + 1000) = b
    exact if_pos rfl
  have hK : va_K (ga_D G) ga_cl (ga_ty G) s := by
    subst hG
    refine ⟨fun c q hq => ?_, fun k q hq => ?_⟩
    · match c, hq with
      | 0, hq => cases hq; exact k0
      | 1, hq => cases hq; exact k1
      | 2, hq => cases hq; exact k2
      | 3, hq => cases hq; exact k3
      | 4, hq => cases hq; exact k4
      | 5, hq => cases hq; exact k5
      | 6, hq => cases hq; exact k6
      | 7, hq => cases hq; exact k7
      | n + 8, hq => cases hq
    · match k, hq with
      | 0, hq => cases hq; exact ⟨a0, f0⟩
      | 1, hq => cases hq; exact ⟨a1, f1⟩
      | 2, hq => cases hq; exact ⟨a2, f2⟩
      | 3, hq => cases hq; exact ⟨fun n z => ⟨fun k h => (by cases h), kA, g3, comp, g4⟩, kA, comp, g3, g4, g1, g5⟩
      | n + 4, hq => cases hq
  have el : ga_l G = l := by subst hG; rfl
  have eb : ga_ba G = s.heap.size := by subst hG; rfl
  have eX : va_X (ga_b G) (ga_L G) (ga_xs G) s s.heap ∧ ga_b G < s.heap.size ∧ ga_L G = L ∧ ga_b G = b := by
    subst hG
    exact ⟨hX, hbl, rfl, rfl⟩
  have C : gc_Ctx G 7 mt_Law p room_1 s m #[Value.ref b] meth c 600000 7302249 := ⟨⟨hx, hb, hml, hown, hT, hK, eX.1, eX.2.1, hok, ⟨Nat.le_of_ble_eq_true rfl, Nat.le_of_ble_eq_true rfl⟩, Nat.le_refl _, Nat.le_refl _, hNx.1⟩, hNx, fun h => absurd h (by decide)⟩
  have hR : gc_Ret G mt_Law (fun _ _ => True) p e room_1 s m #[Value.ref b] below meth c 600000 7302249 (lw_Z below #[Value.ref b] s) := by
    intro pc ls H locs X n cells slots v ins hd hfit hv _ hP hS h1 h2
    have hvi : v = some (.inl 1) ∧ ins = .ireturn := by
      have hr0 : mt_Law.2.2.2 = some .boolean := rfl
      rcases hfit with ⟨h, -, -⟩ | ⟨h, -, -⟩ | ⟨-, hi, h⟩ | ⟨Cn, h, -, -⟩
      · rw [hr0] at h; cases h
      · rw [hr0] at h; cases h
      · rcases hv with hv | hv
        · rw [hv] at h; rcases h with h | h <;> cases h
        · exact ⟨hv, hi⟩
      · rw [hr0] at h; cases h
    obtain ⟨rfl, rfl⟩ := hvi
    rw [el]
    exact va_forget (fun q hq => by have := hS.2.2 q hq; unfold ga_A at this; rw [eb] at this; exact this) (W.widen h1 h2 (lw_ret hx hb hr hlocks hd))
  have e1 : ([Value.ref b] : List Value) = ([.inr 1000] : List ga_V).map (ga_cz G) := by
    show [Value.ref b] = [Value.ref (ga_ad G 1000)]
    rw [hok.2.2, eX.2.2.2]
  have hP0 : gc_Wd G (fun _ => .inr (0, [])) 0 s.heap := ⟨fun k q hk => (by rw [gc_ws_ge G _ (by omega)] at hk; cases hk), fun _ => (by rw [eb]; rfl), by omega⟩
  rw [lg_entry_eq]
  have hhas := ga_has_en (G := G) (n := 13) (as := [.inr 1000]) (by decide)
  rw [← e1] at hhas
  have K := law_0 (X := fun _ => .inr (0, [])) (G := G) (by rw [eX.2.2.1]; omega) p e room_1 s m #[Value.ref b] below meth c 600000 7302249 _ C hR s.heap [] _ 0 0 (by omega) (by omega) hP0 va_S.rf hhas
  rw [el] at K
  exact K
-- ===== YOUR PART ENDS =====
set_option maxHeartbeats 4000000 in
theorem lw_walk (l : Launch) (hflags : l.flags = flags0) (b : Addr) (xs : List Int32) : MetFree l x (headSpec (Jvm.Cond.code x code maxLocals ret :: tables_1) room_1) (lw_P b xs) (fun _ _ _ _ _ => True) lw_Q := by
  refine MetFree.of_bodyS (code := code) (maxLocals := maxLocals) (ret := ret) (by decide) ?_ ?_
  · intro args s m h hn
    obtain ⟨meth, c, h1, h2, h3, h4, h5, h6, -, -⟩ := Cond.code_spec hn (atoms_spec (ws := Jvm.Cond.code x code maxLocals ret :: tables_1) h _ List.mem_cons_self)
    exact ⟨meth, c, h1, h2, h3, h4, h5, h6⟩
  · intro p e s m args below meth c s₁ B hml0 hP _
    obtain ⟨rfl, hx, hbd, hgv⟩ := hP
    obtain ⟨scr, harrAt, hlist, hof, hsmall⟩ := hx
    obtain ⟨hcb, hkn, -, -⟩ := State.arrayAt?_spec harrAt
    have hown : s.vm.findClass R_law = some m.cls := findClass_of_methodNamed B.named
    have hts0 : ∀ c ∈ (Jvm.Cond.code x code maxLocals ret :: tables_1), c.before #[Value.ref b] s = true := atoms_spec (ws := Jvm.Cond.code x code maxLocals ret :: tables_1) B.pre
    have hts : ∀ w ∈ lw_tbl, w.before #[Value.ref b] s = true := k2_hts_sels lw_privs (fun w hw => hts0 w (List.mem_cons_of_mem _ hw)) lw_privs_ok
    have hml : c.maxLocals = 13 := B.maxLocals_eq (hts0 _ List.mem_cons_self)
    have X₀ : Stand p l e room_1 s m #[Value.ref b] below meth c s₁ [] 0 0 := Stand.of_body B
    have hh0 : s₁.heap = s.heap := by rw [B.state]; rfl
    have hsz : scr.slots.size = xs.length := by rw [← Array.length_toList, hlist, List.length_map]
    have hval : ∀ j : Nat, j < xs.length → scr.slots[j]? = some (.int (xs.getD j 0)) := fun j hj => by
      rw [← Array.getElem?_toList, hlist]
      simp [hj]
    have hbl : b < s.heap.size := (Array.getElem?_eq_some_iff.mp hcb).1
    have hX : va_X b xs.length (fun j => xs.getD j 0) s s.heap := ⟨scr, hcb, hof, hkn, hsz, hval⟩
    have K : W p l e room_1 s m #[Value.ref b] below meth c s₁.heap [] 0 0 (lw_Z below #[Value.ref b] s) (entryFrame m ([Value.ref b] : List Value).toArray 13) := by
      rw [hh0]
      exact whole_start l hflags hbd ⟨B.exec, B.bytes, B.returns, hml, hown, hts, hX, hbl, B.notSynchronized, hgv⟩
    obtain ⟨t, a1, o, b1, b2, b3⟩ := K s₁ rfl X₀
    exact ⟨t, o, a1, b1, b2, b3⟩
theorem lw_pre_spec {args : Array Value} {s : State} (h : (Jvm.Cond.and given_1 narrow_1).before args s = true) (hr : rest_1_c.before args s = true) : ∃ (b : Addr) (xs : List Int32), lw_P b xs args s := by
  have hs := flat_of_before _ h
  have hq := flat_of_before _ hr
  have hc : (Cond.count 1).before args s = true := hs _ (by decide +kernel)
  have harr : (Cond.arrayOf (.arg 0) .int).before args s = true := hs _ (by decide +kernel)
  have hle : (Cond.le (.length (.arg 0)) (.int 260)).before args s = true := hs _ (by decide +kernel)
  have hlen : (Cond.isInt (.length (.arg 0))).before args s = true := hq _ (by decide +kernel)
  have hall : (Cond.all (.arg 0) (.isInt (.elem (.arg 0) (.index 0)))).before args s = true := hq _ (by decide +kernel)
  obtain ⟨b, xs, hb, hx⟩ := State.ints_of_pre rfl harr hlen hall
  have hsm : xs.length < 2 ^ 31 := hx.choose_spec.2.2.2
  have hev : (Term.length (.arg 0)).eval args s none [] s = some (.int xs.length.toInt32) := hx.length_eval hb
  have hv := Cond.le_ints hev (show (Term.int 260).eval args s none [] s = some (.int 260) from rfl)
  have hd : xs.length.toInt32 ≤ 260 := by
    simpa [Cond.before, Cond.holds, hv] using hle
  have hN : xs.length ≤ 260 := (Int32.ofNat_le_ofNat hsm (by decide)).mp (show Int32.ofNat xs.length ≤ Int32.ofNat 260 from hd)
  exact ⟨b, xs, Cond.one_arg hc (show args[0]? = some (.ref b) from hb), hx, hN, h⟩
theorem lw_comes (l : Launch) (hflags : l.flags = flags0) : Comes l x (Jvm.Cond.code x code maxLocals ret :: tables_1) room_1 (fun tb e args s => Calls_1 tb e args s ∧ rest_1 tb e args s ∧ Pre_1 tb e args s)
    (fun _ _ args s o t => lw_Q args s o t) := by
  intro p e ha hc hk s m args below hf hfit hheap happ hpre
  obtain ⟨b, xs, hP⟩ := lw_pre_spec hpre.2.2 hpre.2.1
  obtain ⟨k, o, h1, h2, h3, hQ⟩ := lw_walk l hflags b xs p e ha hc hk s m args below hf ((Spec.applies_iff_loose hf).mp happ).1 hP trivial
  exact ⟨k, o, h1, h2, h3, hQ⟩
theorem lw_frame {s t : State} {o : Outcome} {args : Array Value} (h : Framed s o t [] 600000 7302249) :
    Framed s o t (fieldLocs frame_1_writes args s ++ arrayLocs frame_1_arrays args s ++ staticLocs frame_1_statics s) 600000 7302249 := h
theorem lw_limb (L : Cond) (hL : ∀ (args : Array Value) (s t : State), L.after args s (.returned (some (.int 1))) t = true) :
    ArmFor flags0 classFile x code maxLocals ret World_1 tables_1 room_1 Calls_1 rest_1 Pre_1
      (fun tb e a s o t => postC L tb e a s o t ∧ Framed s o t (fieldLocs frame_1_writes a s ++ arrayLocs frame_1_arrays a s ++ staticLocs frame_1_statics s) 600000 7302249) := by
  intro l hflags _ _ p e ha hc hk s m args below hf hfit hheap happ hpre
  obtain ⟨k, o, h1, h2, h3, rfl, hF⟩ := lw_comes l hflags p e ha hc hk s m args below hf hfit hheap happ hpre
  exact ⟨k, _, h1, h2, h3, hL args s _, lw_frame hF⟩
theorem i_vc : Claimed_1_1 ∧ Claimed_1_2 := ⟨lw_limb limb_1_1 (fun args s t => by simp [limb_1_1, Cond.after, Cond.holds, Cond.value]), lw_limb limb_1_2 (fun args s t => Cond.after_iff.mpr (by
  first | (rw [show limb_1_2 = Cond.eq .result (.int 1) from rfl, Cond.eq_ints (x := 1) (y := 1) rfl rfl]; simp; done) | (simp [limb_1_2, Cond.value, Term.eval]; done)))⟩
