/-! the calculus: fields, arrays, calls -/
def ga_up (I : ga_I) (k j : Nat) (z : Int) : ga_I := fun a b => if a = k ∧ b = j then z else I a b
def ga_cp (I : ga_I) (ks kd sp dp n : Nat) : ga_I := fun a j => if a = kd ∧ dp ≤ j ∧ j < dp + n then I ks (sp + (j - dp)) else I a j
theorem ga_RG_up {I : ga_I} (h : ga_RG I) (k j : Nat) {z : Int} (hz : ga_rg z) : ga_RG (ga_up I k j z) := by
  intro a b
  unfold ga_up
  by_cases e : a = k ∧ b = j
  · rw [if_pos e]; exact hz
  · rw [if_neg e]; exact h a b
theorem ga_RG_cp {I : ga_I} (h : ga_RG I) (ks kd sp dp n : Nat) : ga_RG (ga_cp I ks kd sp dp n) := by
  intro a b
  unfold ga_cp
  by_cases e : a = kd ∧ dp ≤ b ∧ b < dp + n
  · rw [if_pos e]; exact h _ _
  · rw [if_neg e]; exact h a b
abbrev ga_obj (k ci : Nat) (fs : List (Option Nat)) : Prop := k < 348 ∧ ga_sh k = .inl (ci, fs)
abbrev ga_arr (k t n : Nat) : Prop := k < 348 ∧ ga_sh k = .inr (.inl (t, n))
def ga_shn : ga_Sh → Bool
  | .inr (.inl (_, n)) => decide (n < 100000)
  | .inr (.inr ts) => decide (ts.length < 100000)
  | .inl _ => true
theorem ga_shn_all : ga_shl.all ga_shn = true := by decide +kernel
theorem ga_shn_ok (s : ga_Sh) (h : s ∈ ga_shl) : ga_shn s = true := List.all_eq_true.mp ga_shn_all s h
theorem ga_sh_mem {k : Nat} (hk : k < 348) : ga_sh k ∈ ga_shl := by
  have hl : ga_shl.length = 348 := by decide +kernel
  unfold ga_sh
  rw [List.getD_eq_getElem?_getD, List.getElem?_eq_getElem (by omega)]
  exact List.getElem_mem _
theorem ga_arr_n {k t n : Nat} (h : ga_arr k t n) : n < 100000 := by
  have h1 := ga_shn_ok _ (ga_sh_mem h.1)
  rw [h.2] at h1
  exact of_decide_eq_true h1
/-- a field's link: the constant of a class, the field's class and place -/
def ga_FL (own : String) (idx ci j : Nat) : Prop := ∃ (C : String) (T : u_T) (N : Nat), ga_cl[ci]? = some (C, T, N) ∧ j < N ∧ (∀ w ∈ u_ws C T N, w ∈ ga_T) ∧ Cond.fieldLink own idx C (T j).2.1 (T j).2.2.1 ∈ ga_T ∧ (T j).1 = C
/-- a field of ints that may be written -/
def ga_FP (own : String) (idx ci j : Nat) : Prop := ∃ (C : String) (T : u_T) (N : Nat) (ty : Nat → FieldType), ga_cl[ci]? = some (C, T, N) ∧ j < N ∧ (∀ w ∈ u_ws C T N, w ∈ ga_T) ∧ Cond.fieldLink own idx C (T j).2.1 (T j).2.2.1 ∈ ga_T ∧ (T j).1 = C ∧ (∀ k, k < N → parseFieldDescriptor (T k).2.2.1 = some (ty k)) ∧ (∀ a, a < N → ∀ b, b < N → a ≠ b → (T a).2.1 ≠ (T b).2.1) ∧ (T j).2.2.2 = false ∧ parseFieldDescriptor (T j).2.2.1 = some .int
theorem ga_fv_at {G : ga_G} {I : ga_I} {k j : Nat} {fs : List (Option Nat)} {o : Option Nat} (h : fs[j]? = some o) : (ga_fv G I k fs)[j]? = some (ga_f1 G I k j o) := by
  unfold ga_fv
  rw [List.getElem?_mapIdx, h]
  rfl
theorem ga_fv_up {G : ga_G} {I : ga_I} {k j : Nat} {fs : List (Option Nat)} {z : Int} (h : fs[j]? = some none) : ga_fv G (ga_up I k j (ga_wr z)) k fs = (ga_fv G I k fs).set j (.int (Int32.ofInt z)) := by
  apply List.ext_getElem?
  intro q
  unfold ga_fv
  rw [List.getElem?_mapIdx]
  by_cases e : j = q
  · subst e
    have hj := (List.getElem?_eq_some_iff.mp h).1
    rw [List.getElem?_set_self (by rw [List.length_mapIdx]; exact hj), h]
    simp [ga_f1, ga_up, ga_of_wr]
  · rw [List.getElem?_set_ne e, List.getElem?_mapIdx]
    have e2 : ¬ q = j := fun x => e x.symm
    congr 1
    funext o
    cases o with
    | none => simp [ga_f1, ga_up, e2]
    | some r => rfl
theorem ga_ce_other {G : ga_G} {I I' : ga_I} {q : Nat} (s : ga_Sh) (h : ∀ j, I' q j = I q j) : ga_ce G I' q s = ga_ce G I q s := by
  unfold ga_ce
  have h2 : I' q = I q := funext h
  rcases s with ⟨ci, fs⟩ | ⟨t, n⟩ | ts
  · show Sum.inr (ci, ga_fv G I' q fs) = Sum.inr (ci, ga_fv G I q fs)
    have h3 : (fun j o => ga_f1 G I' q j o) = (fun j o => ga_f1 G I q j o) := by
      funext j o
      cases o <;> simp [ga_f1, h]
    unfold ga_fv
    rw [h3]
  · show Sum.inl (ga_cy G t, (n, Sum.inl (fun j => Int32.ofInt (I' q j)))) = Sum.inl (ga_cy G t, (n, Sum.inl (fun j => Int32.ofInt (I q j))))
    rw [h2]
  · rfl
section GH
variable {G : ga_G} {d : Nat} {mt : ga_M} {pc : Nat} {lst : List (Option ga_V)} {st : List ga_V} {I : ga_I} {E : Option ga_V → ga_I → Prop}
theorem gw_getI {idx ci j k : Nat} {fs : List (Option Nat)} (hd : decode mt.2.1 pc = .ok (.getfield idx, 3)) (hf : ga_FL mt.1.cls idx ci j) (ho : ga_obj k ci fs) (hj : fs[j]? = some none) (K : ga_W G d mt (pc + 3) lst (.inl (I k j) :: st) I E) : ga_W G d mt pc lst (.inr k :: st) I E := by
  intro p e R s m args below meth c cells slots Q C hr hI H locs ls hP hS hL
  obtain ⟨Cn, T, N, hc, hjN, hin, hl, hown⟩ := hf
  have he := ga_ws_at G I ho.1
  rw [ho.2] at he
  exact va_get C.1 C.2.1 (ref := Cn) C.2.2.2.2.1 hin C.2.2.2.1 C.2.2.2.2.2.1 hP k he hc j hjN (C.2.2.2.2.1 _ hl) (fun x hx => by rw [hown] at hx; exact hx) (ga_fv_at hj) hd (K p e R s m args below meth c cells slots Q C hr hI H locs ls hP hS hL)
theorem gw_getR {idx ci j k r : Nat} {fs : List (Option Nat)} (hd : decode mt.2.1 pc = .ok (.getfield idx, 3)) (hf : ga_FL mt.1.cls idx ci j) (ho : ga_obj k ci fs) (hj : fs[j]? = some (some r)) (K : ga_W G d mt (pc + 3) lst (.inr r :: st) I E) : ga_W G d mt pc lst (.inr k :: st) I E := by
  intro p e R s m args below meth c cells slots Q C hr hI H locs ls hP hS hL
  obtain ⟨Cn, T, N, hc, hjN, hin, hl, hown⟩ := hf
  have he := ga_ws_at G I ho.1
  rw [ho.2] at he
  exact va_get C.1 C.2.1 (ref := Cn) C.2.2.2.2.1 hin C.2.2.2.1 C.2.2.2.2.2.1 hP k he hc j hjN (C.2.2.2.2.1 _ hl) (fun x hx => by rw [hown] at hx; exact hx) (ga_fv_at hj) hd (K p e R s m args below meth c cells slots Q C hr hI H locs ls hP hS hL)
theorem gw_putI {idx ci j k : Nat} {fs : List (Option Nat)} {z : Int} (hd : decode mt.2.1 pc = .ok (.putfield idx, 3)) (hf : ga_FP mt.1.cls idx ci j) (ho : ga_obj k ci fs) (hj : fs[j]? = some none) (K : ga_W G d mt (pc + 3) lst st (ga_up I k j (ga_wr z)) E) : ga_W G d mt pc lst (.inl z :: .inr k :: st) I E := by
  intro p e R s m args below meth c cells slots Q C hr hI H locs ls hP hS hL
  obtain ⟨Cn, T, N, ty, hc, hjN, hin, hl, hown, hty, hnm, hfin, hpar⟩ := hf
  have he := ga_ws_at G I ho.1
  rw [ho.2] at he
  refine va_put C.1 C.2.1 (ref := Cn) C.2.2.2.2.1 hin ty hty hnm C.2.2.2.1 C.2.2.2.2.2.1 hP (ga_apart C.2.2.2.2.2.2.2.2.1 I) hS k he hc j hjN (C.2.2.2.2.1 _ hl) (fun x hx => by rw [hown] at hx; exact hx) hfin hpar (v := .int (Int32.ofInt z)) rfl rfl (by unfold ga_fv; rw [List.length_mapIdx]; exact (List.getElem?_eq_some_iff.mp hj).1) hd (fun H1 locs1 hP1 hD1 hS1 => ?_)
  rw [ga_ws_set (I' := ga_up I k j (ga_wr z)) ho.1 (by rw [ho.2]; show Sum.inr (ci, ga_fv G (ga_up I k j (ga_wr z)) k fs) = _; rw [ga_fv_up hj]) (fun q hq => ga_ce_other _ (fun b => by simp [ga_up, hq]))] at hP1
  exact K p e R s m args below meth c cells slots Q C hr (ga_RG_up hI k j (ga_rg_wr z)) H1 locs1 ls hP1 hS1 hL
theorem gw_iald {k n : Nat} {i : Int} (hd : decode mt.2.1 pc = .ok (.iaload, 1)) (ha : ga_arr k 0 n) (h0 : 0 ≤ i) (h1 : i < n) (K : ga_W G d mt (pc + 1) lst (.inl (I k i.toNat) :: st) I E) : ga_W G d mt pc lst (.inl i :: .inr k :: st) I E := by
  intro p e R s m args below meth c cells slots Q C hr hI H locs ls hP hS hL
  have he := ga_ws_at G I ha.1
  rw [ha.2] at he
  have hn := ga_arr_n ha
  refine va_iald C.1 C.2.1 C.2.2.2.2.2.1 hP k 0 he rfl (ga_in h0 h1 (by omega)) hd ?_
  rw [ga_nat ⟨by omega, by omega⟩]
  exact K p e R s m args below meth c cells slots Q C hr hI H locs ls hP hS hL
theorem gw_zald {k n : Nat} {i : Int} (hd : decode mt.2.1 pc = .ok (.baload, 1)) (ha : ga_arr k 1 n) (h0 : 0 ≤ i) (h1 : i < n) (K : ga_W G d mt (pc + 1) lst (.inl (I k i.toNat) :: st) I E) : ga_W G d mt pc lst (.inl i :: .inr k :: st) I E := by
  intro p e R s m args below meth c cells slots Q C hr hI H locs ls hP hS hL
  have he := ga_ws_at G I ha.1
  rw [ha.2] at he
  have hn := ga_arr_n ha
  refine va_zald C.1 C.2.1 C.2.2.2.2.2.1 hP k 1 he rfl (ga_in h0 h1 (by omega)) hd ?_
  rw [ga_nat ⟨by omega, by omega⟩]
  exact K p e R s m args below meth c cells slots Q C hr hI H locs ls hP hS hL
theorem gw_aald {k r : Nat} {ts : List Nat} {i : Int} (hd : decode mt.2.1 pc = .ok (.aaload, 1)) (hk : k < 348 ∧ ga_sh k = .inr (.inr ts)) (h0 : 0 ≤ i) (hr0 : ts[i.toNat]? = some r) (K : ga_W G d mt (pc + 1) lst (.inr r :: st) I E) : ga_W G d mt pc lst (.inl i :: .inr k :: st) I E := by
  intro p e R s m args below meth c cells slots Q C hr hI H locs ls hP hS hL
  have he := ga_ws_at G I hk.1
  rw [hk.2] at he
  have hn := ga_shn_ok _ (ga_sh_mem hk.1)
  rw [hk.2] at hn
  have hn : ts.length < 100000 := of_decide_eq_true hn
  have hi := (List.getElem?_eq_some_iff.mp hr0).1
  refine va_aldq C.1 C.2.1 C.2.2.2.2.2.1 hP k 3 he rfl (ga_in h0 (by omega) (by omega)) hd ?_
  rw [ga_nat ⟨by omega, by omega⟩]
  rw [List.getD_eq_getElem?_getD, hr0]
  exact K p e R s m args below meth c cells slots Q C hr hI H locs ls hP hS hL
theorem gw_alen {k t n : Nat} (hd : decode mt.2.1 pc = .ok (.arraylength, 1)) (ha : ga_arr k t n) (ht : t < 3) (K : ga_W G d mt (pc + 1) lst (.inl (n : Int) :: st) I E) : ga_W G d mt pc lst (.inr k :: st) I E := by
  intro p e R s m args below meth c cells slots Q C hr hI H locs ls hP hS hL
  have he := ga_ws_at G I ha.1
  rw [ha.2] at he
  have ht2 : ∃ ty, (ga_ty G)[t]? = some (ga_cy G t, ty) := by
    rcases (show t = 0 ∨ t = 1 ∨ t = 2 by omega) with rfl | rfl | rfl <;> exact ⟨_, rfl⟩
  obtain ⟨ty, hty⟩ := ht2
  exact va_alen C.1 C.2.1 C.2.2.2.2.2.1 hP k t he hty rfl hd (K p e R s m args below meth c cells slots Q C hr hI H locs ls hP hS hL)
theorem ga_arr_up {G : ga_G} {I : ga_I} {k n t : Nat} {i z : Int} {x : Int32} (ha : ga_arr k t n) (h0 : 0 ≤ i) (h1 : i < n) (hx : x = Int32.ofInt z) : (ga_ws G I).set k (ga_ad G k, .inl (ga_cy G t, n, .inl (upd (fun j => Int32.ofInt (I k j)) (Int32.ofInt i).toNatClampNeg x))) = ga_ws G (ga_up I k i.toNat (ga_wr z)) := by
  have hn := ga_arr_n ha
  refine ga_ws_set ha.1 ?_ (fun q hq => ga_ce_other _ (fun b => by simp [ga_up, hq]))
  rw [ha.2, ga_nat ⟨by omega, by omega⟩, hx]
  show Sum.inl (ga_cy G t, (n, Sum.inl (fun j => Int32.ofInt (ga_up I k i.toNat (ga_wr z) k j)))) = _
  congr 4
  funext j
  unfold upd ga_up
  by_cases e : j = i.toNat
  · rw [if_pos ⟨rfl, e⟩, if_pos e, ga_of_wr]
  · rw [if_neg (fun h => e h.2), if_neg e]
theorem gw_iast {k n : Nat} {i z : Int} (hd : decode mt.2.1 pc = .ok (.iastore, 1)) (ha : ga_arr k 0 n) (h0 : 0 ≤ i) (h1 : i < n) (K : ga_W G d mt (pc + 1) lst st (ga_up I k i.toNat (ga_wr z)) E) : ga_W G d mt pc lst (.inl z :: .inl i :: .inr k :: st) I E := by
  intro p e R s m args below meth c cells slots Q C hr hI H locs ls hP hS hL
  have he := ga_ws_at G I ha.1
  rw [ha.2] at he
  have hn := ga_arr_n ha
  refine va_iast C.1 C.2.1 C.2.2.2.2.2.1 hP (ga_apart C.2.2.2.2.2.2.2.2.1 I) hS k 0 he rfl (ga_in h0 h1 (by omega)) hd (fun H1 locs1 hP1 hD1 hS1 => ?_)
  rw [ga_arr_up ha h0 h1 rfl] at hP1
  exact K p e R s m args below meth c cells slots Q C hr (ga_RG_up hI k _ (ga_rg_wr z)) H1 locs1 ls hP1 hS1 hL
theorem gw_zast {k n : Nat} {i z : Int} (hd : decode mt.2.1 pc = .ok (.bastore, 1)) (ha : ga_arr k 1 n) (h0 : 0 ≤ i) (h1 : i < n) (hz : z = 0 ∨ z = 1) (K : ga_W G d mt (pc + 1) lst st (ga_up I k i.toNat (ga_wr z)) E) : ga_W G d mt pc lst (.inl z :: .inl i :: .inr k :: st) I E := by
  intro p e R s m args below meth c cells slots Q C hr hI H locs ls hP hS hL
  have he := ga_ws_at G I ha.1
  rw [ha.2] at he
  have hn := ga_arr_n ha
  refine va_zast C.1 C.2.1 C.2.2.2.2.2.1 hP (ga_apart C.2.2.2.2.2.2.2.2.1 I) hS k 1 he rfl (ga_in h0 h1 (by omega)) hd (fun H1 locs1 hP1 hD1 hS1 => ?_)
  rw [ga_arr_up (z := z) ha h0 h1 (by rcases hz with rfl | rfl <;> decide +kernel)] at hP1
  exact K p e R s m args below meth c cells slots Q C hr (ga_RG_up hI k _ (ga_rg_wr z)) H1 locs1 ls hP1 hS1 hL
theorem gw_cast {k n : Nat} {i z : Int} (hd : decode mt.2.1 pc = .ok (.castore, 1)) (ha : ga_arr k 2 n) (h0 : 0 ≤ i) (h1 : i < n) (hz0 : 0 ≤ z) (hz1 : z < 65536) (K : ga_W G d mt (pc + 1) lst st (ga_up I k i.toNat (ga_wr z)) E) : ga_W G d mt pc lst (.inl z :: .inl i :: .inr k :: st) I E := by
  intro p e R s m args below meth c cells slots Q C hr hI H locs ls hP hS hL
  have he := ga_ws_at G I ha.1
  rw [ha.2] at he
  have hn := ga_arr_n ha
  refine va_cast C.1 C.2.1 C.2.2.2.2.2.1 hP (ga_apart C.2.2.2.2.2.2.2.2.1 I) hS k 2 he rfl (ga_in h0 h1 (by omega)) hd (fun H1 locs1 hP1 hD1 hS1 => ?_)
  obtain ⟨q, rfl⟩ := Int.eq_ofNat_of_zero_le hz0
  have e1 : Int32.ofInt ((q : Nat) : Int) = nI q := rfl
  rw [ga_arr_up (z := ((q : Nat) : Int)) ha h0 h1 (by rw [e1, vp_nar_char]; have := pk_char (nI q); rw [pk_tn (by omega), Nat.mod_eq_of_lt (by omega)] at this; first | exact this | (rw [← this]; rfl))] at hP1
  exact K p e R s m args below meth c cells slots Q C hr (ga_RG_up hI k _ (ga_rg_wr _)) H1 locs1 ls hP1 hS1 hL
end GH
