/-! the making of the cells: fields of an object that is being made -/
def gc_X (G : ga_G) (X0 : Nat → va_E) (k : Nat) (o : va_E) (I : ga_I) : Nat → va_E := fun q => if q < k then X0 q else if q = k then o else ga_ce G I q (ga_sh q)
theorem gc_X_at {G : ga_G} {X0 : Nat → va_E} {k : Nat} {o : va_E} {I : ga_I} : gc_X G X0 k o I k = o := by
  unfold gc_X; rw [if_neg (by omega), if_pos rfl]
theorem gc_X_lt {G : ga_G} {X0 : Nat → va_E} {k : Nat} {o : va_E} {I : ga_I} {q : Nat} (h : q < k) : gc_X G X0 k o I q = X0 q := if_pos h
theorem gc_X_gt {G : ga_G} {X0 : Nat → va_E} {k : Nat} {o : va_E} {I : ga_I} {q : Nat} (h : k < q) : gc_X G X0 k o I q = ga_ce G I q (ga_sh q) := by
  unfold gc_X; rw [if_neg (by omega), if_neg (by omega)]
def gc_AT (G : ga_G) (atype : ArrayType) (t : Nat) : Prop := Cond.arrayClass (newarray.typeOf atype) ∈ ga_T ∧ (ga_ty G)[t]? = some (ga_cy G t, newarray.typeOf atype) ∧ (∀ (U : State) (cA : ClassId), va_RA U cA (newarray.typeOf atype) → U.vm.findClass ("[" ++ (newarray.typeOf atype).toString) = some cA) ∧ defaultValue (newarray.typeOf atype) = .int 0 ∧ componentBytes (newarray.typeOf atype) ≤ 4
theorem gc_ATi (G : ga_G) : gc_AT G .int 0 := ⟨ga_mem 63 (by decide +kernel), rfl, fun U cA h => h, rfl, by decide⟩
theorem gc_ATz (G : ga_G) : gc_AT G .boolean 1 := ⟨ga_mem 102 (by decide +kernel), rfl, fun U cA h => h, rfl, by decide⟩
theorem gc_ATc (G : ga_G) : gc_AT G .char 2 := ⟨ga_mem 201 (by decide +kernel), rfl, fun U cA h => h, rfl, by decide⟩
section MK3
variable {G : ga_G} {d : Nat} {mt : ga_M} {pc : Nat} {lst : List (Option ga_V)} {n rc rs k : Nat} {E : (Nat → va_E) → Nat → Prop} {X0 : Nat → va_E} {I : ga_I} {ci : Nat} {fs : List Value}
/-- aload_0, Object's constructor -/
theorem gc_head {idx : Nat} {X : Nat → va_E} (h0 : decode mt.2.1 0 = .ok (.aload_n 0, 1)) (h1 : decode mt.2.1 1 = .ok (.invokespecial idx, 3)) (hl : Cond.methodLink mt.1.cls idx Lib.objectInit ∈ ga_T) (hdd : 1 ≤ d) (h : lst[0]? = some (some (.inr k))) (K : gc_W G d mt 4 lst [] X n rc rs E) : gc_W G d mt 0 lst [] X n rc rs E :=
  gc_aload_n 0 h0 rfl h (gc_objI h1 hl hdd K)
/-- a field with a new array of numbers -/
theorem gc_fArr {w idx j t len : Nat} {atype : ArrayType} {ty : FieldType} (tgt : Nat) (h0 : decode mt.2.1 pc = .ok (.aload_n 0, 1)) (hl0 : lst[0]? = some (some (.inr k)))
    (hp : ∀ (X : Nat → va_E) (n rc rs : Nat), gc_W G d mt (pc + 1 + w) lst (.inl (len : Int) :: [.inr k]) X n rc rs E → gc_W G d mt (pc + 1) lst [.inr k] X n rc rs E)
    (h2 : decode mt.2.1 (pc + 1 + w) = .ok (.newarray atype, 2)) (hA : gc_AT G atype t) (h3 : decode mt.2.1 (pc + 1 + w + 2) = .ok (.putfield idx, 3)) (hf : gc_FP mt.1.cls idx ci j true ty) (hin2 : mt.1.name = "<init>") (hv : ∀ a : Addr, narrow ty (.ref a) = .ref a ∧ fits ty (.ref a) = true) (hj : j < fs.length)
    (hsh : n < 348 ∧ ga_sh n = .inr (.inl (t, len))) (hlen : len < 100000) (hkn : k < n) (hI : I n = fun _ => 0) (ht : pc + 1 + w + 2 + 3 = tgt)
    (K : gc_W G d mt tgt lst [] (gc_X G X0 k (.inr (ci, fs.set j (.ref (ga_ad G n)))) I) (n + 1) rc rs E) : gc_W G d mt pc lst [] (gc_X G X0 k (.inr (ci, fs)) I) n (rc + 1) (rs + len) E := by
  obtain ⟨a1, a2, a3, a4, a5⟩ := hA
  subst ht
  refine gc_aload_n 0 h0 rfl hl0 (hp _ _ _ _ (gc_newa h2 a1 a2 a3 a4 a5 hlen hsh.1 (gc_putF (v := .inr n) h3 hf hin2 (fs := fs) ?_ (by omega) hj (hv _) (gc_cong (fun q hq => ?_) K))))
  · rw [if_neg (by omega)]; exact gc_X_at
  · by_cases e1 : q = k
    · rw [if_pos e1, e1]; exact gc_X_at.symm
    · rw [if_neg e1]
      by_cases e2 : q = n
      · rw [if_pos e2, e2, gc_X_gt hkn, hsh.2]
        show _ = Sum.inl (ga_cy G t, (len, Sum.inl (fun j => Int32.ofInt (I n j))))
        rw [hI]; rfl
      · rw [if_neg e2]
        unfold gc_X
        by_cases e3 : q < k
        · rw [if_pos e3, if_pos e3]
        · rw [if_neg e3, if_neg e3, if_neg e1, if_neg e1]
/-- a field with a new object -/
theorem gc_fObj {d' idxn idxi idxp j sz ci2 N rc2 rs2 : Nat} {Cn : String} {T : u_T} {fs2 : List Value} {ty : FieldType} {mt' : ga_M} {I' : ga_I} (tyf : Nat → FieldType) (tgt : Nat) (h0 : decode mt.2.1 pc = .ok (.aload_n 0, 1)) (hl0 : lst[0]? = some (some (.inr k)))
    (h1 : decode mt.2.1 (pc + 1) = .ok (.new idxn, 3)) (h2 : decode mt.2.1 (pc + 4) = .ok (.dup, 1)) (h3 : decode mt.2.1 (pc + 5) = .ok (.invokespecial idxi, 3)) (h4 : decode mt.2.1 (pc + 8) = .ok (.putfield idxp, 3))
    (hcl : ga_cl[ci2]? = some (Cn, T, N)) (hin : ∀ w ∈ u_ws Cn T N, w ∈ ga_T) (hty : ∀ k, k < N → parseFieldDescriptor (T k).2.2.1 = some (tyf k)) (hlk : Cond.classLink mt.1.cls idxn Cn ∈ ga_T) (hic : Cond.instantiable Cn N ∈ ga_T ∧ Cond.initialized Cn ∈ ga_T) (hfs : ∀ j, j < N → defaultValue (tyf j) = vp_V fs2 j)
    (hli : gc_LI mt.1.cls idxi mt') (hml : 1 ≤ mt'.2.2.1) (hdd : d' + 1 = d) (hf : gc_FP mt.1.cls idxp ci j true ty) (hin2 : mt.1.name = "<init>") (hv : ∀ a : Addr, narrow ty (.ref a) = .ref a ∧ fits ty (.ref a) = true) (hj : j < fs.length)
    (hn : n < 348) (hsz : 1 ≤ sz) (hkn : k < n) (hI' : ∀ q, q < n → I' q = I q) (ht : pc + 11 = tgt)
    (Hc : ∀ (X1 : Nat → va_E) (E' : (Nat → va_E) → Nat → Prop), E' (gc_X G X1 n (ga_ce G I' n (ga_sh n)) I') (n + sz) → gc_W G d' mt' 0 (ga_en mt'.2.2.1 [.inr n]) [] (gc_X G X1 n (.inr (ci2, fs2)) I) (n + 1) rc2 rs2 E')
    (K : gc_W G d mt tgt lst [] (gc_X G X0 k (.inr (ci, fs.set j (.ref (ga_ad G n)))) I') (n + sz) rc rs E) : gc_W G d mt pc lst [] (gc_X G X0 k (.inr (ci, fs)) I) n (rc2 + rc + 1) (rs2 + rs + N) E := by
  subst ht
  refine gc_aload_n 0 h0 rfl hl0 (gc_new tyf h1 hcl hin hty hlk hic.1 hic.2 hfs hn (gc_dup h2 (gc_invI h3 hli hml (by show 2 ≤ 8; omega) hdd (gc_cong (X' := gc_X G (gc_X G X0 k (.inr (ci, fs)) I) n (.inr (ci2, fs2)) I) (fun q hq => ?_) (Hc _ _ (gc_putF (v := .inr n) h4 hf hin2 (fs := fs) ?_ (by omega) hj (hv _) (gc_cong (fun q hq => ?_) K)))))))
  · by_cases e1 : q = n
    · rw [if_pos e1, e1]; exact gc_X_at.symm
    · rw [if_neg e1]; exact (gc_X_lt (by omega)).symm
  · rw [gc_X_lt hkn]; exact gc_X_at
  · by_cases e1 : q = k
    · rw [if_pos e1, e1]; exact gc_X_at.symm
    · rw [if_neg e1]
      by_cases e2 : q < k
      · rw [gc_X_lt (by omega), gc_X_lt e2, gc_X_lt e2]
      · rw [gc_X_gt (q := q) (k := k) (by omega)]
        by_cases e3 : q < n
        · rw [gc_X_lt e3, gc_X_gt (by omega)]
          exact (ga_ce_other _ (fun j => by rw [hI' q e3])).symm
        · by_cases e4 : q = n
          · rw [e4]; exact gc_X_at
          · exact gc_X_gt (by omega)
/-- Arrays.fill -/
theorem l_fill {r len : Nat} {z : Int} {X : Nat → va_E} {f : Nat → Int32} (hr : r < n) (hlen : len < 100000) (hz : ga_rg z) (h : E (fun q => if q = r then .inl (ga_cy G 0, len, .inl (fun j => if j < len then Int32.ofInt z else f j)) else X q) n) : ∀ (m i : Nat), i + m = len →
    gc_W G d mt_Arr_fill 5 [some (.inr r), some (.inl z), some (.inl (i : Int)), some (.inl (len : Int))] [] (fun q => if q = r then .inl (ga_cy G 0, len, .inl (fun j => if j < i then Int32.ofInt z else f j)) else X q) n rc rs E := by
  intro m
  induction m with
  | zero =>
    intro i hi
    refine gc_iload_n 2 d_Arr_fill_5 rfl rfl (gc_iload_n 3 d_Arr_fill_6 rfl rfl (gc_icmp_ge 20 d_Arr_fill_7 (by decide) ⟨by omega, by omega⟩ ⟨by omega, by omega⟩ (fun _ => ?_) (fun q => by exfalso; omega)))
    rw [show i = len by omega]
    exact gc_return d_Arr_fill_20 rfl h
  | succ m ih =>
    intro i hi
    refine gc_iload_n 2 d_Arr_fill_5 rfl rfl (gc_iload_n 3 d_Arr_fill_6 rfl rfl (gc_icmp_ge 20 d_Arr_fill_7 (by decide) ⟨by omega, by omega⟩ ⟨by omega, by omega⟩ (fun q => by exfalso; omega) (fun _ => ?_)))
    refine gc_aload_n 0 d_Arr_fill_10 rfl rfl (gc_iload_n 2 d_Arr_fill_11 rfl rfl (gc_iload_n 1 d_Arr_fill_12 rfl rfl (gc_iast d_Arr_fill_13 (if_pos rfl) hr (by omega) hlen ?_)))
    refine gc_iinc 2 d_Arr_fill_14 rfl rfl (gc_goto 5 d_Arr_fill_17 (by decide) ?_)
    refine gc_cong (fun q hq => ?_) (ih (i + 1) (by omega))
    by_cases e1 : q = r
    · rw [if_pos e1, if_pos e1]
      congr 4
      funext j
      unfold upd
      by_cases e2 : j = i
      · rw [if_pos e2, if_pos (by omega)]
      · rw [if_neg e2]
        show (if j < i then Int32.ofInt z else f j) = if j < i + 1 then Int32.ofInt z else f j
        by_cases e3 : j < i
        · rw [if_pos e3, if_pos (by omega)]
        · rw [if_neg e3, if_neg (by omega)]
    · rw [if_neg e1, if_neg e1, if_neg e1]
theorem c_fill {r len : Nat} {z : Int} {X : Nat → va_E} {f : Nat → Int32} (ho : X r = .inl (ga_cy G 0, len, .inl f)) (hr : r < n) (hlen : len < 100000) (hz : ga_rg z) (h : E (fun q => if q = r then .inl (ga_cy G 0, len, .inl (fun j => if j < len then Int32.ofInt z else f j)) else X q) n) : gc_W G d mt_Arr_fill 0 (ga_en 4 [.inr r, .inl z]) [] X n 0 0 E := by
  refine gc_iconst d_Arr_fill_0 (gc_istore_n 2 d_Arr_fill_1 rfl (Nat.le_of_ble_eq_true rfl) rfl (gc_aload_n 0 d_Arr_fill_2 rfl rfl (gc_alen d_Arr_fill_3 ho (by omega) hr (gc_istore_n 3 d_Arr_fill_4 rfl (Nat.le_of_ble_eq_true rfl) rfl ?_))))
  refine gc_cong (fun q hq => ?_) (l_fill hr hlen hz h len 0 (by omega))
  by_cases e1 : q = r
  · rw [if_pos e1, e1, ho]
    congr 4
  · rw [if_neg e1]
/-- an array of a field is filled -/
theorem gc_fFill {d' w idxg idxc j r len : Nat} {z : Int} {ty : FieldType} {fin : Bool} (tgt : Nat) (h0 : decode mt.2.1 pc = .ok (.aload_n 0, 1)) (hl0 : lst[0]? = some (some (.inr k))) (h1 : decode mt.2.1 (pc + 1) = .ok (.getfield idxg, 3)) (hf : gc_FP mt.1.cls idxg ci j fin ty) (hfj : fs[j]? = some (.ref (ga_ad G r)))
    (hp : ∀ (X : Nat → va_E) (n rc rs : Nat), gc_W G d mt (pc + 4 + w) lst (.inl z :: [.inr r]) X n rc rs E → gc_W G d mt (pc + 4) lst [.inr r] X n rc rs E) (h2 : decode mt.2.1 (pc + 4 + w) = .ok (.invokestatic idxc, 3)) (hlk : ga_LS mt.1.cls idxc mt_Arr_fill 2) (hdd : d' + 1 = d)
    (hsh : ga_sh r = .inr (.inl (0, len))) (hlen : len < 100000) (hkr : k < r) (hrn : r < n) (hz : ga_rg z) (ht : pc + 4 + w + 3 = tgt)
    (K : gc_W G d mt tgt lst [] (gc_X G X0 k (.inr (ci, fs)) (gx_fi I r len z)) n rc rs E) : gc_W G d mt pc lst [] (gc_X G X0 k (.inr (ci, fs)) I) n rc rs E := by
  subst ht
  have ho : gc_X G X0 k (.inr (ci, fs)) I r = .inl (ga_cy G 0, len, .inl (fun j => Int32.ofInt (I r j))) := by rw [gc_X_gt hkr, hsh]; rfl
  refine gc_aload_n 0 h0 rfl hl0 (gc_get (v := .inr r) h1 hf gc_X_at (by omega) hfj (hp _ _ _ _ (gc_invS (as := [.inr r, .inl z]) (st := []) h2 hlk rfl rfl (Nat.le_of_ble_eq_true rfl) (Nat.le_of_ble_eq_true rfl) hdd rfl (c_fill ho hrn hlen hz (gc_cong (fun q hq => ?_) K)))))
  by_cases e1 : q = r
  · rw [if_pos e1, e1, gc_X_gt hkr, hsh]
    show _ = Sum.inl (ga_cy G 0, (len, Sum.inl (fun j => Int32.ofInt (gx_fi I r len z r j))))
    congr 4
    funext j
    unfold gx_fi
    by_cases e2 : j < len
    · rw [if_pos e2, if_pos ⟨rfl, e2⟩]
    · rw [if_neg e2, if_neg (fun h => e2 h.2)]
  · rw [if_neg e1]
    unfold gc_X
    by_cases e2 : q < k
    · rw [if_pos e2, if_pos e2]
    · rw [if_neg e2, if_neg e2]
      by_cases e3 : q = k
      · rw [if_pos e3, if_pos e3]
      · rw [if_neg e3, if_neg e3]
        exact (ga_ce_other _ (fun j => by unfold gx_fi; rw [if_neg (fun h => e1 h.1)])).symm
end MK3
