/-! Path; Math.floorMod -/
section LN
variable {G : ga_G} {d : Nat} {mt : ga_M} {pc : Nat} {lst : List (Option ga_V)} {st : List ga_V} {I : ga_I} {E : Option ga_V → ga_I → Prop}
theorem gw_ixor {a b : Int} (hd : decode mt.2.1 pc = .ok (.ixor, 1)) (K : ∀ z : Int, Int32.ofInt z = Int32.ofInt a ^^^ Int32.ofInt b → ga_rg z → ga_W G d mt (pc + 1) lst (.inl z :: st) I E) : ga_W G d mt pc lst (.inl b :: .inl a :: st) I E := by
  intro p e R s m args below meth c cells slots Q C hr hI H locs ls hP hS hL
  refine lv_ixor C.1 C.2.1 hd ?_
  have h := K (Int32.ofInt a ^^^ Int32.ofInt b).toInt (ga_of_I _) (ga_rgI _) p e R s m args below meth c cells slots Q C hr hI H locs ls hP hS hL
  have e9 : Int32.ofInt (Int32.ofInt a ^^^ Int32.ofInt b).toInt = Int32.ofInt a ^^^ Int32.ofInt b := ga_of_I _
  rw [show (((.inl (Int32.ofInt a ^^^ Int32.ofInt b).toInt : ga_V) :: st).map (ga_cz G)) = .int (Int32.ofInt (Int32.ofInt a ^^^ Int32.ofInt b).toInt) :: st.map (ga_cz G) from rfl, e9] at h
  exact h
theorem ga_xor_neg {a b z : Int} (ha : ga_rg a) (hb : 0 ≤ b ∧ b < 2147483648) (hz : Int32.ofInt z = Int32.ofInt a ^^^ Int32.ofInt b) (hz2 : ga_rg z) : z < 0 ↔ a < 0 := by
  have h1 : (Int32.ofInt a ^^^ Int32.ofInt b).toBitVec.msb = ((Int32.ofInt a).toBitVec.msb ^^ (Int32.ofInt b).toBitVec.msb) := by
    rw [Int32.toBitVec_xor, BitVec.msb_xor]
  have m : ∀ x : Int32, x.toBitVec.msb = decide (x.toInt < 0) := fun x => by
    rw [BitVec.msb_eq_toInt]; rfl
  rw [← hz, m, m, m, ga_toI hz2, ga_toI ha, ga_toI ⟨by omega, hb.2⟩, show decide (b < 0) = false from decide_eq_false (by omega), Bool.xor_false] at h1
  exact decide_eq_decide.mp h1
end LN
section LO
variable {G : ga_G} {d : Nat} {I : ga_I} {E : Option ga_V → ga_I → Prop}
theorem s_Math_floorMod {a b : Int} (ha : ga_rg a) (hb : 0 < b ∧ b ≤ 1000) (h : E (some (.inl (a % b))) I) : ga_W G d mt_Math_floorMod 0 (ga_en 3 [.inl a, .inl b]) [] I E := by
  have hbr : ga_rg b := ⟨by omega, by omega⟩
  have hlt := Int.tmod_lt_of_pos a hb.1
  have hgt : -b < Int.tmod a b := by
    have := Int.lt_tmod_of_pos a hb.1
    omega
  have hrm : ga_rg (Int.tmod a b) := ⟨by omega, by omega⟩
  have hq : a % b = Int.tmod a b % b := by
    have e := Int.tmod_add_mul_tdiv a b
    conv => lhs; rw [← e]
    rw [Int.add_mul_emod_self_left]
  show ga_W G d mt_Math_floorMod 0 [some (.inl a), some (.inl b), none] [] I E
  refine gw_iload_n 0 d_Math_floorMod_0 rfl rfl ?_
  refine gw_iload_n 1 d_Math_floorMod_1 rfl rfl ?_
  refine gw_irem d_Math_floorMod_2 ha hbr hb.1 ?_
  refine gw_istore_n 2 d_Math_floorMod_3 rfl (Nat.le_of_ble_eq_true rfl) rfl ?_
  refine gw_iload_n 0 d_Math_floorMod_4 rfl rfl ?_
  refine gw_iload_n 1 d_Math_floorMod_5 rfl rfl ?_
  refine gw_ixor d_Math_floorMod_6 (fun z hz hz2 => ?_)
  have hzn := ga_xor_neg ha ⟨by omega, by omega⟩ hz hz2
  refine gw_if_ge 18 d_Math_floorMod_7 (by decide) hz2 (fun h1 => ?_) (fun h1 => ?_)
  · refine gw_iload_n 2 d_Math_floorMod_18 rfl rfl ?_
    refine gw_ireturn d_Math_floorMod_19 rfl ?_
    rw [Int.tmod_eq_emod_of_nonneg (by omega)]
    exact h
  · refine gw_iload_n 2 d_Math_floorMod_10 rfl rfl ?_
    refine gw_if_eq 18 d_Math_floorMod_11 (by decide) hrm (fun h2 => ?_) (fun h2 => ?_)
    · refine gw_iload_n 2 d_Math_floorMod_18 rfl rfl ?_
      refine gw_ireturn d_Math_floorMod_19 rfl ?_
      rw [hq, h2, Int.zero_emod] at h
      rw [h2]
      exact h
    · refine gw_iload_n 2 d_Math_floorMod_14 rfl rfl ?_
      refine gw_iload_n 1 d_Math_floorMod_15 rfl rfl ?_
      refine gw_iadd d_Math_floorMod_16 ?_
      refine gw_ireturn d_Math_floorMod_17 rfl ?_
      have hneg : Int.tmod a b ≤ 0 := by
        have h3 : a < 0 := hzn.mp (by omega)
        have h4 := Int.tmod_nonneg (a := -a) b (by omega)
        rw [Int.neg_tmod] at h4
        omega
      rw [hq, show Int.tmod a b % b = Int.tmod a b + b by
        rw [← Int.add_emod_right]
        exact Int.emod_eq_of_lt (by omega) (by omega)] at h
      exact h
end LO
theorem k_Path_copyFrom_0 {G : ga_G} {d : Nat} {I : ga_I} {E : Option ga_V → ga_I → Prop} {k : Nat} {o1 : Nat} (hk : ga_isP k) (ho1 : ga_isP o1)
    (h : ga_RG I → E none (ga_cp (ga_up (ga_up I k 0 (I o1 0)) k 1 ((ga_up I k 0 (I o1 0)) o1 1)) (o1 + 1) (k + 1) 0 0 160)) :
    ga_W G (d + 1) mt_Path_copyFrom 0 (ga_en 2 [.inr k, .inr o1]) [] I E := by
  show ga_W G (d + 1) mt_Path_copyFrom 0 [some (.inr k), some (.inr o1)] [] I E
  refine gw_RG (fun hI1 => ?_)
  have h := h hI1
  refine gw_aload_n 0 d_Path_copyFrom_0 rfl rfl ?_
  refine gw_aload_n 1 d_Path_copyFrom_1 rfl rfl ?_
  refine gw_getI d_Path_copyFrom_2 fl_Path_15 (ho1.1) rfl ?_
  refine gw_putI d_Path_copyFrom_5 fp_Path_15 (hk.1) rfl ?_
  rw [ga_wr_eq (z := (I o1 0)) (hI1 _ _)]
  refine gw_RG (fun hI2 => ?_)
  refine gw_aload_n 0 d_Path_copyFrom_8 rfl rfl ?_
  refine gw_aload_n 1 d_Path_copyFrom_9 rfl rfl ?_
  refine gw_getI d_Path_copyFrom_10 fl_Path_19 (ho1.1) rfl ?_
  refine gw_putI d_Path_copyFrom_13 fp_Path_19 (hk.1) rfl ?_
  rw [ga_wr_eq (z := ((ga_up I k 0 (I o1 0)) o1 1)) (hI2 _ _)]
  refine gw_RG (fun hI3 => ?_)
  refine gw_aload_n 1 d_Path_copyFrom_16 rfl rfl ?_
  refine gw_getR d_Path_copyFrom_17 fl_Path_9 (ho1.1) rfl ?_
  refine gw_iconst d_Path_copyFrom_20 ?_
  refine gw_aload_n 0 d_Path_copyFrom_21 rfl rfl ?_
  refine gw_getR d_Path_copyFrom_22 fl_Path_9 (hk.1) rfl ?_
  refine gw_iconst d_Path_copyFrom_25 ?_
  refine gw_aload_n 0 d_Path_copyFrom_26 rfl rfl ?_
  refine gw_getR d_Path_copyFrom_27 fl_Path_9 (hk.1) rfl ?_
  refine gw_alenZ (z := 160) d_Path_copyFrom_30 (hk.2) (by decide) rfl ?_
  refine gw_copy d_Path_copyFrom_31 lk_Path_22 (ho1.2) (hk.2) (by decide) (by decide) (by decide) (by decide) (by decide) (by omega) (Nat.le_of_ble_eq_true rfl) ?_
  refine gw_RG (fun hI4 => ?_)
  exact gw_return d_Path_copyFrom_34 rfl h

theorem k_Path_startEntry_0 {G : ga_G} {d : Nat} {I : ga_I} {E : Option ga_V → ga_I → Prop} {k : Nat} (hk : ga_isP k)
    (h : ga_RG I → (ga_rg ((I k 1) + 1)) ∧ ((ga_rg (((ga_up I k 1 (ga_wr (Int.tmod ((I k 1) + 1) 20))) k 0) + 1)) ∧ (E none (ga_up (ga_up I k 1 (ga_wr (Int.tmod ((I k 1) + 1) 20))) k 0 (min (((ga_up I k 1 (ga_wr (Int.tmod ((I k 1) + 1) 20))) k 0) + 1) 20))))) :
    ga_W G (d + 1) mt_Path_startEntry 0 (ga_en 1 [.inr k]) [] I E := by
  show ga_W G (d + 1) mt_Path_startEntry 0 [some (.inr k)] [] I E
  refine gw_RG (fun hI1 => ?_)
  have h := h hI1
  refine gw_aload_n 0 d_Path_startEntry_0 rfl rfl ?_
  refine gw_aload_n 0 d_Path_startEntry_1 rfl rfl ?_
  refine gw_getI d_Path_startEntry_2 fl_Path_19 (hk.1) rfl ?_
  refine gw_iconst d_Path_startEntry_5 ?_
  refine gw_iadd d_Path_startEntry_6 ?_
  refine gw_bipush d_Path_startEntry_7 (by decide +kernel) ?_
  obtain ⟨g1, h⟩ := h
  refine gw_irem d_Path_startEntry_9 g1 ⟨by decide, by decide⟩ (by decide) ?_
  refine gw_putI d_Path_startEntry_10 fp_Path_19 (hk.1) rfl ?_
  refine gw_RG (fun hI2 => ?_)
  refine gw_aload_n 0 d_Path_startEntry_13 rfl rfl ?_
  refine gw_aload_n 0 d_Path_startEntry_14 rfl rfl ?_
  refine gw_getI d_Path_startEntry_15 fl_Path_15 (hk.1) rfl ?_
  refine gw_iconst d_Path_startEntry_18 ?_
  refine gw_iadd d_Path_startEntry_19 ?_
  refine gw_bipush d_Path_startEntry_20 (by decide +kernel) ?_
  obtain ⟨g2, h⟩ := h
  refine gw_mmin d_Path_startEntry_22 lk_Path_28 g2 ⟨by decide, by decide⟩ (by omega) (Nat.le_of_ble_eq_true rfl) ?_
  refine gw_putI d_Path_startEntry_25 fp_Path_15 (hk.1) rfl ?_
  rw [ga_wr_eq (z := (min (((ga_up I k 1 (ga_wr (Int.tmod ((I k 1) + 1) 20))) k 0) + 1) 20)) (ga_min_rg g2 ⟨by decide, by decide⟩)]
  refine gw_RG (fun hI3 => ?_)
  exact gw_return d_Path_startEntry_28 rfl h

theorem k_Path_putPart_0 {G : ga_G} {d : Nat} {I : ga_I} {E : Option ga_V → ga_I → Prop} {k : Nat} {v1 : Int} {v2 : Int} (hk : ga_isP k)
    (h : ga_RG I → (ga_rg (((I k 1) * 8) + v1)) ∧ ((((((I k 1) * 8) + v1) < 0) → E none I) ∧ ((¬ ((((I k 1) * 8) + v1) < 0)) → ((160 ≤ (((I k 1) * 8) + v1)) → E none I) ∧ ((¬ (160 ≤ (((I k 1) * 8) + v1))) → (0 ≤ (((I k 1) * 8) + v1)) ∧ (((((I k 1) * 8) + v1) < 160) ∧ (E none (ga_up I (k + 1) (((I k 1) * 8) + v1).toNat (ga_wr v2)))))))) :
    ga_W G d mt_Path_putPart 0 (ga_en 4 [.inr k, .inl v1, .inl v2]) [] I E := by
  show ga_W G d mt_Path_putPart 0 [some (.inr k), some (.inl v1), some (.inl v2), none] [] I E
  refine gw_RG (fun hI1 => ?_)
  have h := h hI1
  refine gw_aload_n 0 d_Path_putPart_0 rfl rfl ?_
  refine gw_getI d_Path_putPart_1 fl_Path_19 (hk.1) rfl ?_
  refine gw_bipush d_Path_putPart_4 (by decide +kernel) ?_
  refine gw_imul d_Path_putPart_6 ?_
  refine gw_iload_n 1 d_Path_putPart_7 rfl rfl ?_
  refine gw_iadd d_Path_putPart_8 ?_
  refine gw_istore_n 3 d_Path_putPart_9 rfl (Nat.le_of_ble_eq_true rfl) rfl ?_
  refine gw_iload_n 3 d_Path_putPart_10 rfl rfl ?_
  obtain ⟨g1, h⟩ := h
  refine gw_if_lt 30 d_Path_putPart_11 (by decide) g1 (fun hc => ?_) (fun hc => ?_)
  · have h := h.1 hc
    exact gw_return d_Path_putPart_30 rfl h
  · have h := h.2 hc
    refine gw_iload_n 3 d_Path_putPart_14 rfl rfl ?_
    refine gw_aload_n 0 d_Path_putPart_15 rfl rfl ?_
    refine gw_getR d_Path_putPart_16 fl_Path_9 (hk.1) rfl ?_
    refine gw_alenZ (z := 160) d_Path_putPart_19 (hk.2) (by decide) rfl ?_
    refine gw_icmp_ge 30 d_Path_putPart_20 (by decide) g1 ⟨by decide, by decide⟩ (fun hc => ?_) (fun hc => ?_)
    · have h := h.1 hc
      exact gw_return d_Path_putPart_30 rfl h
    · have h := h.2 hc
      refine gw_aload_n 0 d_Path_putPart_23 rfl rfl ?_
      refine gw_getR d_Path_putPart_24 fl_Path_9 (hk.1) rfl ?_
      refine gw_iload_n 3 d_Path_putPart_27 rfl rfl ?_
      refine gw_iload_n 2 d_Path_putPart_28 rfl rfl ?_
      obtain ⟨g2, h⟩ := h
      obtain ⟨g3, h⟩ := h
      refine gw_iast d_Path_putPart_29 (hk.2) g2 g3 ?_
      refine gw_RG (fun hI2 => ?_)
      exact gw_return d_Path_putPart_30 rfl h

theorem k_Path_partOf_0 {G : ga_G} {d : Nat} {I : ga_I} {E : Option ga_V → ga_I → Prop} {k : Nat} {v1 : Int} {v2 : Int} (hk : ga_isP k)
    (h : ga_RG I → (ga_rg ((I k 1) - v1)) ∧ ((0 < (20 : Int) ∧ (20 : Int) ≤ 1000) ∧ ((ga_rg (((((I k 1) - v1) % (20 : Int)) * 8) + v2)) ∧ ((((((((I k 1) - v1) % (20 : Int)) * 8) + v2) < 0) → E (some (.inl (-2000000009))) I) ∧ ((¬ ((((((I k 1) - v1) % (20 : Int)) * 8) + v2) < 0)) → ((160 ≤ (((((I k 1) - v1) % (20 : Int)) * 8) + v2)) → E (some (.inl (-2000000009))) I) ∧ ((¬ (160 ≤ (((((I k 1) - v1) % (20 : Int)) * 8) + v2))) → (0 ≤ (((((I k 1) - v1) % (20 : Int)) * 8) + v2)) ∧ (((((((I k 1) - v1) % (20 : Int)) * 8) + v2) < 160) ∧ (E (some (.inl (I (k + 1) (((((I k 1) - v1) % (20 : Int)) * 8) + v2).toNat))) I)))))))) :
    ga_W G (d + 1) mt_Path_partOf 0 (ga_en 4 [.inr k, .inl v1, .inl v2]) [] I E := by
  show ga_W G (d + 1) mt_Path_partOf 0 [some (.inr k), some (.inl v1), some (.inl v2), none] [] I E
  refine gw_RG (fun hI1 => ?_)
  have h := h hI1
  refine gw_aload_n 0 d_Path_partOf_0 rfl rfl ?_
  refine gw_getI d_Path_partOf_1 fl_Path_19 (hk.1) rfl ?_
  refine gw_iload_n 1 d_Path_partOf_4 rfl rfl ?_
  refine gw_isub d_Path_partOf_5 ?_
  refine gw_bipush d_Path_partOf_6 (by decide +kernel) ?_
  obtain ⟨g1, h⟩ := h
  obtain ⟨g2, h⟩ := h
  refine gw_invS (as := [.inl ((I k 1) - v1), .inl 20]) (rest := []) (d' := d) d_Path_partOf_8 lk_Path_34 rfl (Nat.le_of_ble_eq_true rfl) (Nat.le_of_ble_eq_true rfl) rfl rfl (s_Math_floorMod g1 g2 ?_)
  show ga_W G (d + 1) mt_Path_partOf 11 [some (.inr k), some (.inl v1), some (.inl v2), none] [.inl (((I k 1) - v1) % (20 : Int))] I E
  refine gw_bipush d_Path_partOf_11 (by decide +kernel) ?_
  refine gw_imul d_Path_partOf_13 ?_
  refine gw_iload_n 2 d_Path_partOf_14 rfl rfl ?_
  refine gw_iadd d_Path_partOf_15 ?_
  refine gw_istore_n 3 d_Path_partOf_16 rfl (Nat.le_of_ble_eq_true rfl) rfl ?_
  refine gw_iload_n 3 d_Path_partOf_17 rfl rfl ?_
  obtain ⟨g3, h⟩ := h
  refine gw_if_lt 39 d_Path_partOf_18 (by decide) g3 (fun hc => ?_) (fun hc => ?_)
  · have h := h.1 hc
    refine gw_ldc (n := (-2000000009)) d_Path_partOf_39 kw_Path_37 (by decide +kernel) ?_
    exact gw_ireturn d_Path_partOf_41 rfl h
  · have h := h.2 hc
    refine gw_iload_n 3 d_Path_partOf_21 rfl rfl ?_
    refine gw_aload_n 0 d_Path_partOf_22 rfl rfl ?_
    refine gw_getR d_Path_partOf_23 fl_Path_9 (hk.1) rfl ?_
    refine gw_alenZ (z := 160) d_Path_partOf_26 (hk.2) (by decide) rfl ?_
    refine gw_icmp_ge 39 d_Path_partOf_27 (by decide) g3 ⟨by decide, by decide⟩ (fun hc => ?_) (fun hc => ?_)
    · have h := h.1 hc
      refine gw_ldc (n := (-2000000009)) d_Path_partOf_39 kw_Path_37 (by decide +kernel) ?_
      exact gw_ireturn d_Path_partOf_41 rfl h
    · have h := h.2 hc
      refine gw_aload_n 0 d_Path_partOf_30 rfl rfl ?_
      refine gw_getR d_Path_partOf_31 fl_Path_9 (hk.1) rfl ?_
      refine gw_iload_n 3 d_Path_partOf_34 rfl rfl ?_
      obtain ⟨g4, h⟩ := h
      obtain ⟨g5, h⟩ := h
      refine gw_iald d_Path_partOf_35 (hk.2) g4 g5 ?_
      refine gw_goto 41 d_Path_partOf_36 (by decide) ?_
      exact gw_ireturn d_Path_partOf_41 rfl h

section LP
variable {G : ga_G} {d : Nat} {I : ga_I} {E : Option ga_V → ga_I → Prop} {k o : Nat}
def gr_P (I : ga_I) (k : Nat) : Prop := (0 ≤ I k 0 ∧ I k 0 ≤ 20) ∧ (0 ≤ I k 1 ∧ I k 1 < 20)
def gq_P (I : ga_I) (k : Nat) (J : ga_I) (o : Nat) : Prop := I k 0 = J o 0 ∧ I k 1 = J o 1 ∧ ∀ j, j < 160 → I (k + 1) j = J (o + 1) j
def gr_cpP (I I' : ga_I) (k o : Nat) : Prop := gq_P I' k I o ∧ ∀ a, (a < k ∨ k + 2 ≤ a) → I' a = I a
theorem s_Path_copyFrom (hk : ga_isP k) (ho : ga_isP o) (hd : o + 2 ≤ k ∨ k + 2 ≤ o ∨ o = k) (h : ∀ I', gr_cpP I I' k o → E none I') : ga_W G (d + 1) mt_Path_copyFrom 0 (ga_en 2 [.inr k, .inr o]) [] I E := by
  refine k_Path_copyFrom_0 hk ho (fun hI => h _ ⟨⟨?_, ?_, fun j hj => ?_⟩, fun a ha => ?_⟩)
  · rw [ga_cp_ne (by omega), ga_up_nj (by omega), ga_up_at]
  · rw [ga_cp_ne (by omega), ga_up_at]
    by_cases e : o = k
    · subst e; rw [ga_up_nj (by omega)]
    · rw [ga_up_ne e]
  · rw [ga_cp_in hj, ga_up_ne (by omega), ga_up_ne (by omega)]
  · funext j
    rw [ga_cp_ne (by omega), ga_up_ne (by omega), ga_up_ne (by omega)]
def gx_pn (I : ga_I) (k : Nat) : ga_I := ga_up (ga_up I k 1 ((I k 1 + 1) % 20)) k 0 (min (I k 0 + 1) 20)
theorem s_Path_startEntry (hk : ga_isP k) (hp : gr_P I k) (h : E none (gx_pn I k)) : ga_W G (d + 1) mt_Path_startEntry 0 (ga_en 1 [.inr k]) [] I E := by
  obtain ⟨h1, h2⟩ := hp
  have e : Int.tmod (I k 1 + 1) 20 = (I k 1 + 1) % 20 := Int.tmod_eq_emod_of_nonneg (by omega)
  refine k_Path_startEntry_0 hk (fun hI => ⟨⟨by omega, by omega⟩, ?_, ?_⟩)
  · rw [ga_up_nj (by omega)]; constructor <;> omega
  · rw [e, ga_wr_eq ⟨by omega, by omega⟩, ga_up_nj (b := 0) (by omega)]
    exact h
theorem s_Path_putPart (hk : ga_isP k) (hp : gr_P I k) {w z : Int} (hw : 0 ≤ w ∧ w < 8) (h : E none (ga_up I (k + 1) (I k 1 * 8 + w).toNat (ga_wr z))) : ga_W G d mt_Path_putPart 0 (ga_en 4 [.inr k, .inl w, .inl z]) [] I E := by
  obtain ⟨h1, h2⟩ := hp
  exact k_Path_putPart_0 hk (fun hI => ⟨⟨by omega, by omega⟩, fun h3 => by exfalso; omega, fun h3 => ⟨fun h4 => by exfalso; omega, fun h4 => ⟨by omega, by omega, h⟩⟩⟩)
theorem s_Path_partOf (hk : ga_isP k) (hp : gr_P I k) {b w : Int} (hb : 0 ≤ b ∧ b ≤ 20) (hw : 0 ≤ w ∧ w < 8) (h : E (some (.inl (I (k + 1) ((I k 1 - b) % 20 * 8 + w).toNat))) I) : ga_W G (d + 1) mt_Path_partOf 0 (ga_en 4 [.inr k, .inl b, .inl w]) [] I E := by
  obtain ⟨h1, h2⟩ := hp
  exact k_Path_partOf_0 hk (fun hI => ⟨⟨by omega, by omega⟩, by omega, ⟨by omega, by omega⟩, fun h3 => by exfalso; omega, fun h3 => ⟨fun h4 => by exfalso; omega, fun h4 => ⟨by omega, by omega, h⟩⟩⟩)
end LP
