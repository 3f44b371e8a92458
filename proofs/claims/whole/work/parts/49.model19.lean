/-! the reference: items read -/
section MT
variable {G : ga_G} {d : Nat} {I : ga_I} {E : Option ga_V → ga_I → Prop}
abbrev gt_ok (t : Nat → Int) (l p : Nat) (c : Int) : Prop := p < l ∧ t p = c
theorem mf_tr {I J K : ga_I} (h1 : mf I J) (h2 : mf J K) : mf I K := ⟨fun a ha => (h2.1 a ha).trans (h1.1 a ha), fun j q1 q2 => (h2.2 j q1 q2).trans (h1.2 j q1 q2)⟩
theorem mo_x_of {I J : ga_I} (hx : mo_x I) (hf : mf I J) {n : Nat} (hn : J 348 12 = (n : Int)) (hb : (n : Int) ≤ I 348 6) : mo_x J := by
  have l1 : J 348 6 = I 348 6 := hf.2 6 (by omega) (by omega)
  have x1 : J 352 = I 352 := hf.1 352 (by omega)
  exact ⟨by rw [l1]; exact hx.1, by rw [l1, hn]; omega, by rw [l1, x1]; exact hx.2.2⟩
theorem mt_at {I J : ga_I} (hf : mf I J) {n : Nat} (hn : J 348 12 = (n : Int)) : mt_p J = gp_sp (I 352) (I 348 6).toNat n ∧ (∀ c : Int, 0 ≤ c → (mt_hv J = c ↔ gt_ok (I 352) (I 348 6).toNat (gp_sp (I 352) (I 348 6).toNat n) c)) ∧ ∀ lo hi, mt_rd J lo hi = gp_rd (I 352) (I 348 6).toNat n lo hi := by
  have l1 : J 348 6 = I 348 6 := hf.2 6 (by omega) (by omega)
  have x1 : J 352 = I 352 := hf.1 352 (by omega)
  have ep : mt_p J = gp_sp (I 352) (I 348 6).toNat n := by unfold mt_p; rw [l1, x1, hn, Int.toNat_natCast]
  refine ⟨ep, fun c hc => ?_, fun lo hi => by unfold mt_rd; rw [l1, x1, hn, Int.toNat_natCast]⟩
  unfold mt_hv gt_ok
  rw [ep, l1, x1]
  by_cases q : (gp_sp (I 352) (I 348 6).toNat n : Int) < I 348 6
  · rw [if_pos q]; exact ⟨fun w => ⟨by omega, w⟩, fun w => w.2⟩
  · rw [if_neg q]; exact ⟨fun w => by exfalso; omega, fun w => by exfalso; have := w.1; omega⟩
theorem mt_tk_mf (I : ga_I) (c : Int) : mf I (mt_tk I c) ∧ mt_tk I c 348 12 = if mt_hv I = c then (mt_p I : Int) + 1 else (mt_p I : Int) :=
  ⟨⟨fun a ha => ga_up_fn (by omega), fun j h1 h2 => ga_up_nj (by omega)⟩, ga_up_at⟩
abbrev gp_bc (s : Nat → Int) (ax x r k : Int) : Prop := k ≤ r ∧ (0 ≤ x - r ∧ x + r ≤ 1000) ∧ gp_fr (ms_p s ax) (ms_r s ax) x r (-2000000009) (ms_n s ax).toNat = true ∧ ms_n s ax ≠ 6
def gp_bi (s : Nat → Int) (ax x r k : Int) : Nat → Int := ns_in s ax (gp_st (ms_p s ax) x (ms_n s ax).toNat).toNat (ms_n s ax).toNat x k r
/-- from behind the kind on -/
def gp_be (t : Nat → Int) (l : Nat) (s : Nat → Int) (ax : Int) (start : Nat) (x r k : Int) (n : Nat) : Bool × Nat × (Nat → Int) :=
  if ¬ gt_ok t l (gp_sp t l n) 59 then (false, gp_sp t l n, s) else if gp_bc s ax x r k then (true, gp_sp t l n + 1, gp_bi s ax x r k) else (false, start, s)
def gp_bk (t : Nat → Int) (l : Nat) (s : Nat → Int) (ax : Int) (start : Nat) (x r : Int) (n : Nat) : Bool × Nat × (Nat → Int) :=
  if gt_ok t l (gp_sp t l n) 126 then gp_be t l s ax start x r 1 (gp_sp t l n + 1) else gp_be t l s ax start x r 0 (gp_sp t l n)
def gp_b2 (t : Nat → Int) (l : Nat) (s : Nat → Int) (ax : Int) (start : Nat) (x : Int) (R : Bool × Nat × Int) : Bool × Nat × (Nat → Int) := if R.1 = true then gp_bk t l s ax start x R.2.2 R.2.1 else (false, R.2.1, s)
def gp_b1 (t : Nat → Int) (l : Nat) (s : Nat → Int) (ax : Int) (start : Nat) (R : Bool × Nat × Int) : Bool × Nat × (Nat → Int) := if R.1 = true then gp_b2 t l s ax start R.2.2 (gp_rd t l R.2.1 0 100) else (false, R.2.1, s)
/-- a border's item, that begins at a place -/
def gp_bd (t : Nat → Int) (l : Nat) (s : Nat → Int) (ax : Int) (start : Nat) : Bool × Nat × (Nat → Int) := gp_b1 t l s ax start (gp_rd t l (start + 1) 1 999)
def gr_pr (I J : ga_I) (R : Bool × Nat × (Nat → Int)) : Prop := (∀ a, a ≠ 348 → a ≠ 349 → J a = I a) ∧ (∀ j, j ≠ 12 → j ≠ 13 → J 348 j = I 348 j) ∧ J 348 12 = (R.2.1 : Nat) ∧ J 349 = R.2.2
def mt_bd (I : ga_I) (ax st : Int) : Bool × Nat × (Nat → Int) := gp_bd (I 352) (I 348 6).toNat (I 349) ax st.toNat
def gr_bd (I J : ga_I) (ax st : Int) : Prop := gr_pr I J (mt_bd I ax st)
end MT
theorem k_Mo_readsBorder_0 {G : ga_G} {d : Nat} {I : ga_I} {E : Option ga_V → ga_I → Prop} {v1 : Int} {v2 : Int} 
    (h : ga_RG I → (mo_x I) ∧ ((0 ≤ (1 : Int) ∧ (1 : Int) ≤ 9999) ∧ ((0 ≤ (999 : Int) ∧ (999 : Int) ≤ 9999) ∧ ((∀ I1 : ga_I, gr_rd I I1 (1 : Int) (999 : Int) → (((mt_rd I (1 : Int) (999 : Int)).1 = true) → (mo_x I1) ∧ ((0 ≤ (0 : Int) ∧ (0 : Int) ≤ 9999) ∧ ((0 ≤ (100 : Int) ∧ (100 : Int) ≤ 9999) ∧ ((∀ I2 : ga_I, gr_rd I1 I2 (0 : Int) (100 : Int) → (((mt_rd I1 (0 : Int) (100 : Int)).1 = true) → (mo_x I2) ∧ ((0 ≤ (126 : Int) ∧ (126 : Int) ≤ 255) ∧ ((∀ I3 : ga_I, I3 = (mt_tk I2 (126 : Int)) → ((¬ (mt_hv I2 = (126 : Int))) → (mo_x I3) ∧ ((0 ≤ (59 : Int) ∧ (59 : Int) ≤ 255) ∧ ((∀ I4 : ga_I, I4 = (mt_tk I3 (59 : Int)) → ((mt_hv I3 = (59 : Int)) → ((¬ ((0 ≤ (0 : Int) ∧ (0 : Int) ≤ 1) ∧ ((0 : Int) ≤ (I2 348 13) ∧ (I2 348 13) ≤ 100))) → (∀ I5 : ga_I, I5 = (ga_up I4 348 12 (ga_wr v2)) → E (some (.inl 0)) I5)) ∧ (((0 ≤ (0 : Int) ∧ (0 : Int) ≤ 1) ∧ ((0 : Int) ≤ (I2 348 13) ∧ (I2 348 13) ≤ 100)) → (ga_rg ((I1 348 13) - (I2 348 13))) ∧ ((ga_rg ((I1 348 13) + (I2 348 13))) ∧ (((¬ (0 ≤ (I1 348 13) - (I2 348 13) ∧ (I1 348 13) + (I2 348 13) ≤ 1000)) → (∀ I6 : ga_I, I6 = (ga_up I4 348 12 (ga_wr v2)) → E (some (.inl 0)) I6)) ∧ ((0 ≤ (I1 348 13) - (I2 348 13) ∧ (I1 348 13) + (I2 348 13) ≤ 1000) → (mo_ok I4 v1) ∧ ((0 ≤ v1 ∧ v1 ≤ 1) ∧ ((-3000 ≤ (I1 348 13) ∧ (I1 348 13) ≤ 3000) ∧ ((-3000 ≤ (I2 348 13) ∧ (I2 348 13) ≤ 3000) ∧ ((((!gp_fr (ms_p (I4 349) v1) (ms_r (I4 349) v1) (I1 348 13) (I2 348 13) ((-2000000009) : Int) (ms_n (I4 349) v1).toNat) = true) → (∀ I7 : ga_I, I7 = (ga_up I4 348 12 (ga_wr v2)) → E (some (.inl 0)) I7)) ∧ (((!gp_fr (ms_p (I4 349) v1) (ms_r (I4 349) v1) (I1 348 13) (I2 348 13) ((-2000000009) : Int) (ms_n (I4 349) v1).toNat) = false) → (((ms_n (I4 349) v1) ≠ 6) → (ms_n (I4 349) v1 < 6) ∧ ((∀ I8 : ga_I, I8 = (ga_uc I4 349 (ns_in (I4 349) v1 (gp_st (ms_p (I4 349) v1) (I1 348 13) (ms_n (I4 349) v1).toNat).toNat (ms_n (I4 349) v1).toNat (I1 348 13) (0 : Int) (I2 348 13))) → (ga_rg (gp_st (ms_p (I4 349) v1) (I1 348 13) (ms_n (I4 349) v1).toNat)) ∧ ((((gp_st (ms_p (I4 349) v1) (I1 348 13) (ms_n (I4 349) v1).toNat) < 0) → E (some (.inl 0)) I8) ∧ ((¬ ((gp_st (ms_p (I4 349) v1) (I1 348 13) (ms_n (I4 349) v1).toNat) < 0)) → E (some (.inl 1)) I8))))) ∧ (((ms_n (I4 349) v1) = 6) → (∀ I9 : ga_I, I9 = (ga_up I4 348 12 (ga_wr v2)) → E (some (.inl 0)) I9)))))))))))) ∧ ((¬ (mt_hv I3 = (59 : Int))) → E (some (.inl 0)) I4))))) ∧ ((mt_hv I2 = (126 : Int)) → (mo_x I3) ∧ ((0 ≤ (59 : Int) ∧ (59 : Int) ≤ 255) ∧ ((∀ I10 : ga_I, I10 = (mt_tk I3 (59 : Int)) → ((mt_hv I3 = (59 : Int)) → ((¬ ((0 ≤ (1 : Int) ∧ (1 : Int) ≤ 1) ∧ ((1 : Int) ≤ (I2 348 13) ∧ (I2 348 13) ≤ 100))) → (∀ I11 : ga_I, I11 = (ga_up I10 348 12 (ga_wr v2)) → E (some (.inl 0)) I11)) ∧ (((0 ≤ (1 : Int) ∧ (1 : Int) ≤ 1) ∧ ((1 : Int) ≤ (I2 348 13) ∧ (I2 348 13) ≤ 100)) → (ga_rg ((I1 348 13) - (I2 348 13))) ∧ ((ga_rg ((I1 348 13) + (I2 348 13))) ∧ (((¬ (0 ≤ (I1 348 13) - (I2 348 13) ∧ (I1 348 13) + (I2 348 13) ≤ 1000)) → (∀ I12 : ga_I, I12 = (ga_up I10 348 12 (ga_wr v2)) → E (some (.inl 0)) I12)) ∧ ((0 ≤ (I1 348 13) - (I2 348 13) ∧ (I1 348 13) + (I2 348 13) ≤ 1000) → (mo_ok I10 v1) ∧ ((0 ≤ v1 ∧ v1 ≤ 1) ∧ ((-3000 ≤ (I1 348 13) ∧ (I1 348 13) ≤ 3000) ∧ ((-3000 ≤ (I2 348 13) ∧ (I2 348 13) ≤ 3000) ∧ ((((!gp_fr (ms_p (I10 349) v1) (ms_r (I10 349) v1) (I1 348 13) (I2 348 13) ((-2000000009) : Int) (ms_n (I10 349) v1).toNat) = true) → (∀ I13 : ga_I, I13 = (ga_up I10 348 12 (ga_wr v2)) → E (some (.inl 0)) I13)) ∧ (((!gp_fr (ms_p (I10 349) v1) (ms_r (I10 349) v1) (I1 348 13) (I2 348 13) ((-2000000009) : Int) (ms_n (I10 349) v1).toNat) = false) → (((ms_n (I10 349) v1) ≠ 6) → (ms_n (I10 349) v1 < 6) ∧ ((∀ I14 : ga_I, I14 = (ga_uc I10 349 (ns_in (I10 349) v1 (gp_st (ms_p (I10 349) v1) (I1 348 13) (ms_n (I10 349) v1).toNat).toNat (ms_n (I10 349) v1).toNat (I1 348 13) (1 : Int) (I2 348 13))) → (ga_rg (gp_st (ms_p (I10 349) v1) (I1 348 13) (ms_n (I10 349) v1).toNat)) ∧ ((((gp_st (ms_p (I10 349) v1) (I1 348 13) (ms_n (I10 349) v1).toNat) < 0) → E (some (.inl 0)) I14) ∧ ((¬ ((gp_st (ms_p (I10 349) v1) (I1 348 13) (ms_n (I10 349) v1).toNat) < 0)) → E (some (.inl 1)) I14))))) ∧ (((ms_n (I10 349) v1) = 6) → (∀ I15 : ga_I, I15 = (ga_up I10 348 12 (ga_wr v2)) → E (some (.inl 0)) I15)))))))))))) ∧ ((¬ (mt_hv I3 = (59 : Int))) → E (some (.inl 0)) I10))))))))) ∧ (((mt_rd I1 (0 : Int) (100 : Int)).1 = false) → E (some (.inl 0)) I2)))))) ∧ (((mt_rd I (1 : Int) (999 : Int)).1 = false) → E (some (.inl 0)) I1)))))) :
    ga_W G (d + 4) mt_Mo_readsBorder 0 (ga_en 6 [.inr 348, .inl v1, .inl v2]) [] I E := by
  show ga_W G (d + 4) mt_Mo_readsBorder 0 [some (.inr 348), some (.inl v1), some (.inl v2), none, none, none] [] I E
  refine gw_RG (fun hI1 => ?_)
  have h := h hI1
  refine gw_aload_n 0 d_Mo_readsBorder_0 rfl rfl ?_
  refine gw_iconst d_Mo_readsBorder_1 ?_
  refine gw_sipush d_Mo_readsBorder_2 (by decide +kernel) ?_
  obtain ⟨g1, h⟩ := h
  obtain ⟨g2, h⟩ := h
  obtain ⟨g3, h⟩ := h
  refine gw_invV (as := [.inl 1, .inl 999]) (k := 348) (rest := []) (d' := (d + 3)) d_Mo_readsBorder_5 lk_Mo_204 (ga_rcv (ga_oM) rfl rfl) rfl (Nat.le_of_ble_eq_true rfl) (Nat.le_of_ble_eq_true rfl) rfl rfl (s_Mo_reads g1 g2 g3 (fun I1 q1 => ?_))
  have h := h I1 q1
  show ga_W G (d + 4) mt_Mo_readsBorder 8 [some (.inr 348), some (.inl v1), some (.inl v2), none, none, none] [.inl (ga_bb ((mt_rd I (1 : Int) (999 : Int)).1))] I1 E
  refine gw_RG (fun hI2 => ?_)
  refine gw_ifb_ne 13 d_Mo_readsBorder_8 (by decide) (fun hc => ?_) (fun hc => ?_)
  · have h := h.1 (hc)
    refine gw_aload_n 0 d_Mo_readsBorder_13 rfl rfl ?_
    refine gw_getI d_Mo_readsBorder_14 fl_Mo_201 (ga_oM) rfl ?_
    refine gw_istore_n 3 d_Mo_readsBorder_17 rfl (Nat.le_of_ble_eq_true rfl) rfl ?_
    refine gw_aload_n 0 d_Mo_readsBorder_18 rfl rfl ?_
    refine gw_iconst d_Mo_readsBorder_19 ?_
    refine gw_bipush d_Mo_readsBorder_20 (by decide +kernel) ?_
    obtain ⟨g4, h⟩ := h
    obtain ⟨g5, h⟩ := h
    obtain ⟨g6, h⟩ := h
    refine gw_invV (as := [.inl 0, .inl 100]) (k := 348) (rest := []) (d' := (d + 3)) d_Mo_readsBorder_22 lk_Mo_204 (ga_rcv (ga_oM) rfl rfl) rfl (Nat.le_of_ble_eq_true rfl) (Nat.le_of_ble_eq_true rfl) rfl rfl (s_Mo_reads g4 g5 g6 (fun I2 q2 => ?_))
    have h := h I2 q2
    show ga_W G (d + 4) mt_Mo_readsBorder 25 [some (.inr 348), some (.inl v1), some (.inl v2), some (.inl (I1 348 13)), none, none] [.inl (ga_bb ((mt_rd I1 (0 : Int) (100 : Int)).1))] I2 E
    refine gw_RG (fun hI3 => ?_)
    refine gw_ifb_ne 30 d_Mo_readsBorder_25 (by decide) (fun hc => ?_) (fun hc => ?_)
    · have h := h.1 (hc)
      refine gw_aload_n 0 d_Mo_readsBorder_30 rfl rfl ?_
      refine gw_getI d_Mo_readsBorder_31 fl_Mo_201 (ga_oM) rfl ?_
      refine gw_istore 4 d_Mo_readsBorder_34 (Nat.le_of_ble_eq_true rfl) rfl ?_
      refine gw_aload_n 0 d_Mo_readsBorder_36 rfl rfl ?_
      refine gw_bipush d_Mo_readsBorder_37 (by decide +kernel) ?_
      obtain ⟨g7, h⟩ := h
      obtain ⟨g8, h⟩ := h
      refine gw_invV (as := [.inl 126]) (k := 348) (rest := []) (d' := (d + 3)) d_Mo_readsBorder_39 lk_Mo_207 (ga_rcv (ga_oM) rfl rfl) rfl (Nat.le_of_ble_eq_true rfl) (Nat.le_of_ble_eq_true rfl) rfl rfl (s_Mo_takes g7 g8 ?_)
      show ga_W G (d + 4) mt_Mo_readsBorder 42 [some (.inr 348), some (.inl v1), some (.inl v2), some (.inl (I1 348 13)), some (.inl (I2 348 13)), none] [.inl (ga_bb (decide (mt_hv I2 = (126 : Int))))] (mt_tk I2 (126 : Int)) E
      refine gw_nm (fun I3 q3 => ?_)
      have h := h I3 q3
      refine gw_RG (fun hI4 => ?_)
      refine gw_ifb_eq 49 d_Mo_readsBorder_42 (by decide) (fun hc => ?_) (fun hc => ?_)
      · have h := h.1 (of_decide_eq_false hc)
        refine gw_iconst d_Mo_readsBorder_49 ?_
        refine gw_istore 5 d_Mo_readsBorder_50 (Nat.le_of_ble_eq_true rfl) rfl ?_
        refine gw_aload_n 0 d_Mo_readsBorder_52 rfl rfl ?_
        refine gw_bipush d_Mo_readsBorder_53 (by decide +kernel) ?_
        obtain ⟨g9, h⟩ := h
        obtain ⟨g10, h⟩ := h
        refine gw_invV (as := [.inl 59]) (k := 348) (rest := []) (d' := (d + 3)) d_Mo_readsBorder_55 lk_Mo_207 (ga_rcv (ga_oM) rfl rfl) rfl (Nat.le_of_ble_eq_true rfl) (Nat.le_of_ble_eq_true rfl) rfl rfl (s_Mo_takes g9 g10 ?_)
        show ga_W G (d + 4) mt_Mo_readsBorder 58 [some (.inr 348), some (.inl v1), some (.inl v2), some (.inl (I1 348 13)), some (.inl (I2 348 13)), some (.inl 0)] [.inl (ga_bb (decide (mt_hv I3 = (59 : Int))))] (mt_tk I3 (59 : Int)) E
        refine gw_nm (fun I4 q4 => ?_)
        have h := h I4 q4
        refine gw_RG (fun hI5 => ?_)
        refine gw_ifb_ne 63 d_Mo_readsBorder_58 (by decide) (fun hc => ?_) (fun hc => ?_)
        · have h := h.1 (of_decide_eq_true hc)
          refine gw_iload 5 d_Mo_readsBorder_63 rfl ?_
          refine gw_iload 4 d_Mo_readsBorder_65 rfl ?_
          refine gw_invS (as := [.inl 0, .inl (I2 348 13)]) (rest := []) (d' := (d + 3)) d_Mo_readsBorder_67 lk_Mo_105 rfl (Nat.le_of_ble_eq_true rfl) (Nat.le_of_ble_eq_true rfl) rfl rfl (s_Mo_isReach ⟨by decide, by decide⟩ (hI3 _ _) ?_)
          show ga_W G (d + 4) mt_Mo_readsBorder 70 [some (.inr 348), some (.inl v1), some (.inl v2), some (.inl (I1 348 13)), some (.inl (I2 348 13)), some (.inl 0)] [.inl (ga_bb (decide ((0 ≤ (0 : Int) ∧ (0 : Int) ≤ 1) ∧ ((0 : Int) ≤ (I2 348 13) ∧ (I2 348 13) ≤ 100))))] I4 E
          refine gw_ifb_eq 105 d_Mo_readsBorder_70 (by decide) (fun hc => ?_) (fun hc => ?_)
          · have h := h.1 (of_decide_eq_false hc)
            refine gw_aload_n 0 d_Mo_readsBorder_105 rfl rfl ?_
            refine gw_iload_n 2 d_Mo_readsBorder_106 rfl rfl ?_
            refine gw_putI d_Mo_readsBorder_107 fp_Mo_194 (ga_oM) rfl ?_
            refine gw_nm (J := (ga_up I4 348 12 (ga_wr v2))) (fun I5 q5 => ?_)
            have h := h I5 q5
            refine gw_RG (fun hI6 => ?_)
            refine gw_iconst d_Mo_readsBorder_110 ?_
            exact gw_zreturn d_Mo_readsBorder_111 rfl (by decide) h
          · have h := h.2 (of_decide_eq_true hc)
            refine gw_iload_n 3 d_Mo_readsBorder_73 rfl rfl ?_
            refine gw_iload 4 d_Mo_readsBorder_74 rfl ?_
            obtain ⟨g11, h⟩ := h
            obtain ⟨g12, h⟩ := h
            refine gw_invS (as := [.inl (I1 348 13), .inl (I2 348 13)]) (rest := []) (d' := (d + 3)) d_Mo_readsBorder_76 lk_Mo_109 rfl (Nat.le_of_ble_eq_true rfl) (Nat.le_of_ble_eq_true rfl) rfl rfl (s_Mo_isInside g11 g12 ?_)
            show ga_W G (d + 4) mt_Mo_readsBorder 79 [some (.inr 348), some (.inl v1), some (.inl v2), some (.inl (I1 348 13)), some (.inl (I2 348 13)), some (.inl 0)] [.inl (ga_bb (decide (0 ≤ (I1 348 13) - (I2 348 13) ∧ (I1 348 13) + (I2 348 13) ≤ 1000)))] I4 E
            refine gw_ifb_eq 105 d_Mo_readsBorder_79 (by decide) (fun hc => ?_) (fun hc => ?_)
            · have h := h.1 (of_decide_eq_false hc)
              refine gw_aload_n 0 d_Mo_readsBorder_105 rfl rfl ?_
              refine gw_iload_n 2 d_Mo_readsBorder_106 rfl rfl ?_
              refine gw_putI d_Mo_readsBorder_107 fp_Mo_194 (ga_oM) rfl ?_
              refine gw_nm (J := (ga_up I4 348 12 (ga_wr v2))) (fun I6 q6 => ?_)
              have h := h I6 q6
              refine gw_RG (fun hI7 => ?_)
              refine gw_iconst d_Mo_readsBorder_110 ?_
              exact gw_zreturn d_Mo_readsBorder_111 rfl (by decide) h
            · have h := h.2 (of_decide_eq_true hc)
              refine gw_aload_n 0 d_Mo_readsBorder_82 rfl rfl ?_
              refine gw_iload_n 1 d_Mo_readsBorder_83 rfl rfl ?_
              refine gw_iload_n 3 d_Mo_readsBorder_84 rfl rfl ?_
              refine gw_iload 4 d_Mo_readsBorder_85 rfl ?_
              refine gw_ldc (n := (-2000000009)) d_Mo_readsBorder_87 kw_Mo_67 (by decide +kernel) ?_
              obtain ⟨g13, h⟩ := h
              obtain ⟨g14, h⟩ := h
              obtain ⟨g15, h⟩ := h
              obtain ⟨g16, h⟩ := h
              refine gw_invV (as := [.inl v1, .inl (I1 348 13), .inl (I2 348 13), .inl (-2000000009)]) (k := 348) (rest := []) (d' := (d + 3)) d_Mo_readsBorder_89 lk_Mo_113 (ga_rcv (ga_oM) rfl rfl) rfl (Nat.le_of_ble_eq_true rfl) (Nat.le_of_ble_eq_true rfl) rfl rfl (s_Mo_isOccupied g13 g14 g15 g16 ⟨by decide, by decide⟩ ?_)
              show ga_W G (d + 4) mt_Mo_readsBorder 92 [some (.inr 348), some (.inl v1), some (.inl v2), some (.inl (I1 348 13)), some (.inl (I2 348 13)), some (.inl 0)] [.inl (ga_bb (!gp_fr (ms_p (I4 349) v1) (ms_r (I4 349) v1) (I1 348 13) (I2 348 13) ((-2000000009) : Int) (ms_n (I4 349) v1).toNat))] I4 E
              refine gw_ifb_ne 105 d_Mo_readsBorder_92 (by decide) (fun hc => ?_) (fun hc => ?_)
              · have h := h.1 (hc)
                refine gw_aload_n 0 d_Mo_readsBorder_105 rfl rfl ?_
                refine gw_iload_n 2 d_Mo_readsBorder_106 rfl rfl ?_
                refine gw_putI d_Mo_readsBorder_107 fp_Mo_194 (ga_oM) rfl ?_
                refine gw_nm (J := (ga_up I4 348 12 (ga_wr v2))) (fun I7 q7 => ?_)
                have h := h I7 q7
                refine gw_RG (fun hI8 => ?_)
                refine gw_iconst d_Mo_readsBorder_110 ?_
                exact gw_zreturn d_Mo_readsBorder_111 rfl (by decide) h
              · have h := h.2 (hc)
                refine gw_aload_n 0 d_Mo_readsBorder_95 rfl rfl ?_
                refine gw_iload_n 1 d_Mo_readsBorder_96 rfl rfl ?_
                refine gw_invV (as := [.inl v1]) (k := 348) (rest := []) (d' := (d + 3)) d_Mo_readsBorder_97 lk_Mo_55 (ga_rcv (ga_oM) rfl rfl) rfl (Nat.le_of_ble_eq_true rfl) (Nat.le_of_ble_eq_true rfl) rfl rfl (s_Mo_borders g14 ?_)
                show ga_W G (d + 4) mt_Mo_readsBorder 100 [some (.inr 348), some (.inl v1), some (.inl v2), some (.inl (I1 348 13)), some (.inl (I2 348 13)), some (.inl 0)] [.inl (ms_n (I4 349) v1)] I4 E
                refine gw_bipush d_Mo_readsBorder_100 (by decide +kernel) ?_
                refine gw_icmp_ne 112 d_Mo_readsBorder_102 (by decide) (hI5 _ _) ⟨by decide, by decide⟩ (fun hc => ?_) (fun hc => ?_)
                · have h := h.1 hc
                  refine gw_aload_n 0 d_Mo_readsBorder_112 rfl rfl ?_
                  refine gw_iload_n 1 d_Mo_readsBorder_113 rfl rfl ?_
                  refine gw_iload_n 3 d_Mo_readsBorder_114 rfl rfl ?_
                  refine gw_iload 5 d_Mo_readsBorder_115 rfl ?_
                  refine gw_iload 4 d_Mo_readsBorder_117 rfl ?_
                  obtain ⟨g17, h⟩ := h
                  refine gw_invV (as := [.inl v1, .inl (I1 348 13), .inl 0, .inl (I2 348 13)]) (k := 348) (rest := []) (d' := (d + 3)) d_Mo_readsBorder_119 lk_Mo_122 (ga_rcv (ga_oM) rfl rfl) rfl (Nat.le_of_ble_eq_true rfl) (Nat.le_of_ble_eq_true rfl) rfl rfl (s_Mo_insert g13 g17 g14 (hI2 _ _) ⟨by decide, by decide⟩ (hI3 _ _) ?_)
                  show ga_W G (d + 4) mt_Mo_readsBorder 122 [some (.inr 348), some (.inl v1), some (.inl v2), some (.inl (I1 348 13)), some (.inl (I2 348 13)), some (.inl 0)] [.inl (gp_st (ms_p (I4 349) v1) (I1 348 13) (ms_n (I4 349) v1).toNat)] (ga_uc I4 349 (ns_in (I4 349) v1 (gp_st (ms_p (I4 349) v1) (I1 348 13) (ms_n (I4 349) v1).toNat).toNat (ms_n (I4 349) v1).toNat (I1 348 13) (0 : Int) (I2 348 13))) E
                  refine gw_nm (fun I8 q8 => ?_)
                  have h := h I8 q8
                  refine gw_RG (fun hI9 => ?_)
                  obtain ⟨g18, h⟩ := h
                  refine gw_if_lt 129 d_Mo_readsBorder_122 (by decide) g18 (fun hc => ?_) (fun hc => ?_)
                  · have h := h.1 hc
                    refine gw_iconst d_Mo_readsBorder_129 ?_
                    exact gw_zreturn d_Mo_readsBorder_130 rfl (by decide) h
                  · have h := h.2 hc
                    refine gw_iconst d_Mo_readsBorder_125 ?_
                    refine gw_goto 130 d_Mo_readsBorder_126 (by decide) ?_
                    exact gw_zreturn d_Mo_readsBorder_130 rfl (by decide) h
                · have h := h.2 hc
                  refine gw_aload_n 0 d_Mo_readsBorder_105 rfl rfl ?_
                  refine gw_iload_n 2 d_Mo_readsBorder_106 rfl rfl ?_
                  refine gw_putI d_Mo_readsBorder_107 fp_Mo_194 (ga_oM) rfl ?_
                  refine gw_nm (J := (ga_up I4 348 12 (ga_wr v2))) (fun I9 q9 => ?_)
                  have h := h I9 q9
                  refine gw_RG (fun hI10 => ?_)
                  refine gw_iconst d_Mo_readsBorder_110 ?_
                  exact gw_zreturn d_Mo_readsBorder_111 rfl (by decide) h
        · have h := h.2 (of_decide_eq_false hc)
          refine gw_iconst d_Mo_readsBorder_61 ?_
          exact gw_zreturn d_Mo_readsBorder_62 rfl (by decide) h
      · have h := h.2 (of_decide_eq_true hc)
        refine gw_iconst d_Mo_readsBorder_45 ?_
        refine gw_goto 50 d_Mo_readsBorder_46 (by decide) ?_
        refine gw_istore 5 d_Mo_readsBorder_50 (Nat.le_of_ble_eq_true rfl) rfl ?_
        refine gw_aload_n 0 d_Mo_readsBorder_52 rfl rfl ?_
        refine gw_bipush d_Mo_readsBorder_53 (by decide +kernel) ?_
        obtain ⟨g19, h⟩ := h
        obtain ⟨g20, h⟩ := h
        refine gw_invV (as := [.inl 59]) (k := 348) (rest := []) (d' := (d + 3)) d_Mo_readsBorder_55 lk_Mo_207 (ga_rcv (ga_oM) rfl rfl) rfl (Nat.le_of_ble_eq_true rfl) (Nat.le_of_ble_eq_true rfl) rfl rfl (s_Mo_takes g19 g20 ?_)
        show ga_W G (d + 4) mt_Mo_readsBorder 58 [some (.inr 348), some (.inl v1), some (.inl v2), some (.inl (I1 348 13)), some (.inl (I2 348 13)), some (.inl 1)] [.inl (ga_bb (decide (mt_hv I3 = (59 : Int))))] (mt_tk I3 (59 : Int)) E
        refine gw_nm (fun I10 q10 => ?_)
        have h := h I10 q10
        refine gw_RG (fun hI11 => ?_)
        refine gw_ifb_ne 63 d_Mo_readsBorder_58 (by decide) (fun hc => ?_) (fun hc => ?_)
        · have h := h.1 (of_decide_eq_true hc)
          refine gw_iload 5 d_Mo_readsBorder_63 rfl ?_
          refine gw_iload 4 d_Mo_readsBorder_65 rfl ?_
          refine gw_invS (as := [.inl 1, .inl (I2 348 13)]) (rest := []) (d' := (d + 3)) d_Mo_readsBorder_67 lk_Mo_105 rfl (Nat.le_of_ble_eq_true rfl) (Nat.le_of_ble_eq_true rfl) rfl rfl (s_Mo_isReach ⟨by decide, by decide⟩ (hI3 _ _) ?_)
          show ga_W G (d + 4) mt_Mo_readsBorder 70 [some (.inr 348), some (.inl v1), some (.inl v2), some (.inl (I1 348 13)), some (.inl (I2 348 13)), some (.inl 1)] [.inl (ga_bb (decide ((0 ≤ (1 : Int) ∧ (1 : Int) ≤ 1) ∧ ((1 : Int) ≤ (I2 348 13) ∧ (I2 348 13) ≤ 100))))] I10 E
          refine gw_ifb_eq 105 d_Mo_readsBorder_70 (by decide) (fun hc => ?_) (fun hc => ?_)
          · have h := h.1 (of_decide_eq_false hc)
            refine gw_aload_n 0 d_Mo_readsBorder_105 rfl rfl ?_
            refine gw_iload_n 2 d_Mo_readsBorder_106 rfl rfl ?_
            refine gw_putI d_Mo_readsBorder_107 fp_Mo_194 (ga_oM) rfl ?_
            refine gw_nm (J := (ga_up I10 348 12 (ga_wr v2))) (fun I11 q11 => ?_)
            have h := h I11 q11
            refine gw_RG (fun hI12 => ?_)
            refine gw_iconst d_Mo_readsBorder_110 ?_
            exact gw_zreturn d_Mo_readsBorder_111 rfl (by decide) h
          · have h := h.2 (of_decide_eq_true hc)
            refine gw_iload_n 3 d_Mo_readsBorder_73 rfl rfl ?_
            refine gw_iload 4 d_Mo_readsBorder_74 rfl ?_
            obtain ⟨g21, h⟩ := h
            obtain ⟨g22, h⟩ := h
            refine gw_invS (as := [.inl (I1 348 13), .inl (I2 348 13)]) (rest := []) (d' := (d + 3)) d_Mo_readsBorder_76 lk_Mo_109 rfl (Nat.le_of_ble_eq_true rfl) (Nat.le_of_ble_eq_true rfl) rfl rfl (s_Mo_isInside g21 g22 ?_)
            show ga_W G (d + 4) mt_Mo_readsBorder 79 [some (.inr 348), some (.inl v1), some (.inl v2), some (.inl (I1 348 13)), some (.inl (I2 348 13)), some (.inl 1)] [.inl (ga_bb (decide (0 ≤ (I1 348 13) - (I2 348 13) ∧ (I1 348 13) + (I2 348 13) ≤ 1000)))] I10 E
            refine gw_ifb_eq 105 d_Mo_readsBorder_79 (by decide) (fun hc => ?_) (fun hc => ?_)
            · have h := h.1 (of_decide_eq_false hc)
              refine gw_aload_n 0 d_Mo_readsBorder_105 rfl rfl ?_
              refine gw_iload_n 2 d_Mo_readsBorder_106 rfl rfl ?_
              refine gw_putI d_Mo_readsBorder_107 fp_Mo_194 (ga_oM) rfl ?_
              refine gw_nm (J := (ga_up I10 348 12 (ga_wr v2))) (fun I12 q12 => ?_)
              have h := h I12 q12
              refine gw_RG (fun hI13 => ?_)
              refine gw_iconst d_Mo_readsBorder_110 ?_
              exact gw_zreturn d_Mo_readsBorder_111 rfl (by decide) h
            · have h := h.2 (of_decide_eq_true hc)
              refine gw_aload_n 0 d_Mo_readsBorder_82 rfl rfl ?_
              refine gw_iload_n 1 d_Mo_readsBorder_83 rfl rfl ?_
              refine gw_iload_n 3 d_Mo_readsBorder_84 rfl rfl ?_
              refine gw_iload 4 d_Mo_readsBorder_85 rfl ?_
              refine gw_ldc (n := (-2000000009)) d_Mo_readsBorder_87 kw_Mo_67 (by decide +kernel) ?_
              obtain ⟨g23, h⟩ := h
              obtain ⟨g24, h⟩ := h
              obtain ⟨g25, h⟩ := h
              obtain ⟨g26, h⟩ := h
              refine gw_invV (as := [.inl v1, .inl (I1 348 13), .inl (I2 348 13), .inl (-2000000009)]) (k := 348) (rest := []) (d' := (d + 3)) d_Mo_readsBorder_89 lk_Mo_113 (ga_rcv (ga_oM) rfl rfl) rfl (Nat.le_of_ble_eq_true rfl) (Nat.le_of_ble_eq_true rfl) rfl rfl (s_Mo_isOccupied g23 g24 g25 g26 ⟨by decide, by decide⟩ ?_)
              show ga_W G (d + 4) mt_Mo_readsBorder 92 [some (.inr 348), some (.inl v1), some (.inl v2), some (.inl (I1 348 13)), some (.inl (I2 348 13)), some (.inl 1)] [.inl (ga_bb (!gp_fr (ms_p (I10 349) v1) (ms_r (I10 349) v1) (I1 348 13) (I2 348 13) ((-2000000009) : Int) (ms_n (I10 349) v1).toNat))] I10 E
              refine gw_ifb_ne 105 d_Mo_readsBorder_92 (by decide) (fun hc => ?_) (fun hc => ?_)
              · have h := h.1 (hc)
                refine gw_aload_n 0 d_Mo_readsBorder_105 rfl rfl ?_
                refine gw_iload_n 2 d_Mo_readsBorder_106 rfl rfl ?_
                refine gw_putI d_Mo_readsBorder_107 fp_Mo_194 (ga_oM) rfl ?_
                refine gw_nm (J := (ga_up I10 348 12 (ga_wr v2))) (fun I13 q13 => ?_)
                have h := h I13 q13
                refine gw_RG (fun hI14 => ?_)
                refine gw_iconst d_Mo_readsBorder_110 ?_
                exact gw_zreturn d_Mo_readsBorder_111 rfl (by decide) h
              · have h := h.2 (hc)
                refine gw_aload_n 0 d_Mo_readsBorder_95 rfl rfl ?_
                refine gw_iload_n 1 d_Mo_readsBorder_96 rfl rfl ?_
                refine gw_invV (as := [.inl v1]) (k := 348) (rest := []) (d' := (d + 3)) d_Mo_readsBorder_97 lk_Mo_55 (ga_rcv (ga_oM) rfl rfl) rfl (Nat.le_of_ble_eq_true rfl) (Nat.le_of_ble_eq_true rfl) rfl rfl (s_Mo_borders g24 ?_)
                show ga_W G (d + 4) mt_Mo_readsBorder 100 [some (.inr 348), some (.inl v1), some (.inl v2), some (.inl (I1 348 13)), some (.inl (I2 348 13)), some (.inl 1)] [.inl (ms_n (I10 349) v1)] I10 E
                refine gw_bipush d_Mo_readsBorder_100 (by decide +kernel) ?_
                refine gw_icmp_ne 112 d_Mo_readsBorder_102 (by decide) (hI11 _ _) ⟨by decide, by decide⟩ (fun hc => ?_) (fun hc => ?_)
                · have h := h.1 hc
                  refine gw_aload_n 0 d_Mo_readsBorder_112 rfl rfl ?_
                  refine gw_iload_n 1 d_Mo_readsBorder_113 rfl rfl ?_
                  refine gw_iload_n 3 d_Mo_readsBorder_114 rfl rfl ?_
                  refine gw_iload 5 d_Mo_readsBorder_115 rfl ?_
                  refine gw_iload 4 d_Mo_readsBorder_117 rfl ?_
                  obtain ⟨g27, h⟩ := h
                  refine gw_invV (as := [.inl v1, .inl (I1 348 13), .inl 1, .inl (I2 348 13)]) (k := 348) (rest := []) (d' := (d + 3)) d_Mo_readsBorder_119 lk_Mo_122 (ga_rcv (ga_oM) rfl rfl) rfl (Nat.le_of_ble_eq_true rfl) (Nat.le_of_ble_eq_true rfl) rfl rfl (s_Mo_insert g23 g27 g24 (hI2 _ _) ⟨by decide, by decide⟩ (hI3 _ _) ?_)
                  show ga_W G (d + 4) mt_Mo_readsBorder 122 [some (.inr 348), some (.inl v1), some (.inl v2), some (.inl (I1 348 13)), some (.inl (I2 348 13)), some (.inl 1)] [.inl (gp_st (ms_p (I10 349) v1) (I1 348 13) (ms_n (I10 349) v1).toNat)] (ga_uc I10 349 (ns_in (I10 349) v1 (gp_st (ms_p (I10 349) v1) (I1 348 13) (ms_n (I10 349) v1).toNat).toNat (ms_n (I10 349) v1).toNat (I1 348 13) (1 : Int) (I2 348 13))) E
                  refine gw_nm (fun I14 q14 => ?_)
                  have h := h I14 q14
                  refine gw_RG (fun hI15 => ?_)
                  obtain ⟨g28, h⟩ := h
                  refine gw_if_lt 129 d_Mo_readsBorder_122 (by decide) g28 (fun hc => ?_) (fun hc => ?_)
                  · have h := h.1 hc
                    refine gw_iconst d_Mo_readsBorder_129 ?_
                    exact gw_zreturn d_Mo_readsBorder_130 rfl (by decide) h
                  · have h := h.2 hc
                    refine gw_iconst d_Mo_readsBorder_125 ?_
                    refine gw_goto 130 d_Mo_readsBorder_126 (by decide) ?_
                    exact gw_zreturn d_Mo_readsBorder_130 rfl (by decide) h
                · have h := h.2 hc
                  refine gw_aload_n 0 d_Mo_readsBorder_105 rfl rfl ?_
                  refine gw_iload_n 2 d_Mo_readsBorder_106 rfl rfl ?_
                  refine gw_putI d_Mo_readsBorder_107 fp_Mo_194 (ga_oM) rfl ?_
                  refine gw_nm (J := (ga_up I10 348 12 (ga_wr v2))) (fun I15 q15 => ?_)
                  have h := h I15 q15
                  refine gw_RG (fun hI16 => ?_)
                  refine gw_iconst d_Mo_readsBorder_110 ?_
                  exact gw_zreturn d_Mo_readsBorder_111 rfl (by decide) h
        · have h := h.2 (of_decide_eq_false hc)
          refine gw_iconst d_Mo_readsBorder_61 ?_
          exact gw_zreturn d_Mo_readsBorder_62 rfl (by decide) h
    · have h := h.2 (hc)
      refine gw_iconst d_Mo_readsBorder_28 ?_
      exact gw_zreturn d_Mo_readsBorder_29 rfl (by decide) h
  · have h := h.2 (hc)
    refine gw_iconst d_Mo_readsBorder_11 ?_
    exact gw_zreturn d_Mo_readsBorder_12 rfl (by decide) h

section MT
variable {G : ga_G} {d : Nat} {I : ga_I} {E : Option ga_V → ga_I → Prop}
theorem s_Mo_readsBorder {ax st : Int} (hx : mo_x I) (hok : mo_ok I ax) (ha : 0 ≤ ax ∧ ax ≤ 1) (hst : 0 ≤ st ∧ st < I 348 6) (hn : I 348 12 = st + 1) (h : ∀ J : ga_I, gr_bd I J ax st → E (some (.inl (ga_bb (mt_bd I ax st).1))) J) : ga_W G (d + 4) mt_Mo_readsBorder 0 (ga_en 6 [.inr 348, .inl ax, .inl st]) [] I E := by
  have hx1 := hx.1
  have n0 := hok.1
  have n6 := hok.2.1
  have good : ∀ (J : ga_I) (n : Nat) (row : Nat → Int), gr_pr I J (true, n, row) → mt_bd I ax st = (true, n, row) → E (some (.inl 1)) J := fun J n row h1 h2 => by
    have hh := h J (by unfold gr_bd; rw [h2]; exact h1)
    rw [h2] at hh
    exact hh
  have bad : ∀ (J : ga_I) (n : Nat), gr_pr I J (false, n, I 349) → mt_bd I ax st = (false, n, I 349) → E (some (.inl 0)) J := fun J n h1 h2 => by
    have hh := h J (by unfold gr_bd; rw [h2]; exact h1)
    rw [h2] at hh
    exact hh
  have mI : mf I I := ⟨fun a _ => rfl, fun j _ _ => rfl⟩
  obtain ⟨-, -, rI⟩ := mt_at mI (n := st.toNat + 1) (by omega)
  have B1 := gp_rd_bd (t := I 352) (l := (I 348 6).toNat) (n := st.toNat + 1) (lo := 1) (hi := 999) (by omega)
  refine k_Mo_readsBorder_0 (fun hI => ⟨hx, by omega, by omega, fun I1 e1 => ?_⟩)
  unfold gr_rd at e1
  rw [rI] at e1 ⊢
  obtain ⟨m1, n1, v1⟩ := e1
  obtain ⟨-, -, r1⟩ := mt_at m1 n1
  rw [r1]
  refine ⟨fun q1 => ?_, fun q1 => bad I1 _ ⟨fun a h1 _ => m1.1 a h1, m1.2, n1, m1.1 349 (by omega)⟩ (by unfold mt_bd gp_bd gp_b1; rw [if_neg (by rw [q1]; decide)])⟩
  have x1 := v1 q1
  have B2 := gp_rd_bd (t := I 352) (l := (I 348 6).toNat) (n := (gp_rd (I 352) (I 348 6).toNat (st.toNat + 1) 1 999).2.1) (lo := 0) (hi := 100) B1.2.1
  have b1 := B1.2.2 q1
  generalize hX : (gp_rd (I 352) (I 348 6).toNat (st.toNat + 1) 1 999).2.2 = x at *
  refine ⟨mo_x_of hx m1 n1 (by omega), by omega, by omega, fun I2 e2 => ?_⟩
  unfold gr_rd at e2
  rw [r1] at e2
  obtain ⟨m2', n2, v2⟩ := e2
  have m2 := mf_tr m1 m2'
  obtain ⟨p2, h2, r2⟩ := mt_at m2 n2
  refine ⟨fun q2 => ?_, fun q2 => bad I2 _ ⟨fun a h1 _ => m2.1 a h1, m2.2, n2, m2.1 349 (by omega)⟩ (by unfold mt_bd gp_bd gp_b1 gp_b2; rw [if_pos q1, if_neg (by rw [q2]; decide)])⟩
  have x2 := v2 q2
  have b2 := B2.2.2 q2
  have eR : mt_bd I ax st = gp_bk (I 352) (I 348 6).toNat (I 349) ax st.toNat x (gp_rd (I 352) (I 348 6).toNat (gp_rd (I 352) (I 348 6).toNat (st.toNat + 1) 1 999).2.1 0 100).2.2 (gp_rd (I 352) (I 348 6).toNat (gp_rd (I 352) (I 348 6).toNat (st.toNat + 1) 1 999).2.1 0 100).2.1 := by
    unfold mt_bd gp_bd gp_b1 gp_b2
    rw [if_pos q1, if_pos q2, hX]
  have P2 := gp_sp_le (t := I 352) B2.2.1
  unfold gp_bk at eR
  generalize hN : (gp_rd (I 352) (I 348 6).toNat (gp_rd (I 352) (I 348 6).toNat (st.toNat + 1) 1 999).2.1 0 100).2.1 = n at *
  generalize hR : (gp_rd (I 352) (I 348 6).toNat (gp_rd (I 352) (I 348 6).toNat (st.toNat + 1) 1 999).2.1 0 100).2.2 = r at *
  have hgp := gp_st_bd (ms_p (I 349) ax) x (ms_n (I 349) ax).toNat
  refine ⟨mo_x_of hx m2 n2 (by omega), by omega, fun I3 e3 => ?_⟩
  obtain ⟨m3', n3⟩ := mt_tk_mf I2 (126 : Int)
  rw [← e3] at m3' n3
  have m3 := mf_tr m2 m3'
  rw [p2] at n3
  refine ⟨fun q3 => ?_, fun q3 => ?_⟩
  · have nk := fun w => q3 ((h2 126 (by omega)).mpr w)
    rw [if_neg q3] at n3
    obtain ⟨p3, h3, -⟩ := mt_at m3 n3
    refine ⟨mo_x_of hx m3 n3 (by omega), by omega, fun I4 e4 => ⟨fun q4 => ?_, fun q4 => ?_⟩⟩
    · obtain ⟨m4, n4⟩ := mt_tk_mf I3 (59 : Int)
      rw [← e4] at m4 n4
      have mm4 := mf_tr m3 m4
      rw [if_pos q4, p3] at n4
      have s4 : I4 349 = I 349 := mm4.1 349 (by omega)
      have ok4 := (h3 59 (by omega)).mp q4
      have fail : ∀ J : ga_I, J = ga_up I4 348 12 (ga_wr st) → ¬ gp_bc (I 349) ax x r 0 → E (some (.inl 0)) J := fun J eJ hn => by
        rw [ga_wr_eq ⟨by omega, by omega⟩] at eJ
        refine bad J st.toNat ⟨fun a h1 h2 => by rw [eJ, ga_up_fn (by omega)]; exact mm4.1 a h1, fun j h1 h2 => by rw [eJ, ga_up_nj (by omega)]; exact mm4.2 j h1 h2, by rw [eJ, ga_up_at]; exact (Int.toNat_of_nonneg hst.1).symm, by rw [eJ, ga_up_fn (by omega), s4]⟩ ?_
        rw [eR, if_neg nk]
        unfold gp_be
        rw [if_neg (fun w => w ok4), if_neg hn]
      rw [s4]
      refine ⟨fun q5 => fun J eJ => fail J eJ (fun w => q5 ⟨by omega, by rw [x2]; have := w.1; omega⟩), fun q5 => ⟨⟨by rw [x1, x2]; omega, by rw [x1, x2]; omega⟩, ⟨by rw [x1, x2]; omega, by rw [x1, x2]; omega⟩, fun q6 J eJ => fail J eJ (fun w => q6 (by rw [x1, x2]; exact w.2.1)), fun q6 => ⟨by unfold mo_ok; rw [s4]; exact hok, ha, by rw [x1]; omega, by rw [x2]; omega, fun q7 J eJ => fail J eJ (fun w => ?_), fun q7 => ⟨fun q8 => ⟨by omega, fun I8 e8 => ?_⟩, fun q8 J eJ => fail J eJ (fun w => w.2.2.2 q8)⟩⟩⟩⟩
      · rw [x1, x2] at q7
        rw [show gp_fr (ms_p (I 349) ax) (ms_r (I 349) ax) x r (-2000000009) (ms_n (I 349) ax).toNat = true from w.2.2.1] at q7
        exact absurd q7 (by decide)
      · rw [x1, x2] at e8
        rw [x1]
        refine ⟨⟨by omega, by omega⟩, fun q9 => by exfalso; omega, fun _ => ?_⟩
        refine good I8 _ _ ⟨fun a h1 h2 => by rw [e8, ga_uc_ne h2]; exact mm4.1 a h1, fun j h1 h2 => by rw [e8, ga_uc_ne (by omega)]; exact mm4.2 j h1 h2, by rw [e8, ga_uc_ne (by omega)]; exact n4, by rw [e8, ga_uc_at]⟩ ?_
        rw [eR, if_neg nk]
        unfold gp_be
        rw [if_neg (fun w => w ok4), if_pos ⟨by rw [← x2]; exact q5.2.1, by rw [← x1, ← x2]; exact q6, by rw [x1, x2] at q7; simpa using q7, q8⟩]
        rfl
    · obtain ⟨m4, n4⟩ := mt_tk_mf I3 (59 : Int)
      rw [← e4] at m4 n4
      have mm4 := mf_tr m3 m4
      rw [if_neg q4, p3] at n4
      refine bad I4 _ ⟨fun a h1 h2 => mm4.1 a h1, mm4.2, n4, mm4.1 349 (by omega)⟩ ?_
      rw [eR, if_neg nk]
      unfold gp_be
      rw [if_pos (fun w => q4 ((h3 59 (by omega)).mpr w))]
      rfl
  · have yk := (h2 126 (by omega)).mp q3
    rw [if_pos q3] at n3
    have n3' : I3 348 12 = ((gp_sp (I 352) (I 348 6).toNat n + 1 : Nat) : Int) := by rw [n3]; omega
    obtain ⟨p3, h3, -⟩ := mt_at m3 n3'
    refine ⟨mo_x_of hx m3 n3' (by have := yk.1; omega), by omega, fun I4 e4 => ⟨fun q4 => ?_, fun q4 => ?_⟩⟩
    · obtain ⟨m4, n4⟩ := mt_tk_mf I3 (59 : Int)
      rw [← e4] at m4 n4
      have mm4 := mf_tr m3 m4
      rw [if_pos q4, p3] at n4
      have s4 : I4 349 = I 349 := mm4.1 349 (by omega)
      have ok4 := (h3 59 (by omega)).mp q4
      have fail : ∀ J : ga_I, J = ga_up I4 348 12 (ga_wr st) → ¬ gp_bc (I 349) ax x r 1 → E (some (.inl 0)) J := fun J eJ hn => by
        rw [ga_wr_eq ⟨by omega, by omega⟩] at eJ
        refine bad J st.toNat ⟨fun a h1 h2 => by rw [eJ, ga_up_fn (by omega)]; exact mm4.1 a h1, fun j h1 h2 => by rw [eJ, ga_up_nj (by omega)]; exact mm4.2 j h1 h2, by rw [eJ, ga_up_at]; exact (Int.toNat_of_nonneg hst.1).symm, by rw [eJ, ga_up_fn (by omega), s4]⟩ ?_
        rw [eR, if_pos yk]
        unfold gp_be
        rw [if_neg (fun w => w ok4), if_neg hn]
      rw [s4]
      refine ⟨fun q5 => fun J eJ => fail J eJ (fun w => q5 ⟨by omega, by rw [x2]; have := w.1; omega⟩), fun q5 => ⟨⟨by rw [x1, x2]; omega, by rw [x1, x2]; omega⟩, ⟨by rw [x1, x2]; omega, by rw [x1, x2]; omega⟩, fun q6 J eJ => fail J eJ (fun w => q6 (by rw [x1, x2]; exact w.2.1)), fun q6 => ⟨by unfold mo_ok; rw [s4]; exact hok, ha, by rw [x1]; omega, by rw [x2]; omega, fun q7 J eJ => fail J eJ (fun w => ?_), fun q7 => ⟨fun q8 => ⟨by omega, fun I8 e8 => ?_⟩, fun q8 J eJ => fail J eJ (fun w => w.2.2.2 q8)⟩⟩⟩⟩
      · rw [x1, x2] at q7
        rw [show gp_fr (ms_p (I 349) ax) (ms_r (I 349) ax) x r (-2000000009) (ms_n (I 349) ax).toNat = true from w.2.2.1] at q7
        exact absurd q7 (by decide)
      · rw [x1, x2] at e8
        rw [x1]
        refine ⟨⟨by omega, by omega⟩, fun q9 => by exfalso; omega, fun _ => ?_⟩
        refine good I8 _ _ ⟨fun a h1 h2 => by rw [e8, ga_uc_ne h2]; exact mm4.1 a h1, fun j h1 h2 => by rw [e8, ga_uc_ne (by omega)]; exact mm4.2 j h1 h2, by rw [e8, ga_uc_ne (by omega)]; exact n4, by rw [e8, ga_uc_at]⟩ ?_
        rw [eR, if_pos yk]
        unfold gp_be
        rw [if_neg (fun w => w ok4), if_pos ⟨by rw [← x2]; exact q5.2.1, by rw [← x1, ← x2]; exact q6, by rw [x1, x2] at q7; simpa using q7, q8⟩]
        rfl
    · obtain ⟨m4, n4⟩ := mt_tk_mf I3 (59 : Int)
      rw [← e4] at m4 n4
      have mm4 := mf_tr m3 m4
      rw [if_neg q4, p3] at n4
      refine bad I4 _ ⟨fun a h1 h2 => mm4.1 a h1, mm4.2, n4, mm4.1 349 (by omega)⟩ ?_
      rw [eR, if_pos yk]
      unfold gp_be
      rw [if_pos (fun w => q4 ((h3 59 (by omega)).mpr w))]
      rfl
end MT
