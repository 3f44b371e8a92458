/-! the reference: gains and items read -/
section MU
variable {G : ga_G} {d : Nat} {I : ga_I} {E : Option ga_V → ga_I → Prop}
def gp_h5 (t : Nat → Int) (l : Nat) (s : Nat → Int) (c r i : Int) (R : Bool × Nat × Int) : Bool × Nat × (Nat → Int) :=
  if R.1 = true then (if gt_ok t l (gp_sp t l R.2.1) 59 then (true, gp_sp t l R.2.1 + 1, ns_up s (38 + 4 * (7 * c + r) + i).toNat R.2.2) else (false, gp_sp t l R.2.1, s)) else (false, R.2.1, s)
def gp_h4 (t : Nat → Int) (l : Nat) (s : Nat → Int) (c r : Int) (R : Bool × Nat × Int) : Bool × Nat × (Nat → Int) := if R.1 = true then gp_h5 t l s c r R.2.2 (gp_rd t l R.2.1 0 9999) else (false, R.2.1, s)
def gp_h3 (t : Nat → Int) (l : Nat) (s : Nat → Int) (c : Int) (R : Bool × Nat × Int) : Bool × Nat × (Nat → Int) := if R.1 = true then gp_h4 t l s c R.2.2 (gp_rd t l R.2.1 0 2) else (false, R.2.1, s)
def gp_h2 (t : Nat → Int) (l : Nat) (s : Nat → Int) (R : Bool × Nat × Int) : Bool × Nat × (Nat → Int) := if R.1 = true then gp_h3 t l s R.2.2 (gp_rd t l R.2.1 0 (ms_n s 1)) else (false, R.2.1, s)
/-- a gain's item, from behind its letter on -/
def gp_gd (t : Nat → Int) (l : Nat) (s : Nat → Int) (n : Nat) : Bool × Nat × (Nat → Int) := gp_h2 t l s (gp_rd t l n 0 (ms_n s 0))
def mt_gd (I : ga_I) : Bool × Nat × (Nat → Int) := gp_gd (I 352) (I 348 6).toNat (I 349) (I 348 12).toNat
def gr_gd (I J : ga_I) : Prop := gr_pr I J (mt_gd I)
/-- an item, that begins at a place -/
def gp_it (t : Nat → Int) (l : Nat) (s : Nat → Int) (p : Nat) : Bool × Nat × (Nat → Int) :=
  if t p = 120 then gp_bd t l s 0 p else if t p = 121 then gp_bd t l s 1 p else if t p = 103 then gp_gd t l s (p + 1) else (false, p, s)
def mt_it (I : ga_I) : Bool × Nat × (Nat → Int) := gp_it (I 352) (I 348 6).toNat (I 349) (mt_p I)
def gr_it (I J : ga_I) : Prop := gr_pr I J (mt_it I)
end MU
theorem k_Mo_readsGain_0 {G : ga_G} {d : Nat} {I : ga_I} {E : Option ga_V → ga_I → Prop}  
    (h : ga_RG I → (0 ≤ (0 : Int) ∧ (0 : Int) ≤ 1) ∧ ((mo_x I) ∧ ((0 ≤ (0 : Int) ∧ (0 : Int) ≤ 9999) ∧ ((0 ≤ (ms_n (I 349) (0 : Int)) ∧ (ms_n (I 349) (0 : Int)) ≤ 9999) ∧ ((∀ I1 : ga_I, gr_rd I I1 (0 : Int) (ms_n (I 349) (0 : Int)) → (((mt_rd I (0 : Int) (ms_n (I 349) (0 : Int))).1 = true) → (0 ≤ (1 : Int) ∧ (1 : Int) ≤ 1) ∧ ((mo_x I1) ∧ ((0 ≤ (ms_n (I1 349) (1 : Int)) ∧ (ms_n (I1 349) (1 : Int)) ≤ 9999) ∧ ((∀ I2 : ga_I, gr_rd I1 I2 (0 : Int) (ms_n (I1 349) (1 : Int)) → (((mt_rd I1 (0 : Int) (ms_n (I1 349) (1 : Int))).1 = true) → (mo_x I2) ∧ ((0 ≤ (2 : Int) ∧ (2 : Int) ≤ 9999) ∧ ((∀ I3 : ga_I, gr_rd I2 I3 (0 : Int) (2 : Int) → (((mt_rd I2 (0 : Int) (2 : Int)).1 = true) → (mo_x I3) ∧ ((0 ≤ (9999 : Int) ∧ (9999 : Int) ≤ 9999) ∧ ((∀ I4 : ga_I, gr_rd I3 I4 (0 : Int) (9999 : Int) → (((mt_rd I3 (0 : Int) (9999 : Int)).1 = true) → (mo_x I4) ∧ ((0 ≤ (59 : Int) ∧ (59 : Int) ≤ 255) ∧ ((∀ I5 : ga_I, I5 = (mt_tk I4 (59 : Int)) → ((mt_hv I4 = (59 : Int)) → (∀ z1 : Int, z1 = 38 + 4 * (7 * (I1 348 13) + (I2 348 13)) → (0 ≤ (z1 + (I3 348 13))) ∧ (((z1 + (I3 348 13)) < 1120) ∧ ((∀ I6 : ga_I, I6 = (ga_up I5 349 (z1 + (I3 348 13)).toNat (I4 348 13)) → E (some (.inl 1)) I6))))) ∧ ((¬ (mt_hv I4 = (59 : Int))) → E (some (.inl 0)) I5))))) ∧ (((mt_rd I3 (0 : Int) (9999 : Int)).1 = false) → E (some (.inl 0)) I4))))) ∧ (((mt_rd I2 (0 : Int) (2 : Int)).1 = false) → E (some (.inl 0)) I3))))) ∧ (((mt_rd I1 (0 : Int) (ms_n (I1 349) (1 : Int))).1 = false) → E (some (.inl 0)) I2)))))) ∧ (((mt_rd I (0 : Int) (ms_n (I 349) (0 : Int))).1 = false) → E (some (.inl 0)) I1))))))) :
    ga_W G (d + 2) mt_Mo_readsGain 0 (ga_en 5 [.inr 348]) [] I E := by
  show ga_W G (d + 2) mt_Mo_readsGain 0 [some (.inr 348), none, none, none, none] [] I E
  refine gw_RG (fun hI1 => ?_)
  have h := h hI1
  refine gw_aload_n 0 d_Mo_readsGain_0 rfl rfl ?_
  refine gw_iconst d_Mo_readsGain_1 ?_
  refine gw_aload_n 0 d_Mo_readsGain_2 rfl rfl ?_
  refine gw_iconst d_Mo_readsGain_3 ?_
  obtain ⟨g1, h⟩ := h
  refine gw_invV (as := [.inl 0]) (k := 348) (rest := [.inl 0, .inr 348]) (d' := (d + 1)) d_Mo_readsGain_4 lk_Mo_55 (ga_rcv (ga_oM) rfl rfl) rfl (Nat.le_of_ble_eq_true rfl) (Nat.le_of_ble_eq_true rfl) rfl rfl (s_Mo_borders g1 ?_)
  show ga_W G (d + 2) mt_Mo_readsGain 7 [some (.inr 348), none, none, none, none] [.inl (ms_n (I 349) (0 : Int)), .inl 0, .inr 348] I E
  obtain ⟨g2, h⟩ := h
  obtain ⟨g3, h⟩ := h
  obtain ⟨g4, h⟩ := h
  refine gw_invV (as := [.inl 0, .inl (ms_n (I 349) (0 : Int))]) (k := 348) (rest := []) (d' := (d + 1)) d_Mo_readsGain_7 lk_Mo_204 (ga_rcv (ga_oM) rfl rfl) rfl (Nat.le_of_ble_eq_true rfl) (Nat.le_of_ble_eq_true rfl) rfl rfl (s_Mo_reads g2 g3 g4 (fun I1 q1 => ?_))
  have h := h I1 q1
  show ga_W G (d + 2) mt_Mo_readsGain 10 [some (.inr 348), none, none, none, none] [.inl (ga_bb ((mt_rd I (0 : Int) (ms_n (I 349) (0 : Int))).1))] I1 E
  refine gw_RG (fun hI2 => ?_)
  refine gw_ifb_ne 15 d_Mo_readsGain_10 (by decide) (fun hc => ?_) (fun hc => ?_)
  · have h := h.1 (hc)
    refine gw_aload_n 0 d_Mo_readsGain_15 rfl rfl ?_
    refine gw_getI d_Mo_readsGain_16 fl_Mo_201 (ga_oM) rfl ?_
    refine gw_istore_n 1 d_Mo_readsGain_19 rfl (Nat.le_of_ble_eq_true rfl) rfl ?_
    refine gw_aload_n 0 d_Mo_readsGain_20 rfl rfl ?_
    refine gw_iconst d_Mo_readsGain_21 ?_
    refine gw_aload_n 0 d_Mo_readsGain_22 rfl rfl ?_
    refine gw_iconst d_Mo_readsGain_23 ?_
    obtain ⟨g5, h⟩ := h
    refine gw_invV (as := [.inl 1]) (k := 348) (rest := [.inl 0, .inr 348]) (d' := (d + 1)) d_Mo_readsGain_24 lk_Mo_55 (ga_rcv (ga_oM) rfl rfl) rfl (Nat.le_of_ble_eq_true rfl) (Nat.le_of_ble_eq_true rfl) rfl rfl (s_Mo_borders g5 ?_)
    show ga_W G (d + 2) mt_Mo_readsGain 27 [some (.inr 348), some (.inl (I1 348 13)), none, none, none] [.inl (ms_n (I1 349) (1 : Int)), .inl 0, .inr 348] I1 E
    obtain ⟨g6, h⟩ := h
    obtain ⟨g7, h⟩ := h
    refine gw_invV (as := [.inl 0, .inl (ms_n (I1 349) (1 : Int))]) (k := 348) (rest := []) (d' := (d + 1)) d_Mo_readsGain_27 lk_Mo_204 (ga_rcv (ga_oM) rfl rfl) rfl (Nat.le_of_ble_eq_true rfl) (Nat.le_of_ble_eq_true rfl) rfl rfl (s_Mo_reads g6 g3 g7 (fun I2 q2 => ?_))
    have h := h I2 q2
    show ga_W G (d + 2) mt_Mo_readsGain 30 [some (.inr 348), some (.inl (I1 348 13)), none, none, none] [.inl (ga_bb ((mt_rd I1 (0 : Int) (ms_n (I1 349) (1 : Int))).1))] I2 E
    refine gw_RG (fun hI3 => ?_)
    refine gw_ifb_ne 35 d_Mo_readsGain_30 (by decide) (fun hc => ?_) (fun hc => ?_)
    · have h := h.1 (hc)
      refine gw_aload_n 0 d_Mo_readsGain_35 rfl rfl ?_
      refine gw_getI d_Mo_readsGain_36 fl_Mo_201 (ga_oM) rfl ?_
      refine gw_istore_n 2 d_Mo_readsGain_39 rfl (Nat.le_of_ble_eq_true rfl) rfl ?_
      refine gw_aload_n 0 d_Mo_readsGain_40 rfl rfl ?_
      refine gw_iconst d_Mo_readsGain_41 ?_
      refine gw_iconst d_Mo_readsGain_42 ?_
      obtain ⟨g8, h⟩ := h
      obtain ⟨g9, h⟩ := h
      refine gw_invV (as := [.inl 0, .inl 2]) (k := 348) (rest := []) (d' := (d + 1)) d_Mo_readsGain_43 lk_Mo_204 (ga_rcv (ga_oM) rfl rfl) rfl (Nat.le_of_ble_eq_true rfl) (Nat.le_of_ble_eq_true rfl) rfl rfl (s_Mo_reads g8 g3 g9 (fun I3 q3 => ?_))
      have h := h I3 q3
      show ga_W G (d + 2) mt_Mo_readsGain 46 [some (.inr 348), some (.inl (I1 348 13)), some (.inl (I2 348 13)), none, none] [.inl (ga_bb ((mt_rd I2 (0 : Int) (2 : Int)).1))] I3 E
      refine gw_RG (fun hI4 => ?_)
      refine gw_ifb_ne 51 d_Mo_readsGain_46 (by decide) (fun hc => ?_) (fun hc => ?_)
      · have h := h.1 (hc)
        refine gw_aload_n 0 d_Mo_readsGain_51 rfl rfl ?_
        refine gw_getI d_Mo_readsGain_52 fl_Mo_201 (ga_oM) rfl ?_
        refine gw_istore_n 3 d_Mo_readsGain_55 rfl (Nat.le_of_ble_eq_true rfl) rfl ?_
        refine gw_aload_n 0 d_Mo_readsGain_56 rfl rfl ?_
        refine gw_iconst d_Mo_readsGain_57 ?_
        refine gw_sipush d_Mo_readsGain_58 (by decide +kernel) ?_
        obtain ⟨g10, h⟩ := h
        obtain ⟨g11, h⟩ := h
        refine gw_invV (as := [.inl 0, .inl 9999]) (k := 348) (rest := []) (d' := (d + 1)) d_Mo_readsGain_61 lk_Mo_204 (ga_rcv (ga_oM) rfl rfl) rfl (Nat.le_of_ble_eq_true rfl) (Nat.le_of_ble_eq_true rfl) rfl rfl (s_Mo_reads g10 g3 g11 (fun I4 q4 => ?_))
        have h := h I4 q4
        show ga_W G (d + 2) mt_Mo_readsGain 64 [some (.inr 348), some (.inl (I1 348 13)), some (.inl (I2 348 13)), some (.inl (I3 348 13)), none] [.inl (ga_bb ((mt_rd I3 (0 : Int) (9999 : Int)).1))] I4 E
        refine gw_RG (fun hI5 => ?_)
        refine gw_ifb_ne 69 d_Mo_readsGain_64 (by decide) (fun hc => ?_) (fun hc => ?_)
        · have h := h.1 (hc)
          refine gw_aload_n 0 d_Mo_readsGain_69 rfl rfl ?_
          refine gw_getI d_Mo_readsGain_70 fl_Mo_201 (ga_oM) rfl ?_
          refine gw_istore 4 d_Mo_readsGain_73 (Nat.le_of_ble_eq_true rfl) rfl ?_
          refine gw_aload_n 0 d_Mo_readsGain_75 rfl rfl ?_
          refine gw_bipush d_Mo_readsGain_76 (by decide +kernel) ?_
          obtain ⟨g12, h⟩ := h
          obtain ⟨g13, h⟩ := h
          refine gw_invV (as := [.inl 59]) (k := 348) (rest := []) (d' := (d + 1)) d_Mo_readsGain_78 lk_Mo_207 (ga_rcv (ga_oM) rfl rfl) rfl (Nat.le_of_ble_eq_true rfl) (Nat.le_of_ble_eq_true rfl) rfl rfl (s_Mo_takes g12 g13 ?_)
          show ga_W G (d + 2) mt_Mo_readsGain 81 [some (.inr 348), some (.inl (I1 348 13)), some (.inl (I2 348 13)), some (.inl (I3 348 13)), some (.inl (I4 348 13))] [.inl (ga_bb (decide (mt_hv I4 = (59 : Int))))] (mt_tk I4 (59 : Int)) E
          refine gw_nm (fun I5 q5 => ?_)
          have h := h I5 q5
          refine gw_RG (fun hI6 => ?_)
          refine gw_ifb_ne 86 d_Mo_readsGain_81 (by decide) (fun hc => ?_) (fun hc => ?_)
          · have h := h.1 (of_decide_eq_true hc)
            refine gw_aload_n 0 d_Mo_readsGain_86 rfl rfl ?_
            refine gw_getR d_Mo_readsGain_87 fl_Mo_7 (ga_oM) rfl ?_
            refine gw_iload_n 1 d_Mo_readsGain_90 rfl rfl ?_
            refine gw_iload_n 2 d_Mo_readsGain_91 rfl rfl ?_
            refine gw_invS (as := [.inl (I1 348 13), .inl (I2 348 13)]) (rest := [.inr 349]) (d' := (d + 1)) d_Mo_readsGain_92 lk_Mo_59 rfl (Nat.le_of_ble_eq_true rfl) (Nat.le_of_ble_eq_true rfl) rfl rfl (s_Mo_at  ?_)
            show ga_W G (d + 2) mt_Mo_readsGain 95 [some (.inr 348), some (.inl (I1 348 13)), some (.inl (I2 348 13)), some (.inl (I3 348 13)), some (.inl (I4 348 13))] [.inl (38 + 4 * (7 * (I1 348 13) + (I2 348 13))), .inr 349] I5 E
            refine gw_nz (z := 38 + 4 * (7 * (I1 348 13) + (I2 348 13))) (fun z1 q6 => ?_)
            have h := h z1 q6
            refine gw_iload_n 3 d_Mo_readsGain_95 rfl rfl ?_
            refine gw_iadd d_Mo_readsGain_96 ?_
            refine gw_iload 4 d_Mo_readsGain_97 rfl ?_
            obtain ⟨g14, h⟩ := h
            obtain ⟨g15, h⟩ := h
            refine gw_iast d_Mo_readsGain_99 (ga_aM1) g14 g15 ?_
            show ga_W G (d + 2) mt_Mo_readsGain 100 [some (.inr 348), some (.inl (I1 348 13)), some (.inl (I2 348 13)), some (.inl (I3 348 13)), some (.inl (I4 348 13))] [] (ga_up I5 349 (z1 + (I3 348 13)).toNat (ga_wr (I4 348 13))) E
            rw [ga_wr_eq (z := (I4 348 13)) (hI5 _ _)]
            refine gw_nm (J := (ga_up I5 349 (z1 + (I3 348 13)).toNat (I4 348 13))) (fun I6 q7 => ?_)
            have h := h I6 q7
            refine gw_RG (fun hI7 => ?_)
            refine gw_iconst d_Mo_readsGain_100 ?_
            exact gw_zreturn d_Mo_readsGain_101 rfl (by decide) h
          · have h := h.2 (of_decide_eq_false hc)
            refine gw_iconst d_Mo_readsGain_84 ?_
            exact gw_zreturn d_Mo_readsGain_85 rfl (by decide) h
        · have h := h.2 (hc)
          refine gw_iconst d_Mo_readsGain_67 ?_
          exact gw_zreturn d_Mo_readsGain_68 rfl (by decide) h
      · have h := h.2 (hc)
        refine gw_iconst d_Mo_readsGain_49 ?_
        exact gw_zreturn d_Mo_readsGain_50 rfl (by decide) h
    · have h := h.2 (hc)
      refine gw_iconst d_Mo_readsGain_33 ?_
      exact gw_zreturn d_Mo_readsGain_34 rfl (by decide) h
  · have h := h.2 (hc)
    refine gw_iconst d_Mo_readsGain_13 ?_
    exact gw_zreturn d_Mo_readsGain_14 rfl (by decide) h

section MU
variable {G : ga_G} {d : Nat} {I : ga_I} {E : Option ga_V → ga_I → Prop}
theorem s_Mo_readsGain (hx : mo_x I) (hmn : mo_n I) (h : ∀ J : ga_I, gr_gd I J → E (some (.inl (ga_bb (mt_gd I).1))) J) : ga_W G (d + 2) mt_Mo_readsGain 0 (ga_en 5 [.inr 348]) [] I E := by
  have hx1 := hx.1
  have hx2 := hx.2.1
  have hn0 := hmn.1
  have hn1 := hmn.2
  have good : ∀ (J : ga_I) (n : Nat) (row : Nat → Int), gr_pr I J (true, n, row) → mt_gd I = (true, n, row) → E (some (.inl 1)) J := fun J n row h1 h2 => by
    have hh := h J (by unfold gr_gd; rw [h2]; exact h1)
    rw [h2] at hh
    exact hh
  have bad : ∀ (J : ga_I) (n : Nat), mf I J → J 348 12 = (n : Int) → mt_gd I = (false, n, I 349) → E (some (.inl 0)) J := fun J n h1 h3 h2 => by
    have hh := h J (by unfold gr_gd; rw [h2]; exact ⟨fun a q1 _ => h1.1 a q1, h1.2, h3, h1.1 349 (by omega)⟩)
    rw [h2] at hh
    exact hh
  have mI : mf I I := ⟨fun a _ => rfl, fun j _ _ => rfl⟩
  obtain ⟨-, -, rI⟩ := mt_at mI (n := (I 348 12).toNat) (by omega)
  have B1 := gp_rd_bd (t := I 352) (l := (I 348 6).toNat) (n := (I 348 12).toNat) (lo := 0) (hi := ms_n (I 349) 0) (by omega)
  refine k_Mo_readsGain_0 (fun hI => ⟨by omega, hx, by omega, by omega, fun I1 e1 => ?_⟩)
  unfold gr_rd at e1
  rw [rI] at e1 ⊢
  obtain ⟨m1, n1, v1⟩ := e1
  obtain ⟨-, -, r1⟩ := mt_at m1 n1
  have s1 : I1 349 = I 349 := m1.1 349 (by omega)
  rw [r1, s1]
  have eR1 : ∀ X, gp_rd (I 352) (I 348 6).toNat (I 348 12).toNat 0 (ms_n (I 349) 0) = X → mt_gd I = gp_h2 (I 352) (I 348 6).toNat (I 349) X := fun X hX => by rw [← hX]; rfl
  generalize gp_rd (I 352) (I 348 6).toNat (I 348 12).toNat 0 (ms_n (I 349) 0) = R1 at *
  have eR1 := eR1 R1 rfl
  refine ⟨fun q1 => ?_, fun q1 => bad I1 _ m1 n1 (by rw [eR1]; unfold gp_h2; rw [if_neg (by rw [q1]; decide)])⟩
  have x1 := v1 q1
  have b1 := B1.2.2 q1
  have B2 := gp_rd_bd (t := I 352) (l := (I 348 6).toNat) (n := R1.2.1) (lo := 0) (hi := ms_n (I 349) 1) B1.2.1
  refine ⟨by omega, mo_x_of hx m1 n1 (by omega), by omega, fun I2 e2 => ?_⟩
  unfold gr_rd at e2
  rw [r1] at e2
  obtain ⟨m2', n2, v2⟩ := e2
  have m2 := mf_tr m1 m2'
  obtain ⟨-, -, r2⟩ := mt_at m2 n2
  rw [r2]
  have eR2 : mt_gd I = gp_h3 (I 352) (I 348 6).toNat (I 349) R1.2.2 (gp_rd (I 352) (I 348 6).toNat R1.2.1 0 (ms_n (I 349) 1)) := by rw [eR1]; unfold gp_h2; rw [if_pos q1]
  generalize gp_rd (I 352) (I 348 6).toNat R1.2.1 0 (ms_n (I 349) 1) = R2 at *
  refine ⟨fun q2 => ?_, fun q2 => bad I2 _ m2 n2 (by rw [eR2]; unfold gp_h3; rw [if_neg (by rw [q2]; decide)])⟩
  have x2 := v2 q2
  have b2 := B2.2.2 q2
  have B3 := gp_rd_bd (t := I 352) (l := (I 348 6).toNat) (n := R2.2.1) (lo := 0) (hi := 2) B2.2.1
  refine ⟨mo_x_of hx m2 n2 (by omega), by omega, fun I3 e3 => ?_⟩
  unfold gr_rd at e3
  rw [r2] at e3
  obtain ⟨m3', n3, v3⟩ := e3
  have m3 := mf_tr m2 m3'
  obtain ⟨-, -, r3⟩ := mt_at m3 n3
  rw [r3]
  have eR3 : mt_gd I = gp_h4 (I 352) (I 348 6).toNat (I 349) R1.2.2 R2.2.2 (gp_rd (I 352) (I 348 6).toNat R2.2.1 0 2) := by rw [eR2]; unfold gp_h3; rw [if_pos q2]
  generalize gp_rd (I 352) (I 348 6).toNat R2.2.1 0 2 = R3 at *
  refine ⟨fun q3 => ?_, fun q3 => bad I3 _ m3 n3 (by rw [eR3]; unfold gp_h4; rw [if_neg (by rw [q3]; decide)])⟩
  have x3 := v3 q3
  have b3 := B3.2.2 q3
  have B4 := gp_rd_bd (t := I 352) (l := (I 348 6).toNat) (n := R3.2.1) (lo := 0) (hi := 9999) B3.2.1
  refine ⟨mo_x_of hx m3 n3 (by omega), by omega, fun I4 e4 => ?_⟩
  unfold gr_rd at e4
  rw [r3] at e4
  obtain ⟨m4', n4, v4⟩ := e4
  have m4 := mf_tr m3 m4'
  obtain ⟨p4, h4, -⟩ := mt_at m4 n4
  have eR4 : mt_gd I = gp_h5 (I 352) (I 348 6).toNat (I 349) R1.2.2 R2.2.2 R3.2.2 (gp_rd (I 352) (I 348 6).toNat R3.2.1 0 9999) := by rw [eR3]; unfold gp_h4; rw [if_pos q3]
  generalize gp_rd (I 352) (I 348 6).toNat R3.2.1 0 9999 = R4 at *
  refine ⟨fun q4 => ?_, fun q4 => bad I4 _ m4 n4 (by rw [eR4]; unfold gp_h5; rw [if_neg (by rw [q4]; decide)])⟩
  have x4 := v4 q4
  have b4 := B4.2.2 q4
  refine ⟨mo_x_of hx m4 n4 (by omega), by omega, fun I5 e5 => ?_⟩
  obtain ⟨m5', n5⟩ := mt_tk_mf I4 (59 : Int)
  rw [← e5] at m5' n5
  have m5 := mf_tr m4 m5'
  rw [p4] at n5
  refine ⟨fun q5 z1 f1 => ?_, fun q5 => ?_⟩
  · rw [if_pos q5] at n5
    rw [x1, x2] at f1
    rw [x3, x4, f1]
    refine ⟨by omega, by omega, fun I6 e6 => ?_⟩
    rw [ga_up_uc, m5.1 349 (by omega)] at e6
    refine good I6 _ _ ⟨fun a h1 h2 => by rw [e6, ga_uc_ne h2]; exact m5.1 a h1, fun j h1 h2 => by rw [e6, ga_uc_ne (by omega)]; exact m5.2 j h1 h2, by rw [e6, ga_uc_ne (by omega)]; exact n5, by rw [e6, ga_uc_at]⟩ ?_
    rw [eR4]
    unfold gp_h5
    rw [if_pos q4, if_pos ((h4 59 (by omega)).mp q5)]
  · rw [if_neg q5] at n5
    refine bad I5 _ m5 n5 ?_
    rw [eR4]
    unfold gp_h5
    rw [if_pos q4, if_neg (fun w => q5 ((h4 59 (by omega)).mpr w))]
end MU
theorem k_Mo_readsItem_0 {G : ga_G} {d : Nat} {I : ga_I} {E : Option ga_V → ga_I → Prop}  
    (h : ga_RG I → (mo_x I) ∧ ((∀ I1 : ga_I, I1 = (ga_up I 348 12 (mt_p I : Nat)) → (ga_rg (mt_hv I)) ∧ ((((mt_hv I) = 120) → (∀ I2 : ga_I, I2 = (ga_up I1 348 12 (ga_wr ((I1 348 12) + 1))) → (((mt_hv I) ≠ 103) → (mo_x I2) ∧ ((mo_ok I2 ((mt_hv I) - 120)) ∧ ((0 ≤ ((mt_hv I) - 120) ∧ ((mt_hv I) - 120) ≤ 1) ∧ ((0 ≤ (I1 348 12) ∧ (I1 348 12) < I2 348 6) ∧ ((I2 348 12 = (I1 348 12) + 1) ∧ ((∀ I3 : ga_I, gr_bd I2 I3 ((mt_hv I) - 120) (I1 348 12) → E (some (.inl (ga_bb ((mt_bd I2 ((mt_hv I) - 120) (I1 348 12)).1)))) I3))))))) ∧ (((mt_hv I) = 103) → (mo_x I2) ∧ ((mo_n I2) ∧ ((∀ I4 : ga_I, gr_gd I2 I4 → E (some (.inl (ga_bb ((mt_gd I2).1)))) I4)))))) ∧ ((¬ ((mt_hv I) = 120)) → (((mt_hv I) = 121) → (∀ I5 : ga_I, I5 = (ga_up I1 348 12 (ga_wr ((I1 348 12) + 1))) → (((mt_hv I) ≠ 103) → (mo_x I5) ∧ ((mo_ok I5 ((mt_hv I) - 120)) ∧ ((0 ≤ ((mt_hv I) - 120) ∧ ((mt_hv I) - 120) ≤ 1) ∧ ((0 ≤ (I1 348 12) ∧ (I1 348 12) < I5 348 6) ∧ ((I5 348 12 = (I1 348 12) + 1) ∧ ((∀ I6 : ga_I, gr_bd I5 I6 ((mt_hv I) - 120) (I1 348 12) → E (some (.inl (ga_bb ((mt_bd I5 ((mt_hv I) - 120) (I1 348 12)).1)))) I6))))))) ∧ (((mt_hv I) = 103) → (mo_x I5) ∧ ((mo_n I5) ∧ ((∀ I7 : ga_I, gr_gd I5 I7 → E (some (.inl (ga_bb ((mt_gd I5).1)))) I7)))))) ∧ ((¬ ((mt_hv I) = 121)) → (((mt_hv I) = 103) → (∀ I8 : ga_I, I8 = (ga_up I1 348 12 (ga_wr ((I1 348 12) + 1))) → (((mt_hv I) ≠ 103) → (mo_x I8) ∧ ((mo_ok I8 ((mt_hv I) - 120)) ∧ ((0 ≤ ((mt_hv I) - 120) ∧ ((mt_hv I) - 120) ≤ 1) ∧ ((0 ≤ (I1 348 12) ∧ (I1 348 12) < I8 348 6) ∧ ((I8 348 12 = (I1 348 12) + 1) ∧ ((∀ I9 : ga_I, gr_bd I8 I9 ((mt_hv I) - 120) (I1 348 12) → E (some (.inl (ga_bb ((mt_bd I8 ((mt_hv I) - 120) (I1 348 12)).1)))) I9))))))) ∧ (((mt_hv I) = 103) → (mo_x I8) ∧ ((mo_n I8) ∧ ((∀ I10 : ga_I, gr_gd I8 I10 → E (some (.inl (ga_bb ((mt_gd I8).1)))) I10)))))) ∧ ((¬ ((mt_hv I) = 103)) → E (some (.inl 0)) I1))))))) :
    ga_W G (d + 5) mt_Mo_readsItem 0 (ga_en 3 [.inr 348]) [] I E := by
  show ga_W G (d + 5) mt_Mo_readsItem 0 [some (.inr 348), none, none] [] I E
  refine gw_RG (fun hI1 => ?_)
  have h := h hI1
  refine gw_aload_n 0 d_Mo_readsItem_0 rfl rfl ?_
  obtain ⟨g1, h⟩ := h
  refine gw_invV (as := []) (k := 348) (rest := []) (d' := (d + 4)) d_Mo_readsItem_1 lk_Mo_197 (ga_rcv (ga_oM) rfl rfl) rfl (Nat.le_of_ble_eq_true rfl) (Nat.le_of_ble_eq_true rfl) rfl rfl (s_Mo_here g1 ?_)
  show ga_W G (d + 5) mt_Mo_readsItem 4 [some (.inr 348), none, none] [.inl (mt_hv I)] (ga_up I 348 12 (mt_p I : Nat)) E
  refine gw_nm (fun I1 q1 => ?_)
  have h := h I1 q1
  refine gw_RG (fun hI2 => ?_)
  refine gw_istore_n 1 d_Mo_readsItem_4 rfl (Nat.le_of_ble_eq_true rfl) rfl ?_
  refine gw_aload_n 0 d_Mo_readsItem_5 rfl rfl ?_
  refine gw_getI d_Mo_readsItem_6 fl_Mo_194 (ga_oM) rfl ?_
  refine gw_istore_n 2 d_Mo_readsItem_9 rfl (Nat.le_of_ble_eq_true rfl) rfl ?_
  refine gw_iload_n 1 d_Mo_readsItem_10 rfl rfl ?_
  refine gw_bipush d_Mo_readsItem_11 (by decide +kernel) ?_
  obtain ⟨g2, h⟩ := h
  refine gw_icmp_eq 30 d_Mo_readsItem_13 (by decide) g2 ⟨by decide, by decide⟩ (fun hc => ?_) (fun hc => ?_)
  · have h := h.1 hc
    refine gw_aload_n 0 d_Mo_readsItem_30 rfl rfl ?_
    refine gw_dup d_Mo_readsItem_31 ?_
    refine gw_getI d_Mo_readsItem_32 fl_Mo_194 (ga_oM) rfl ?_
    refine gw_iconst d_Mo_readsItem_35 ?_
    refine gw_iadd d_Mo_readsItem_36 ?_
    refine gw_putI d_Mo_readsItem_37 fp_Mo_194 (ga_oM) rfl ?_
    refine gw_nm (J := (ga_up I1 348 12 (ga_wr ((I1 348 12) + 1)))) (fun I2 q2 => ?_)
    have h := h I2 q2
    refine gw_RG (fun hI3 => ?_)
    refine gw_iload_n 1 d_Mo_readsItem_40 rfl rfl ?_
    refine gw_bipush d_Mo_readsItem_41 (by decide +kernel) ?_
    refine gw_icmp_ne 53 d_Mo_readsItem_43 (by decide) g2 ⟨by decide, by decide⟩ (fun hc => ?_) (fun hc => ?_)
    · have h := h.1 hc
      refine gw_aload_n 0 d_Mo_readsItem_53 rfl rfl ?_
      refine gw_iload_n 1 d_Mo_readsItem_54 rfl rfl ?_
      refine gw_bipush d_Mo_readsItem_55 (by decide +kernel) ?_
      refine gw_isub d_Mo_readsItem_57 ?_
      refine gw_iload_n 2 d_Mo_readsItem_58 rfl rfl ?_
      obtain ⟨g3, h⟩ := h
      obtain ⟨g4, h⟩ := h
      obtain ⟨g5, h⟩ := h
      obtain ⟨g6, h⟩ := h
      obtain ⟨g7, h⟩ := h
      refine gw_invV (as := [.inl ((mt_hv I) - 120), .inl (I1 348 12)]) (k := 348) (rest := []) (d' := (d + 4)) d_Mo_readsItem_59 lk_Mo_214 (ga_rcv (ga_oM) rfl rfl) rfl (Nat.le_of_ble_eq_true rfl) (Nat.le_of_ble_eq_true rfl) rfl rfl (s_Mo_readsBorder g3 g4 g5 g6 g7 (fun I3 q3 => ?_))
      have h := h I3 q3
      show ga_W G (d + 5) mt_Mo_readsItem 62 [some (.inr 348), some (.inl (mt_hv I)), some (.inl (I1 348 12))] [.inl (ga_bb ((mt_bd I2 ((mt_hv I) - 120) (I1 348 12)).1))] I3 E
      refine gw_RG (fun hI4 => ?_)
      exact gw_zreturn d_Mo_readsItem_62 rfl (ga_bb_01 _) h
    · have h := h.2 hc
      refine gw_aload_n 0 d_Mo_readsItem_46 rfl rfl ?_
      obtain ⟨g8, h⟩ := h
      obtain ⟨g9, h⟩ := h
      refine gw_invV (as := []) (k := 348) (rest := []) (d' := (d + 4)) d_Mo_readsItem_47 lk_Mo_210 (ga_rcv (ga_oM) rfl rfl) rfl (Nat.le_of_ble_eq_true rfl) (Nat.le_of_ble_eq_true rfl) rfl rfl (s_Mo_readsGain g8 g9 (fun I4 q4 => ?_))
      have h := h I4 q4
      show ga_W G (d + 5) mt_Mo_readsItem 50 [some (.inr 348), some (.inl (mt_hv I)), some (.inl (I1 348 12))] [.inl (ga_bb ((mt_gd I2).1))] I4 E
      refine gw_RG (fun hI5 => ?_)
      refine gw_goto 62 d_Mo_readsItem_50 (by decide) ?_
      exact gw_zreturn d_Mo_readsItem_62 rfl (ga_bb_01 _) h
  · have h := h.2 hc
    refine gw_iload_n 1 d_Mo_readsItem_16 rfl rfl ?_
    refine gw_bipush d_Mo_readsItem_17 (by decide +kernel) ?_
    refine gw_icmp_eq 30 d_Mo_readsItem_19 (by decide) g2 ⟨by decide, by decide⟩ (fun hc => ?_) (fun hc => ?_)
    · have h := h.1 hc
      refine gw_aload_n 0 d_Mo_readsItem_30 rfl rfl ?_
      refine gw_dup d_Mo_readsItem_31 ?_
      refine gw_getI d_Mo_readsItem_32 fl_Mo_194 (ga_oM) rfl ?_
      refine gw_iconst d_Mo_readsItem_35 ?_
      refine gw_iadd d_Mo_readsItem_36 ?_
      refine gw_putI d_Mo_readsItem_37 fp_Mo_194 (ga_oM) rfl ?_
      refine gw_nm (J := (ga_up I1 348 12 (ga_wr ((I1 348 12) + 1)))) (fun I5 q5 => ?_)
      have h := h I5 q5
      refine gw_RG (fun hI6 => ?_)
      refine gw_iload_n 1 d_Mo_readsItem_40 rfl rfl ?_
      refine gw_bipush d_Mo_readsItem_41 (by decide +kernel) ?_
      refine gw_icmp_ne 53 d_Mo_readsItem_43 (by decide) g2 ⟨by decide, by decide⟩ (fun hc => ?_) (fun hc => ?_)
      · have h := h.1 hc
        refine gw_aload_n 0 d_Mo_readsItem_53 rfl rfl ?_
        refine gw_iload_n 1 d_Mo_readsItem_54 rfl rfl ?_
        refine gw_bipush d_Mo_readsItem_55 (by decide +kernel) ?_
        refine gw_isub d_Mo_readsItem_57 ?_
        refine gw_iload_n 2 d_Mo_readsItem_58 rfl rfl ?_
        obtain ⟨g10, h⟩ := h
        obtain ⟨g11, h⟩ := h
        obtain ⟨g12, h⟩ := h
        obtain ⟨g13, h⟩ := h
        obtain ⟨g14, h⟩ := h
        refine gw_invV (as := [.inl ((mt_hv I) - 120), .inl (I1 348 12)]) (k := 348) (rest := []) (d' := (d + 4)) d_Mo_readsItem_59 lk_Mo_214 (ga_rcv (ga_oM) rfl rfl) rfl (Nat.le_of_ble_eq_true rfl) (Nat.le_of_ble_eq_true rfl) rfl rfl (s_Mo_readsBorder g10 g11 g12 g13 g14 (fun I6 q6 => ?_))
        have h := h I6 q6
        show ga_W G (d + 5) mt_Mo_readsItem 62 [some (.inr 348), some (.inl (mt_hv I)), some (.inl (I1 348 12))] [.inl (ga_bb ((mt_bd I5 ((mt_hv I) - 120) (I1 348 12)).1))] I6 E
        refine gw_RG (fun hI7 => ?_)
        exact gw_zreturn d_Mo_readsItem_62 rfl (ga_bb_01 _) h
      · have h := h.2 hc
        refine gw_aload_n 0 d_Mo_readsItem_46 rfl rfl ?_
        obtain ⟨g15, h⟩ := h
        obtain ⟨g16, h⟩ := h
        refine gw_invV (as := []) (k := 348) (rest := []) (d' := (d + 4)) d_Mo_readsItem_47 lk_Mo_210 (ga_rcv (ga_oM) rfl rfl) rfl (Nat.le_of_ble_eq_true rfl) (Nat.le_of_ble_eq_true rfl) rfl rfl (s_Mo_readsGain g15 g16 (fun I7 q7 => ?_))
        have h := h I7 q7
        show ga_W G (d + 5) mt_Mo_readsItem 50 [some (.inr 348), some (.inl (mt_hv I)), some (.inl (I1 348 12))] [.inl (ga_bb ((mt_gd I5).1))] I7 E
        refine gw_RG (fun hI8 => ?_)
        refine gw_goto 62 d_Mo_readsItem_50 (by decide) ?_
        exact gw_zreturn d_Mo_readsItem_62 rfl (ga_bb_01 _) h
    · have h := h.2 hc
      refine gw_iload_n 1 d_Mo_readsItem_22 rfl rfl ?_
      refine gw_bipush d_Mo_readsItem_23 (by decide +kernel) ?_
      refine gw_icmp_eq 30 d_Mo_readsItem_25 (by decide) g2 ⟨by decide, by decide⟩ (fun hc => ?_) (fun hc => ?_)
      · have h := h.1 hc
        refine gw_aload_n 0 d_Mo_readsItem_30 rfl rfl ?_
        refine gw_dup d_Mo_readsItem_31 ?_
        refine gw_getI d_Mo_readsItem_32 fl_Mo_194 (ga_oM) rfl ?_
        refine gw_iconst d_Mo_readsItem_35 ?_
        refine gw_iadd d_Mo_readsItem_36 ?_
        refine gw_putI d_Mo_readsItem_37 fp_Mo_194 (ga_oM) rfl ?_
        refine gw_nm (J := (ga_up I1 348 12 (ga_wr ((I1 348 12) + 1)))) (fun I8 q8 => ?_)
        have h := h I8 q8
        refine gw_RG (fun hI9 => ?_)
        refine gw_iload_n 1 d_Mo_readsItem_40 rfl rfl ?_
        refine gw_bipush d_Mo_readsItem_41 (by decide +kernel) ?_
        refine gw_icmp_ne 53 d_Mo_readsItem_43 (by decide) g2 ⟨by decide, by decide⟩ (fun hc => ?_) (fun hc => ?_)
        · have h := h.1 hc
          refine gw_aload_n 0 d_Mo_readsItem_53 rfl rfl ?_
          refine gw_iload_n 1 d_Mo_readsItem_54 rfl rfl ?_
          refine gw_bipush d_Mo_readsItem_55 (by decide +kernel) ?_
          refine gw_isub d_Mo_readsItem_57 ?_
          refine gw_iload_n 2 d_Mo_readsItem_58 rfl rfl ?_
          obtain ⟨g17, h⟩ := h
          obtain ⟨g18, h⟩ := h
          obtain ⟨g19, h⟩ := h
          obtain ⟨g20, h⟩ := h
          obtain ⟨g21, h⟩ := h
          refine gw_invV (as := [.inl ((mt_hv I) - 120), .inl (I1 348 12)]) (k := 348) (rest := []) (d' := (d + 4)) d_Mo_readsItem_59 lk_Mo_214 (ga_rcv (ga_oM) rfl rfl) rfl (Nat.le_of_ble_eq_true rfl) (Nat.le_of_ble_eq_true rfl) rfl rfl (s_Mo_readsBorder g17 g18 g19 g20 g21 (fun I9 q9 => ?_))
          have h := h I9 q9
          show ga_W G (d + 5) mt_Mo_readsItem 62 [some (.inr 348), some (.inl (mt_hv I)), some (.inl (I1 348 12))] [.inl (ga_bb ((mt_bd I8 ((mt_hv I) - 120) (I1 348 12)).1))] I9 E
          refine gw_RG (fun hI10 => ?_)
          exact gw_zreturn d_Mo_readsItem_62 rfl (ga_bb_01 _) h
        · have h := h.2 hc
          refine gw_aload_n 0 d_Mo_readsItem_46 rfl rfl ?_
          obtain ⟨g22, h⟩ := h
          obtain ⟨g23, h⟩ := h
          refine gw_invV (as := []) (k := 348) (rest := []) (d' := (d + 4)) d_Mo_readsItem_47 lk_Mo_210 (ga_rcv (ga_oM) rfl rfl) rfl (Nat.le_of_ble_eq_true rfl) (Nat.le_of_ble_eq_true rfl) rfl rfl (s_Mo_readsGain g22 g23 (fun I10 q10 => ?_))
          have h := h I10 q10
          show ga_W G (d + 5) mt_Mo_readsItem 50 [some (.inr 348), some (.inl (mt_hv I)), some (.inl (I1 348 12))] [.inl (ga_bb ((mt_gd I8).1))] I10 E
          refine gw_RG (fun hI11 => ?_)
          refine gw_goto 62 d_Mo_readsItem_50 (by decide) ?_
          exact gw_zreturn d_Mo_readsItem_62 rfl (ga_bb_01 _) h
      · have h := h.2 hc
        refine gw_iconst d_Mo_readsItem_28 ?_
        exact gw_zreturn d_Mo_readsItem_29 rfl (by decide) h

section MU
variable {G : ga_G} {d : Nat} {I : ga_I} {E : Option ga_V → ga_I → Prop}
theorem gr_pr_of {I I2 J : ga_I} {R : Bool × Nat × (Nat → Int)} (hf : mf I I2) (h : gr_pr I2 J R) : gr_pr I J R := ⟨fun a h1 h2 => (h.1 a h1 h2).trans (hf.1 a h1), fun j h1 h2 => (h.2.1 j h1 h2).trans (hf.2 j h1 h2), h.2.2.1, h.2.2.2⟩
theorem s_Mo_readsItem (hx : mo_x I) (h0 : mo_ok I 0) (h1 : mo_ok I 1) (hv : 0 ≤ mt_hv I) (h : ∀ J : ga_I, gr_it I J → E (some (.inl (ga_bb (mt_it I).1))) J) : ga_W G (d + 5) mt_Mo_readsItem 0 (ga_en 3 [.inr 348]) [] I E := by
  have hx1 := hx.1
  have hx2 := hx.2.1
  have hb := mt_hv_bd hx
  have hp := mt_p_bd hx
  have hlt : (mt_p I : Int) < I 348 6 := by
    unfold mt_hv at hv
    by_cases w : (mt_p I : Int) < I 348 6
    · exact w
    · rw [if_neg w] at hv; omega
  have ev : mt_hv I = I 352 (mt_p I) := by unfold mt_hv; rw [if_pos hlt]
  refine k_Mo_readsItem_0 (fun hI => ⟨hx, fun I1 e1 => ?_⟩)
  have n1 : I1 348 12 = (mt_p I : Nat) := by rw [e1, ga_up_at]
  have m1 : mf I I1 := ⟨fun a ha => by rw [e1, ga_up_fn (by omega)], fun j q1 q2 => by rw [e1, ga_up_nj (by omega)]⟩
  rw [n1]
  have st : ∀ I2 : ga_I, I2 = ga_up I1 348 12 (ga_wr ((mt_p I : Nat) + 1)) → mf I I2 ∧ I2 348 12 = ((mt_p I : Nat) : Int) + 1 ∧ I2 352 = I 352 ∧ I2 348 6 = I 348 6 ∧ I2 349 = I 349 := fun I2 e2 => by
    rw [ga_wr_eq ⟨by omega, by omega⟩] at e2
    have m2 : mf I I2 := mf_tr m1 ⟨fun a ha => by rw [e2, ga_up_fn (by omega)], fun j q1 q2 => by rw [e2, ga_up_nj (by omega)]⟩
    exact ⟨m2, by rw [e2, ga_up_at], m2.1 352 (by omega), m2.2 6 (by omega) (by omega), m2.1 349 (by omega)⟩
  have xx : ∀ I2 : ga_I, mf I I2 → I2 348 12 = ((mt_p I : Nat) : Int) + 1 → mo_x I2 := fun I2 m2 n2 => mo_x_of hx m2 (n := mt_p I + 1) (by rw [n2]; omega) (by omega)
  refine ⟨⟨by omega, by omega⟩, fun q1 I2 e2 => ⟨fun q2 => ?_, fun q2 => by exfalso; omega⟩, fun q1 => ⟨fun q2 I2 e2 => ⟨fun q3 => ?_, fun q3 => by exfalso; omega⟩, fun q2 => ⟨fun q3 I2 e2 => ⟨fun q4 => by exfalso; omega, fun q4 => ?_⟩, fun q3 => ?_⟩⟩⟩
  · obtain ⟨m2, n2, t2, l2, s2⟩ := st I2 e2
    rw [q1]
    refine ⟨xx I2 m2 n2, by unfold mo_ok; rw [s2]; exact h0, by omega, by omega, n2, fun I3 e3 => ?_⟩
    have eR : mt_bd I2 (120 - 120) ((mt_p I : Nat) : Int) = mt_it I := by
      unfold mt_bd mt_it gp_it
      rw [t2, l2, s2, if_pos (by rw [← ev]; exact q1), Int.toNat_natCast]; rfl
    unfold gr_bd at e3
    rw [eR] at e3 ⊢
    exact h I3 (gr_pr_of m2 e3)
  · obtain ⟨m2, n2, t2, l2, s2⟩ := st I2 e2
    rw [q2]
    refine ⟨xx I2 m2 n2, by unfold mo_ok; rw [s2]; exact h1, by omega, by omega, n2, fun I3 e3 => ?_⟩
    have eR : mt_bd I2 (121 - 120) ((mt_p I : Nat) : Int) = mt_it I := by
      unfold mt_bd mt_it gp_it
      rw [t2, l2, s2, if_neg (by rw [← ev]; exact q1), if_pos (by rw [← ev]; exact q2), Int.toNat_natCast]; rfl
    unfold gr_bd at e3
    rw [eR] at e3 ⊢
    exact h I3 (gr_pr_of m2 e3)
  · obtain ⟨m2, n2, t2, l2, s2⟩ := st I2 e2
    refine ⟨xx I2 m2 n2, mo_n_mk s2 ⟨h0.1, h0.2.1⟩ ⟨h1.1, h1.2.1⟩, fun I3 e3 => ?_⟩
    have eR : mt_gd I2 = mt_it I := by
      unfold mt_gd mt_it gp_it
      rw [t2, l2, s2, n2, if_neg (by rw [← ev]; exact q1), if_neg (by rw [← ev]; exact q2), if_pos (by rw [← ev]; exact q3), show (((mt_p I : Nat) : Int) + 1).toNat = mt_p I + 1 by omega]
    unfold gr_gd at e3
    rw [eR] at e3 ⊢
    exact h I3 (gr_pr_of m2 e3)
  · have eR : mt_it I = (false, mt_p I, I 349) := by
      unfold mt_it gp_it
      rw [if_neg (by rw [← ev]; exact q1), if_neg (by rw [← ev]; exact q2), if_neg (by rw [← ev]; exact q3)]
    have hh := h I1 (by unfold gr_it; rw [eR]; exact ⟨fun a w1 _ => m1.1 a w1, m1.2, n1, m1.1 349 (by omega)⟩)
    rw [eR] at hh
    exact hh
end MU
theorem k_Mo_load_0 {G : ga_G} {d : Nat} {I : ga_I} {E : Option ga_V → ga_I → Prop}  
    (h : ga_RG I → (∀ I1 : ga_I, I1 = (ga_up I 348 0 0) → (∀ I2 : ga_I, I2 = (ga_uc I1 350 (av_cp (I1 350) (I1 349) 0 1120)) → (mo_n I2) ∧ ((∀ z1 : Int, z1 = gp_tt (mp_g3 (I2 349)) ((ms_n (I2 349) 0).toNat + 1) ((ms_n (I2 349) 1).toNat + 1) → (∀ I3 : ga_I, I3 = (ga_up I2 349 0 0) → (∀ I4 : ga_I, I4 = (ga_up I3 349 19 0) → (∀ I5 : ga_I, I5 = (ga_uc I4 349 (ns_cl (I4 349) 49 0)) → (∀ I6 : ga_I, I6 = (ga_up I5 348 12 0) → ga_W G (d + 6) mt_Mo_load 42 [some (.inr 348), some (.inl z1), some (.inl 0), some (.inl 1)] [] I6 E))))))))) :
    ga_W G (d + 6) mt_Mo_load 0 (ga_en 4 [.inr 348]) [] I E := by
  show ga_W G (d + 6) mt_Mo_load 0 [some (.inr 348), none, none, none] [] I E
  refine gw_RG (fun hI1 => ?_)
  have h := h hI1
  refine gw_aload_n 0 d_Mo_load_0 rfl rfl ?_
  refine gw_iconst d_Mo_load_1 ?_
  refine gw_putI d_Mo_load_2 fp_Mo_37 (ga_oM) rfl ?_
  show ga_W G (d + 6) mt_Mo_load 5 [some (.inr 348), none, none, none] [] (ga_up I 348 0 (ga_wr 0)) E
  rw [ga_wr_eq (z := 0) ⟨by decide, by decide⟩]
  refine gw_nm (J := (ga_up I 348 0 0)) (fun I1 q1 => ?_)
  have h := h I1 q1
  refine gw_RG (fun hI2 => ?_)
  refine gw_aload_n 0 d_Mo_load_5 rfl rfl ?_
  refine gw_invV (as := []) (k := 348) (rest := []) (d' := (d + 5)) d_Mo_load_6 lk_Mo_217 (ga_rcv (ga_oM) rfl rfl) rfl (Nat.le_of_ble_eq_true rfl) (Nat.le_of_ble_eq_true rfl) rfl rfl (s_Mo_hold  ?_)
  show ga_W G (d + 6) mt_Mo_load 9 [some (.inr 348), none, none, none] [] (ga_uc I1 350 (av_cp (I1 350) (I1 349) 0 1120)) E
  refine gw_nm (fun I2 q2 => ?_)
  have h := h I2 q2
  refine gw_RG (fun hI3 => ?_)
  refine gw_aload_n 0 d_Mo_load_9 rfl rfl ?_
  obtain ⟨g1, h⟩ := h
  refine gw_invV (as := []) (k := 348) (rest := []) (d' := (d + 5)) d_Mo_load_10 lk_Mo_99 (ga_rcv (ga_oM) rfl rfl) rfl (Nat.le_of_ble_eq_true rfl) (Nat.le_of_ble_eq_true rfl) rfl rfl (s_Mo_allGains g1 ?_)
  show ga_W G (d + 6) mt_Mo_load 13 [some (.inr 348), none, none, none] [.inl (gp_tt (mp_g3 (I2 349)) ((ms_n (I2 349) 0).toNat + 1) ((ms_n (I2 349) 1).toNat + 1))] I2 E
  refine gw_nz (z := gp_tt (mp_g3 (I2 349)) ((ms_n (I2 349) 0).toNat + 1) ((ms_n (I2 349) 1).toNat + 1)) (fun z1 q3 => ?_)
  have h := h z1 q3
  refine gw_istore_n 1 d_Mo_load_13 rfl (Nat.le_of_ble_eq_true rfl) rfl ?_
  refine gw_aload_n 0 d_Mo_load_14 rfl rfl ?_
  refine gw_getR d_Mo_load_15 fl_Mo_7 (ga_oM) rfl ?_
  refine gw_iconst d_Mo_load_18 ?_
  refine gw_iconst d_Mo_load_19 ?_
  refine gw_iast d_Mo_load_20 (ga_aM1) (by decide) (by decide) ?_
  show ga_W G (d + 6) mt_Mo_load 21 [some (.inr 348), some (.inl z1), none, none] [] (ga_up I2 349 0 (ga_wr 0)) E
  rw [ga_wr_eq (z := 0) ⟨by decide, by decide⟩]
  refine gw_nm (J := (ga_up I2 349 0 0)) (fun I3 q4 => ?_)
  have h := h I3 q4
  refine gw_RG (fun hI4 => ?_)
  refine gw_aload_n 0 d_Mo_load_21 rfl rfl ?_
  refine gw_getR d_Mo_load_22 fl_Mo_7 (ga_oM) rfl ?_
  refine gw_bipush d_Mo_load_25 (by decide +kernel) ?_
  refine gw_iconst d_Mo_load_27 ?_
  refine gw_iast d_Mo_load_28 (ga_aM1) (by decide) (by decide) ?_
  show ga_W G (d + 6) mt_Mo_load 29 [some (.inr 348), some (.inl z1), none, none] [] (ga_up I3 349 19 (ga_wr 0)) E
  rw [ga_wr_eq (z := 0) ⟨by decide, by decide⟩]
  refine gw_nm (J := (ga_up I3 349 19 0)) (fun I4 q5 => ?_)
  have h := h I4 q5
  refine gw_RG (fun hI5 => ?_)
  refine gw_aload_n 0 d_Mo_load_29 rfl rfl ?_
  refine gw_invV (as := []) (k := 348) (rest := []) (d' := (d + 5)) d_Mo_load_30 lk_Mo_41 (ga_rcv (ga_oM) rfl rfl) rfl (Nat.le_of_ble_eq_true rfl) (Nat.le_of_ble_eq_true rfl) rfl rfl (s_Mo_clearRegions  ?_)
  show ga_W G (d + 6) mt_Mo_load 33 [some (.inr 348), some (.inl z1), none, none] [] (ga_uc I4 349 (ns_cl (I4 349) 49 0)) E
  refine gw_nm (fun I5 q6 => ?_)
  have h := h I5 q6
  refine gw_RG (fun hI6 => ?_)
  refine gw_aload_n 0 d_Mo_load_33 rfl rfl ?_
  refine gw_iconst d_Mo_load_34 ?_
  refine gw_putI d_Mo_load_35 fp_Mo_194 (ga_oM) rfl ?_
  show ga_W G (d + 6) mt_Mo_load 38 [some (.inr 348), some (.inl z1), none, none] [] (ga_up I5 348 12 (ga_wr 0)) E
  rw [ga_wr_eq (z := 0) ⟨by decide, by decide⟩]
  refine gw_nm (J := (ga_up I5 348 12 0)) (fun I6 q7 => ?_)
  have h := h I6 q7
  refine gw_RG (fun hI7 => ?_)
  refine gw_iconst d_Mo_load_38 ?_
  refine gw_istore_n 2 d_Mo_load_39 rfl (Nat.le_of_ble_eq_true rfl) rfl ?_
  refine gw_iconst d_Mo_load_40 ?_
  refine gw_istore_n 3 d_Mo_load_41 rfl (Nat.le_of_ble_eq_true rfl) rfl ?_
  exact gw_le h (by exact ⟨rfl, ⟨rfl, ⟨rfl, ⟨rfl, trivial⟩⟩⟩⟩)
theorem k_Mo_load_42 {G : ga_G} {d : Nat} {I : ga_I} {E : Option ga_V → ga_I → Prop} {v1 : Int} {v2 : Int} {v3 : Int} (r3 : ga_rg v3)
    (h : ga_RG I → ((v3 = 0) → ((v3 ≠ 0) → (mo_n I) ∧ ((∀ I1 : ga_I, I1 = (ga_uc I 349 (ns_st (I 349) v1)) → (∀ I2 : ga_I, I2 = (mx_ex I1 1120) → (0 ≤ I2 348 4 ∧ I2 348 4 ≤ 5) ∧ ((∀ I3 : ga_I, I3 = (mx_ac I2) → (∀ I4 : ga_I, I4 = (mx_ex I3 1120) → (∀ I5 : ga_I, I5 = (ga_up I4 348 6 0) → E (some (.inl v2)) I5)))))))) ∧ ((v3 = 0) → (∀ I6 : ga_I, I6 = (ga_uc I 349 (av_cp (I 349) (I 350) 0 1120)) → E (some (.inl ((-2000001000) - (I6 348 12)))) I6))) ∧ ((¬ (v3 = 0)) → (mo_x I) ∧ ((∀ I7 : ga_I, I7 = (ga_up I 348 12 (mt_p I : Nat)) → (ga_rg (mt_hv I)) ∧ ((((mt_hv I) < 0) → ((v3 ≠ 0) → (mo_n I7) ∧ ((∀ I8 : ga_I, I8 = (ga_uc I7 349 (ns_st (I7 349) v1)) → (∀ I9 : ga_I, I9 = (mx_ex I8 1120) → (0 ≤ I9 348 4 ∧ I9 348 4 ≤ 5) ∧ ((∀ I10 : ga_I, I10 = (mx_ac I9) → (∀ I11 : ga_I, I11 = (mx_ex I10 1120) → (∀ I12 : ga_I, I12 = (ga_up I11 348 6 0) → E (some (.inl v2)) I12)))))))) ∧ ((v3 = 0) → (∀ I13 : ga_I, I13 = (ga_uc I7 349 (av_cp (I7 349) (I7 350) 0 1120)) → E (some (.inl ((-2000001000) - (I13 348 12)))) I13))) ∧ ((¬ ((mt_hv I) < 0)) → (mo_x I7) ∧ ((mo_ok I7 0) ∧ ((mo_ok I7 1) ∧ ((0 ≤ mt_hv I7) ∧ ((∀ I14 : ga_I, gr_it I7 I14 → ga_W G (d + 6) mt_Mo_load 42 [some (.inr 348), some (.inl v1), some (.inl (v2 + 1)), some (.inl (ga_bb ((mt_it I7).1)))] [] I14 E))))))))))) :
    ga_W G (d + 6) mt_Mo_load 42 [some (.inr 348), some (.inl v1), some (.inl v2), some (.inl v3)] [] I E := by
  refine gw_RG (fun hI1 => ?_)
  have h := h hI1
  refine gw_iload_n 3 d_Mo_load_42 rfl rfl ?_
  refine gw_if_eq 64 d_Mo_load_43 (by decide) r3 (fun hc => ?_) (fun hc => ?_)
  · have h := h.1 hc
    refine gw_iload_n 3 d_Mo_load_64 rfl rfl ?_
    refine gw_if_ne 80 d_Mo_load_65 (by decide) r3 (fun hc => ?_) (fun hc => ?_)
    · have h := h.1 hc
      refine gw_aload_n 0 d_Mo_load_80 rfl rfl ?_
      refine gw_iload_n 1 d_Mo_load_81 rfl rfl ?_
      obtain ⟨g1, h⟩ := h
      refine gw_invV (as := [.inl v1]) (k := 348) (rest := []) (d' := (d + 5)) d_Mo_load_82 lk_Mo_126 (ga_rcv (ga_oM) rfl rfl) rfl (Nat.le_of_ble_eq_true rfl) (Nat.le_of_ble_eq_true rfl) rfl rfl (s_Mo_settle g1 ?_)
      show ga_W G (d + 6) mt_Mo_load 85 [some (.inr 348), some (.inl v1), some (.inl v2), some (.inl v3)] [] (ga_uc I 349 (ns_st (I 349) v1)) E
      refine gw_nm (fun I1 q1 => ?_)
      have h := h I1 q1
      refine gw_RG (fun hI2 => ?_)
      refine gw_aload_n 0 d_Mo_load_85 rfl rfl ?_
      refine gw_invV (as := []) (k := 348) (rest := []) (d' := (d + 5)) d_Mo_load_86 lk_Mo_227 (ga_rcv (ga_oM) rfl rfl) rfl (Nat.le_of_ble_eq_true rfl) (Nat.le_of_ble_eq_true rfl) rfl rfl (s_Mo_exchange  ?_)
      show ga_W G (d + 6) mt_Mo_load 89 [some (.inr 348), some (.inl v1), some (.inl v2), some (.inl v3)] [] (mx_ex I1 1120) E
      refine gw_nm (fun I2 q2 => ?_)
      have h := h I2 q2
      refine gw_RG (fun hI3 => ?_)
      refine gw_aload_n 0 d_Mo_load_89 rfl rfl ?_
      obtain ⟨g2, h⟩ := h
      refine gw_invV (as := []) (k := 348) (rest := []) (d' := (d + 5)) d_Mo_load_90 lk_Mo_119 (ga_rcv (ga_oM) rfl rfl) rfl (Nat.le_of_ble_eq_true rfl) (Nat.le_of_ble_eq_true rfl) rfl rfl (s_Mo_act g2 ?_)
      show ga_W G (d + 6) mt_Mo_load 93 [some (.inr 348), some (.inl v1), some (.inl v2), some (.inl v3)] [] (mx_ac I2) E
      refine gw_nm (fun I3 q3 => ?_)
      have h := h I3 q3
      refine gw_RG (fun hI4 => ?_)
      refine gw_aload_n 0 d_Mo_load_93 rfl rfl ?_
      refine gw_invV (as := []) (k := 348) (rest := []) (d' := (d + 5)) d_Mo_load_94 lk_Mo_227 (ga_rcv (ga_oM) rfl rfl) rfl (Nat.le_of_ble_eq_true rfl) (Nat.le_of_ble_eq_true rfl) rfl rfl (s_Mo_exchange  ?_)
      show ga_W G (d + 6) mt_Mo_load 97 [some (.inr 348), some (.inl v1), some (.inl v2), some (.inl v3)] [] (mx_ex I3 1120) E
      refine gw_nm (fun I4 q4 => ?_)
      have h := h I4 q4
      refine gw_RG (fun hI5 => ?_)
      refine gw_aload_n 0 d_Mo_load_97 rfl rfl ?_
      refine gw_iconst d_Mo_load_98 ?_
      refine gw_putI d_Mo_load_99 fp_Mo_191 (ga_oM) rfl ?_
      show ga_W G (d + 6) mt_Mo_load 102 [some (.inr 348), some (.inl v1), some (.inl v2), some (.inl v3)] [] (ga_up I4 348 6 (ga_wr 0)) E
      rw [ga_wr_eq (z := 0) ⟨by decide, by decide⟩]
      refine gw_nm (J := (ga_up I4 348 6 0)) (fun I5 q5 => ?_)
      have h := h I5 q5
      refine gw_RG (fun hI6 => ?_)
      refine gw_iload_n 2 d_Mo_load_102 rfl rfl ?_
      exact gw_ireturn d_Mo_load_103 rfl h
    · have h := h.2 hc
      refine gw_aload_n 0 d_Mo_load_68 rfl rfl ?_
      refine gw_invV (as := []) (k := 348) (rest := []) (d' := (d + 5)) d_Mo_load_69 lk_Mo_223 (ga_rcv (ga_oM) rfl rfl) rfl (Nat.le_of_ble_eq_true rfl) (Nat.le_of_ble_eq_true rfl) rfl rfl (s_Mo_release  ?_)
      show ga_W G (d + 6) mt_Mo_load 72 [some (.inr 348), some (.inl v1), some (.inl v2), some (.inl v3)] [] (ga_uc I 349 (av_cp (I 349) (I 350) 0 1120)) E
      refine gw_nm (fun I6 q6 => ?_)
      have h := h I6 q6
      refine gw_RG (fun hI7 => ?_)
      refine gw_ldc (n := (-2000001000)) d_Mo_load_72 kw_Mo_226 (by decide +kernel) ?_
      refine gw_aload_n 0 d_Mo_load_74 rfl rfl ?_
      refine gw_getI d_Mo_load_75 fl_Mo_194 (ga_oM) rfl ?_
      refine gw_isub d_Mo_load_78 ?_
      exact gw_ireturn d_Mo_load_79 rfl h
  · have h := h.2 hc
    refine gw_aload_n 0 d_Mo_load_46 rfl rfl ?_
    obtain ⟨g3, h⟩ := h
    refine gw_invV (as := []) (k := 348) (rest := []) (d' := (d + 5)) d_Mo_load_47 lk_Mo_197 (ga_rcv (ga_oM) rfl rfl) rfl (Nat.le_of_ble_eq_true rfl) (Nat.le_of_ble_eq_true rfl) rfl rfl (s_Mo_here g3 ?_)
    show ga_W G (d + 6) mt_Mo_load 50 [some (.inr 348), some (.inl v1), some (.inl v2), some (.inl v3)] [.inl (mt_hv I)] (ga_up I 348 12 (mt_p I : Nat)) E
    refine gw_nm (fun I7 q7 => ?_)
    have h := h I7 q7
    refine gw_RG (fun hI8 => ?_)
    obtain ⟨g4, h⟩ := h
    refine gw_if_lt 64 d_Mo_load_50 (by decide) g4 (fun hc => ?_) (fun hc => ?_)
    · have h := h.1 hc
      refine gw_iload_n 3 d_Mo_load_64 rfl rfl ?_
      refine gw_if_ne 80 d_Mo_load_65 (by decide) r3 (fun hc => ?_) (fun hc => ?_)
      · have h := h.1 hc
        refine gw_aload_n 0 d_Mo_load_80 rfl rfl ?_
        refine gw_iload_n 1 d_Mo_load_81 rfl rfl ?_
        obtain ⟨g5, h⟩ := h
        refine gw_invV (as := [.inl v1]) (k := 348) (rest := []) (d' := (d + 5)) d_Mo_load_82 lk_Mo_126 (ga_rcv (ga_oM) rfl rfl) rfl (Nat.le_of_ble_eq_true rfl) (Nat.le_of_ble_eq_true rfl) rfl rfl (s_Mo_settle g5 ?_)
        show ga_W G (d + 6) mt_Mo_load 85 [some (.inr 348), some (.inl v1), some (.inl v2), some (.inl v3)] [] (ga_uc I7 349 (ns_st (I7 349) v1)) E
        refine gw_nm (fun I8 q8 => ?_)
        have h := h I8 q8
        refine gw_RG (fun hI9 => ?_)
        refine gw_aload_n 0 d_Mo_load_85 rfl rfl ?_
        refine gw_invV (as := []) (k := 348) (rest := []) (d' := (d + 5)) d_Mo_load_86 lk_Mo_227 (ga_rcv (ga_oM) rfl rfl) rfl (Nat.le_of_ble_eq_true rfl) (Nat.le_of_ble_eq_true rfl) rfl rfl (s_Mo_exchange  ?_)
        show ga_W G (d + 6) mt_Mo_load 89 [some (.inr 348), some (.inl v1), some (.inl v2), some (.inl v3)] [] (mx_ex I8 1120) E
        refine gw_nm (fun I9 q9 => ?_)
        have h := h I9 q9
        refine gw_RG (fun hI10 => ?_)
        refine gw_aload_n 0 d_Mo_load_89 rfl rfl ?_
        obtain ⟨g6, h⟩ := h
        refine gw_invV (as := []) (k := 348) (rest := []) (d' := (d + 5)) d_Mo_load_90 lk_Mo_119 (ga_rcv (ga_oM) rfl rfl) rfl (Nat.le_of_ble_eq_true rfl) (Nat.le_of_ble_eq_true rfl) rfl rfl (s_Mo_act g6 ?_)
        show ga_W G (d + 6) mt_Mo_load 93 [some (.inr 348), some (.inl v1), some (.inl v2), some (.inl v3)] [] (mx_ac I9) E
        refine gw_nm (fun I10 q10 => ?_)
        have h := h I10 q10
        refine gw_RG (fun hI11 => ?_)
        refine gw_aload_n 0 d_Mo_load_93 rfl rfl ?_
        refine gw_invV (as := []) (k := 348) (rest := []) (d' := (d + 5)) d_Mo_load_94 lk_Mo_227 (ga_rcv (ga_oM) rfl rfl) rfl (Nat.le_of_ble_eq_true rfl) (Nat.le_of_ble_eq_true rfl) rfl rfl (s_Mo_exchange  ?_)
        show ga_W G (d + 6) mt_Mo_load 97 [some (.inr 348), some (.inl v1), some (.inl v2), some (.inl v3)] [] (mx_ex I10 1120) E
        refine gw_nm (fun I11 q11 => ?_)
        have h := h I11 q11
        refine gw_RG (fun hI12 => ?_)
        refine gw_aload_n 0 d_Mo_load_97 rfl rfl ?_
        refine gw_iconst d_Mo_load_98 ?_
        refine gw_putI d_Mo_load_99 fp_Mo_191 (ga_oM) rfl ?_
        show ga_W G (d + 6) mt_Mo_load 102 [some (.inr 348), some (.inl v1), some (.inl v2), some (.inl v3)] [] (ga_up I11 348 6 (ga_wr 0)) E
        rw [ga_wr_eq (z := 0) ⟨by decide, by decide⟩]
        refine gw_nm (J := (ga_up I11 348 6 0)) (fun I12 q12 => ?_)
        have h := h I12 q12
        refine gw_RG (fun hI13 => ?_)
        refine gw_iload_n 2 d_Mo_load_102 rfl rfl ?_
        exact gw_ireturn d_Mo_load_103 rfl h
      · have h := h.2 hc
        refine gw_aload_n 0 d_Mo_load_68 rfl rfl ?_
        refine gw_invV (as := []) (k := 348) (rest := []) (d' := (d + 5)) d_Mo_load_69 lk_Mo_223 (ga_rcv (ga_oM) rfl rfl) rfl (Nat.le_of_ble_eq_true rfl) (Nat.le_of_ble_eq_true rfl) rfl rfl (s_Mo_release  ?_)
        show ga_W G (d + 6) mt_Mo_load 72 [some (.inr 348), some (.inl v1), some (.inl v2), some (.inl v3)] [] (ga_uc I7 349 (av_cp (I7 349) (I7 350) 0 1120)) E
        refine gw_nm (fun I13 q13 => ?_)
        have h := h I13 q13
        refine gw_RG (fun hI14 => ?_)
        refine gw_ldc (n := (-2000001000)) d_Mo_load_72 kw_Mo_226 (by decide +kernel) ?_
        refine gw_aload_n 0 d_Mo_load_74 rfl rfl ?_
        refine gw_getI d_Mo_load_75 fl_Mo_194 (ga_oM) rfl ?_
        refine gw_isub d_Mo_load_78 ?_
        exact gw_ireturn d_Mo_load_79 rfl h
    · have h := h.2 hc
      refine gw_aload_n 0 d_Mo_load_53 rfl rfl ?_
      obtain ⟨g7, h⟩ := h
      obtain ⟨g8, h⟩ := h
      obtain ⟨g9, h⟩ := h
      obtain ⟨g10, h⟩ := h
      refine gw_invV (as := []) (k := 348) (rest := []) (d' := (d + 5)) d_Mo_load_54 lk_Mo_220 (ga_rcv (ga_oM) rfl rfl) rfl (Nat.le_of_ble_eq_true rfl) (Nat.le_of_ble_eq_true rfl) rfl rfl (s_Mo_readsItem g7 g8 g9 g10 (fun I14 q14 => ?_))
      have h := h I14 q14
      show ga_W G (d + 6) mt_Mo_load 57 [some (.inr 348), some (.inl v1), some (.inl v2), some (.inl v3)] [.inl (ga_bb ((mt_it I7).1))] I14 E
      refine gw_RG (fun hI15 => ?_)
      refine gw_istore_n 3 d_Mo_load_57 rfl (Nat.le_of_ble_eq_true rfl) rfl ?_
      refine gw_iinc 2 d_Mo_load_58 rfl rfl ?_
      refine gw_goto 42 d_Mo_load_61 (by decide) ?_
      exact gw_le h (by exact ⟨rfl, ⟨rfl, ⟨rfl, ⟨rfl, trivial⟩⟩⟩⟩)

