theorem k_Mo_setReach_0 {G : ga_G} {d : Nat} {I : ga_I} {E : Option ga_V → ga_I → Prop} {v1 : Int} {v2 : Int} {v3 : Int} (r1 : ga_rg v1) (r2 : ga_rg v2) (r3 : ga_rg v3)
    (h : ga_RG I → (∀ I1 : ga_I, I1 = (ga_up I 348 0 0) → (mo_n I1) ∧ (((¬ ((0 ≤ v1 ∧ v1 ≤ 1) ∧ (0 ≤ v2 ∧ v2 < ms_n (I1 349) v1))) → E (some (.inl (-2000000001))) I1) ∧ (((0 ≤ v1 ∧ v1 ≤ 1) ∧ (0 ≤ v2 ∧ v2 < ms_n (I1 349) v1)) → (0 ≤ v1 ∧ v1 ≤ 1) ∧ ((0 ≤ v2 ∧ v2 ≤ 6) ∧ ((0 ≤ (1 : Int) ∧ (1 : Int) ≤ 2) ∧ ((∀ z1 : Int, z1 = ms_b (I1 349) v1 v2 (1 : Int) → ((¬ ((0 ≤ z1 ∧ z1 ≤ 1) ∧ (z1 ≤ v3 ∧ v3 ≤ 100))) → E (some (.inl (-2000000001))) I1) ∧ (((0 ≤ z1 ∧ z1 ≤ 1) ∧ (z1 ≤ v3 ∧ v3 ≤ 100)) → (0 ≤ (0 : Int) ∧ (0 : Int) ≤ 2) ∧ ((∀ z2 : Int, z2 = ms_b (I1 349) v1 v2 (0 : Int) → (ga_rg (z2 - v3)) ∧ ((ga_rg (z2 + v3)) ∧ (((0 ≤ z2 - v3 ∧ z2 + v3 ≤ 1000) → (∀ z3 : Int, z3 = ms_b (I1 349) v1 v2 (0 : Int) → (mo_ok I1 v1) ∧ ((-3000 ≤ z3 ∧ z3 ≤ 3000) ∧ ((-3000 ≤ v3 ∧ v3 ≤ 3000) ∧ ((((!gp_fr (ms_p (I1 349) v1) (ms_r (I1 349) v1) z3 v3 v2 (ms_n (I1 349) v1).toNat) = false) → (0 ≤ I1 348 4 ∧ I1 348 4 ≤ 5) ∧ ((∀ I2 : ga_I, I2 = (mx_ac I1) → (0 ≤ (2 : Int) ∧ (2 : Int) ≤ 2) ∧ ((∀ z4 : Int, z4 = ms_b (I2 349) v1 v2 (2 : Int) → (∀ z5 : Int, z5 = ms_b (I2 349) v1 v2 (0 : Int) → (∀ z6 : Int, z6 = ms_b (I2 349) v1 v2 (1 : Int) → (∀ I3 : ga_I, I3 = (mx_sb I2 v1 v2 z5 z6 v3) → (mo_n I3) ∧ ((∀ I4 : ga_I, I4 = (mx_fz I3) → E (some (.inl z4)) I4)))))))))) ∧ (((!gp_fr (ms_p (I1 349) v1) (ms_r (I1 349) v1) z3 v3 v2 (ms_n (I1 349) v1).toNat) = true) → E (some (.inl (-2000000002))) I1)))))) ∧ ((¬ (0 ≤ z2 - v3 ∧ z2 + v3 ≤ 1000)) → E (some (.inl (-2000000001))) I1)))))))))))))) :
    ga_W G (d + 3) mt_Mo_setReach 0 (ga_en 5 [.inr 348, .inl v1, .inl v2, .inl v3]) [] I E := by
  show ga_W G (d + 3) mt_Mo_setReach 0 [some (.inr 348), some (.inl v1), some (.inl v2), some (.inl v3), none] [] I E
  refine gw_RG (fun hI1 => ?_)
  have h := h hI1
  refine gw_aload_n 0 d_Mo_setReach_0 rfl rfl ?_
  refine gw_iconst d_Mo_setReach_1 ?_
  refine gw_putI d_Mo_setReach_2 fp_Mo_37 (ga_oM) rfl ?_
  show ga_W G (d + 3) mt_Mo_setReach 5 [some (.inr 348), some (.inl v1), some (.inl v2), some (.inl v3), none] [] (ga_up I 348 0 (ga_wr 0)) E
  rw [ga_wr_eq (z := 0) ⟨by decide, by decide⟩]
  refine gw_nm (J := (ga_up I 348 0 0)) (fun I1 q1 => ?_)
  have h := h I1 q1
  refine gw_RG (fun hI2 => ?_)
  refine gw_aload_n 0 d_Mo_setReach_5 rfl rfl ?_
  refine gw_iload_n 1 d_Mo_setReach_6 rfl rfl ?_
  refine gw_iload_n 2 d_Mo_setReach_7 rfl rfl ?_
  obtain ⟨g1, h⟩ := h
  refine gw_invV (as := [.inl v1, .inl v2]) (k := 348) (rest := []) (d' := (d + 2)) d_Mo_setReach_8 lk_Mo_130 (ga_rcv (ga_oM) rfl rfl) rfl (Nat.le_of_ble_eq_true rfl) (Nat.le_of_ble_eq_true rfl) rfl rfl (s_Mo_isBorder r1 r2 g1 ?_)
  show ga_W G (d + 3) mt_Mo_setReach 11 [some (.inr 348), some (.inl v1), some (.inl v2), some (.inl v3), none] [.inl (ga_bb (decide ((0 ≤ v1 ∧ v1 ≤ 1) ∧ (0 ≤ v2 ∧ v2 < ms_n (I1 349) v1))))] I1 E
  refine gw_ifb_eq 42 d_Mo_setReach_11 (by decide) (fun hc => ?_) (fun hc => ?_)
  · have h := h.1 (of_decide_eq_false hc)
    refine gw_ldc (n := (-2000000001)) d_Mo_setReach_42 kw_Mo_112 (by decide +kernel) ?_
    exact gw_ireturn d_Mo_setReach_44 rfl h
  · have h := h.2 (of_decide_eq_true hc)
    refine gw_aload_n 0 d_Mo_setReach_14 rfl rfl ?_
    refine gw_iload_n 1 d_Mo_setReach_15 rfl rfl ?_
    refine gw_iload_n 2 d_Mo_setReach_16 rfl rfl ?_
    refine gw_iconst d_Mo_setReach_17 ?_
    obtain ⟨g2, h⟩ := h
    obtain ⟨g3, h⟩ := h
    obtain ⟨g4, h⟩ := h
    refine gw_invV (as := [.inl v1, .inl v2, .inl 1]) (k := 348) (rest := []) (d' := (d + 2)) d_Mo_setReach_18 lk_Mo_63 (ga_rcv (ga_oM) rfl rfl) rfl (Nat.le_of_ble_eq_true rfl) (Nat.le_of_ble_eq_true rfl) rfl rfl (s_Mo_ofBorder g2 g3 g4 ?_)
    show ga_W G (d + 3) mt_Mo_setReach 21 [some (.inr 348), some (.inl v1), some (.inl v2), some (.inl v3), none] [.inl (ms_b (I1 349) v1 v2 (1 : Int))] I1 E
    refine gw_nz (z := ms_b (I1 349) v1 v2 (1 : Int)) (fun z1 q2 => ?_)
    have h := h z1 q2
    refine gw_iload_n 3 d_Mo_setReach_21 rfl rfl ?_
    refine gw_invS (as := [.inl z1, .inl v3]) (rest := []) (d' := (d + 2)) d_Mo_setReach_22 lk_Mo_105 rfl (Nat.le_of_ble_eq_true rfl) (Nat.le_of_ble_eq_true rfl) rfl rfl (s_Mo_isReach (by rw [q2]; exact (hI2 _ _)) r3 ?_)
    show ga_W G (d + 3) mt_Mo_setReach 25 [some (.inr 348), some (.inl v1), some (.inl v2), some (.inl v3), none] [.inl (ga_bb (decide ((0 ≤ z1 ∧ z1 ≤ 1) ∧ (z1 ≤ v3 ∧ v3 ≤ 100))))] I1 E
    refine gw_ifb_eq 42 d_Mo_setReach_25 (by decide) (fun hc => ?_) (fun hc => ?_)
    · have h := h.1 (of_decide_eq_false hc)
      refine gw_ldc (n := (-2000000001)) d_Mo_setReach_42 kw_Mo_112 (by decide +kernel) ?_
      exact gw_ireturn d_Mo_setReach_44 rfl h
    · have h := h.2 (of_decide_eq_true hc)
      refine gw_aload_n 0 d_Mo_setReach_28 rfl rfl ?_
      refine gw_iload_n 1 d_Mo_setReach_29 rfl rfl ?_
      refine gw_iload_n 2 d_Mo_setReach_30 rfl rfl ?_
      refine gw_iconst d_Mo_setReach_31 ?_
      obtain ⟨g5, h⟩ := h
      refine gw_invV (as := [.inl v1, .inl v2, .inl 0]) (k := 348) (rest := []) (d' := (d + 2)) d_Mo_setReach_32 lk_Mo_63 (ga_rcv (ga_oM) rfl rfl) rfl (Nat.le_of_ble_eq_true rfl) (Nat.le_of_ble_eq_true rfl) rfl rfl (s_Mo_ofBorder g2 g3 g5 ?_)
      show ga_W G (d + 3) mt_Mo_setReach 35 [some (.inr 348), some (.inl v1), some (.inl v2), some (.inl v3), none] [.inl (ms_b (I1 349) v1 v2 (0 : Int))] I1 E
      refine gw_nz (z := ms_b (I1 349) v1 v2 (0 : Int)) (fun z2 q3 => ?_)
      have h := h z2 q3
      refine gw_iload_n 3 d_Mo_setReach_35 rfl rfl ?_
      obtain ⟨g6, h⟩ := h
      obtain ⟨g7, h⟩ := h
      refine gw_invS (as := [.inl z2, .inl v3]) (rest := []) (d' := (d + 2)) d_Mo_setReach_36 lk_Mo_109 rfl (Nat.le_of_ble_eq_true rfl) (Nat.le_of_ble_eq_true rfl) rfl rfl (s_Mo_isInside g6 g7 ?_)
      show ga_W G (d + 3) mt_Mo_setReach 39 [some (.inr 348), some (.inl v1), some (.inl v2), some (.inl v3), none] [.inl (ga_bb (decide (0 ≤ z2 - v3 ∧ z2 + v3 ≤ 1000)))] I1 E
      refine gw_ifb_ne 45 d_Mo_setReach_39 (by decide) (fun hc => ?_) (fun hc => ?_)
      · have h := h.1 (of_decide_eq_true hc)
        refine gw_aload_n 0 d_Mo_setReach_45 rfl rfl ?_
        refine gw_iload_n 1 d_Mo_setReach_46 rfl rfl ?_
        refine gw_aload_n 0 d_Mo_setReach_47 rfl rfl ?_
        refine gw_iload_n 1 d_Mo_setReach_48 rfl rfl ?_
        refine gw_iload_n 2 d_Mo_setReach_49 rfl rfl ?_
        refine gw_iconst d_Mo_setReach_50 ?_
        refine gw_invV (as := [.inl v1, .inl v2, .inl 0]) (k := 348) (rest := [.inl v1, .inr 348]) (d' := (d + 2)) d_Mo_setReach_51 lk_Mo_63 (ga_rcv (ga_oM) rfl rfl) rfl (Nat.le_of_ble_eq_true rfl) (Nat.le_of_ble_eq_true rfl) rfl rfl (s_Mo_ofBorder g2 g3 g5 ?_)
        show ga_W G (d + 3) mt_Mo_setReach 54 [some (.inr 348), some (.inl v1), some (.inl v2), some (.inl v3), none] [.inl (ms_b (I1 349) v1 v2 (0 : Int)), .inl v1, .inr 348] I1 E
        refine gw_nz (z := ms_b (I1 349) v1 v2 (0 : Int)) (fun z3 q4 => ?_)
        have h := h z3 q4
        refine gw_iload_n 3 d_Mo_setReach_54 rfl rfl ?_
        refine gw_iload_n 2 d_Mo_setReach_55 rfl rfl ?_
        obtain ⟨g8, h⟩ := h
        obtain ⟨g9, h⟩ := h
        obtain ⟨g10, h⟩ := h
        refine gw_invV (as := [.inl v1, .inl z3, .inl v3, .inl v2]) (k := 348) (rest := []) (d' := (d + 2)) d_Mo_setReach_56 lk_Mo_113 (ga_rcv (ga_oM) rfl rfl) rfl (Nat.le_of_ble_eq_true rfl) (Nat.le_of_ble_eq_true rfl) rfl rfl (s_Mo_isOccupied g8 g2 g9 g10 r2 ?_)
        show ga_W G (d + 3) mt_Mo_setReach 59 [some (.inr 348), some (.inl v1), some (.inl v2), some (.inl v3), none] [.inl (ga_bb (!gp_fr (ms_p (I1 349) v1) (ms_r (I1 349) v1) z3 v3 v2 (ms_n (I1 349) v1).toNat))] I1 E
        refine gw_ifb_eq 65 d_Mo_setReach_59 (by decide) (fun hc => ?_) (fun hc => ?_)
        · have h := h.1 (hc)
          refine gw_aload_n 0 d_Mo_setReach_65 rfl rfl ?_
          obtain ⟨g11, h⟩ := h
          refine gw_invV (as := []) (k := 348) (rest := []) (d' := (d + 2)) d_Mo_setReach_66 lk_Mo_119 (ga_rcv (ga_oM) rfl rfl) rfl (Nat.le_of_ble_eq_true rfl) (Nat.le_of_ble_eq_true rfl) rfl rfl (s_Mo_act g11 ?_)
          show ga_W G (d + 3) mt_Mo_setReach 69 [some (.inr 348), some (.inl v1), some (.inl v2), some (.inl v3), none] [] (mx_ac I1) E
          refine gw_nm (fun I2 q5 => ?_)
          have h := h I2 q5
          refine gw_RG (fun hI3 => ?_)
          refine gw_aload_n 0 d_Mo_setReach_69 rfl rfl ?_
          refine gw_iload_n 1 d_Mo_setReach_70 rfl rfl ?_
          refine gw_iload_n 2 d_Mo_setReach_71 rfl rfl ?_
          refine gw_iconst d_Mo_setReach_72 ?_
          obtain ⟨g12, h⟩ := h
          refine gw_invV (as := [.inl v1, .inl v2, .inl 2]) (k := 348) (rest := []) (d' := (d + 2)) d_Mo_setReach_73 lk_Mo_63 (ga_rcv (ga_oM) rfl rfl) rfl (Nat.le_of_ble_eq_true rfl) (Nat.le_of_ble_eq_true rfl) rfl rfl (s_Mo_ofBorder g2 g3 g12 ?_)
          show ga_W G (d + 3) mt_Mo_setReach 76 [some (.inr 348), some (.inl v1), some (.inl v2), some (.inl v3), none] [.inl (ms_b (I2 349) v1 v2 (2 : Int))] I2 E
          refine gw_nz (z := ms_b (I2 349) v1 v2 (2 : Int)) (fun z4 q6 => ?_)
          have h := h z4 q6
          refine gw_istore 4 d_Mo_setReach_76 (Nat.le_of_ble_eq_true rfl) rfl ?_
          refine gw_aload_n 0 d_Mo_setReach_78 rfl rfl ?_
          refine gw_iload_n 1 d_Mo_setReach_79 rfl rfl ?_
          refine gw_iload_n 2 d_Mo_setReach_80 rfl rfl ?_
          refine gw_aload_n 0 d_Mo_setReach_81 rfl rfl ?_
          refine gw_iload_n 1 d_Mo_setReach_82 rfl rfl ?_
          refine gw_iload_n 2 d_Mo_setReach_83 rfl rfl ?_
          refine gw_iconst d_Mo_setReach_84 ?_
          refine gw_invV (as := [.inl v1, .inl v2, .inl 0]) (k := 348) (rest := [.inl v2, .inl v1, .inr 348]) (d' := (d + 2)) d_Mo_setReach_85 lk_Mo_63 (ga_rcv (ga_oM) rfl rfl) rfl (Nat.le_of_ble_eq_true rfl) (Nat.le_of_ble_eq_true rfl) rfl rfl (s_Mo_ofBorder g2 g3 g5 ?_)
          show ga_W G (d + 3) mt_Mo_setReach 88 [some (.inr 348), some (.inl v1), some (.inl v2), some (.inl v3), some (.inl z4)] [.inl (ms_b (I2 349) v1 v2 (0 : Int)), .inl v2, .inl v1, .inr 348] I2 E
          refine gw_nz (z := ms_b (I2 349) v1 v2 (0 : Int)) (fun z5 q7 => ?_)
          have h := h z5 q7
          refine gw_aload_n 0 d_Mo_setReach_88 rfl rfl ?_
          refine gw_iload_n 1 d_Mo_setReach_89 rfl rfl ?_
          refine gw_iload_n 2 d_Mo_setReach_90 rfl rfl ?_
          refine gw_iconst d_Mo_setReach_91 ?_
          refine gw_invV (as := [.inl v1, .inl v2, .inl 1]) (k := 348) (rest := [.inl z5, .inl v2, .inl v1, .inr 348]) (d' := (d + 2)) d_Mo_setReach_92 lk_Mo_63 (ga_rcv (ga_oM) rfl rfl) rfl (Nat.le_of_ble_eq_true rfl) (Nat.le_of_ble_eq_true rfl) rfl rfl (s_Mo_ofBorder g2 g3 g4 ?_)
          show ga_W G (d + 3) mt_Mo_setReach 95 [some (.inr 348), some (.inl v1), some (.inl v2), some (.inl v3), some (.inl z4)] [.inl (ms_b (I2 349) v1 v2 (1 : Int)), .inl z5, .inl v2, .inl v1, .inr 348] I2 E
          refine gw_nz (z := ms_b (I2 349) v1 v2 (1 : Int)) (fun z6 q8 => ?_)
          have h := h z6 q8
          refine gw_iload_n 3 d_Mo_setReach_95 rfl rfl ?_
          refine gw_invV (as := [.inl v1, .inl v2, .inl z5, .inl z6, .inl v3]) (k := 348) (rest := []) (d' := (d + 2)) d_Mo_setReach_96 lk_Mo_92 (ga_rcv (ga_oM) rfl rfl) rfl (Nat.le_of_ble_eq_true rfl) (Nat.le_of_ble_eq_true rfl) rfl rfl (s_Mo_setBorder g2 g3 (by rw [q7]; exact (hI3 _ _)) (by rw [q8]; exact (hI3 _ _)) r3 ?_)
          show ga_W G (d + 3) mt_Mo_setReach 99 [some (.inr 348), some (.inl v1), some (.inl v2), some (.inl v3), some (.inl z4)] [] (mx_sb I2 v1 v2 z5 z6 v3) E
          refine gw_nm (fun I3 q9 => ?_)
          have h := h I3 q9
          refine gw_RG (fun hI4 => ?_)
          refine gw_aload_n 0 d_Mo_setReach_99 rfl rfl ?_
          obtain ⟨g13, h⟩ := h
          refine gw_invV (as := []) (k := 348) (rest := []) (d' := (d + 2)) d_Mo_setReach_100 lk_Mo_102 (ga_rcv (ga_oM) rfl rfl) rfl (Nat.le_of_ble_eq_true rfl) (Nat.le_of_ble_eq_true rfl) rfl rfl (s_Mo_findZones g13 ?_)
          show ga_W G (d + 3) mt_Mo_setReach 103 [some (.inr 348), some (.inl v1), some (.inl v2), some (.inl v3), some (.inl z4)] [] (mx_fz I3) E
          refine gw_nm (fun I4 q10 => ?_)
          have h := h I4 q10
          refine gw_RG (fun hI5 => ?_)
          refine gw_iload 4 d_Mo_setReach_103 rfl ?_
          exact gw_ireturn d_Mo_setReach_105 rfl h
        · have h := h.2 (hc)
          refine gw_ldc (n := (-2000000002)) d_Mo_setReach_62 kw_Mo_117 (by decide +kernel) ?_
          exact gw_ireturn d_Mo_setReach_64 rfl h
      · have h := h.2 (of_decide_eq_false hc)
        refine gw_ldc (n := (-2000000001)) d_Mo_setReach_42 kw_Mo_112 (by decide +kernel) ?_
        exact gw_ireturn d_Mo_setReach_44 rfl h

theorem k_Mo_setOperator_0 {G : ga_G} {d : Nat} {I : ga_I} {E : Option ga_V → ga_I → Prop} {v1 : Int} {v2 : Int} {v3 : Int} (r1 : ga_rg v1) (r2 : ga_rg v2) (r3 : ga_rg v3)
    (h : ga_RG I → (∀ I1 : ga_I, I1 = (ga_up I 348 0 0) → ((v2 ≠ 0) → ((v2 ≠ 1) → ((¬ (0 ≤ v1 ∧ v1 ≤ 2)) → E (some (.inl (-2000000001))) I1) ∧ ((0 ≤ v1 ∧ v1 ≤ 2) → (((0 : Int) ≠ 0) → (0 ≤ I1 348 4 ∧ I1 348 4 ≤ 5) ∧ ((∀ I2 : ga_I, I2 = (mx_ac I1) → (0 ≤ ((241 + (3 * v1)) + v2)) ∧ ((((241 + (3 * v1)) + v2) < 1120) ∧ ((∀ I3 : ga_I, I3 = (ga_up I2 349 ((241 + (3 * v1)) + v2).toNat (ga_wr v3)) → E (some (.inl (I2 349 ((241 + (3 * v1)) + v2).toNat))) I3)))))) ∧ (((0 : Int) = 0) → E (some (.inl (-2000000001))) I1))) ∧ ((v2 = 1) → ((¬ ((0 : Int) ≤ v3 ∧ v3 ≤ (99999 : Int))) → ((¬ (0 ≤ v1 ∧ v1 ≤ 2)) → E (some (.inl (-2000000001))) I1) ∧ ((0 ≤ v1 ∧ v1 ≤ 2) → (((0 : Int) ≠ 0) → (0 ≤ I1 348 4 ∧ I1 348 4 ≤ 5) ∧ ((∀ I4 : ga_I, I4 = (mx_ac I1) → (0 ≤ ((241 + (3 * v1)) + v2)) ∧ ((((241 + (3 * v1)) + v2) < 1120) ∧ ((∀ I5 : ga_I, I5 = (ga_up I4 349 ((241 + (3 * v1)) + v2).toNat v3) → E (some (.inl (I4 349 ((241 + (3 * v1)) + v2).toNat))) I5)))))) ∧ (((0 : Int) = 0) → E (some (.inl (-2000000001))) I1))) ∧ (((0 : Int) ≤ v3 ∧ v3 ≤ (99999 : Int)) → ((¬ (0 ≤ v1 ∧ v1 ≤ 2)) → E (some (.inl (-2000000001))) I1) ∧ ((0 ≤ v1 ∧ v1 ≤ 2) → (((1 : Int) ≠ 0) → (0 ≤ I1 348 4 ∧ I1 348 4 ≤ 5) ∧ ((∀ I6 : ga_I, I6 = (mx_ac I1) → (0 ≤ ((241 + (3 * v1)) + v2)) ∧ ((((241 + (3 * v1)) + v2) < 1120) ∧ ((∀ I7 : ga_I, I7 = (ga_up I6 349 ((241 + (3 * v1)) + v2).toNat v3) → E (some (.inl (I6 349 ((241 + (3 * v1)) + v2).toNat))) I7)))))) ∧ (((1 : Int) = 0) → E (some (.inl (-2000000001))) I1))))) ∧ ((v2 = 0) → ((¬ (0 ≤ v1 ∧ v1 ≤ 2)) → E (some (.inl (-2000000001))) I1) ∧ ((0 ≤ v1 ∧ v1 ≤ 2) → (((1 : Int) ≤ v3 ∧ v3 ≤ (9999 : Int)) → (0 ≤ I1 348 4 ∧ I1 348 4 ≤ 5) ∧ ((∀ I8 : ga_I, I8 = (mx_ac I1) → (0 ≤ ((241 + (3 * v1)) + v2)) ∧ ((((241 + (3 * v1)) + v2) < 1120) ∧ ((∀ I9 : ga_I, I9 = (ga_up I8 349 ((241 + (3 * v1)) + v2).toNat v3) → E (some (.inl (I8 349 ((241 + (3 * v1)) + v2).toNat))) I9)))))) ∧ ((¬ ((1 : Int) ≤ v3 ∧ v3 ≤ (9999 : Int))) → E (some (.inl (-2000000001))) I1))))) :
    ga_W G (d + 2) mt_Mo_setOperator 0 (ga_en 6 [.inr 348, .inl v1, .inl v2, .inl v3]) [] I E := by
  show ga_W G (d + 2) mt_Mo_setOperator 0 [some (.inr 348), some (.inl v1), some (.inl v2), some (.inl v3), none, none] [] I E
  refine gw_RG (fun hI1 => ?_)
  have h := h hI1
  refine gw_aload_n 0 d_Mo_setOperator_0 rfl rfl ?_
  refine gw_iconst d_Mo_setOperator_1 ?_
  refine gw_putI d_Mo_setOperator_2 fp_Mo_37 (ga_oM) rfl ?_
  show ga_W G (d + 2) mt_Mo_setOperator 5 [some (.inr 348), some (.inl v1), some (.inl v2), some (.inl v3), none, none] [] (ga_up I 348 0 (ga_wr 0)) E
  rw [ga_wr_eq (z := 0) ⟨by decide, by decide⟩]
  refine gw_nm (J := (ga_up I 348 0 0)) (fun I1 q1 => ?_)
  have h := h I1 q1
  refine gw_RG (fun hI2 => ?_)
  refine gw_iload_n 2 d_Mo_setOperator_5 rfl rfl ?_
  refine gw_if_ne 20 d_Mo_setOperator_6 (by decide) r2 (fun hc => ?_) (fun hc => ?_)
  · have h := h.1 hc
    refine gw_iload_n 2 d_Mo_setOperator_20 rfl rfl ?_
    refine gw_iconst d_Mo_setOperator_21 ?_
    refine gw_icmp_ne 39 d_Mo_setOperator_22 (by decide) r2 ⟨by decide, by decide⟩ (fun hc => ?_) (fun hc => ?_)
    · have h := h.1 hc
      refine gw_iconst d_Mo_setOperator_39 ?_
      refine gw_istore 4 d_Mo_setOperator_40 (Nat.le_of_ble_eq_true rfl) rfl ?_
      refine gw_iload_n 1 d_Mo_setOperator_42 rfl rfl ?_
      refine gw_invS (as := [.inl v1]) (rest := []) (d' := (d + 1)) d_Mo_setOperator_43 lk_Mo_134 rfl (Nat.le_of_ble_eq_true rfl) (Nat.le_of_ble_eq_true rfl) rfl rfl (s_Mo_isOperator r1 ?_)
      show ga_W G (d + 2) mt_Mo_setOperator 46 [some (.inr 348), some (.inl v1), some (.inl v2), some (.inl v3), some (.inl 0), none] [.inl (ga_bb (decide (0 ≤ v1 ∧ v1 ≤ 2)))] I1 E
      refine gw_ifb_eq 54 d_Mo_setOperator_46 (by decide) (fun hc => ?_) (fun hc => ?_)
      · have h := h.1 (of_decide_eq_false hc)
        refine gw_ldc (n := (-2000000001)) d_Mo_setOperator_54 kw_Mo_112 (by decide +kernel) ?_
        exact gw_ireturn d_Mo_setOperator_56 rfl h
      · have h := h.2 (of_decide_eq_true hc)
        refine gw_iload 4 d_Mo_setOperator_49 rfl ?_
        refine gw_if_ne 57 d_Mo_setOperator_51 (by decide) ⟨by decide, by decide⟩ (fun hc => ?_) (fun hc => ?_)
        · have h := h.1 hc
          refine gw_aload_n 0 d_Mo_setOperator_57 rfl rfl ?_
          obtain ⟨g1, h⟩ := h
          refine gw_invV (as := []) (k := 348) (rest := []) (d' := (d + 1)) d_Mo_setOperator_58 lk_Mo_119 (ga_rcv (ga_oM) rfl rfl) rfl (Nat.le_of_ble_eq_true rfl) (Nat.le_of_ble_eq_true rfl) rfl rfl (s_Mo_act g1 ?_)
          show ga_W G (d + 2) mt_Mo_setOperator 61 [some (.inr 348), some (.inl v1), some (.inl v2), some (.inl v3), some (.inl 0), none] [] (mx_ac I1) E
          refine gw_nm (fun I2 q2 => ?_)
          have h := h I2 q2
          refine gw_RG (fun hI3 => ?_)
          refine gw_aload_n 0 d_Mo_setOperator_61 rfl rfl ?_
          refine gw_getR d_Mo_setOperator_62 fl_Mo_7 (ga_oM) rfl ?_
          refine gw_sipush d_Mo_setOperator_65 (by decide +kernel) ?_
          refine gw_iconst d_Mo_setOperator_68 ?_
          refine gw_iload_n 1 d_Mo_setOperator_69 rfl rfl ?_
          refine gw_imul d_Mo_setOperator_70 ?_
          refine gw_iadd d_Mo_setOperator_71 ?_
          refine gw_iload_n 2 d_Mo_setOperator_72 rfl rfl ?_
          refine gw_iadd d_Mo_setOperator_73 ?_
          obtain ⟨g2, h⟩ := h
          obtain ⟨g3, h⟩ := h
          refine gw_iald d_Mo_setOperator_74 (ga_aM1) g2 g3 ?_
          refine gw_istore 5 d_Mo_setOperator_75 (Nat.le_of_ble_eq_true rfl) rfl ?_
          refine gw_aload_n 0 d_Mo_setOperator_77 rfl rfl ?_
          refine gw_getR d_Mo_setOperator_78 fl_Mo_7 (ga_oM) rfl ?_
          refine gw_sipush d_Mo_setOperator_81 (by decide +kernel) ?_
          refine gw_iconst d_Mo_setOperator_84 ?_
          refine gw_iload_n 1 d_Mo_setOperator_85 rfl rfl ?_
          refine gw_imul d_Mo_setOperator_86 ?_
          refine gw_iadd d_Mo_setOperator_87 ?_
          refine gw_iload_n 2 d_Mo_setOperator_88 rfl rfl ?_
          refine gw_iadd d_Mo_setOperator_89 ?_
          refine gw_iload_n 3 d_Mo_setOperator_90 rfl rfl ?_
          refine gw_iast d_Mo_setOperator_91 (ga_aM1) g2 g3 ?_
          refine gw_nm (J := (ga_up I2 349 ((241 + (3 * v1)) + v2).toNat (ga_wr v3))) (fun I3 q3 => ?_)
          have h := h I3 q3
          refine gw_RG (fun hI4 => ?_)
          refine gw_iload 5 d_Mo_setOperator_92 rfl ?_
          exact gw_ireturn d_Mo_setOperator_94 rfl h
        · have h := h.2 hc
          refine gw_ldc (n := (-2000000001)) d_Mo_setOperator_54 kw_Mo_112 (by decide +kernel) ?_
          exact gw_ireturn d_Mo_setOperator_56 rfl h
    · have h := h.2 hc
      refine gw_iload_n 3 d_Mo_setOperator_25 rfl rfl ?_
      refine gw_iconst d_Mo_setOperator_26 ?_
      refine gw_ldc (n := 99999) d_Mo_setOperator_27 kw_Mo_133 (by decide +kernel) ?_
      refine gw_invS (as := [.inl v3, .inl 0, .inl 99999]) (rest := []) (d' := (d + 1)) d_Mo_setOperator_29 lk_Mo_47 rfl (Nat.le_of_ble_eq_true rfl) (Nat.le_of_ble_eq_true rfl) rfl rfl (s_Mo_in r3 ⟨by decide, by decide⟩ ⟨by decide, by decide⟩ ?_)
      show ga_W G (d + 2) mt_Mo_setOperator 32 [some (.inr 348), some (.inl v1), some (.inl v2), some (.inl v3), none, none] [.inl (ga_bb (decide ((0 : Int) ≤ v3 ∧ v3 ≤ (99999 : Int))))] I1 E
      refine gw_ifb_eq 39 d_Mo_setOperator_32 (by decide) (fun hc => ?_) (fun hc => ?_)
      · have h := h.1 (of_decide_eq_false hc)
        refine gw_iconst d_Mo_setOperator_39 ?_
        refine gw_istore 4 d_Mo_setOperator_40 (Nat.le_of_ble_eq_true rfl) rfl ?_
        refine gw_iload_n 1 d_Mo_setOperator_42 rfl rfl ?_
        refine gw_invS (as := [.inl v1]) (rest := []) (d' := (d + 1)) d_Mo_setOperator_43 lk_Mo_134 rfl (Nat.le_of_ble_eq_true rfl) (Nat.le_of_ble_eq_true rfl) rfl rfl (s_Mo_isOperator r1 ?_)
        show ga_W G (d + 2) mt_Mo_setOperator 46 [some (.inr 348), some (.inl v1), some (.inl v2), some (.inl v3), some (.inl 0), none] [.inl (ga_bb (decide (0 ≤ v1 ∧ v1 ≤ 2)))] I1 E
        refine gw_ifb_eq 54 d_Mo_setOperator_46 (by decide) (fun hc => ?_) (fun hc => ?_)
        · have h := h.1 (of_decide_eq_false hc)
          refine gw_ldc (n := (-2000000001)) d_Mo_setOperator_54 kw_Mo_112 (by decide +kernel) ?_
          exact gw_ireturn d_Mo_setOperator_56 rfl h
        · have h := h.2 (of_decide_eq_true hc)
          refine gw_iload 4 d_Mo_setOperator_49 rfl ?_
          refine gw_if_ne 57 d_Mo_setOperator_51 (by decide) ⟨by decide, by decide⟩ (fun hc => ?_) (fun hc => ?_)
          · have h := h.1 hc
            refine gw_aload_n 0 d_Mo_setOperator_57 rfl rfl ?_
            obtain ⟨g4, h⟩ := h
            refine gw_invV (as := []) (k := 348) (rest := []) (d' := (d + 1)) d_Mo_setOperator_58 lk_Mo_119 (ga_rcv (ga_oM) rfl rfl) rfl (Nat.le_of_ble_eq_true rfl) (Nat.le_of_ble_eq_true rfl) rfl rfl (s_Mo_act g4 ?_)
            show ga_W G (d + 2) mt_Mo_setOperator 61 [some (.inr 348), some (.inl v1), some (.inl v2), some (.inl v3), some (.inl 0), none] [] (mx_ac I1) E
            refine gw_nm (fun I4 q4 => ?_)
            have h := h I4 q4
            refine gw_RG (fun hI5 => ?_)
            refine gw_aload_n 0 d_Mo_setOperator_61 rfl rfl ?_
            refine gw_getR d_Mo_setOperator_62 fl_Mo_7 (ga_oM) rfl ?_
            refine gw_sipush d_Mo_setOperator_65 (by decide +kernel) ?_
            refine gw_iconst d_Mo_setOperator_68 ?_
            refine gw_iload_n 1 d_Mo_setOperator_69 rfl rfl ?_
            refine gw_imul d_Mo_setOperator_70 ?_
            refine gw_iadd d_Mo_setOperator_71 ?_
            refine gw_iload_n 2 d_Mo_setOperator_72 rfl rfl ?_
            refine gw_iadd d_Mo_setOperator_73 ?_
            obtain ⟨g5, h⟩ := h
            obtain ⟨g6, h⟩ := h
            refine gw_iald d_Mo_setOperator_74 (ga_aM1) g5 g6 ?_
            refine gw_istore 5 d_Mo_setOperator_75 (Nat.le_of_ble_eq_true rfl) rfl ?_
            refine gw_aload_n 0 d_Mo_setOperator_77 rfl rfl ?_
            refine gw_getR d_Mo_setOperator_78 fl_Mo_7 (ga_oM) rfl ?_
            refine gw_sipush d_Mo_setOperator_81 (by decide +kernel) ?_
            refine gw_iconst d_Mo_setOperator_84 ?_
            refine gw_iload_n 1 d_Mo_setOperator_85 rfl rfl ?_
            refine gw_imul d_Mo_setOperator_86 ?_
            refine gw_iadd d_Mo_setOperator_87 ?_
            refine gw_iload_n 2 d_Mo_setOperator_88 rfl rfl ?_
            refine gw_iadd d_Mo_setOperator_89 ?_
            refine gw_iload_n 3 d_Mo_setOperator_90 rfl rfl ?_
            refine gw_iast d_Mo_setOperator_91 (ga_aM1) g5 g6 ?_
            show ga_W G (d + 2) mt_Mo_setOperator 92 [some (.inr 348), some (.inl v1), some (.inl v2), some (.inl v3), some (.inl 0), some (.inl (I4 349 ((241 + (3 * v1)) + v2).toNat))] [] (ga_up I4 349 ((241 + (3 * v1)) + v2).toNat (ga_wr v3)) E
            rw [ga_wr_eq (z := v3) r3]
            refine gw_nm (J := (ga_up I4 349 ((241 + (3 * v1)) + v2).toNat v3)) (fun I5 q5 => ?_)
            have h := h I5 q5
            refine gw_RG (fun hI6 => ?_)
            refine gw_iload 5 d_Mo_setOperator_92 rfl ?_
            exact gw_ireturn d_Mo_setOperator_94 rfl h
          · have h := h.2 hc
            refine gw_ldc (n := (-2000000001)) d_Mo_setOperator_54 kw_Mo_112 (by decide +kernel) ?_
            exact gw_ireturn d_Mo_setOperator_56 rfl h
      · have h := h.2 (of_decide_eq_true hc)
        refine gw_iconst d_Mo_setOperator_35 ?_
        refine gw_goto 40 d_Mo_setOperator_36 (by decide) ?_
        refine gw_istore 4 d_Mo_setOperator_40 (Nat.le_of_ble_eq_true rfl) rfl ?_
        refine gw_iload_n 1 d_Mo_setOperator_42 rfl rfl ?_
        refine gw_invS (as := [.inl v1]) (rest := []) (d' := (d + 1)) d_Mo_setOperator_43 lk_Mo_134 rfl (Nat.le_of_ble_eq_true rfl) (Nat.le_of_ble_eq_true rfl) rfl rfl (s_Mo_isOperator r1 ?_)
        show ga_W G (d + 2) mt_Mo_setOperator 46 [some (.inr 348), some (.inl v1), some (.inl v2), some (.inl v3), some (.inl 1), none] [.inl (ga_bb (decide (0 ≤ v1 ∧ v1 ≤ 2)))] I1 E
        refine gw_ifb_eq 54 d_Mo_setOperator_46 (by decide) (fun hc => ?_) (fun hc => ?_)
        · have h := h.1 (of_decide_eq_false hc)
          refine gw_ldc (n := (-2000000001)) d_Mo_setOperator_54 kw_Mo_112 (by decide +kernel) ?_
          exact gw_ireturn d_Mo_setOperator_56 rfl h
        · have h := h.2 (of_decide_eq_true hc)
          refine gw_iload 4 d_Mo_setOperator_49 rfl ?_
          refine gw_if_ne 57 d_Mo_setOperator_51 (by decide) ⟨by decide, by decide⟩ (fun hc => ?_) (fun hc => ?_)
          · have h := h.1 hc
            refine gw_aload_n 0 d_Mo_setOperator_57 rfl rfl ?_
            obtain ⟨g7, h⟩ := h
            refine gw_invV (as := []) (k := 348) (rest := []) (d' := (d + 1)) d_Mo_setOperator_58 lk_Mo_119 (ga_rcv (ga_oM) rfl rfl) rfl (Nat.le_of_ble_eq_true rfl) (Nat.le_of_ble_eq_true rfl) rfl rfl (s_Mo_act g7 ?_)
            show ga_W G (d + 2) mt_Mo_setOperator 61 [some (.inr 348), some (.inl v1), some (.inl v2), some (.inl v3), some (.inl 1), none] [] (mx_ac I1) E
            refine gw_nm (fun I6 q6 => ?_)
            have h := h I6 q6
            refine gw_RG (fun hI7 => ?_)
            refine gw_aload_n 0 d_Mo_setOperator_61 rfl rfl ?_
            refine gw_getR d_Mo_setOperator_62 fl_Mo_7 (ga_oM) rfl ?_
            refine gw_sipush d_Mo_setOperator_65 (by decide +kernel) ?_
            refine gw_iconst d_Mo_setOperator_68 ?_
            refine gw_iload_n 1 d_Mo_setOperator_69 rfl rfl ?_
            refine gw_imul d_Mo_setOperator_70 ?_
            refine gw_iadd d_Mo_setOperator_71 ?_
            refine gw_iload_n 2 d_Mo_setOperator_72 rfl rfl ?_
            refine gw_iadd d_Mo_setOperator_73 ?_
            obtain ⟨g8, h⟩ := h
            obtain ⟨g9, h⟩ := h
            refine gw_iald d_Mo_setOperator_74 (ga_aM1) g8 g9 ?_
            refine gw_istore 5 d_Mo_setOperator_75 (Nat.le_of_ble_eq_true rfl) rfl ?_
            refine gw_aload_n 0 d_Mo_setOperator_77 rfl rfl ?_
            refine gw_getR d_Mo_setOperator_78 fl_Mo_7 (ga_oM) rfl ?_
            refine gw_sipush d_Mo_setOperator_81 (by decide +kernel) ?_
            refine gw_iconst d_Mo_setOperator_84 ?_
            refine gw_iload_n 1 d_Mo_setOperator_85 rfl rfl ?_
            refine gw_imul d_Mo_setOperator_86 ?_
            refine gw_iadd d_Mo_setOperator_87 ?_
            refine gw_iload_n 2 d_Mo_setOperator_88 rfl rfl ?_
            refine gw_iadd d_Mo_setOperator_89 ?_
            refine gw_iload_n 3 d_Mo_setOperator_90 rfl rfl ?_
            refine gw_iast d_Mo_setOperator_91 (ga_aM1) g8 g9 ?_
            show ga_W G (d + 2) mt_Mo_setOperator 92 [some (.inr 348), some (.inl v1), some (.inl v2), some (.inl v3), some (.inl 1), some (.inl (I6 349 ((241 + (3 * v1)) + v2).toNat))] [] (ga_up I6 349 ((241 + (3 * v1)) + v2).toNat (ga_wr v3)) E
            rw [ga_wr_eq (z := v3) r3]
            refine gw_nm (J := (ga_up I6 349 ((241 + (3 * v1)) + v2).toNat v3)) (fun I7 q7 => ?_)
            have h := h I7 q7
            refine gw_RG (fun hI8 => ?_)
            refine gw_iload 5 d_Mo_setOperator_92 rfl ?_
            exact gw_ireturn d_Mo_setOperator_94 rfl h
          · have h := h.2 hc
            refine gw_ldc (n := (-2000000001)) d_Mo_setOperator_54 kw_Mo_112 (by decide +kernel) ?_
            exact gw_ireturn d_Mo_setOperator_56 rfl h
  · have h := h.2 hc
    refine gw_iload_n 3 d_Mo_setOperator_9 rfl rfl ?_
    refine gw_iconst d_Mo_setOperator_10 ?_
    refine gw_sipush d_Mo_setOperator_11 (by decide +kernel) ?_
    refine gw_invS (as := [.inl v3, .inl 1, .inl 9999]) (rest := []) (d' := (d + 1)) d_Mo_setOperator_14 lk_Mo_47 rfl (Nat.le_of_ble_eq_true rfl) (Nat.le_of_ble_eq_true rfl) rfl rfl (s_Mo_in r3 ⟨by decide, by decide⟩ ⟨by decide, by decide⟩ ?_)
    show ga_W G (d + 2) mt_Mo_setOperator 17 [some (.inr 348), some (.inl v1), some (.inl v2), some (.inl v3), none, none] [.inl (ga_bb (decide ((1 : Int) ≤ v3 ∧ v3 ≤ (9999 : Int))))] I1 E
    refine gw_goto 40 d_Mo_setOperator_17 (by decide) ?_
    refine gw_istore 4 d_Mo_setOperator_40 (Nat.le_of_ble_eq_true rfl) rfl ?_
    refine gw_iload_n 1 d_Mo_setOperator_42 rfl rfl ?_
    refine gw_invS (as := [.inl v1]) (rest := []) (d' := (d + 1)) d_Mo_setOperator_43 lk_Mo_134 rfl (Nat.le_of_ble_eq_true rfl) (Nat.le_of_ble_eq_true rfl) rfl rfl (s_Mo_isOperator r1 ?_)
    show ga_W G (d + 2) mt_Mo_setOperator 46 [some (.inr 348), some (.inl v1), some (.inl v2), some (.inl v3), some (.inl (ga_bb (decide ((1 : Int) ≤ v3 ∧ v3 ≤ (9999 : Int))))), none] [.inl (ga_bb (decide (0 ≤ v1 ∧ v1 ≤ 2)))] I1 E
    refine gw_ifb_eq 54 d_Mo_setOperator_46 (by decide) (fun hc => ?_) (fun hc => ?_)
    · have h := h.1 (of_decide_eq_false hc)
      refine gw_ldc (n := (-2000000001)) d_Mo_setOperator_54 kw_Mo_112 (by decide +kernel) ?_
      exact gw_ireturn d_Mo_setOperator_56 rfl h
    · have h := h.2 (of_decide_eq_true hc)
      refine gw_iload 4 d_Mo_setOperator_49 rfl ?_
      refine gw_ifb_ne 57 d_Mo_setOperator_51 (by decide) (fun hc => ?_) (fun hc => ?_)
      · have h := h.1 (of_decide_eq_true hc)
        refine gw_aload_n 0 d_Mo_setOperator_57 rfl rfl ?_
        obtain ⟨g10, h⟩ := h
        refine gw_invV (as := []) (k := 348) (rest := []) (d' := (d + 1)) d_Mo_setOperator_58 lk_Mo_119 (ga_rcv (ga_oM) rfl rfl) rfl (Nat.le_of_ble_eq_true rfl) (Nat.le_of_ble_eq_true rfl) rfl rfl (s_Mo_act g10 ?_)
        show ga_W G (d + 2) mt_Mo_setOperator 61 [some (.inr 348), some (.inl v1), some (.inl v2), some (.inl v3), some (.inl (ga_bb (decide ((1 : Int) ≤ v3 ∧ v3 ≤ (9999 : Int))))), none] [] (mx_ac I1) E
        refine gw_nm (fun I8 q8 => ?_)
        have h := h I8 q8
        refine gw_RG (fun hI9 => ?_)
        refine gw_aload_n 0 d_Mo_setOperator_61 rfl rfl ?_
        refine gw_getR d_Mo_setOperator_62 fl_Mo_7 (ga_oM) rfl ?_
        refine gw_sipush d_Mo_setOperator_65 (by decide +kernel) ?_
        refine gw_iconst d_Mo_setOperator_68 ?_
        refine gw_iload_n 1 d_Mo_setOperator_69 rfl rfl ?_
        refine gw_imul d_Mo_setOperator_70 ?_
        refine gw_iadd d_Mo_setOperator_71 ?_
        refine gw_iload_n 2 d_Mo_setOperator_72 rfl rfl ?_
        refine gw_iadd d_Mo_setOperator_73 ?_
        obtain ⟨g11, h⟩ := h
        obtain ⟨g12, h⟩ := h
        refine gw_iald d_Mo_setOperator_74 (ga_aM1) g11 g12 ?_
        refine gw_istore 5 d_Mo_setOperator_75 (Nat.le_of_ble_eq_true rfl) rfl ?_
        refine gw_aload_n 0 d_Mo_setOperator_77 rfl rfl ?_
        refine gw_getR d_Mo_setOperator_78 fl_Mo_7 (ga_oM) rfl ?_
        refine gw_sipush d_Mo_setOperator_81 (by decide +kernel) ?_
        refine gw_iconst d_Mo_setOperator_84 ?_
        refine gw_iload_n 1 d_Mo_setOperator_85 rfl rfl ?_
        refine gw_imul d_Mo_setOperator_86 ?_
        refine gw_iadd d_Mo_setOperator_87 ?_
        refine gw_iload_n 2 d_Mo_setOperator_88 rfl rfl ?_
        refine gw_iadd d_Mo_setOperator_89 ?_
        refine gw_iload_n 3 d_Mo_setOperator_90 rfl rfl ?_
        refine gw_iast d_Mo_setOperator_91 (ga_aM1) g11 g12 ?_
        show ga_W G (d + 2) mt_Mo_setOperator 92 [some (.inr 348), some (.inl v1), some (.inl v2), some (.inl v3), some (.inl (ga_bb (decide ((1 : Int) ≤ v3 ∧ v3 ≤ (9999 : Int))))), some (.inl (I8 349 ((241 + (3 * v1)) + v2).toNat))] [] (ga_up I8 349 ((241 + (3 * v1)) + v2).toNat (ga_wr v3)) E
        rw [ga_wr_eq (z := v3) r3]
        refine gw_nm (J := (ga_up I8 349 ((241 + (3 * v1)) + v2).toNat v3)) (fun I9 q9 => ?_)
        have h := h I9 q9
        refine gw_RG (fun hI10 => ?_)
        refine gw_iload 5 d_Mo_setOperator_92 rfl ?_
        exact gw_ireturn d_Mo_setOperator_94 rfl h
      · have h := h.2 (of_decide_eq_false hc)
        refine gw_ldc (n := (-2000000001)) d_Mo_setOperator_54 kw_Mo_112 (by decide +kernel) ?_
        exact gw_ireturn d_Mo_setOperator_56 rfl h

theorem k_Mo_edit_0 {G : ga_G} {d : Nat} {I : ga_I} {E : Option ga_V → ga_I → Prop} {v1 : Int} {v2 : Int} {v3 : Int} {v4 : Int} {v5 : Int} (r1 : ga_rg v1) (r2 : ga_rg v2) (r3 : ga_rg v3) (r4 : ga_rg v4) (r5 : ga_rg v5)
    (h : ga_RG I → (∀ I1 : ga_I, I1 = (ga_up I 348 0 0) → (((0 ≤ v1 ∧ v1 ≤ 2) ∧ ((0 ≤ v2 ∧ v2 ≤ ms_n (I1 349) 0) ∧ (0 ≤ v3 ∧ v3 ≤ ms_n (I1 349) 1)) ∧ (0 ≤ v4 ∧ v4 ≤ 2) ∧ (0 ≤ v5 ∧ v5 ≤ 9999)) → (0 ≤ v1 ∧ v1 ≤ 2) ∧ ((0 ≤ v2 ∧ v2 ≤ 6) ∧ ((0 ≤ v3 ∧ v3 ≤ 6) ∧ ((0 ≤ v4 ∧ v4 ≤ 2) ∧ ((0 ≤ v5 ∧ v5 ≤ 9999) ∧ ((mo_g I1) ∧ ((∀ z1 : Int, z1 = mp_ra (I1 349 (38 + 4 * (7 * v2 + v3) + 3).toNat) (I1 349 (38 + 4 * (7 * v2 + v3) + v4).toNat) (I1 349 (241 + 3 * v1).toNat) (I1 349 (241 + 3 * v1 + 1).toNat) v1 v5 → (ga_rg z1) ∧ (((z1 = 0) → (0 ≤ I1 348 4 ∧ I1 348 4 ≤ 5) ∧ ((∀ I2 : ga_I, I2 = (mx_ac I1) → (0 ≤ ((38 + 4 * (7 * v2 + v3)) + v4)) ∧ ((((38 + 4 * (7 * v2 + v3)) + v4) < 1120) ∧ ((mo_g I2) ∧ ((∀ I3 : ga_I, I3 = (mx_ch I2 v1 (38 + 4 * (7 * v2 + v3) + v4).toNat v5) → E (some (.inl (I2 349 ((38 + 4 * (7 * v2 + v3)) + v4).toNat))) I3))))))) ∧ ((¬ (z1 = 0)) → E (some (.inl (-2000000002))) I1)))))))))) ∧ ((¬ ((0 ≤ v1 ∧ v1 ≤ 2) ∧ ((0 ≤ v2 ∧ v2 ≤ ms_n (I1 349) 0) ∧ (0 ≤ v3 ∧ v3 ≤ ms_n (I1 349) 1)) ∧ (0 ≤ v4 ∧ v4 ≤ 2) ∧ (0 ≤ v5 ∧ v5 ≤ 9999))) → E (some (.inl (-2000000001))) I1))) :
    ga_W G (d + 3) mt_Mo_edit 0 (ga_en 7 [.inr 348, .inl v1, .inl v2, .inl v3, .inl v4, .inl v5]) [] I E := by
  show ga_W G (d + 3) mt_Mo_edit 0 [some (.inr 348), some (.inl v1), some (.inl v2), some (.inl v3), some (.inl v4), some (.inl v5), none] [] I E
  refine gw_RG (fun hI1 => ?_)
  have h := h hI1
  refine gw_aload_n 0 d_Mo_edit_0 rfl rfl ?_
  refine gw_iconst d_Mo_edit_1 ?_
  refine gw_putI d_Mo_edit_2 fp_Mo_37 (ga_oM) rfl ?_
  show ga_W G (d + 3) mt_Mo_edit 5 [some (.inr 348), some (.inl v1), some (.inl v2), some (.inl v3), some (.inl v4), some (.inl v5), none] [] (ga_up I 348 0 (ga_wr 0)) E
  rw [ga_wr_eq (z := 0) ⟨by decide, by decide⟩]
  refine gw_nm (J := (ga_up I 348 0 0)) (fun I1 q1 => ?_)
  have h := h I1 q1
  refine gw_RG (fun hI2 => ?_)
  refine gw_aload_n 0 d_Mo_edit_5 rfl rfl ?_
  refine gw_iload_n 1 d_Mo_edit_6 rfl rfl ?_
  refine gw_iload_n 2 d_Mo_edit_7 rfl rfl ?_
  refine gw_iload_n 3 d_Mo_edit_8 rfl rfl ?_
  refine gw_iload 4 d_Mo_edit_9 rfl ?_
  refine gw_iload 5 d_Mo_edit_11 rfl ?_
  refine gw_invV (as := [.inl v1, .inl v2, .inl v3, .inl v4, .inl v5]) (k := 348) (rest := []) (d' := (d + 2)) d_Mo_edit_13 lk_Mo_140 (ga_rcv (ga_oM) rfl rfl) rfl (Nat.le_of_ble_eq_true rfl) (Nat.le_of_ble_eq_true rfl) rfl rfl (s_Mo_isEdit r1 r2 r3 r4 r5 ?_)
  show ga_W G (d + 3) mt_Mo_edit 16 [some (.inr 348), some (.inl v1), some (.inl v2), some (.inl v3), some (.inl v4), some (.inl v5), none] [.inl (ga_bb (decide ((0 ≤ v1 ∧ v1 ≤ 2) ∧ ((0 ≤ v2 ∧ v2 ≤ ms_n (I1 349) 0) ∧ (0 ≤ v3 ∧ v3 ≤ ms_n (I1 349) 1)) ∧ (0 ≤ v4 ∧ v4 ≤ 2) ∧ (0 ≤ v5 ∧ v5 ≤ 9999))))] I1 E
  refine gw_ifb_ne 22 d_Mo_edit_16 (by decide) (fun hc => ?_) (fun hc => ?_)
  · have h := h.1 (of_decide_eq_true hc)
    refine gw_aload_n 0 d_Mo_edit_22 rfl rfl ?_
    refine gw_iload_n 1 d_Mo_edit_23 rfl rfl ?_
    refine gw_iload_n 2 d_Mo_edit_24 rfl rfl ?_
    refine gw_iload_n 3 d_Mo_edit_25 rfl rfl ?_
    refine gw_iload 4 d_Mo_edit_26 rfl ?_
    refine gw_iload 5 d_Mo_edit_28 rfl ?_
    obtain ⟨g1, h⟩ := h
    obtain ⟨g2, h⟩ := h
    obtain ⟨g3, h⟩ := h
    obtain ⟨g4, h⟩ := h
    obtain ⟨g5, h⟩ := h
    obtain ⟨g6, h⟩ := h
    refine gw_invV (as := [.inl v1, .inl v2, .inl v3, .inl v4, .inl v5]) (k := 348) (rest := []) (d' := (d + 2)) d_Mo_edit_30 lk_Mo_144 (ga_rcv (ga_oM) rfl rfl) rfl (Nat.le_of_ble_eq_true rfl) (Nat.le_of_ble_eq_true rfl) rfl rfl (s_Mo_refusalOf g1 g2 g3 g4 g5 g6 ?_)
    show ga_W G (d + 3) mt_Mo_edit 33 [some (.inr 348), some (.inl v1), some (.inl v2), some (.inl v3), some (.inl v4), some (.inl v5), none] [.inl (mp_ra (I1 349 (38 + 4 * (7 * v2 + v3) + 3).toNat) (I1 349 (38 + 4 * (7 * v2 + v3) + v4).toNat) (I1 349 (241 + 3 * v1).toNat) (I1 349 (241 + 3 * v1 + 1).toNat) v1 v5)] I1 E
    refine gw_nz (z := mp_ra (I1 349 (38 + 4 * (7 * v2 + v3) + 3).toNat) (I1 349 (38 + 4 * (7 * v2 + v3) + v4).toNat) (I1 349 (241 + 3 * v1).toNat) (I1 349 (241 + 3 * v1 + 1).toNat) v1 v5) (fun z1 q2 => ?_)
    have h := h z1 q2
    obtain ⟨g7, h⟩ := h
    refine gw_if_eq 39 d_Mo_edit_33 (by decide) g7 (fun hc => ?_) (fun hc => ?_)
    · have h := h.1 hc
      refine gw_aload_n 0 d_Mo_edit_39 rfl rfl ?_
      obtain ⟨g8, h⟩ := h
      refine gw_invV (as := []) (k := 348) (rest := []) (d' := (d + 2)) d_Mo_edit_40 lk_Mo_119 (ga_rcv (ga_oM) rfl rfl) rfl (Nat.le_of_ble_eq_true rfl) (Nat.le_of_ble_eq_true rfl) rfl rfl (s_Mo_act g8 ?_)
      show ga_W G (d + 3) mt_Mo_edit 43 [some (.inr 348), some (.inl v1), some (.inl v2), some (.inl v3), some (.inl v4), some (.inl v5), none] [] (mx_ac I1) E
      refine gw_nm (fun I2 q3 => ?_)
      have h := h I2 q3
      refine gw_RG (fun hI3 => ?_)
      refine gw_aload_n 0 d_Mo_edit_43 rfl rfl ?_
      refine gw_getR d_Mo_edit_44 fl_Mo_7 (ga_oM) rfl ?_
      refine gw_iload_n 2 d_Mo_edit_47 rfl rfl ?_
      refine gw_iload_n 3 d_Mo_edit_48 rfl rfl ?_
      refine gw_invS (as := [.inl v2, .inl v3]) (rest := [.inr 349]) (d' := (d + 2)) d_Mo_edit_49 lk_Mo_59 rfl (Nat.le_of_ble_eq_true rfl) (Nat.le_of_ble_eq_true rfl) rfl rfl (s_Mo_at  ?_)
      show ga_W G (d + 3) mt_Mo_edit 52 [some (.inr 348), some (.inl v1), some (.inl v2), some (.inl v3), some (.inl v4), some (.inl v5), none] [.inl (38 + 4 * (7 * v2 + v3)), .inr 349] I2 E
      refine gw_iload 4 d_Mo_edit_52 rfl ?_
      refine gw_iadd d_Mo_edit_54 ?_
      obtain ⟨g9, h⟩ := h
      obtain ⟨g10, h⟩ := h
      refine gw_iald d_Mo_edit_55 (ga_aM1) g9 g10 ?_
      refine gw_istore 6 d_Mo_edit_56 (Nat.le_of_ble_eq_true rfl) rfl ?_
      refine gw_aload_n 0 d_Mo_edit_58 rfl rfl ?_
      refine gw_iload_n 1 d_Mo_edit_59 rfl rfl ?_
      refine gw_iload_n 2 d_Mo_edit_60 rfl rfl ?_
      refine gw_iload_n 3 d_Mo_edit_61 rfl rfl ?_
      refine gw_iload 4 d_Mo_edit_62 rfl ?_
      refine gw_iload 5 d_Mo_edit_64 rfl ?_
      obtain ⟨g11, h⟩ := h
      refine gw_invV (as := [.inl v1, .inl v2, .inl v3, .inl v4, .inl v5]) (k := 348) (rest := []) (d' := (d + 2)) d_Mo_edit_66 lk_Mo_148 (ga_rcv (ga_oM) rfl rfl) rfl (Nat.le_of_ble_eq_true rfl) (Nat.le_of_ble_eq_true rfl) rfl rfl (s_Mo_change g1 g2 g3 g4 g5 g11 ?_)
      show ga_W G (d + 3) mt_Mo_edit 69 [some (.inr 348), some (.inl v1), some (.inl v2), some (.inl v3), some (.inl v4), some (.inl v5), some (.inl (I2 349 ((38 + 4 * (7 * v2 + v3)) + v4).toNat))] [] (mx_ch I2 v1 (38 + 4 * (7 * v2 + v3) + v4).toNat v5) E
      refine gw_nm (fun I3 q4 => ?_)
      have h := h I3 q4
      refine gw_RG (fun hI4 => ?_)
      refine gw_iload 6 d_Mo_edit_69 rfl ?_
      exact gw_ireturn d_Mo_edit_71 rfl h
    · have h := h.2 hc
      refine gw_ldc (n := (-2000000002)) d_Mo_edit_36 kw_Mo_117 (by decide +kernel) ?_
      exact gw_ireturn d_Mo_edit_38 rfl h
  · have h := h.2 (of_decide_eq_false hc)
    refine gw_ldc (n := (-2000000001)) d_Mo_edit_19 kw_Mo_112 (by decide +kernel) ?_
    exact gw_ireturn d_Mo_edit_21 rfl h

theorem k_Mo_lock_0 {G : ga_G} {d : Nat} {I : ga_I} {E : Option ga_V → ga_I → Prop} {v1 : Int} {v2 : Int} {v3 : Int} {v4 : Int} (r1 : ga_rg v1) (r2 : ga_rg v2) (r3 : ga_rg v3) (r4 : ga_rg v4)
    (h : ga_RG I → (∀ I1 : ga_I, I1 = (ga_up I 348 0 0) → ((¬ (0 ≤ v1 ∧ v1 ≤ 2)) → E (some (.inl (-2000000001))) I1) ∧ ((0 ≤ v1 ∧ v1 ≤ 2) → ((¬ ((0 ≤ v2 ∧ v2 ≤ ms_n (I1 349) 0) ∧ (0 ≤ v3 ∧ v3 ≤ ms_n (I1 349) 1))) → E (some (.inl (-2000000001))) I1) ∧ (((0 ≤ v2 ∧ v2 ≤ ms_n (I1 349) 0) ∧ (0 ≤ v3 ∧ v3 ≤ ms_n (I1 349) 1)) → (((0 : Int) ≤ v4 ∧ v4 ≤ (1 : Int)) → (0 ≤ ((38 + 4 * (7 * v2 + v3)) + 3)) ∧ ((((38 + 4 * (7 * v2 + v3)) + 3) < 1120) ∧ (((v4 ≠ 1) → (((I1 349 ((38 + 4 * (7 * v2 + v3)) + 3).toNat) = v1) → (0 ≤ I1 348 4 ∧ I1 348 4 ≤ 5) ∧ ((∀ I2 : ga_I, I2 = (mx_ac I1) → ((v4 ≠ 1) → (∀ I3 : ga_I, I3 = (ga_up I2 349 ((38 + 4 * (7 * v2 + v3)) + 3).toNat (-1)) → (mo_n I3) ∧ ((∀ z1 : Int, z1 = gp_tt (mp_lk (I3 349) v1) ((ms_n (I3 349) 0).toNat + 1) ((ms_n (I3 349) 1).toNat + 1) → E (some (.inl z1)) I3)))) ∧ ((v4 = 1) → (∀ I4 : ga_I, I4 = (ga_up I2 349 ((38 + 4 * (7 * v2 + v3)) + 3).toNat v1) → (mo_n I4) ∧ ((∀ z2 : Int, z2 = gp_tt (mp_lk (I4 349) v1) ((ms_n (I4 349) 0).toNat + 1) ((ms_n (I4 349) 1).toNat + 1) → E (some (.inl z2)) I4))))))) ∧ ((¬ ((I1 349 ((38 + 4 * (7 * v2 + v3)) + 3).toNat) = v1)) → E (some (.inl (-2000000002))) I1)) ∧ ((v4 = 1) → (((I1 349 ((38 + 4 * (7 * v2 + v3)) + 3).toNat) = (-1)) → (0 ≤ I1 348 4 ∧ I1 348 4 ≤ 5) ∧ ((∀ I5 : ga_I, I5 = (mx_ac I1) → ((v4 ≠ 1) → (∀ I6 : ga_I, I6 = (ga_up I5 349 ((38 + 4 * (7 * v2 + v3)) + 3).toNat (-1)) → (mo_n I6) ∧ ((∀ z3 : Int, z3 = gp_tt (mp_lk (I6 349) v1) ((ms_n (I6 349) 0).toNat + 1) ((ms_n (I6 349) 1).toNat + 1) → E (some (.inl z3)) I6)))) ∧ ((v4 = 1) → (∀ I7 : ga_I, I7 = (ga_up I5 349 ((38 + 4 * (7 * v2 + v3)) + 3).toNat v1) → (mo_n I7) ∧ ((∀ z4 : Int, z4 = gp_tt (mp_lk (I7 349) v1) ((ms_n (I7 349) 0).toNat + 1) ((ms_n (I7 349) 1).toNat + 1) → E (some (.inl z4)) I7))))))) ∧ ((¬ ((I1 349 ((38 + 4 * (7 * v2 + v3)) + 3).toNat) = (-1))) → E (some (.inl (-2000000002))) I1))))) ∧ ((¬ ((0 : Int) ≤ v4 ∧ v4 ≤ (1 : Int))) → E (some (.inl (-2000000001))) I1))))) :
    ga_W G (d + 2) mt_Mo_lock 0 (ga_en 5 [.inr 348, .inl v1, .inl v2, .inl v3, .inl v4]) [] I E := by
  show ga_W G (d + 2) mt_Mo_lock 0 [some (.inr 348), some (.inl v1), some (.inl v2), some (.inl v3), some (.inl v4)] [] I E
  refine gw_RG (fun hI1 => ?_)
  have h := h hI1
  refine gw_aload_n 0 d_Mo_lock_0 rfl rfl ?_
  refine gw_iconst d_Mo_lock_1 ?_
  refine gw_putI d_Mo_lock_2 fp_Mo_37 (ga_oM) rfl ?_
  show ga_W G (d + 2) mt_Mo_lock 5 [some (.inr 348), some (.inl v1), some (.inl v2), some (.inl v3), some (.inl v4)] [] (ga_up I 348 0 (ga_wr 0)) E
  rw [ga_wr_eq (z := 0) ⟨by decide, by decide⟩]
  refine gw_nm (J := (ga_up I 348 0 0)) (fun I1 q1 => ?_)
  have h := h I1 q1
  refine gw_RG (fun hI2 => ?_)
  refine gw_iload_n 1 d_Mo_lock_5 rfl rfl ?_
  refine gw_invS (as := [.inl v1]) (rest := []) (d' := (d + 1)) d_Mo_lock_6 lk_Mo_134 rfl (Nat.le_of_ble_eq_true rfl) (Nat.le_of_ble_eq_true rfl) rfl rfl (s_Mo_isOperator r1 ?_)
  show ga_W G (d + 2) mt_Mo_lock 9 [some (.inr 348), some (.inl v1), some (.inl v2), some (.inl v3), some (.inl v4)] [.inl (ga_bb (decide (0 ≤ v1 ∧ v1 ≤ 2)))] I1 E
  refine gw_ifb_eq 31 d_Mo_lock_9 (by decide) (fun hc => ?_) (fun hc => ?_)
  · have h := h.1 (of_decide_eq_false hc)
    refine gw_ldc (n := (-2000000001)) d_Mo_lock_31 kw_Mo_112 (by decide +kernel) ?_
    exact gw_ireturn d_Mo_lock_33 rfl h
  · have h := h.2 (of_decide_eq_true hc)
    refine gw_aload_n 0 d_Mo_lock_12 rfl rfl ?_
    refine gw_iload_n 2 d_Mo_lock_13 rfl rfl ?_
    refine gw_iload_n 3 d_Mo_lock_14 rfl rfl ?_
    refine gw_invV (as := [.inl v2, .inl v3]) (k := 348) (rest := []) (d' := (d + 1)) d_Mo_lock_15 lk_Mo_137 (ga_rcv (ga_oM) rfl rfl) rfl (Nat.le_of_ble_eq_true rfl) (Nat.le_of_ble_eq_true rfl) rfl rfl (s_Mo_isRegion r2 r3 ?_)
    show ga_W G (d + 2) mt_Mo_lock 18 [some (.inr 348), some (.inl v1), some (.inl v2), some (.inl v3), some (.inl v4)] [.inl (ga_bb (decide ((0 ≤ v2 ∧ v2 ≤ ms_n (I1 349) 0) ∧ (0 ≤ v3 ∧ v3 ≤ ms_n (I1 349) 1))))] I1 E
    refine gw_ifb_eq 31 d_Mo_lock_18 (by decide) (fun hc => ?_) (fun hc => ?_)
    · have h := h.1 (of_decide_eq_false hc)
      refine gw_ldc (n := (-2000000001)) d_Mo_lock_31 kw_Mo_112 (by decide +kernel) ?_
      exact gw_ireturn d_Mo_lock_33 rfl h
    · have h := h.2 (of_decide_eq_true hc)
      refine gw_iload 4 d_Mo_lock_21 rfl ?_
      refine gw_iconst d_Mo_lock_23 ?_
      refine gw_iconst d_Mo_lock_24 ?_
      refine gw_invS (as := [.inl v4, .inl 0, .inl 1]) (rest := []) (d' := (d + 1)) d_Mo_lock_25 lk_Mo_47 rfl (Nat.le_of_ble_eq_true rfl) (Nat.le_of_ble_eq_true rfl) rfl rfl (s_Mo_in r4 ⟨by decide, by decide⟩ ⟨by decide, by decide⟩ ?_)
      show ga_W G (d + 2) mt_Mo_lock 28 [some (.inr 348), some (.inl v1), some (.inl v2), some (.inl v3), some (.inl v4)] [.inl (ga_bb (decide ((0 : Int) ≤ v4 ∧ v4 ≤ (1 : Int))))] I1 E
      refine gw_ifb_ne 34 d_Mo_lock_28 (by decide) (fun hc => ?_) (fun hc => ?_)
      · have h := h.1 (of_decide_eq_true hc)
        refine gw_aload_n 0 d_Mo_lock_34 rfl rfl ?_
        refine gw_getR d_Mo_lock_35 fl_Mo_7 (ga_oM) rfl ?_
        refine gw_iload_n 2 d_Mo_lock_38 rfl rfl ?_
        refine gw_iload_n 3 d_Mo_lock_39 rfl rfl ?_
        refine gw_invS (as := [.inl v2, .inl v3]) (rest := [.inr 349]) (d' := (d + 1)) d_Mo_lock_40 lk_Mo_59 rfl (Nat.le_of_ble_eq_true rfl) (Nat.le_of_ble_eq_true rfl) rfl rfl (s_Mo_at  ?_)
        show ga_W G (d + 2) mt_Mo_lock 43 [some (.inr 348), some (.inl v1), some (.inl v2), some (.inl v3), some (.inl v4)] [.inl (38 + 4 * (7 * v2 + v3)), .inr 349] I1 E
        refine gw_iconst d_Mo_lock_43 ?_
        refine gw_iadd d_Mo_lock_44 ?_
        obtain ⟨g1, h⟩ := h
        obtain ⟨g2, h⟩ := h
        refine gw_iald d_Mo_lock_45 (ga_aM1) g1 g2 ?_
        refine gw_iload 4 d_Mo_lock_46 rfl ?_
        refine gw_iconst d_Mo_lock_48 ?_
        refine gw_icmp_ne 56 d_Mo_lock_49 (by decide) r4 ⟨by decide, by decide⟩ (fun hc => ?_) (fun hc => ?_)
        · have h := h.1 hc
          refine gw_iload_n 1 d_Mo_lock_56 rfl rfl ?_
          refine gw_icmp_eq 63 d_Mo_lock_57 (by decide) (hI2 _ _) r1 (fun hc => ?_) (fun hc => ?_)
          · have h := h.1 hc
            refine gw_aload_n 0 d_Mo_lock_63 rfl rfl ?_
            obtain ⟨g3, h⟩ := h
            refine gw_invV (as := []) (k := 348) (rest := []) (d' := (d + 1)) d_Mo_lock_64 lk_Mo_119 (ga_rcv (ga_oM) rfl rfl) rfl (Nat.le_of_ble_eq_true rfl) (Nat.le_of_ble_eq_true rfl) rfl rfl (s_Mo_act g3 ?_)
            show ga_W G (d + 2) mt_Mo_lock 67 [some (.inr 348), some (.inl v1), some (.inl v2), some (.inl v3), some (.inl v4)] [] (mx_ac I1) E
            refine gw_nm (fun I2 q2 => ?_)
            have h := h I2 q2
            refine gw_RG (fun hI3 => ?_)
            refine gw_aload_n 0 d_Mo_lock_67 rfl rfl ?_
            refine gw_getR d_Mo_lock_68 fl_Mo_7 (ga_oM) rfl ?_
            refine gw_iload_n 2 d_Mo_lock_71 rfl rfl ?_
            refine gw_iload_n 3 d_Mo_lock_72 rfl rfl ?_
            refine gw_invS (as := [.inl v2, .inl v3]) (rest := [.inr 349]) (d' := (d + 1)) d_Mo_lock_73 lk_Mo_59 rfl (Nat.le_of_ble_eq_true rfl) (Nat.le_of_ble_eq_true rfl) rfl rfl (s_Mo_at  ?_)
            show ga_W G (d + 2) mt_Mo_lock 76 [some (.inr 348), some (.inl v1), some (.inl v2), some (.inl v3), some (.inl v4)] [.inl (38 + 4 * (7 * v2 + v3)), .inr 349] I2 E
            refine gw_iconst d_Mo_lock_76 ?_
            refine gw_iadd d_Mo_lock_77 ?_
            refine gw_iload 4 d_Mo_lock_78 rfl ?_
            refine gw_iconst d_Mo_lock_80 ?_
            refine gw_icmp_ne 88 d_Mo_lock_81 (by decide) r4 ⟨by decide, by decide⟩ (fun hc => ?_) (fun hc => ?_)
            · have h := h.1 hc
              refine gw_iconst d_Mo_lock_88 ?_
              refine gw_iast d_Mo_lock_89 (ga_aM1) g1 g2 ?_
              show ga_W G (d + 2) mt_Mo_lock 90 [some (.inr 348), some (.inl v1), some (.inl v2), some (.inl v3), some (.inl v4)] [] (ga_up I2 349 ((38 + 4 * (7 * v2 + v3)) + 3).toNat (ga_wr (-1))) E
              rw [ga_wr_eq (z := (-1)) ⟨by decide, by decide⟩]
              refine gw_nm (J := (ga_up I2 349 ((38 + 4 * (7 * v2 + v3)) + 3).toNat (-1))) (fun I3 q3 => ?_)
              have h := h I3 q3
              refine gw_RG (fun hI4 => ?_)
              refine gw_aload_n 0 d_Mo_lock_90 rfl rfl ?_
              refine gw_iload_n 1 d_Mo_lock_91 rfl rfl ?_
              obtain ⟨g4, h⟩ := h
              refine gw_invV (as := [.inl v1]) (k := 348) (rest := []) (d' := (d + 1)) d_Mo_lock_92 lk_Mo_151 (ga_rcv (ga_oM) rfl rfl) rfl (Nat.le_of_ble_eq_true rfl) (Nat.le_of_ble_eq_true rfl) rfl rfl (s_Mo_locksOf g4 r1 ?_)
              show ga_W G (d + 2) mt_Mo_lock 95 [some (.inr 348), some (.inl v1), some (.inl v2), some (.inl v3), some (.inl v4)] [.inl (gp_tt (mp_lk (I3 349) v1) ((ms_n (I3 349) 0).toNat + 1) ((ms_n (I3 349) 1).toNat + 1))] I3 E
              refine gw_nz (z := gp_tt (mp_lk (I3 349) v1) ((ms_n (I3 349) 0).toNat + 1) ((ms_n (I3 349) 1).toNat + 1)) (fun z1 q4 => ?_)
              have h := h z1 q4
              exact gw_ireturn d_Mo_lock_95 rfl h
            · have h := h.2 hc
              refine gw_iload_n 1 d_Mo_lock_84 rfl rfl ?_
              refine gw_goto 89 d_Mo_lock_85 (by decide) ?_
              refine gw_iast d_Mo_lock_89 (ga_aM1) g1 g2 ?_
              show ga_W G (d + 2) mt_Mo_lock 90 [some (.inr 348), some (.inl v1), some (.inl v2), some (.inl v3), some (.inl v4)] [] (ga_up I2 349 ((38 + 4 * (7 * v2 + v3)) + 3).toNat (ga_wr v1)) E
              rw [ga_wr_eq (z := v1) r1]
              refine gw_nm (J := (ga_up I2 349 ((38 + 4 * (7 * v2 + v3)) + 3).toNat v1)) (fun I4 q5 => ?_)
              have h := h I4 q5
              refine gw_RG (fun hI5 => ?_)
              refine gw_aload_n 0 d_Mo_lock_90 rfl rfl ?_
              refine gw_iload_n 1 d_Mo_lock_91 rfl rfl ?_
              obtain ⟨g5, h⟩ := h
              refine gw_invV (as := [.inl v1]) (k := 348) (rest := []) (d' := (d + 1)) d_Mo_lock_92 lk_Mo_151 (ga_rcv (ga_oM) rfl rfl) rfl (Nat.le_of_ble_eq_true rfl) (Nat.le_of_ble_eq_true rfl) rfl rfl (s_Mo_locksOf g5 r1 ?_)
              show ga_W G (d + 2) mt_Mo_lock 95 [some (.inr 348), some (.inl v1), some (.inl v2), some (.inl v3), some (.inl v4)] [.inl (gp_tt (mp_lk (I4 349) v1) ((ms_n (I4 349) 0).toNat + 1) ((ms_n (I4 349) 1).toNat + 1))] I4 E
              refine gw_nz (z := gp_tt (mp_lk (I4 349) v1) ((ms_n (I4 349) 0).toNat + 1) ((ms_n (I4 349) 1).toNat + 1)) (fun z2 q6 => ?_)
              have h := h z2 q6
              exact gw_ireturn d_Mo_lock_95 rfl h
          · have h := h.2 hc
            refine gw_ldc (n := (-2000000002)) d_Mo_lock_60 kw_Mo_117 (by decide +kernel) ?_
            exact gw_ireturn d_Mo_lock_62 rfl h
        · have h := h.2 hc
          refine gw_iconst d_Mo_lock_52 ?_
          refine gw_goto 57 d_Mo_lock_53 (by decide) ?_
          refine gw_icmp_eq 63 d_Mo_lock_57 (by decide) (hI2 _ _) ⟨by decide, by decide⟩ (fun hc => ?_) (fun hc => ?_)
          · have h := h.1 hc
            refine gw_aload_n 0 d_Mo_lock_63 rfl rfl ?_
            obtain ⟨g6, h⟩ := h
            refine gw_invV (as := []) (k := 348) (rest := []) (d' := (d + 1)) d_Mo_lock_64 lk_Mo_119 (ga_rcv (ga_oM) rfl rfl) rfl (Nat.le_of_ble_eq_true rfl) (Nat.le_of_ble_eq_true rfl) rfl rfl (s_Mo_act g6 ?_)
            show ga_W G (d + 2) mt_Mo_lock 67 [some (.inr 348), some (.inl v1), some (.inl v2), some (.inl v3), some (.inl v4)] [] (mx_ac I1) E
            refine gw_nm (fun I5 q7 => ?_)
            have h := h I5 q7
            refine gw_RG (fun hI6 => ?_)
            refine gw_aload_n 0 d_Mo_lock_67 rfl rfl ?_
            refine gw_getR d_Mo_lock_68 fl_Mo_7 (ga_oM) rfl ?_
            refine gw_iload_n 2 d_Mo_lock_71 rfl rfl ?_
            refine gw_iload_n 3 d_Mo_lock_72 rfl rfl ?_
            refine gw_invS (as := [.inl v2, .inl v3]) (rest := [.inr 349]) (d' := (d + 1)) d_Mo_lock_73 lk_Mo_59 rfl (Nat.le_of_ble_eq_true rfl) (Nat.le_of_ble_eq_true rfl) rfl rfl (s_Mo_at  ?_)
            show ga_W G (d + 2) mt_Mo_lock 76 [some (.inr 348), some (.inl v1), some (.inl v2), some (.inl v3), some (.inl v4)] [.inl (38 + 4 * (7 * v2 + v3)), .inr 349] I5 E
            refine gw_iconst d_Mo_lock_76 ?_
            refine gw_iadd d_Mo_lock_77 ?_
            refine gw_iload 4 d_Mo_lock_78 rfl ?_
            refine gw_iconst d_Mo_lock_80 ?_
            refine gw_icmp_ne 88 d_Mo_lock_81 (by decide) r4 ⟨by decide, by decide⟩ (fun hc => ?_) (fun hc => ?_)
            · have h := h.1 hc
              refine gw_iconst d_Mo_lock_88 ?_
              refine gw_iast d_Mo_lock_89 (ga_aM1) g1 g2 ?_
              show ga_W G (d + 2) mt_Mo_lock 90 [some (.inr 348), some (.inl v1), some (.inl v2), some (.inl v3), some (.inl v4)] [] (ga_up I5 349 ((38 + 4 * (7 * v2 + v3)) + 3).toNat (ga_wr (-1))) E
              rw [ga_wr_eq (z := (-1)) ⟨by decide, by decide⟩]
              refine gw_nm (J := (ga_up I5 349 ((38 + 4 * (7 * v2 + v3)) + 3).toNat (-1))) (fun I6 q8 => ?_)
              have h := h I6 q8
              refine gw_RG (fun hI7 => ?_)
              refine gw_aload_n 0 d_Mo_lock_90 rfl rfl ?_
              refine gw_iload_n 1 d_Mo_lock_91 rfl rfl ?_
              obtain ⟨g7, h⟩ := h
              refine gw_invV (as := [.inl v1]) (k := 348) (rest := []) (d' := (d + 1)) d_Mo_lock_92 lk_Mo_151 (ga_rcv (ga_oM) rfl rfl) rfl (Nat.le_of_ble_eq_true rfl) (Nat.le_of_ble_eq_true rfl) rfl rfl (s_Mo_locksOf g7 r1 ?_)
              show ga_W G (d + 2) mt_Mo_lock 95 [some (.inr 348), some (.inl v1), some (.inl v2), some (.inl v3), some (.inl v4)] [.inl (gp_tt (mp_lk (I6 349) v1) ((ms_n (I6 349) 0).toNat + 1) ((ms_n (I6 349) 1).toNat + 1))] I6 E
              refine gw_nz (z := gp_tt (mp_lk (I6 349) v1) ((ms_n (I6 349) 0).toNat + 1) ((ms_n (I6 349) 1).toNat + 1)) (fun z3 q9 => ?_)
              have h := h z3 q9
              exact gw_ireturn d_Mo_lock_95 rfl h
            · have h := h.2 hc
              refine gw_iload_n 1 d_Mo_lock_84 rfl rfl ?_
              refine gw_goto 89 d_Mo_lock_85 (by decide) ?_
              refine gw_iast d_Mo_lock_89 (ga_aM1) g1 g2 ?_
              show ga_W G (d + 2) mt_Mo_lock 90 [some (.inr 348), some (.inl v1), some (.inl v2), some (.inl v3), some (.inl v4)] [] (ga_up I5 349 ((38 + 4 * (7 * v2 + v3)) + 3).toNat (ga_wr v1)) E
              rw [ga_wr_eq (z := v1) r1]
              refine gw_nm (J := (ga_up I5 349 ((38 + 4 * (7 * v2 + v3)) + 3).toNat v1)) (fun I7 q10 => ?_)
              have h := h I7 q10
              refine gw_RG (fun hI8 => ?_)
              refine gw_aload_n 0 d_Mo_lock_90 rfl rfl ?_
              refine gw_iload_n 1 d_Mo_lock_91 rfl rfl ?_
              obtain ⟨g8, h⟩ := h
              refine gw_invV (as := [.inl v1]) (k := 348) (rest := []) (d' := (d + 1)) d_Mo_lock_92 lk_Mo_151 (ga_rcv (ga_oM) rfl rfl) rfl (Nat.le_of_ble_eq_true rfl) (Nat.le_of_ble_eq_true rfl) rfl rfl (s_Mo_locksOf g8 r1 ?_)
              show ga_W G (d + 2) mt_Mo_lock 95 [some (.inr 348), some (.inl v1), some (.inl v2), some (.inl v3), some (.inl v4)] [.inl (gp_tt (mp_lk (I7 349) v1) ((ms_n (I7 349) 0).toNat + 1) ((ms_n (I7 349) 1).toNat + 1))] I7 E
              refine gw_nz (z := gp_tt (mp_lk (I7 349) v1) ((ms_n (I7 349) 0).toNat + 1) ((ms_n (I7 349) 1).toNat + 1)) (fun z4 q11 => ?_)
              have h := h z4 q11
              exact gw_ireturn d_Mo_lock_95 rfl h
          · have h := h.2 hc
            refine gw_ldc (n := (-2000000002)) d_Mo_lock_60 kw_Mo_117 (by decide +kernel) ?_
            exact gw_ireturn d_Mo_lock_62 rfl h
      · have h := h.2 (of_decide_eq_false hc)
        refine gw_ldc (n := (-2000000001)) d_Mo_lock_31 kw_Mo_112 (by decide +kernel) ?_
        exact gw_ireturn d_Mo_lock_33 rfl h

theorem k_Mo_setMargin_0 {G : ga_G} {d : Nat} {I : ga_I} {E : Option ga_V → ga_I → Prop} {v1 : Int} (r1 : ga_rg v1)
    (h : ga_RG I → (∀ I1 : ga_I, I1 = (ga_up I 348 0 0) → (((0 : Int) ≤ v1 ∧ v1 ≤ (50 : Int)) → (0 ≤ I1 348 4 ∧ I1 348 4 ≤ 5) ∧ ((∀ I2 : ga_I, I2 = (mx_ac I1) → (∀ I3 : ga_I, I3 = (ga_up I2 349 238 v1) → E (some (.inl (I2 349 238))) I3)))) ∧ ((¬ ((0 : Int) ≤ v1 ∧ v1 ≤ (50 : Int))) → E (some (.inl (-2000000001))) I1))) :
    ga_W G (d + 1) mt_Mo_setMargin 0 (ga_en 3 [.inr 348, .inl v1]) [] I E := by
  show ga_W G (d + 1) mt_Mo_setMargin 0 [some (.inr 348), some (.inl v1), none] [] I E
  refine gw_RG (fun hI1 => ?_)
  have h := h hI1
  refine gw_aload_n 0 d_Mo_setMargin_0 rfl rfl ?_
  refine gw_iconst d_Mo_setMargin_1 ?_
  refine gw_putI d_Mo_setMargin_2 fp_Mo_37 (ga_oM) rfl ?_
  show ga_W G (d + 1) mt_Mo_setMargin 5 [some (.inr 348), some (.inl v1), none] [] (ga_up I 348 0 (ga_wr 0)) E
  rw [ga_wr_eq (z := 0) ⟨by decide, by decide⟩]
  refine gw_nm (J := (ga_up I 348 0 0)) (fun I1 q1 => ?_)
  have h := h I1 q1
  refine gw_RG (fun hI2 => ?_)
  refine gw_iload_n 1 d_Mo_setMargin_5 rfl rfl ?_
  refine gw_iconst d_Mo_setMargin_6 ?_
  refine gw_bipush d_Mo_setMargin_7 (by decide +kernel) ?_
  refine gw_invS (as := [.inl v1, .inl 0, .inl 50]) (rest := []) (d' := d) d_Mo_setMargin_9 lk_Mo_47 rfl (Nat.le_of_ble_eq_true rfl) (Nat.le_of_ble_eq_true rfl) rfl rfl (s_Mo_in r1 ⟨by decide, by decide⟩ ⟨by decide, by decide⟩ ?_)
  show ga_W G (d + 1) mt_Mo_setMargin 12 [some (.inr 348), some (.inl v1), none] [.inl (ga_bb (decide ((0 : Int) ≤ v1 ∧ v1 ≤ (50 : Int))))] I1 E
  refine gw_ifb_ne 18 d_Mo_setMargin_12 (by decide) (fun hc => ?_) (fun hc => ?_)
  · have h := h.1 (of_decide_eq_true hc)
    refine gw_aload_n 0 d_Mo_setMargin_18 rfl rfl ?_
    obtain ⟨g1, h⟩ := h
    refine gw_invV (as := []) (k := 348) (rest := []) (d' := d) d_Mo_setMargin_19 lk_Mo_119 (ga_rcv (ga_oM) rfl rfl) rfl (Nat.le_of_ble_eq_true rfl) (Nat.le_of_ble_eq_true rfl) rfl rfl (s_Mo_act g1 ?_)
    show ga_W G (d + 1) mt_Mo_setMargin 22 [some (.inr 348), some (.inl v1), none] [] (mx_ac I1) E
    refine gw_nm (fun I2 q2 => ?_)
    have h := h I2 q2
    refine gw_RG (fun hI3 => ?_)
    refine gw_aload_n 0 d_Mo_setMargin_22 rfl rfl ?_
    refine gw_getR d_Mo_setMargin_23 fl_Mo_7 (ga_oM) rfl ?_
    refine gw_sipush d_Mo_setMargin_26 (by decide +kernel) ?_
    refine gw_iald d_Mo_setMargin_29 (ga_aM1) (by decide) (by decide) ?_
    refine gw_istore_n 2 d_Mo_setMargin_30 rfl (Nat.le_of_ble_eq_true rfl) rfl ?_
    refine gw_aload_n 0 d_Mo_setMargin_31 rfl rfl ?_
    refine gw_getR d_Mo_setMargin_32 fl_Mo_7 (ga_oM) rfl ?_
    refine gw_sipush d_Mo_setMargin_35 (by decide +kernel) ?_
    refine gw_iload_n 1 d_Mo_setMargin_38 rfl rfl ?_
    refine gw_iast d_Mo_setMargin_39 (ga_aM1) (by decide) (by decide) ?_
    show ga_W G (d + 1) mt_Mo_setMargin 40 [some (.inr 348), some (.inl v1), some (.inl (I2 349 238))] [] (ga_up I2 349 238 (ga_wr v1)) E
    rw [ga_wr_eq (z := v1) r1]
    refine gw_nm (J := (ga_up I2 349 238 v1)) (fun I3 q3 => ?_)
    have h := h I3 q3
    refine gw_RG (fun hI4 => ?_)
    refine gw_iload_n 2 d_Mo_setMargin_40 rfl rfl ?_
    exact gw_ireturn d_Mo_setMargin_41 rfl h
  · have h := h.2 (of_decide_eq_false hc)
    refine gw_ldc (n := (-2000000001)) d_Mo_setMargin_15 kw_Mo_112 (by decide +kernel) ?_
    exact gw_ireturn d_Mo_setMargin_17 rfl h

theorem k_Mo_move_0 {G : ga_G} {d : Nat} {I : ga_I} {E : Option ga_V → ga_I → Prop} {v1 : Int} {v2 : Int} (r1 : ga_rg v1) (r2 : ga_rg v2)
    (h : ga_RG I → (∀ I1 : ga_I, I1 = (ga_up I 348 0 0) → ((¬ (0 ≤ v1 ∧ v1 ≤ 1000)) → E (some (.inl (-2000000001))) I1) ∧ ((0 ≤ v1 ∧ v1 ≤ 1000) → ((0 ≤ v2 ∧ v2 ≤ 1000) → (0 ≤ I1 348 4 ∧ I1 348 4 ≤ 5) ∧ ((∀ I2 : ga_I, I2 = (mx_ac I1) → (mo_ok I2 0) ∧ ((mo_ok I2 1) ∧ ((mo_pz I2) ∧ ((mo_zn I2) ∧ ((mo_g I2) ∧ ((0 ≤ I2 349 254 ∧ I2 349 254 ≤ 20) ∧ ((0 ≤ v1 ∧ v1 ≤ 1000) ∧ ((0 ≤ v2 ∧ v2 ≤ 1000) ∧ ((∀ I3 : ga_I, gr_mm I2 I3 v1 v2 → E (some (.inl (na_mm (I2 349) v1 v2))) I3)))))))))))) ∧ ((¬ (0 ≤ v2 ∧ v2 ≤ 1000)) → E (some (.inl (-2000000001))) I1)))) :
    ga_W G (d + 6) mt_Mo_move 0 (ga_en 3 [.inr 348, .inl v1, .inl v2]) [] I E := by
  show ga_W G (d + 6) mt_Mo_move 0 [some (.inr 348), some (.inl v1), some (.inl v2)] [] I E
  refine gw_RG (fun hI1 => ?_)
  have h := h hI1
  refine gw_aload_n 0 d_Mo_move_0 rfl rfl ?_
  refine gw_iconst d_Mo_move_1 ?_
  refine gw_putI d_Mo_move_2 fp_Mo_37 (ga_oM) rfl ?_
  show ga_W G (d + 6) mt_Mo_move 5 [some (.inr 348), some (.inl v1), some (.inl v2)] [] (ga_up I 348 0 (ga_wr 0)) E
  rw [ga_wr_eq (z := 0) ⟨by decide, by decide⟩]
  refine gw_nm (J := (ga_up I 348 0 0)) (fun I1 q1 => ?_)
  have h := h I1 q1
  refine gw_RG (fun hI2 => ?_)
  refine gw_iload_n 1 d_Mo_move_5 rfl rfl ?_
  refine gw_invS (as := [.inl v1]) (rest := []) (d' := (d + 5)) d_Mo_move_6 lk_Mo_179 rfl (Nat.le_of_ble_eq_true rfl) (Nat.le_of_ble_eq_true rfl) rfl rfl (s_Mo_isCoordinate r1 ?_)
  show ga_W G (d + 6) mt_Mo_move 9 [some (.inr 348), some (.inl v1), some (.inl v2)] [.inl (ga_bb (decide (0 ≤ v1 ∧ v1 ≤ 1000)))] I1 E
  refine gw_ifb_eq 19 d_Mo_move_9 (by decide) (fun hc => ?_) (fun hc => ?_)
  · have h := h.1 (of_decide_eq_false hc)
    refine gw_ldc (n := (-2000000001)) d_Mo_move_19 kw_Mo_112 (by decide +kernel) ?_
    exact gw_ireturn d_Mo_move_21 rfl h
  · have h := h.2 (of_decide_eq_true hc)
    refine gw_iload_n 2 d_Mo_move_12 rfl rfl ?_
    refine gw_invS (as := [.inl v2]) (rest := []) (d' := (d + 5)) d_Mo_move_13 lk_Mo_179 rfl (Nat.le_of_ble_eq_true rfl) (Nat.le_of_ble_eq_true rfl) rfl rfl (s_Mo_isCoordinate r2 ?_)
    show ga_W G (d + 6) mt_Mo_move 16 [some (.inr 348), some (.inl v1), some (.inl v2)] [.inl (ga_bb (decide (0 ≤ v2 ∧ v2 ≤ 1000)))] I1 E
    refine gw_ifb_ne 22 d_Mo_move_16 (by decide) (fun hc => ?_) (fun hc => ?_)
    · have h := h.1 (of_decide_eq_true hc)
      refine gw_aload_n 0 d_Mo_move_22 rfl rfl ?_
      obtain ⟨g1, h⟩ := h
      refine gw_invV (as := []) (k := 348) (rest := []) (d' := (d + 5)) d_Mo_move_23 lk_Mo_119 (ga_rcv (ga_oM) rfl rfl) rfl (Nat.le_of_ble_eq_true rfl) (Nat.le_of_ble_eq_true rfl) rfl rfl (s_Mo_act g1 ?_)
      show ga_W G (d + 6) mt_Mo_move 26 [some (.inr 348), some (.inl v1), some (.inl v2)] [] (mx_ac I1) E
      refine gw_nm (fun I2 q2 => ?_)
      have h := h I2 q2
      refine gw_RG (fun hI3 => ?_)
      refine gw_aload_n 0 d_Mo_move_26 rfl rfl ?_
      refine gw_iload_n 1 d_Mo_move_27 rfl rfl ?_
      refine gw_iload_n 2 d_Mo_move_28 rfl rfl ?_
      obtain ⟨g2, h⟩ := h
      obtain ⟨g3, h⟩ := h
      obtain ⟨g4, h⟩ := h
      obtain ⟨g5, h⟩ := h
      obtain ⟨g6, h⟩ := h
      obtain ⟨g7, h⟩ := h
      obtain ⟨g8, h⟩ := h
      obtain ⟨g9, h⟩ := h
      refine gw_invV (as := [.inl v1, .inl v2]) (k := 348) (rest := []) (d' := (d + 5)) d_Mo_move_29 lk_Mo_182 (ga_rcv (ga_oM) rfl rfl) rfl (Nat.le_of_ble_eq_true rfl) (Nat.le_of_ble_eq_true rfl) rfl rfl (s_Mo_moves g2 g3 g4 g5 g6 g7 g8 g9 (fun I3 q3 => ?_))
      have h := h I3 q3
      show ga_W G (d + 6) mt_Mo_move 32 [some (.inr 348), some (.inl v1), some (.inl v2)] [.inl (na_mm (I2 349) v1 v2)] I3 E
      refine gw_RG (fun hI4 => ?_)
      exact gw_ireturn d_Mo_move_32 rfl h
    · have h := h.2 (of_decide_eq_false hc)
      refine gw_ldc (n := (-2000000001)) d_Mo_move_19 kw_Mo_112 (by decide +kernel) ?_
      exact gw_ireturn d_Mo_move_21 rfl h

theorem k_Mo_take_0 {G : ga_G} {d : Nat} {I : ga_I} {E : Option ga_V → ga_I → Prop} {v1 : Int} (r1 : ga_rg v1)
    (h : ga_RG I → (∀ I1 : ga_I, I1 = (ga_up I 348 0 0) → ((0 ≤ v1 ∧ v1 ≤ 2) → (0 ≤ I1 348 4 ∧ I1 348 4 ≤ 5) ∧ ((∀ I2 : ga_I, I2 = (mx_ac I1) → (0 ≤ (415 + (235 * v1))) ∧ (((415 + (235 * v1)) < 1120) ∧ ((∀ I3 : ga_I, I3 = (ga_up I2 349 (415 + (235 * v1)).toNat 1) → ga_W G (d + 2) mt_Mo_take 38 [some (.inr 348), none, some (.inl (415 + (235 * v1))), some (.inl 0)] [] I3 E)))))) ∧ ((¬ (0 ≤ v1 ∧ v1 ≤ 2)) → E (some (.inl (-2000000001))) I1))) :
    ga_W G (d + 2) mt_Mo_take 0 (ga_en 4 [.inr 348, .inl v1]) [] I E := by
  show ga_W G (d + 2) mt_Mo_take 0 [some (.inr 348), some (.inl v1), none, none] [] I E
  refine gw_RG (fun hI1 => ?_)
  have h := h hI1
  refine gw_aload_n 0 d_Mo_take_0 rfl rfl ?_
  refine gw_iconst d_Mo_take_1 ?_
  refine gw_putI d_Mo_take_2 fp_Mo_37 (ga_oM) rfl ?_
  show ga_W G (d + 2) mt_Mo_take 5 [some (.inr 348), some (.inl v1), none, none] [] (ga_up I 348 0 (ga_wr 0)) E
  rw [ga_wr_eq (z := 0) ⟨by decide, by decide⟩]
  refine gw_nm (J := (ga_up I 348 0 0)) (fun I1 q1 => ?_)
  have h := h I1 q1
  refine gw_RG (fun hI2 => ?_)
  refine gw_iload_n 1 d_Mo_take_5 rfl rfl ?_
  refine gw_invS (as := [.inl v1]) (rest := []) (d' := (d + 1)) d_Mo_take_6 lk_Mo_185 rfl (Nat.le_of_ble_eq_true rfl) (Nat.le_of_ble_eq_true rfl) rfl rfl (s_Mo_isPlace r1 ?_)
  show ga_W G (d + 2) mt_Mo_take 9 [some (.inr 348), some (.inl v1), none, none] [.inl (ga_bb (decide (0 ≤ v1 ∧ v1 ≤ 2)))] I1 E
  refine gw_ifb_ne 15 d_Mo_take_9 (by decide) (fun hc => ?_) (fun hc => ?_)
  · have h := h.1 (of_decide_eq_true hc)
    refine gw_aload_n 0 d_Mo_take_15 rfl rfl ?_
    obtain ⟨g1, h⟩ := h
    refine gw_invV (as := []) (k := 348) (rest := []) (d' := (d + 1)) d_Mo_take_16 lk_Mo_119 (ga_rcv (ga_oM) rfl rfl) rfl (Nat.le_of_ble_eq_true rfl) (Nat.le_of_ble_eq_true rfl) rfl rfl (s_Mo_act g1 ?_)
    show ga_W G (d + 2) mt_Mo_take 19 [some (.inr 348), some (.inl v1), none, none] [] (mx_ac I1) E
    refine gw_nm (fun I2 q2 => ?_)
    have h := h I2 q2
    refine gw_RG (fun hI3 => ?_)
    refine gw_sipush d_Mo_take_19 (by decide +kernel) ?_
    refine gw_sipush d_Mo_take_22 (by decide +kernel) ?_
    refine gw_iload_n 1 d_Mo_take_25 rfl rfl ?_
    refine gw_imul d_Mo_take_26 ?_
    refine gw_iadd d_Mo_take_27 ?_
    refine gw_istore_n 2 d_Mo_take_28 rfl (Nat.le_of_ble_eq_true rfl) rfl ?_
    refine gw_aload_n 0 d_Mo_take_29 rfl rfl ?_
    refine gw_getR d_Mo_take_30 fl_Mo_7 (ga_oM) rfl ?_
    refine gw_iload_n 2 d_Mo_take_33 rfl rfl ?_
    refine gw_iconst d_Mo_take_34 ?_
    obtain ⟨g2, h⟩ := h
    obtain ⟨g3, h⟩ := h
    refine gw_iast d_Mo_take_35 (ga_aM1) g2 g3 ?_
    show ga_W G (d + 2) mt_Mo_take 36 [some (.inr 348), some (.inl v1), some (.inl (415 + (235 * v1))), none] [] (ga_up I2 349 (415 + (235 * v1)).toNat (ga_wr 1)) E
    rw [ga_wr_eq (z := 1) ⟨by decide, by decide⟩]
    refine gw_nm (J := (ga_up I2 349 (415 + (235 * v1)).toNat 1)) (fun I3 q3 => ?_)
    have h := h I3 q3
    refine gw_RG (fun hI4 => ?_)
    refine gw_iconst d_Mo_take_36 ?_
    refine gw_istore_n 3 d_Mo_take_37 rfl (Nat.le_of_ble_eq_true rfl) rfl ?_
    exact gw_le h (by exact ⟨rfl, ⟨rfl, ⟨rfl, trivial⟩⟩⟩)
  · have h := h.2 (of_decide_eq_false hc)
    refine gw_ldc (n := (-2000000001)) d_Mo_take_12 kw_Mo_112 (by decide +kernel) ?_
    exact gw_ireturn d_Mo_take_14 rfl h
theorem k_Mo_take_38 {G : ga_G} {d : Nat} {I : ga_I} {E : Option ga_V → ga_I → Prop} {v2 : Int} {v3 : Int} (r3 : ga_rg v3)
    (h : ga_RG I → ((234 ≤ v3) → (∀ z1 : Int, z1 = (ms_n (I 349) 0 + 1) * (ms_n (I 349) 1 + 1) → E (some (.inl z1)) I)) ∧ ((¬ (234 ≤ v3)) → (0 ≤ v3) ∧ ((v3 < 1120) ∧ ((0 ≤ ((v2 + 1) + v3)) ∧ ((((v2 + 1) + v3) < 1120) ∧ ((∀ I1 : ga_I, I1 = (ga_up I 349 ((v2 + 1) + v3).toNat (I 349 v3.toNat)) → ga_W G (d + 2) mt_Mo_take 38 [some (.inr 348), none, some (.inl v2), some (.inl (v3 + 1))] [] I1 E))))))) :
    ga_W G (d + 2) mt_Mo_take 38 [some (.inr 348), none, some (.inl v2), some (.inl v3)] [] I E := by
  refine gw_RG (fun hI1 => ?_)
  have h := h hI1
  refine gw_iload_n 3 d_Mo_take_38 rfl rfl ?_
  refine gw_sipush d_Mo_take_39 (by decide +kernel) ?_
  refine gw_icmp_ge 67 d_Mo_take_42 (by decide) r3 ⟨by decide, by decide⟩ (fun hc => ?_) (fun hc => ?_)
  · have h := h.1 hc
    refine gw_aload_n 0 d_Mo_take_67 rfl rfl ?_
    refine gw_invV (as := []) (k := 348) (rest := []) (d' := (d + 1)) d_Mo_take_68 lk_Mo_188 (ga_rcv (ga_oM) rfl rfl) rfl (Nat.le_of_ble_eq_true rfl) (Nat.le_of_ble_eq_true rfl) rfl rfl (s_Mo_regions  ?_)
    show ga_W G (d + 2) mt_Mo_take 71 [some (.inr 348), none, some (.inl v2), some (.inl v3)] [.inl ((ms_n (I 349) 0 + 1) * (ms_n (I 349) 1 + 1))] I E
    refine gw_nz (z := (ms_n (I 349) 0 + 1) * (ms_n (I 349) 1 + 1)) (fun z1 q1 => ?_)
    have h := h z1 q1
    exact gw_ireturn d_Mo_take_71 rfl h
  · have h := h.2 hc
    refine gw_aload_n 0 d_Mo_take_45 rfl rfl ?_
    refine gw_getR d_Mo_take_46 fl_Mo_7 (ga_oM) rfl ?_
    refine gw_iload_n 2 d_Mo_take_49 rfl rfl ?_
    refine gw_iconst d_Mo_take_50 ?_
    refine gw_iadd d_Mo_take_51 ?_
    refine gw_iload_n 3 d_Mo_take_52 rfl rfl ?_
    refine gw_iadd d_Mo_take_53 ?_
    refine gw_aload_n 0 d_Mo_take_54 rfl rfl ?_
    refine gw_getR d_Mo_take_55 fl_Mo_7 (ga_oM) rfl ?_
    refine gw_iload_n 3 d_Mo_take_58 rfl rfl ?_
    obtain ⟨g1, h⟩ := h
    obtain ⟨g2, h⟩ := h
    refine gw_iald d_Mo_take_59 (ga_aM1) g1 g2 ?_
    obtain ⟨g3, h⟩ := h
    obtain ⟨g4, h⟩ := h
    refine gw_iast d_Mo_take_60 (ga_aM1) g3 g4 ?_
    show ga_W G (d + 2) mt_Mo_take 61 [some (.inr 348), none, some (.inl v2), some (.inl v3)] [] (ga_up I 349 ((v2 + 1) + v3).toNat (ga_wr (I 349 v3.toNat))) E
    rw [ga_wr_eq (z := (I 349 v3.toNat)) (hI1 _ _)]
    refine gw_nm (J := (ga_up I 349 ((v2 + 1) + v3).toNat (I 349 v3.toNat))) (fun I1 q2 => ?_)
    have h := h I1 q2
    refine gw_RG (fun hI2 => ?_)
    refine gw_iinc 3 d_Mo_take_61 rfl rfl ?_
    refine gw_goto 38 d_Mo_take_64 (by decide) ?_
    exact gw_le h (by exact ⟨rfl, ⟨rfl, ⟨rfl, trivial⟩⟩⟩)

theorem k_Mo_restore_0 {G : ga_G} {d : Nat} {I : ga_I} {E : Option ga_V → ga_I → Prop} {v1 : Int} (r1 : ga_rg v1)
    (h : ga_RG I → (∀ I1 : ga_I, I1 = (ga_up I 348 0 0) → ((0 ≤ v1 ∧ v1 ≤ 2) → (0 ≤ (415 + (235 * v1))) ∧ (((415 + (235 * v1)) < 1120) ∧ ((((I1 349 (415 + (235 * v1)).toNat) ≠ 0) → (0 ≤ I1 348 4 ∧ I1 348 4 ≤ 5) ∧ ((∀ I2 : ga_I, I2 = (mx_ac I1) → (mo_n I2) ∧ ((∀ z1 : Int, z1 = gp_tt (mp_g3 (I2 349)) ((ms_n (I2 349) 0).toNat + 1) ((ms_n (I2 349) 1).toNat + 1) → ga_W G (d + 4) mt_Mo_restore 49 [some (.inr 348), none, some (.inl (415 + (235 * v1))), some (.inl z1), some (.inl 0)] [] I2 E))))) ∧ (((I1 349 (415 + (235 * v1)).toNat) = 0) → E (some (.inl (-2000000002))) I1)))) ∧ ((¬ (0 ≤ v1 ∧ v1 ≤ 2)) → E (some (.inl (-2000000001))) I1))) :
    ga_W G (d + 4) mt_Mo_restore 0 (ga_en 5 [.inr 348, .inl v1]) [] I E := by
  show ga_W G (d + 4) mt_Mo_restore 0 [some (.inr 348), some (.inl v1), none, none, none] [] I E
  refine gw_RG (fun hI1 => ?_)
  have h := h hI1
  refine gw_aload_n 0 d_Mo_restore_0 rfl rfl ?_
  refine gw_iconst d_Mo_restore_1 ?_
  refine gw_putI d_Mo_restore_2 fp_Mo_37 (ga_oM) rfl ?_
  show ga_W G (d + 4) mt_Mo_restore 5 [some (.inr 348), some (.inl v1), none, none, none] [] (ga_up I 348 0 (ga_wr 0)) E
  rw [ga_wr_eq (z := 0) ⟨by decide, by decide⟩]
  refine gw_nm (J := (ga_up I 348 0 0)) (fun I1 q1 => ?_)
  have h := h I1 q1
  refine gw_RG (fun hI2 => ?_)
  refine gw_iload_n 1 d_Mo_restore_5 rfl rfl ?_
  refine gw_invS (as := [.inl v1]) (rest := []) (d' := (d + 3)) d_Mo_restore_6 lk_Mo_185 rfl (Nat.le_of_ble_eq_true rfl) (Nat.le_of_ble_eq_true rfl) rfl rfl (s_Mo_isPlace r1 ?_)
  show ga_W G (d + 4) mt_Mo_restore 9 [some (.inr 348), some (.inl v1), none, none, none] [.inl (ga_bb (decide (0 ≤ v1 ∧ v1 ≤ 2)))] I1 E
  refine gw_ifb_ne 15 d_Mo_restore_9 (by decide) (fun hc => ?_) (fun hc => ?_)
  · have h := h.1 (of_decide_eq_true hc)
    refine gw_sipush d_Mo_restore_15 (by decide +kernel) ?_
    refine gw_sipush d_Mo_restore_18 (by decide +kernel) ?_
    refine gw_iload_n 1 d_Mo_restore_21 rfl rfl ?_
    refine gw_imul d_Mo_restore_22 ?_
    refine gw_iadd d_Mo_restore_23 ?_
    refine gw_istore_n 2 d_Mo_restore_24 rfl (Nat.le_of_ble_eq_true rfl) rfl ?_
    refine gw_aload_n 0 d_Mo_restore_25 rfl rfl ?_
    refine gw_getR d_Mo_restore_26 fl_Mo_7 (ga_oM) rfl ?_
    refine gw_iload_n 2 d_Mo_restore_29 rfl rfl ?_
    obtain ⟨g1, h⟩ := h
    obtain ⟨g2, h⟩ := h
    refine gw_iald d_Mo_restore_30 (ga_aM1) g1 g2 ?_
    refine gw_if_ne 37 d_Mo_restore_31 (by decide) (hI2 _ _) (fun hc => ?_) (fun hc => ?_)
    · have h := h.1 hc
      refine gw_aload_n 0 d_Mo_restore_37 rfl rfl ?_
      obtain ⟨g3, h⟩ := h
      refine gw_invV (as := []) (k := 348) (rest := []) (d' := (d + 3)) d_Mo_restore_38 lk_Mo_119 (ga_rcv (ga_oM) rfl rfl) rfl (Nat.le_of_ble_eq_true rfl) (Nat.le_of_ble_eq_true rfl) rfl rfl (s_Mo_act g3 ?_)
      show ga_W G (d + 4) mt_Mo_restore 41 [some (.inr 348), some (.inl v1), some (.inl (415 + (235 * v1))), none, none] [] (mx_ac I1) E
      refine gw_nm (fun I2 q2 => ?_)
      have h := h I2 q2
      refine gw_RG (fun hI3 => ?_)
      refine gw_aload_n 0 d_Mo_restore_41 rfl rfl ?_
      obtain ⟨g4, h⟩ := h
      refine gw_invV (as := []) (k := 348) (rest := []) (d' := (d + 3)) d_Mo_restore_42 lk_Mo_99 (ga_rcv (ga_oM) rfl rfl) rfl (Nat.le_of_ble_eq_true rfl) (Nat.le_of_ble_eq_true rfl) rfl rfl (s_Mo_allGains g4 ?_)
      show ga_W G (d + 4) mt_Mo_restore 45 [some (.inr 348), some (.inl v1), some (.inl (415 + (235 * v1))), none, none] [.inl (gp_tt (mp_g3 (I2 349)) ((ms_n (I2 349) 0).toNat + 1) ((ms_n (I2 349) 1).toNat + 1))] I2 E
      refine gw_nz (z := gp_tt (mp_g3 (I2 349)) ((ms_n (I2 349) 0).toNat + 1) ((ms_n (I2 349) 1).toNat + 1)) (fun z1 q3 => ?_)
      have h := h z1 q3
      refine gw_istore_n 3 d_Mo_restore_45 rfl (Nat.le_of_ble_eq_true rfl) rfl ?_
      refine gw_iconst d_Mo_restore_46 ?_
      refine gw_istore 4 d_Mo_restore_47 (Nat.le_of_ble_eq_true rfl) rfl ?_
      exact gw_le h (by exact ⟨rfl, ⟨rfl, ⟨rfl, ⟨rfl, trivial⟩⟩⟩⟩)
    · have h := h.2 hc
      refine gw_ldc (n := (-2000000002)) d_Mo_restore_34 kw_Mo_117 (by decide +kernel) ?_
      exact gw_ireturn d_Mo_restore_36 rfl h
  · have h := h.2 (of_decide_eq_false hc)
    refine gw_ldc (n := (-2000000001)) d_Mo_restore_12 kw_Mo_112 (by decide +kernel) ?_
    exact gw_ireturn d_Mo_restore_14 rfl h
theorem k_Mo_restore_49 {G : ga_G} {d : Nat} {I : ga_I} {E : Option ga_V → ga_I → Prop} {v2 : Int} {v3 : Int} {v4 : Int} (r4 : ga_rg v4)
    (h : ga_RG I → ((234 ≤ v4) → (mo_n I) ∧ ((∀ I1 : ga_I, I1 = (ga_uc I 349 (ns_st (I 349) v3)) → (∀ z1 : Int, z1 = (ms_n (I1 349) 0 + 1) * (ms_n (I1 349) 1 + 1) → E (some (.inl z1)) I1)))) ∧ ((¬ (234 ≤ v4)) → (0 ≤ ((v2 + 1) + v4)) ∧ ((((v2 + 1) + v4) < 1120) ∧ ((0 ≤ v4) ∧ ((v4 < 1120) ∧ ((∀ I2 : ga_I, I2 = (ga_up I 349 v4.toNat (I 349 ((v2 + 1) + v4).toNat)) → ga_W G (d + 4) mt_Mo_restore 49 [some (.inr 348), none, some (.inl v2), some (.inl v3), some (.inl (v4 + 1))] [] I2 E))))))) :
    ga_W G (d + 4) mt_Mo_restore 49 [some (.inr 348), none, some (.inl v2), some (.inl v3), some (.inl v4)] [] I E := by
  refine gw_RG (fun hI1 => ?_)
  have h := h hI1
  refine gw_iload 4 d_Mo_restore_49 rfl ?_
  refine gw_sipush d_Mo_restore_51 (by decide +kernel) ?_
  refine gw_icmp_ge 81 d_Mo_restore_54 (by decide) r4 ⟨by decide, by decide⟩ (fun hc => ?_) (fun hc => ?_)
  · have h := h.1 hc
    refine gw_aload_n 0 d_Mo_restore_81 rfl rfl ?_
    refine gw_iload_n 3 d_Mo_restore_82 rfl rfl ?_
    obtain ⟨g1, h⟩ := h
    refine gw_invV (as := [.inl v3]) (k := 348) (rest := []) (d' := (d + 3)) d_Mo_restore_83 lk_Mo_126 (ga_rcv (ga_oM) rfl rfl) rfl (Nat.le_of_ble_eq_true rfl) (Nat.le_of_ble_eq_true rfl) rfl rfl (s_Mo_settle g1 ?_)
    show ga_W G (d + 4) mt_Mo_restore 86 [some (.inr 348), none, some (.inl v2), some (.inl v3), some (.inl v4)] [] (ga_uc I 349 (ns_st (I 349) v3)) E
    refine gw_nm (fun I1 q1 => ?_)
    have h := h I1 q1
    refine gw_RG (fun hI2 => ?_)
    refine gw_aload_n 0 d_Mo_restore_86 rfl rfl ?_
    refine gw_invV (as := []) (k := 348) (rest := []) (d' := (d + 3)) d_Mo_restore_87 lk_Mo_188 (ga_rcv (ga_oM) rfl rfl) rfl (Nat.le_of_ble_eq_true rfl) (Nat.le_of_ble_eq_true rfl) rfl rfl (s_Mo_regions  ?_)
    show ga_W G (d + 4) mt_Mo_restore 90 [some (.inr 348), none, some (.inl v2), some (.inl v3), some (.inl v4)] [.inl ((ms_n (I1 349) 0 + 1) * (ms_n (I1 349) 1 + 1))] I1 E
    refine gw_nz (z := (ms_n (I1 349) 0 + 1) * (ms_n (I1 349) 1 + 1)) (fun z1 q2 => ?_)
    have h := h z1 q2
    exact gw_ireturn d_Mo_restore_90 rfl h
  · have h := h.2 hc
    refine gw_aload_n 0 d_Mo_restore_57 rfl rfl ?_
    refine gw_getR d_Mo_restore_58 fl_Mo_7 (ga_oM) rfl ?_
    refine gw_iload 4 d_Mo_restore_61 rfl ?_
    refine gw_aload_n 0 d_Mo_restore_63 rfl rfl ?_
    refine gw_getR d_Mo_restore_64 fl_Mo_7 (ga_oM) rfl ?_
    refine gw_iload_n 2 d_Mo_restore_67 rfl rfl ?_
    refine gw_iconst d_Mo_restore_68 ?_
    refine gw_iadd d_Mo_restore_69 ?_
    refine gw_iload 4 d_Mo_restore_70 rfl ?_
    refine gw_iadd d_Mo_restore_72 ?_
    obtain ⟨g2, h⟩ := h
    obtain ⟨g3, h⟩ := h
    refine gw_iald d_Mo_restore_73 (ga_aM1) g2 g3 ?_
    obtain ⟨g4, h⟩ := h
    obtain ⟨g5, h⟩ := h
    refine gw_iast d_Mo_restore_74 (ga_aM1) g4 g5 ?_
    show ga_W G (d + 4) mt_Mo_restore 75 [some (.inr 348), none, some (.inl v2), some (.inl v3), some (.inl v4)] [] (ga_up I 349 v4.toNat (ga_wr (I 349 ((v2 + 1) + v4).toNat))) E
    rw [ga_wr_eq (z := (I 349 ((v2 + 1) + v4).toNat)) (hI1 _ _)]
    refine gw_nm (J := (ga_up I 349 v4.toNat (I 349 ((v2 + 1) + v4).toNat))) (fun I2 q3 => ?_)
    have h := h I2 q3
    refine gw_RG (fun hI3 => ?_)
    refine gw_iinc 4 d_Mo_restore_75 rfl rfl ?_
    refine gw_goto 49 d_Mo_restore_78 (by decide) ?_
    exact gw_le h (by exact ⟨rfl, ⟨rfl, ⟨rfl, ⟨rfl, trivial⟩⟩⟩⟩)

theorem k_Mo_undo_0 {G : ga_G} {d : Nat} {I : ga_I} {E : Option ga_V → ga_I → Prop}  
    (h : ga_RG I → (∀ I1 : ga_I, I1 = (ga_up I 348 0 0) → (((I1 348 4) ≠ 0) → (∀ I2 : ga_I, I2 = (ga_up I1 348 4 (ga_wr ((I1 348 4) - 1))) → ga_W G d mt_Mo_undo 27 [some (.inr 348), some (.inl 0)] [] I2 E)) ∧ (((I1 348 4) = 0) → E (some (.inl (-2000000002))) I1))) :
    ga_W G d mt_Mo_undo 0 (ga_en 2 [.inr 348]) [] I E := by
  show ga_W G d mt_Mo_undo 0 [some (.inr 348), none] [] I E
  refine gw_RG (fun hI1 => ?_)
  have h := h hI1
  refine gw_aload_n 0 d_Mo_undo_0 rfl rfl ?_
  refine gw_iconst d_Mo_undo_1 ?_
  refine gw_putI d_Mo_undo_2 fp_Mo_37 (ga_oM) rfl ?_
  show ga_W G d mt_Mo_undo 5 [some (.inr 348), none] [] (ga_up I 348 0 (ga_wr 0)) E
  rw [ga_wr_eq (z := 0) ⟨by decide, by decide⟩]
  refine gw_nm (J := (ga_up I 348 0 0)) (fun I1 q1 => ?_)
  have h := h I1 q1
  refine gw_RG (fun hI2 => ?_)
  refine gw_aload_n 0 d_Mo_undo_5 rfl rfl ?_
  refine gw_getI d_Mo_undo_6 fl_Mo_44 (ga_oM) rfl ?_
  refine gw_if_ne 15 d_Mo_undo_9 (by decide) (hI2 _ _) (fun hc => ?_) (fun hc => ?_)
  · have h := h.1 hc
    refine gw_aload_n 0 d_Mo_undo_15 rfl rfl ?_
    refine gw_dup d_Mo_undo_16 ?_
    refine gw_getI d_Mo_undo_17 fl_Mo_44 (ga_oM) rfl ?_
    refine gw_iconst d_Mo_undo_20 ?_
    refine gw_isub d_Mo_undo_21 ?_
    refine gw_putI d_Mo_undo_22 fp_Mo_44 (ga_oM) rfl ?_
    refine gw_nm (J := (ga_up I1 348 4 (ga_wr ((I1 348 4) - 1)))) (fun I2 q2 => ?_)
    have h := h I2 q2
    refine gw_RG (fun hI3 => ?_)
    refine gw_iconst d_Mo_undo_25 ?_
    refine gw_istore_n 1 d_Mo_undo_26 rfl (Nat.le_of_ble_eq_true rfl) rfl ?_
    exact gw_le h (by exact ⟨rfl, ⟨rfl, trivial⟩⟩)
  · have h := h.2 hc
    refine gw_ldc (n := (-2000000002)) d_Mo_undo_12 kw_Mo_117 (by decide +kernel) ?_
    exact gw_ireturn d_Mo_undo_14 rfl h
theorem k_Mo_undo_27 {G : ga_G} {d : Nat} {I : ga_I} {E : Option ga_V → ga_I → Prop} {v1 : Int} (r1 : ga_rg v1)
    (h : ga_RG I → ((1120 ≤ v1) → E (some (.inl (I 348 4))) I) ∧ ((¬ (1120 ≤ v1)) → (0 ≤ ((1120 * (I 348 4)) + v1)) ∧ ((((1120 * (I 348 4)) + v1) < 5600) ∧ ((0 ≤ v1) ∧ ((v1 < 1120) ∧ ((∀ I1 : ga_I, I1 = (ga_up I 349 v1.toNat (I 351 ((1120 * (I 348 4)) + v1).toNat)) → ga_W G d mt_Mo_undo 27 [some (.inr 348), some (.inl (v1 + 1))] [] I1 E))))))) :
    ga_W G d mt_Mo_undo 27 [some (.inr 348), some (.inl v1)] [] I E := by
  refine gw_RG (fun hI1 => ?_)
  have h := h hI1
  refine gw_iload_n 1 d_Mo_undo_27 rfl rfl ?_
  refine gw_sipush d_Mo_undo_28 (by decide +kernel) ?_
  refine gw_icmp_ge 61 d_Mo_undo_31 (by decide) r1 ⟨by decide, by decide⟩ (fun hc => ?_) (fun hc => ?_)
  · have h := h.1 hc
    refine gw_aload_n 0 d_Mo_undo_61 rfl rfl ?_
    refine gw_getI d_Mo_undo_62 fl_Mo_44 (ga_oM) rfl ?_
    exact gw_ireturn d_Mo_undo_65 rfl h
  · have h := h.2 hc
    refine gw_aload_n 0 d_Mo_undo_34 rfl rfl ?_
    refine gw_getR d_Mo_undo_35 fl_Mo_7 (ga_oM) rfl ?_
    refine gw_iload_n 1 d_Mo_undo_38 rfl rfl ?_
    refine gw_aload_n 0 d_Mo_undo_39 rfl rfl ?_
    refine gw_getR d_Mo_undo_40 fl_Mo_16 (ga_oM) rfl ?_
    refine gw_sipush d_Mo_undo_43 (by decide +kernel) ?_
    refine gw_aload_n 0 d_Mo_undo_46 rfl rfl ?_
    refine gw_getI d_Mo_undo_47 fl_Mo_44 (ga_oM) rfl ?_
    refine gw_imul d_Mo_undo_50 ?_
    refine gw_iload_n 1 d_Mo_undo_51 rfl rfl ?_
    refine gw_iadd d_Mo_undo_52 ?_
    obtain ⟨g1, h⟩ := h
    obtain ⟨g2, h⟩ := h
    refine gw_iald d_Mo_undo_53 (ga_aM3) g1 g2 ?_
    obtain ⟨g3, h⟩ := h
    obtain ⟨g4, h⟩ := h
    refine gw_iast d_Mo_undo_54 (ga_aM1) g3 g4 ?_
    show ga_W G d mt_Mo_undo 55 [some (.inr 348), some (.inl v1)] [] (ga_up I 349 v1.toNat (ga_wr (I 351 ((1120 * (I 348 4)) + v1).toNat))) E
    rw [ga_wr_eq (z := (I 351 ((1120 * (I 348 4)) + v1).toNat)) (hI1 _ _)]
    refine gw_nm (J := (ga_up I 349 v1.toNat (I 351 ((1120 * (I 348 4)) + v1).toNat))) (fun I1 q1 => ?_)
    have h := h I1 q1
    refine gw_RG (fun hI2 => ?_)
    refine gw_iinc 1 d_Mo_undo_55 rfl rfl ?_
    refine gw_goto 27 d_Mo_undo_58 (by decide) ?_
    exact gw_le h (by exact ⟨rfl, ⟨rfl, trivial⟩⟩)

theorem k_Mo_append_0 {G : ga_G} {d : Nat} {I : ga_I} {E : Option ga_V → ga_I → Prop} {v1 : Int} (r1 : ga_rg v1)
    (h : ga_RG I → (∀ I1 : ga_I, I1 = (ga_up I 348 0 0) → (((1 : Int) ≤ v1 ∧ v1 ≤ (255 : Int)) → (((I1 348 6) ≠ 160) → (0 ≤ (I1 348 6)) ∧ (((I1 348 6) < 160) ∧ ((∀ I2 : ga_I, I2 = (ga_up I1 352 (I1 348 6).toNat v1) → (∀ I3 : ga_I, I3 = (ga_up I2 348 6 (ga_wr ((I2 348 6) + 1))) → E (some (.inl (I3 348 6))) I3))))) ∧ (((I1 348 6) = 160) → E (some (.inl (-2000000003))) I1)) ∧ ((¬ ((1 : Int) ≤ v1 ∧ v1 ≤ (255 : Int))) → E (some (.inl (-2000000001))) I1))) :
    ga_W G (d + 1) mt_Mo_append 0 (ga_en 2 [.inr 348, .inl v1]) [] I E := by
  show ga_W G (d + 1) mt_Mo_append 0 [some (.inr 348), some (.inl v1)] [] I E
  refine gw_RG (fun hI1 => ?_)
  have h := h hI1
  refine gw_aload_n 0 d_Mo_append_0 rfl rfl ?_
  refine gw_iconst d_Mo_append_1 ?_
  refine gw_putI d_Mo_append_2 fp_Mo_37 (ga_oM) rfl ?_
  show ga_W G (d + 1) mt_Mo_append 5 [some (.inr 348), some (.inl v1)] [] (ga_up I 348 0 (ga_wr 0)) E
  rw [ga_wr_eq (z := 0) ⟨by decide, by decide⟩]
  refine gw_nm (J := (ga_up I 348 0 0)) (fun I1 q1 => ?_)
  have h := h I1 q1
  refine gw_RG (fun hI2 => ?_)
  refine gw_iload_n 1 d_Mo_append_5 rfl rfl ?_
  refine gw_iconst d_Mo_append_6 ?_
  refine gw_sipush d_Mo_append_7 (by decide +kernel) ?_
  refine gw_invS (as := [.inl v1, .inl 1, .inl 255]) (rest := []) (d' := d) d_Mo_append_10 lk_Mo_47 rfl (Nat.le_of_ble_eq_true rfl) (Nat.le_of_ble_eq_true rfl) rfl rfl (s_Mo_in r1 ⟨by decide, by decide⟩ ⟨by decide, by decide⟩ ?_)
  show ga_W G (d + 1) mt_Mo_append 13 [some (.inr 348), some (.inl v1)] [.inl (ga_bb (decide ((1 : Int) ≤ v1 ∧ v1 ≤ (255 : Int))))] I1 E
  refine gw_ifb_ne 19 d_Mo_append_13 (by decide) (fun hc => ?_) (fun hc => ?_)
  · have h := h.1 (of_decide_eq_true hc)
    refine gw_aload_n 0 d_Mo_append_19 rfl rfl ?_
    refine gw_getI d_Mo_append_20 fl_Mo_191 (ga_oM) rfl ?_
    refine gw_sipush d_Mo_append_23 (by decide +kernel) ?_
    refine gw_icmp_ne 32 d_Mo_append_26 (by decide) (hI2 _ _) ⟨by decide, by decide⟩ (fun hc => ?_) (fun hc => ?_)
    · have h := h.1 hc
      refine gw_aload_n 0 d_Mo_append_32 rfl rfl ?_
      refine gw_getR d_Mo_append_33 fl_Mo_19 (ga_oM) rfl ?_
      refine gw_aload_n 0 d_Mo_append_36 rfl rfl ?_
      refine gw_getI d_Mo_append_37 fl_Mo_191 (ga_oM) rfl ?_
      refine gw_iload_n 1 d_Mo_append_40 rfl rfl ?_
      obtain ⟨g1, h⟩ := h
      obtain ⟨g2, h⟩ := h
      refine gw_iast d_Mo_append_41 (ga_aM4) g1 g2 ?_
      show ga_W G (d + 1) mt_Mo_append 42 [some (.inr 348), some (.inl v1)] [] (ga_up I1 352 (I1 348 6).toNat (ga_wr v1)) E
      rw [ga_wr_eq (z := v1) r1]
      refine gw_nm (J := (ga_up I1 352 (I1 348 6).toNat v1)) (fun I2 q2 => ?_)
      have h := h I2 q2
      refine gw_RG (fun hI3 => ?_)
      refine gw_aload_n 0 d_Mo_append_42 rfl rfl ?_
      refine gw_dup d_Mo_append_43 ?_
      refine gw_getI d_Mo_append_44 fl_Mo_191 (ga_oM) rfl ?_
      refine gw_iconst d_Mo_append_47 ?_
      refine gw_iadd d_Mo_append_48 ?_
      refine gw_putI d_Mo_append_49 fp_Mo_191 (ga_oM) rfl ?_
      refine gw_nm (J := (ga_up I2 348 6 (ga_wr ((I2 348 6) + 1)))) (fun I3 q3 => ?_)
      have h := h I3 q3
      refine gw_RG (fun hI4 => ?_)
      refine gw_aload_n 0 d_Mo_append_52 rfl rfl ?_
      refine gw_getI d_Mo_append_53 fl_Mo_191 (ga_oM) rfl ?_
      exact gw_ireturn d_Mo_append_56 rfl h
    · have h := h.2 hc
      refine gw_ldc (n := (-2000000003)) d_Mo_append_29 kw_Mo_118 (by decide +kernel) ?_
      exact gw_ireturn d_Mo_append_31 rfl h
  · have h := h.2 (of_decide_eq_false hc)
    refine gw_ldc (n := (-2000000001)) d_Mo_append_16 kw_Mo_112 (by decide +kernel) ?_
    exact gw_ireturn d_Mo_append_18 rfl h

theorem k_Mo_clearText_0 {G : ga_G} {d : Nat} {I : ga_I} {E : Option ga_V → ga_I → Prop}  
    (h : ga_RG I → (∀ I1 : ga_I, I1 = (ga_up I 348 0 0) → (∀ I2 : ga_I, I2 = (ga_up I1 348 6 0) → E (some (.inl (I1 348 6))) I2))) :
    ga_W G d mt_Mo_clearText 0 (ga_en 2 [.inr 348]) [] I E := by
  show ga_W G d mt_Mo_clearText 0 [some (.inr 348), none] [] I E
  refine gw_RG (fun hI1 => ?_)
  have h := h hI1
  refine gw_aload_n 0 d_Mo_clearText_0 rfl rfl ?_
  refine gw_iconst d_Mo_clearText_1 ?_
  refine gw_putI d_Mo_clearText_2 fp_Mo_37 (ga_oM) rfl ?_
  show ga_W G d mt_Mo_clearText 5 [some (.inr 348), none] [] (ga_up I 348 0 (ga_wr 0)) E
  rw [ga_wr_eq (z := 0) ⟨by decide, by decide⟩]
  refine gw_nm (J := (ga_up I 348 0 0)) (fun I1 q1 => ?_)
  have h := h I1 q1
  refine gw_RG (fun hI2 => ?_)
  refine gw_aload_n 0 d_Mo_clearText_5 rfl rfl ?_
  refine gw_getI d_Mo_clearText_6 fl_Mo_191 (ga_oM) rfl ?_
  refine gw_istore_n 1 d_Mo_clearText_9 rfl (Nat.le_of_ble_eq_true rfl) rfl ?_
  refine gw_aload_n 0 d_Mo_clearText_10 rfl rfl ?_
  refine gw_iconst d_Mo_clearText_11 ?_
  refine gw_putI d_Mo_clearText_12 fp_Mo_191 (ga_oM) rfl ?_
  show ga_W G d mt_Mo_clearText 15 [some (.inr 348), some (.inl (I1 348 6))] [] (ga_up I1 348 6 (ga_wr 0)) E
  rw [ga_wr_eq (z := 0) ⟨by decide, by decide⟩]
  refine gw_nm (J := (ga_up I1 348 6 0)) (fun I2 q2 => ?_)
  have h := h I2 q2
  refine gw_RG (fun hI3 => ?_)
  refine gw_iload_n 1 d_Mo_clearText_15 rfl rfl ?_
  exact gw_ireturn d_Mo_clearText_16 rfl h

section MN
variable {G : ga_G} {d : Nat} {I : ga_I} {E : Option ga_V → ga_I → Prop}
theorem ni_t_of {s s' : Nat → Int} (e : ∀ j, j < 234 → s' j = s j) (h : ni_t s) : ni_t s' := by
  obtain ⟨h0, h1, h2, h3⟩ := h
  have u : ∀ ax, 0 ≤ ax ∧ ax ≤ 1 → ms_n s' ax = ms_n s ax ∧ ∀ b, b < 6 → ms_p s' ax b = ms_p s ax b ∧ ms_q s' ax b = ms_q s ax b ∧ ms_r s' ax b = ms_r s ax b := fun ax ha => ⟨e _ (by omega), fun b hb => ⟨e _ (by omega), e _ (by omega), e _ (by omega)⟩⟩
  refine ⟨gp_ok_of h0 (u 0 (by omega)).1 (u 0 (by omega)).2, gp_ok_of h1 (u 1 (by omega)).1 (u 1 (by omega)).2, fun g i hg hi => ?_, fun g hg => ?_⟩
  · rw [e _ (by omega)]; exact h2 g i hg hi
  · rw [e _ (by omega)]; exact h3 g hg
theorem ni_n {s : Nat → Int} {ax : Int} (h : ni_t s) (ha : 0 ≤ ax ∧ ax ≤ 1) : 0 ≤ ms_n s ax ∧ ms_n s ax ≤ 6 := ⟨(ni_axs h ha).1, (ni_axs h ha).2.1⟩
theorem ni_b {s : Nat → Int} {ax : Int} (h : ni_t s) (ha : 0 ≤ ax ∧ ax ≤ 1) {b : Nat} (hb : (b : Int) < ms_n s ax) : (1 ≤ ms_p s ax b ∧ ms_p s ax b ≤ 999) ∧ (ms_q s ax b = 0 ∨ ms_q s ax b = 1) ∧ (ms_q s ax b ≤ ms_r s ax b ∧ ms_r s ax b ≤ 100) := by
  have := (ni_axs h ha).2.2.1 b hb
  exact ⟨⟨this.1, this.2.1⟩, this.2.2.1, this.2.2.2.1, this.2.2.2.2.1⟩
theorem m_setReach {A : na_A} {ax b r : Int} (r1 : ga_rg ax) (r2 : ga_rg b) (r3 : ga_rg r) (eA : na_ab I = A) (hA : ni_a A) (h : na_E E I (no_setReach A ax b r)) : ga_W G (d + 3) mt_Mo_setReach 0 (ga_en 5 [.inr 348, .inl ax, .inl b, .inl r]) [] I E := by
  have hs : ni_s A.1 := hA.1
  have hm := hA.2.1
  refine k_Mo_setReach_0 r1 r2 r3 (fun hI I1 e1 => ?_)
  obtain ⟨s1, -, m1, -, -⟩ := na_t1 eA e1
  unfold no_setReach at h
  rw [s1]
  refine ⟨(ni_all s1 hs).2.2.1, fun q1 => na_q h eA e1 (by rw [if_pos q1]), fun q1 => ?_⟩
  have n6 := ni_n hs.1 q1.1
  obtain ⟨p1, k1, w1⟩ := ni_b (b := b.toNat) hs.1 q1.1 (by omega)
  refine ⟨q1.1, by omega, by omega, fun z1 f1 => ?_⟩
  change z1 = ms_q A.1 ax b.toNat at f1
  refine ⟨fun q2 => na_q h eA e1 (by rw [if_neg (fun w => w q1), if_pos (fun w => q2 (by rw [f1]; exact ⟨by omega, w.1⟩))]), fun q2 => ⟨by omega, fun z2 f2 => ?_⟩⟩
  change z2 = ms_p A.1 ax b.toNat at f2
  rw [f1] at q2
  refine ⟨⟨by omega, by omega⟩, ⟨by omega, by omega⟩, fun q3 z3 f3 => ?_, fun q3 => na_q h eA e1 (by rw [if_neg (fun w => w q1), if_pos (fun w => q3 (by rw [f2]; exact w.2))])⟩
  change z3 = ms_p A.1 ax b.toNat at f3
  rw [f2] at q3
  refine ⟨ni_ax s1 hs q1.1, by omega, by omega, fun q4 => ⟨by rw [m1]; exact hm, fun I2 e2 => ?_⟩, fun q4 => na_q h eA e1 (by rw [f3] at q4; rw [if_neg (fun w => w q1), if_neg (fun w => w ⟨q2.2, q3⟩), if_pos (by simpa using q4)])⟩
  have t2 := (mx_ac_t eA e1 e2).2
  rw [t2]
  refine ⟨by omega, fun z4 f4 z5 f5 z6 f6 I3 e3 => ?_⟩
  change z5 = A.1 ((19 * ax).toNat + 1 + 3 * b.toNat) at f5
  change z6 = A.1 ((19 * ax).toNat + 1 + 3 * b.toNat + 1) at f6
  rw [mx_sb_uc, t2, ns_up_id (z := z5) f5, ns_up_id (z := z6) f6] at e3
  have s3 : I3 349 = ns_up A.1 ((19 * ax).toNat + 1 + 3 * b.toNat + 2) r := by rw [e3, ga_uc_at]
  refine ⟨mo_n_mk s3 ?_ ?_, fun I4 e4 => ?_⟩
  · unfold ms_n; rw [ns_up_ne (by omega)]; exact ni_n hs.1 (by omega)
  · unfold ms_n; rw [ns_up_ne (by omega)]; exact ni_n hs.1 (by omega)
  · rw [mx_fz_uc, s3, e3, ga_uc_uc] at e4
    refine na_u h eA e1 e2 e4 ?_
    rw [f3] at q4
    rw [if_neg (fun w => w q1), if_neg (fun w => w ⟨q2.2, q3⟩), if_neg (by simpa using q4)]
    congr 1
    exact f4.symm
theorem m_setOperator {A : na_A} {op w z : Int} (r1 : ga_rg op) (r2 : ga_rg w) (r3 : ga_rg z) (eA : na_ab I = A) (hA : ni_a A) (h : na_E E I (no_setOperator A op w z)) : ga_W G (d + 2) mt_Mo_setOperator 0 (ga_en 6 [.inr 348, .inl op, .inl w, .inl z]) [] I E := by
  have hm := hA.2.1
  refine k_Mo_setOperator_0 r1 r2 r3 (fun hI I1 e1 => ?_)
  obtain ⟨s1, -, m1, -, -⟩ := na_t1 eA e1
  unfold no_setOperator at h
  have bad : ¬ ((0 ≤ op ∧ op ≤ 2) ∧ ((w = 0 ∧ 1 ≤ z ∧ z ≤ 9999) ∨ (w = 1 ∧ 0 ≤ z ∧ z ≤ 99999))) → E (some (.inl (-2000000001))) I1 := fun q => na_q h eA e1 (by rw [if_pos q])
  have good : ∀ I2 : ga_I, I2 = mx_ac I1 → ((0 ≤ op ∧ op ≤ 2) ∧ ((w = 0 ∧ 1 ≤ z ∧ z ≤ 9999) ∨ (w = 1 ∧ 0 ≤ z ∧ z ≤ 99999))) → ∀ I3 : ga_I, I3 = ga_up I2 349 ((241 + 3 * op) + w).toNat z → E (some (.inl (I2 349 ((241 + 3 * op) + w).toNat))) I3 := fun I2 e2 q I3 e3 => by
    have t2 := (mx_ac_t eA e1 e2).2
    rw [t2]
    rw [ga_up_uc, t2] at e3
    exact na_u h eA e1 e2 e3 (by rw [if_neg (fun w => w q)])
  refine ⟨fun a1 => ⟨fun a2 => ⟨fun a3 => bad (by omega), fun a3 => ⟨fun a4 => by exfalso; omega, fun a4 => bad (by omega)⟩⟩, fun a2 => ⟨fun a3 => ⟨fun a4 => bad (by omega), fun a4 => ⟨fun a5 => by exfalso; omega, fun a5 => bad (by omega)⟩⟩, fun a3 => ⟨fun a4 => bad (by omega), fun a4 => ⟨fun a5 => ⟨by rw [m1]; exact hm, fun I2 e2 => ⟨by omega, by omega, good I2 e2 (by omega)⟩⟩, fun a5 => by exfalso; omega⟩⟩⟩⟩, fun a1 => ⟨fun a2 => bad (by omega), fun a2 => ⟨fun a3 => ⟨by rw [m1]; exact hm, fun I2 e2 => ⟨by omega, by omega, good I2 e2 (by omega)⟩⟩, fun a3 => bad (by omega)⟩⟩⟩
theorem mp_ra_bd (a b c e f z : Int) : 0 ≤ mp_ra a b c e f z ∧ mp_ra a b c e f z ≤ 3 := by
  unfold mp_ra
  by_cases h1 : a ≠ -1 ∧ a ≠ f
  · rw [if_pos h1]; omega
  · rw [if_neg h1]
    by_cases h2 : c < ((b - z).natAbs : Int)
    · rw [if_pos h2]; omega
    · rw [if_neg h2]
      by_cases h3 : e < ((b - z).natAbs : Int)
      · rw [if_pos h3]; omega
      · rw [if_neg h3]; omega
theorem mx_ch_uc (I : ga_I) (op : Int) (j : Nat) (z : Int) : mx_ch I op j z = ga_uc I 349 (ns_ch (I 349) op j z) := by
  unfold mx_ch ns_ch
  rw [ga_up_uc, ga_up_uc, ga_up_uc, ga_up_uc]
  simp only [ga_uc_uc, ga_uc_at]
theorem m_edit {A : na_A} {op c r i z : Int} (r1 : ga_rg op) (r2 : ga_rg c) (r3 : ga_rg r) (r4 : ga_rg i) (r5 : ga_rg z) (eA : na_ab I = A) (hA : ni_a A) (h : na_E E I (no_edit A op c r i z)) : ga_W G (d + 3) mt_Mo_edit 0 (ga_en 7 [.inr 348, .inl op, .inl c, .inl r, .inl i, .inl z]) [] I E := by
  have hs : ni_s A.1 := hA.1
  have hm := hA.2.1
  refine k_Mo_edit_0 r1 r2 r3 r4 r5 (fun hI I1 e1 => ?_)
  obtain ⟨s1, -, m1, -, -⟩ := na_t1 eA e1
  unfold no_edit at h
  rw [s1]
  have n0 := ni_n hs.1 (ax := 0) (by omega)
  have n1 := ni_n hs.1 (ax := 1) (by omega)
  refine ⟨fun q1 => ⟨q1.1, by omega, by omega, by omega, by omega, (ni_all s1 hs).2.2.2.2.2, fun z1 f1 => ⟨?_, fun q2 => ⟨by rw [m1]; exact hm, fun I2 e2 => ?_⟩, fun q2 => ?_⟩⟩, fun q1 => na_q h eA e1 (by rw [if_pos q1])⟩
  · rw [f1]; have := mp_ra_bd (A.1 (38 + 4 * (7 * c + r) + 3).toNat) (A.1 (38 + 4 * (7 * c + r) + i).toNat) (A.1 (241 + 3 * op).toNat) (A.1 (241 + 3 * op + 1).toNat) op z
    constructor <;> omega
  · have t2 := (mx_ac_t eA e1 e2).2
    refine ⟨by omega, by omega, (ni_all t2 hs).2.2.2.2.2, fun I3 e3 => ?_⟩
    rw [t2]
    rw [mx_ch_uc, t2] at e3
    refine na_u h eA e1 e2 e3 ?_
    rw [if_neg (fun w => w q1), if_neg (fun w => w (f1.symm.trans q2))]
  · exact na_q h eA e1 (by rw [if_neg (fun w => w q1), if_pos (show ns_ra A.1 op c r i z ≠ 0 from fun w => q2 (f1.trans w))])
theorem m_lock {A : na_A} {op c r l : Int} (r1 : ga_rg op) (r2 : ga_rg c) (r3 : ga_rg r) (r4 : ga_rg l) (eA : na_ab I = A) (hA : ni_a A) (h : na_E E I (no_lock A op c r l)) : ga_W G (d + 2) mt_Mo_lock 0 (ga_en 5 [.inr 348, .inl op, .inl c, .inl r, .inl l]) [] I E := by
  have hs : ni_s A.1 := hA.1
  refine k_Mo_lock_0 r1 r2 r3 r4 (fun hI I1 e1 => ?_)
  obtain ⟨s1, -, m1, -, -⟩ := na_t1 eA e1
  unfold no_lock at h
  rw [s1]
  have n0 := ni_n hs.1 (ax := 0) (by omega)
  have n1 := ni_n hs.1 (ax := 1) (by omega)
  refine ⟨fun q1 => na_q h eA e1 (by rw [if_pos (fun w => q1 w.1)]), fun q1 => ⟨fun q2 => na_q h eA e1 (by rw [if_pos (fun w => q2 w.2.1)]), fun q2 => ⟨fun q3 => ?_, fun q3 => na_q h eA e1 (by rw [if_pos (fun w => q3 w.2.2)])⟩⟩⟩
  have go : ∀ (I2 I3 : ga_I) (z : Int), I2 = mx_ac I1 → z = (if l = 1 then op else -1) → A.1 (38 + 4 * (7 * c + r) + 3).toNat = (if l = 1 then -1 else op) → I3 = ga_up I2 349 ((38 + 4 * (7 * c + r)) + 3).toNat z → mo_n I3 ∧ ∀ z1 : Int, z1 = gp_tt (mp_lk (I3 349) op) ((ms_n (I3 349) 0).toNat + 1) ((ms_n (I3 349) 1).toNat + 1) → E (some (.inl z1)) I3 := fun I2 I3 z e2 hz ha e3 => by
    have t2 := (mx_ac_t eA e1 e2).2
    rw [ga_up_uc, t2, hz] at e3
    have s3 : I3 349 = ns_up A.1 (38 + 4 * (7 * c + r) + 3).toNat (if l = 1 then op else -1) := by rw [e3, ga_uc_at]
    refine ⟨mo_n_mk s3 ?_ ?_, fun z1 f1 => ?_⟩
    · unfold ms_n; rw [ns_up_ne (by omega)]; exact n0
    · unfold ms_n; rw [ns_up_ne (by omega)]; exact n1
    · rw [f1, s3]
      refine na_u h eA e1 e2 e3 ?_
      rw [if_neg (fun w => w ⟨q1, q2, q3⟩), if_neg (fun w => w ha)]
      rfl
  have bad : A.1 (38 + 4 * (7 * c + r) + 3).toNat ≠ (if l = 1 then -1 else op) → E (some (.inl (-2000000002))) I1 := fun q => na_q h eA e1 (by rw [if_neg (fun w => w ⟨q1, q2, q3⟩), if_pos q])
  refine ⟨by omega, by omega, fun q4 => ⟨fun q5 => ⟨by rw [m1]; exact hA.2.1, fun I2 e2 => ⟨fun _ I3 e3 => ?_, fun q6 => absurd q6 q4⟩⟩, fun q5 => bad (by rw [if_neg q4]; exact q5)⟩, fun q4 => ⟨fun q5 => ⟨by rw [m1]; exact hA.2.1, fun I2 e2 => ⟨fun q6 => absurd q4 q6, fun _ I3 e3 => ?_⟩⟩, fun q5 => bad (by rw [if_pos q4]; exact q5)⟩⟩
  · exact go I2 I3 (-1) e2 (by rw [if_neg q4]) (by rw [if_neg q4]; exact q5) e3
  · exact go I2 I3 op e2 (by rw [if_pos q4]) (by rw [if_pos q4]; exact q5) e3
theorem m_setMargin {A : na_A} {z : Int} (r1 : ga_rg z) (eA : na_ab I = A) (hA : ni_a A) (h : na_E E I (no_setMargin A z)) : ga_W G (d + 1) mt_Mo_setMargin 0 (ga_en 3 [.inr 348, .inl z]) [] I E := by
  refine k_Mo_setMargin_0 r1 (fun hI I1 e1 => ?_)
  obtain ⟨s1, -, m1, -, -⟩ := na_t1 eA e1
  unfold no_setMargin at h
  refine ⟨fun q1 => ⟨by rw [m1]; exact hA.2.1, fun I2 e2 I3 e3 => ?_⟩, fun q1 => na_q h eA e1 (by rw [if_pos q1])⟩
  have t2 := (mx_ac_t eA e1 e2).2
  rw [t2]
  rw [ga_up_uc, t2] at e3
  exact na_u h eA e1 e2 e3 (by rw [if_neg (fun w => w q1)])
theorem m_move {A : na_A} {x y : Int} (r1 : ga_rg x) (r2 : ga_rg y) (eA : na_ab I = A) (hA : ni_a A) (h : na_E E I (no_move A x y)) : ga_W G (d + 6) mt_Mo_move 0 (ga_en 3 [.inr 348, .inl x, .inl y]) [] I E := by
  have hs : ni_s A.1 := hA.1
  refine k_Mo_move_0 r1 r2 (fun hI I1 e1 => ?_)
  obtain ⟨s1, -, m1, -, -⟩ := na_t1 eA e1
  unfold no_move at h
  refine ⟨fun q1 => na_q h eA e1 (by rw [if_pos (fun w => q1 w.1)]), fun q1 => ⟨fun q2 => ⟨by rw [m1]; exact hA.2.1, fun I2 e2 => ?_⟩, fun q2 => na_q h eA e1 (by rw [if_pos (fun w => q2 w.2)])⟩⟩
  obtain ⟨t1, t2⟩ := mx_ac_t eA e1 e2
  obtain ⟨a0, a1, a2, a3, a4, a5⟩ := ni_all t2 hs
  refine ⟨a0, a1, a3, a4, a5, by rw [t2]; exact hs.2.2.2.1, q1, q2, fun I3 e3 => ?_⟩
  unfold gr_mm at e3
  rw [t2] at e3
  obtain ⟨u1, u2⟩ := t1 _ I3 e3.1 e3.2
  rw [t2]
  exact na_x h (by rw [if_neg (fun w => w ⟨q1, q2⟩)]) u1 u2
theorem l_Mo_take (I : ga_I) {p : Nat} (hp : p < 3) (h : E (some (.inl (ns_rg (I 349)))) (ga_uc I 349 (ns_tk (I 349) p))) :
    ∀ (j k : Nat), k + j = 234 → ga_W G (d + 2) mt_Mo_take 38 [some (.inr 348), none, some (.inl (415 + 235 * (p : Int))), some (.inl (k : Int))] [] (ga_uc I 349 (ns_up (av_cp (I 349) (I 349) (416 + 235 * p) k) (415 + 235 * p) 1)) E := by
  have lo : ∀ k j, j < 415 → ns_up (av_cp (I 349) (I 349) (416 + 235 * p) k) (415 + 235 * p) 1 j = I 349 j := fun k j hj => by
    rw [ns_up_ne (by omega)]; unfold av_cp; rw [if_neg (by omega)]
  intro j
  induction j with
  | zero =>
    intro k hk
    refine k_Mo_take_38 ⟨by omega, by omega⟩ (fun hI => ⟨fun q z1 f1 => ?_, fun q => by exfalso; omega⟩)
    unfold ms_n at f1
    rw [ga_uc_at, lo _ _ (by omega), lo _ _ (by omega)] at f1
    have e : ns_up (av_cp (I 349) (I 349) (416 + 235 * p) k) (415 + 235 * p) 1 = ns_tk (I 349) p := by
      funext j
      unfold ns_up av_cp ns_tk
      rw [show k = 234 by omega]
    rw [e, f1]
    exact h
  | succ j ih =>
    intro k hk
    have e := ih (k + 1) (by omega)
    refine k_Mo_take_38 ⟨by omega, by omega⟩ (fun hI => ⟨fun q => by exfalso; omega, fun q => ⟨by omega, by omega, by omega, by omega, fun I1 e1 => ?_⟩⟩)
    refine gw_eq e rfl ?_
    rw [e1, ga_up_uc, ga_uc_uc, ga_uc_at, Int.toNat_natCast, lo _ _ (by omega)]
    congr 1
    rw [← av_cp_s (j := 416 + 235 * p + k) rfl rfl]
    funext i
    unfold ns_up
    by_cases q1 : i = (415 + 235 * (p : Int) + 1 + k).toNat
    · rw [if_pos q1, if_neg (by omega), if_pos (by omega)]
    · rw [if_neg q1]
      by_cases q2 : i = 415 + 235 * p
      · rw [if_pos q2, if_pos q2]
      · rw [if_neg q2, if_neg q2, if_neg (by omega)]
theorem m_take {A : na_A} {p : Int} (r1 : ga_rg p) (eA : na_ab I = A) (hA : ni_a A) (h : na_E E I (no_take A p)) : ga_W G (d + 2) mt_Mo_take 0 (ga_en 4 [.inr 348, .inl p]) [] I E := by
  have hs : ni_s A.1 := hA.1
  refine k_Mo_take_0 r1 (fun hI I1 e1 => ?_)
  obtain ⟨s1, -, m1, -, -⟩ := na_t1 eA e1
  unfold no_take at h
  refine ⟨fun q1 => ⟨by rw [m1]; exact hA.2.1, fun I2 e2 => ⟨by omega, by omega, fun I3 e3 => ?_⟩⟩, fun q1 => na_q h eA e1 (by rw [if_pos q1])⟩
  have t2 := (mx_ac_t eA e1 e2).2
  have K := l_Mo_take (G := G) (d := d) (E := E) I2 (p := p.toNat) (by omega) ?_ 234 0 (by omega)
  · refine gw_eq K ?_ ?_
    · rw [show ((p.toNat : Nat) : Int) = p by omega]; rfl
    · rw [e3, ga_up_uc, av_cp_0, show (415 + 235 * p).toNat = 415 + 235 * p.toNat by omega]
  · refine na_u h eA e1 e2 rfl ?_
    rw [if_neg (fun w => w q1), t2]
theorem l_Mo_restore (I : ga_I) {p : Nat} {z : Int} (hp : p < 3) (hn : 0 ≤ ms_n (ns_rs (I 349) p) 0 ∧ ms_n (ns_rs (I 349) p) 0 ≤ 6) (hn1 : 0 ≤ ms_n (ns_rs (I 349) p) 1 ∧ ms_n (ns_rs (I 349) p) 1 ≤ 6) (h : E (some (.inl (ns_rg (ns_rs (I 349) p)))) (ga_uc I 349 (ns_st (ns_rs (I 349) p) z))) :
    ∀ (j k : Nat), k + j = 234 → ga_W G (d + 4) mt_Mo_restore 49 [some (.inr 348), none, some (.inl (415 + 235 * (p : Int))), some (.inl z), some (.inl (k : Int))] [] (ga_uc I 349 (av_cp (I 349) (fun i => I 349 (416 + 235 * p + i)) 0 k)) E := by
  intro j
  induction j with
  | zero =>
    intro k hk
    have e : av_cp (I 349) (fun i => I 349 (416 + 235 * p + i)) 0 k = ns_rs (I 349) p := by
      funext j
      unfold av_cp ns_rs
      by_cases q : j < 234
      · rw [if_pos (by omega), if_pos q]; rfl
      · rw [if_neg (by omega), if_neg q]
    rw [e]
    refine k_Mo_restore_49 ⟨by omega, by omega⟩ (fun hI => ⟨fun q => ⟨mo_n_mk ga_uc_at hn hn1, fun I1 e1 z1 f1 => ?_⟩, fun q => by exfalso; omega⟩)
    rw [ga_uc_uc, ga_uc_at] at e1
    unfold ms_n at f1
    rw [e1, ga_uc_at, ns_st_o (by decide), ns_st_o (by decide)] at f1
    rw [f1, e1]
    exact h
  | succ j ih =>
    intro k hk
    have e := ih (k + 1) (by omega)
    refine k_Mo_restore_49 ⟨by omega, by omega⟩ (fun hI => ⟨fun q => by exfalso; omega, fun q => ⟨by omega, by omega, by omega, by omega, fun I2 e2 => ?_⟩⟩)
    refine gw_eq e rfl ?_
    have c1 : av_cp (I 349) (fun i => I 349 (416 + 235 * p + i)) 0 k (415 + 235 * (p : Int) + 1 + k).toNat = I 349 (416 + 235 * p + k) := by
      unfold av_cp; rw [if_neg (by omega)]; congr 1; omega
    rw [e2, ga_up_uc, ga_uc_uc, ga_uc_at, Int.toNat_natCast, c1, av_cp_s (by omega) rfl]
theorem m_restore {A : na_A} {p : Int} (r1 : ga_rg p) (eA : na_ab I = A) (hA : ni_a A) (h : na_E E I (no_restore A p)) : ga_W G (d + 4) mt_Mo_restore 0 (ga_en 5 [.inr 348, .inl p]) [] I E := by
  have hs : ni_s A.1 := hA.1
  refine k_Mo_restore_0 r1 (fun hI I1 e1 => ?_)
  obtain ⟨s1, -, m1, -, -⟩ := na_t1 eA e1
  unfold no_restore at h
  rw [s1]
  refine ⟨fun q1 => ⟨by omega, by omega, fun q2 => ⟨by rw [m1]; exact hA.2.1, fun I2 e2 => ?_⟩, fun q2 => ?_⟩, fun q1 => na_q h eA e1 (by rw [if_pos q1])⟩
  · have t2 := (mx_ac_t eA e1 e2).2
    refine ⟨(ni_all t2 hs).2.2.1, fun z1 f1 => ?_⟩
    rw [t2] at f1
    rw [show (415 + 235 * p).toNat = 415 + 235 * p.toNat by omega] at q2
    have hp := hs.2.2.2.2 p.toNat (by omega)
    have ht : ni_t (ns_rs A.1 p.toNat) := ni_t_of (s := fun j => A.1 (416 + 235 * p.toNat + j)) (fun j hj => by unfold ns_rs; rw [if_pos hj]) (hp.2 (by omega))
    have K := l_Mo_restore (G := G) (d := d) (E := E) I2 (p := p.toNat) (z := z1) (by omega) (by rw [t2]; exact ni_n ht (by omega)) (by rw [t2]; exact ni_n ht (by omega)) ?_ 234 0 (by omega)
    · refine gw_eq K ?_ ?_
      · rw [show ((p.toNat : Nat) : Int) = p by omega]; rfl
      · rw [av_cp_0, ga_uc_id]
    · refine na_u h eA e1 e2 rfl ?_
      rw [if_neg (fun w => w q1), if_neg q2, t2, f1]
      rfl
  · rw [show (415 + 235 * p).toNat = 415 + 235 * p.toNat by omega] at q2
    exact na_q h eA e1 (by rw [if_neg (fun w => w q1), if_pos q2])
theorem l_Mo_undo (I : ga_I) {m : Int} (hm : I 348 4 = m) (hm2 : 0 ≤ m ∧ m ≤ 4) (h : E (some (.inl m)) (ga_uc I 349 (av_cp (I 349) (fun j => I 351 (1120 * m.toNat + j)) 0 1120))) :
    ∀ (j k : Nat), k + j = 1120 → ga_W G d mt_Mo_undo 27 [some (.inr 348), some (.inl (k : Int))] [] (ga_uc I 349 (av_cp (I 349) (fun j => I 351 (1120 * m.toNat + j)) 0 k)) E := by
  have e4 : ∀ f, ga_uc I 349 f 348 4 = m := fun f => by rw [ga_uc_ne (by omega)]; exact hm
  intro j
  induction j with
  | zero =>
    intro k hk
    refine k_Mo_undo_27 ⟨by omega, by omega⟩ (fun hI => ⟨fun q => ?_, fun q => by exfalso; omega⟩)
    rw [e4, show k = 1120 by omega]; exact h
  | succ j ih =>
    intro k hk
    have e := ih (k + 1) (by omega)
    refine k_Mo_undo_27 ⟨by omega, by omega⟩ (fun hI => ⟨fun q => by exfalso; omega, fun q => ?_⟩)
    rw [e4]
    refine ⟨by omega, by omega, by omega, by omega, fun I1 e1 => ?_⟩
    refine gw_eq e rfl ?_
    rw [e1, ga_up_uc, ga_uc_uc, ga_uc_at, ga_uc_ne (by omega), Int.toNat_natCast, show (1120 * m + (k : Int)).toNat = 1120 * m.toNat + k by omega, av_cp_s (by omega) rfl]
theorem m_undo {A : na_A} (eA : na_ab I = A) (hA : ni_a A) (h : na_E E I (no_undo A)) : ga_W G d mt_Mo_undo 0 (ga_en 2 [.inr 348]) [] I E := by
  have hm := hA.2.1
  refine k_Mo_undo_0 (fun hI I1 e1 => ?_)
  obtain ⟨s1, v1, m1, x1, l1⟩ := na_t1 eA e1
  unfold no_undo at h
  rw [m1]
  refine ⟨fun q1 I2 e2 => ?_, fun q1 => na_q h eA e1 (by rw [if_pos q1])⟩
  rw [ga_wr_eq ⟨by omega, by omega⟩] at e2
  have s2 : I2 349 = A.1 := by rw [e2, ga_up_fn (by omega), s1]
  have v2 : I2 351 = A.2.1 := by rw [e2, ga_up_fn (by omega), v1]
  have K := l_Mo_undo (G := G) (d := d) (E := E) I2 (m := A.2.2.1 - 1) (by rw [e2, ga_up_at]) (by omega) ?_ 1120 0 (by omega)
  · rw [av_cp_0, ga_uc_id] at K
    exact K
  · refine na_x h (by rw [if_neg q1]) (na_ab_mk ?_ ?_ ?_ ?_ ?_) (fun a ha => ?_)
    · rw [ga_uc_at, s2, v2, show (A.2.2.1 - 1).toNat = A.2.2.1.toNat - 1 by omega]
    · rw [ga_uc_ne (by omega), v2]
    · rw [ga_uc_ne (by omega), e2, ga_up_at]
    · rw [ga_uc_ne (by omega), e2, ga_up_fn (by omega), x1]
    · rw [ga_uc_ne (by omega), e2, ga_up_nj (by omega), l1]
    · rw [ga_uc_ne (by omega), e2, ga_up_fn (by omega), e1, ga_up_fn (by omega)]
theorem m_append {A : na_A} {c : Int} (r1 : ga_rg c) (eA : na_ab I = A) (hA : ni_a A) (h : na_E E I (no_append A c)) : ga_W G (d + 1) mt_Mo_append 0 (ga_en 2 [.inr 348, .inl c]) [] I E := by
  have hl := hA.2.2.2.1
  refine k_Mo_append_0 r1 (fun hI I1 e1 => ?_)
  obtain ⟨s1, v1, m1, x1, l1⟩ := na_t1 eA e1
  unfold no_append at h
  rw [l1]
  refine ⟨fun q1 => ⟨fun q2 => ⟨by omega, by omega, fun I2 e2 I3 e3 => ?_⟩, fun q2 => na_q h eA e1 (by rw [if_neg (fun w => w q1), if_pos q2])⟩, fun q1 => na_q h eA e1 (by rw [if_pos q1])⟩
  have l2 : I2 348 6 = A.2.2.2.2 := by rw [e2, ga_up_fn (by omega), l1]
  rw [l2, ga_wr_eq ⟨by omega, by omega⟩] at e3
  rw [show I3 348 6 = A.2.2.2.2 + 1 by rw [e3, ga_up_at]]
  refine na_x h (by rw [if_neg (fun w => w q1), if_neg q2]) (na_ab_mk ?_ ?_ ?_ ?_ ?_) (fun a ha => ?_)
  · rw [e3, ga_up_fn (by omega), e2, ga_up_fn (by omega), s1]
  · rw [e3, ga_up_fn (by omega), e2, ga_up_fn (by omega), v1]
  · rw [e3, ga_up_nj (by omega), e2, ga_up_fn (by omega), m1]
  · rw [e3, ga_up_fn (by omega), e2, ga_up_uc, ga_uc_at, x1]
  · rw [e3, ga_up_at]
  · rw [e3, ga_up_fn (by omega), e2, ga_up_fn (by omega), e1, ga_up_fn (by omega)]
theorem m_clearText {A : na_A} (eA : na_ab I = A) (h : na_E E I (no_clearText A)) : ga_W G d mt_Mo_clearText 0 (ga_en 2 [.inr 348]) [] I E := by
  refine k_Mo_clearText_0 (fun hI I1 e1 I2 e2 => ?_)
  obtain ⟨s1, v1, m1, x1, l1⟩ := na_t1 eA e1
  unfold no_clearText at h
  rw [l1]
  refine na_x h rfl (na_ab_mk ?_ ?_ ?_ ?_ ?_) (fun a ha => ?_)
  · rw [e2, ga_up_fn (by omega), s1]
  · rw [e2, ga_up_fn (by omega), v1]
  · rw [e2, ga_up_nj (by omega), m1]
  · rw [e2, ga_up_fn (by omega), x1]
  · rw [e2, ga_up_at]
  · rw [e2, ga_up_fn (by omega), e1, ga_up_fn (by omega)]
end MN
