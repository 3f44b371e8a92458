theorem k_Mo_addBorder_0 {G : ga_G} {d : Nat} {I : ga_I} {E : Option ga_V → ga_I → Prop} {v1 : Int} {v2 : Int} {v3 : Int} {v4 : Int} (r1 : ga_rg v1) (r2 : ga_rg v2) (r3 : ga_rg v3) (r4 : ga_rg v4)
    (h : ga_RG I → (∀ I1 : ga_I, I1 = (ga_up I 348 0 0) → ((¬ (0 ≤ v1 ∧ v1 ≤ 1)) → E (some (.inl (-2000000001))) I1) ∧ ((0 ≤ v1 ∧ v1 ≤ 1) → ((¬ ((1 : Int) ≤ v2 ∧ v2 ≤ (999 : Int))) → E (some (.inl (-2000000001))) I1) ∧ (((1 : Int) ≤ v2 ∧ v2 ≤ (999 : Int)) → ((¬ ((0 ≤ v3 ∧ v3 ≤ 1) ∧ (v3 ≤ v4 ∧ v4 ≤ 100))) → E (some (.inl (-2000000001))) I1) ∧ (((0 ≤ v3 ∧ v3 ≤ 1) ∧ (v3 ≤ v4 ∧ v4 ≤ 100)) → (ga_rg (v2 - v4)) ∧ ((ga_rg (v2 + v4)) ∧ (((0 ≤ v2 - v4 ∧ v2 + v4 ≤ 1000) → (mo_ok I1 v1) ∧ ((0 ≤ v1 ∧ v1 ≤ 1) ∧ ((-3000 ≤ v2 ∧ v2 ≤ 3000) ∧ ((-3000 ≤ v4 ∧ v4 ≤ 3000) ∧ ((((!gp_fr (ms_p (I1 349) v1) (ms_r (I1 349) v1) v2 v4 ((-2000000009) : Int) (ms_n (I1 349) v1).toNat) = false) → (((ms_n (I1 349) v1) ≠ 6) → (0 ≤ I1 348 4 ∧ I1 348 4 ≤ 5) ∧ ((∀ I2 : ga_I, I2 = (mx_ac I1) → (mo_n I2) ∧ ((∀ z1 : Int, z1 = gp_tt (mp_g3 (I2 349)) ((ms_n (I2 349) 0).toNat + 1) ((ms_n (I2 349) 1).toNat + 1) → (mo_ok I2 v1) ∧ ((ms_n (I2 349) v1 < 6) ∧ ((∀ I3 : ga_I, I3 = (ga_uc I2 349 (ns_in (I2 349) v1 (gp_st (ms_p (I2 349) v1) v2 (ms_n (I2 349) v1).toNat).toNat (ms_n (I2 349) v1).toNat v2 v3 v4)) → (mo_n I3) ∧ ((∀ I4 : ga_I, I4 = (ga_uc I3 349 (ns_st (I3 349) z1)) → E (some (.inl (gp_st (ms_p (I2 349) v1) v2 (ms_n (I2 349) v1).toNat))) I4)))))))))) ∧ (((ms_n (I1 349) v1) = 6) → E (some (.inl (-2000000003))) I1)) ∧ (((!gp_fr (ms_p (I1 349) v1) (ms_r (I1 349) v1) v2 v4 ((-2000000009) : Int) (ms_n (I1 349) v1).toNat) = true) → E (some (.inl (-2000000002))) I1)))))) ∧ ((¬ (0 ≤ v2 - v4 ∧ v2 + v4 ≤ 1000)) → E (some (.inl (-2000000001))) I1)))))))) :
    ga_W G (d + 4) mt_Mo_addBorder 0 (ga_en 7 [.inr 348, .inl v1, .inl v2, .inl v3, .inl v4]) [] I E := by
  show ga_W G (d + 4) mt_Mo_addBorder 0 [some (.inr 348), some (.inl v1), some (.inl v2), some (.inl v3), some (.inl v4), none, none] [] I E
  refine gw_RG (fun hI1 => ?_)
  have h := h hI1
  refine gw_aload_n 0 d_Mo_addBorder_0 rfl rfl ?_
  refine gw_iconst d_Mo_addBorder_1 ?_
  refine gw_putI d_Mo_addBorder_2 fp_Mo_37 (ga_oM) rfl ?_
  show ga_W G (d + 4) mt_Mo_addBorder 5 [some (.inr 348), some (.inl v1), some (.inl v2), some (.inl v3), some (.inl v4), none, none] [] (ga_up I 348 0 (ga_wr 0)) E
  rw [ga_wr_eq (z := 0) ⟨by decide, by decide⟩]
  refine gw_nm (J := (ga_up I 348 0 0)) (fun I1 q1 => ?_)
  have h := h I1 q1
  refine gw_RG (fun hI2 => ?_)
  refine gw_iload_n 1 d_Mo_addBorder_5 rfl rfl ?_
  refine gw_invS (as := [.inl v1]) (rest := []) (d' := (d + 3)) d_Mo_addBorder_6 lk_Mo_51 rfl (Nat.le_of_ble_eq_true rfl) (Nat.le_of_ble_eq_true rfl) rfl rfl (s_Mo_isAxis r1 ?_)
  show ga_W G (d + 4) mt_Mo_addBorder 9 [some (.inr 348), some (.inl v1), some (.inl v2), some (.inl v3), some (.inl v4), none, none] [.inl (ga_bb (decide (0 ≤ v1 ∧ v1 ≤ 1)))] I1 E
  refine gw_ifb_eq 41 d_Mo_addBorder_9 (by decide) (fun hc => ?_) (fun hc => ?_)
  · have h := h.1 (of_decide_eq_false hc)
    refine gw_ldc (n := (-2000000001)) d_Mo_addBorder_41 kw_Mo_112 (by decide +kernel) ?_
    exact gw_ireturn d_Mo_addBorder_43 rfl h
  · have h := h.2 (of_decide_eq_true hc)
    refine gw_iload_n 2 d_Mo_addBorder_12 rfl rfl ?_
    refine gw_iconst d_Mo_addBorder_13 ?_
    refine gw_sipush d_Mo_addBorder_14 (by decide +kernel) ?_
    refine gw_invS (as := [.inl v2, .inl 1, .inl 999]) (rest := []) (d' := (d + 3)) d_Mo_addBorder_17 lk_Mo_47 rfl (Nat.le_of_ble_eq_true rfl) (Nat.le_of_ble_eq_true rfl) rfl rfl (s_Mo_in r2 ⟨by decide, by decide⟩ ⟨by decide, by decide⟩ ?_)
    show ga_W G (d + 4) mt_Mo_addBorder 20 [some (.inr 348), some (.inl v1), some (.inl v2), some (.inl v3), some (.inl v4), none, none] [.inl (ga_bb (decide ((1 : Int) ≤ v2 ∧ v2 ≤ (999 : Int))))] I1 E
    refine gw_ifb_eq 41 d_Mo_addBorder_20 (by decide) (fun hc => ?_) (fun hc => ?_)
    · have h := h.1 (of_decide_eq_false hc)
      refine gw_ldc (n := (-2000000001)) d_Mo_addBorder_41 kw_Mo_112 (by decide +kernel) ?_
      exact gw_ireturn d_Mo_addBorder_43 rfl h
    · have h := h.2 (of_decide_eq_true hc)
      refine gw_iload_n 3 d_Mo_addBorder_23 rfl rfl ?_
      refine gw_iload 4 d_Mo_addBorder_24 rfl ?_
      refine gw_invS (as := [.inl v3, .inl v4]) (rest := []) (d' := (d + 3)) d_Mo_addBorder_26 lk_Mo_105 rfl (Nat.le_of_ble_eq_true rfl) (Nat.le_of_ble_eq_true rfl) rfl rfl (s_Mo_isReach r3 r4 ?_)
      show ga_W G (d + 4) mt_Mo_addBorder 29 [some (.inr 348), some (.inl v1), some (.inl v2), some (.inl v3), some (.inl v4), none, none] [.inl (ga_bb (decide ((0 ≤ v3 ∧ v3 ≤ 1) ∧ (v3 ≤ v4 ∧ v4 ≤ 100))))] I1 E
      refine gw_ifb_eq 41 d_Mo_addBorder_29 (by decide) (fun hc => ?_) (fun hc => ?_)
      · have h := h.1 (of_decide_eq_false hc)
        refine gw_ldc (n := (-2000000001)) d_Mo_addBorder_41 kw_Mo_112 (by decide +kernel) ?_
        exact gw_ireturn d_Mo_addBorder_43 rfl h
      · have h := h.2 (of_decide_eq_true hc)
        refine gw_iload_n 2 d_Mo_addBorder_32 rfl rfl ?_
        refine gw_iload 4 d_Mo_addBorder_33 rfl ?_
        obtain ⟨g1, h⟩ := h
        obtain ⟨g2, h⟩ := h
        refine gw_invS (as := [.inl v2, .inl v4]) (rest := []) (d' := (d + 3)) d_Mo_addBorder_35 lk_Mo_109 rfl (Nat.le_of_ble_eq_true rfl) (Nat.le_of_ble_eq_true rfl) rfl rfl (s_Mo_isInside g1 g2 ?_)
        show ga_W G (d + 4) mt_Mo_addBorder 38 [some (.inr 348), some (.inl v1), some (.inl v2), some (.inl v3), some (.inl v4), none, none] [.inl (ga_bb (decide (0 ≤ v2 - v4 ∧ v2 + v4 ≤ 1000)))] I1 E
        refine gw_ifb_ne 44 d_Mo_addBorder_38 (by decide) (fun hc => ?_) (fun hc => ?_)
        · have h := h.1 (of_decide_eq_true hc)
          refine gw_aload_n 0 d_Mo_addBorder_44 rfl rfl ?_
          refine gw_iload_n 1 d_Mo_addBorder_45 rfl rfl ?_
          refine gw_iload_n 2 d_Mo_addBorder_46 rfl rfl ?_
          refine gw_iload 4 d_Mo_addBorder_47 rfl ?_
          refine gw_ldc (n := (-2000000009)) d_Mo_addBorder_49 kw_Mo_67 (by decide +kernel) ?_
          obtain ⟨g3, h⟩ := h
          obtain ⟨g4, h⟩ := h
          obtain ⟨g5, h⟩ := h
          obtain ⟨g6, h⟩ := h
          refine gw_invV (as := [.inl v1, .inl v2, .inl v4, .inl (-2000000009)]) (k := 348) (rest := []) (d' := (d + 3)) d_Mo_addBorder_51 lk_Mo_113 (ga_rcv (ga_oM) rfl rfl) rfl (Nat.le_of_ble_eq_true rfl) (Nat.le_of_ble_eq_true rfl) rfl rfl (s_Mo_isOccupied g3 g4 g5 g6 ⟨by decide, by decide⟩ ?_)
          show ga_W G (d + 4) mt_Mo_addBorder 54 [some (.inr 348), some (.inl v1), some (.inl v2), some (.inl v3), some (.inl v4), none, none] [.inl (ga_bb (!gp_fr (ms_p (I1 349) v1) (ms_r (I1 349) v1) v2 v4 ((-2000000009) : Int) (ms_n (I1 349) v1).toNat))] I1 E
          refine gw_ifb_eq 60 d_Mo_addBorder_54 (by decide) (fun hc => ?_) (fun hc => ?_)
          · have h := h.1 (hc)
            refine gw_aload_n 0 d_Mo_addBorder_60 rfl rfl ?_
            refine gw_iload_n 1 d_Mo_addBorder_61 rfl rfl ?_
            refine gw_invV (as := [.inl v1]) (k := 348) (rest := []) (d' := (d + 3)) d_Mo_addBorder_62 lk_Mo_55 (ga_rcv (ga_oM) rfl rfl) rfl (Nat.le_of_ble_eq_true rfl) (Nat.le_of_ble_eq_true rfl) rfl rfl (s_Mo_borders g4 ?_)
            show ga_W G (d + 4) mt_Mo_addBorder 65 [some (.inr 348), some (.inl v1), some (.inl v2), some (.inl v3), some (.inl v4), none, none] [.inl (ms_n (I1 349) v1)] I1 E
            refine gw_bipush d_Mo_addBorder_65 (by decide +kernel) ?_
            refine gw_icmp_ne 73 d_Mo_addBorder_67 (by decide) (hI2 _ _) ⟨by decide, by decide⟩ (fun hc => ?_) (fun hc => ?_)
            · have h := h.1 hc
              refine gw_aload_n 0 d_Mo_addBorder_73 rfl rfl ?_
              obtain ⟨g7, h⟩ := h
              refine gw_invV (as := []) (k := 348) (rest := []) (d' := (d + 3)) d_Mo_addBorder_74 lk_Mo_119 (ga_rcv (ga_oM) rfl rfl) rfl (Nat.le_of_ble_eq_true rfl) (Nat.le_of_ble_eq_true rfl) rfl rfl (s_Mo_act g7 ?_)
              show ga_W G (d + 4) mt_Mo_addBorder 77 [some (.inr 348), some (.inl v1), some (.inl v2), some (.inl v3), some (.inl v4), none, none] [] (mx_ac I1) E
              refine gw_nm (fun I2 q2 => ?_)
              have h := h I2 q2
              refine gw_RG (fun hI3 => ?_)
              refine gw_aload_n 0 d_Mo_addBorder_77 rfl rfl ?_
              obtain ⟨g8, h⟩ := h
              refine gw_invV (as := []) (k := 348) (rest := []) (d' := (d + 3)) d_Mo_addBorder_78 lk_Mo_99 (ga_rcv (ga_oM) rfl rfl) rfl (Nat.le_of_ble_eq_true rfl) (Nat.le_of_ble_eq_true rfl) rfl rfl (s_Mo_allGains g8 ?_)
              show ga_W G (d + 4) mt_Mo_addBorder 81 [some (.inr 348), some (.inl v1), some (.inl v2), some (.inl v3), some (.inl v4), none, none] [.inl (gp_tt (mp_g3 (I2 349)) ((ms_n (I2 349) 0).toNat + 1) ((ms_n (I2 349) 1).toNat + 1))] I2 E
              refine gw_nz (z := gp_tt (mp_g3 (I2 349)) ((ms_n (I2 349) 0).toNat + 1) ((ms_n (I2 349) 1).toNat + 1)) (fun z1 q3 => ?_)
              have h := h z1 q3
              refine gw_istore 5 d_Mo_addBorder_81 (Nat.le_of_ble_eq_true rfl) rfl ?_
              refine gw_aload_n 0 d_Mo_addBorder_83 rfl rfl ?_
              refine gw_iload_n 1 d_Mo_addBorder_84 rfl rfl ?_
              refine gw_iload_n 2 d_Mo_addBorder_85 rfl rfl ?_
              refine gw_iload_n 3 d_Mo_addBorder_86 rfl rfl ?_
              refine gw_iload 4 d_Mo_addBorder_87 rfl ?_
              obtain ⟨g9, h⟩ := h
              obtain ⟨g10, h⟩ := h
              refine gw_invV (as := [.inl v1, .inl v2, .inl v3, .inl v4]) (k := 348) (rest := []) (d' := (d + 3)) d_Mo_addBorder_89 lk_Mo_122 (ga_rcv (ga_oM) rfl rfl) rfl (Nat.le_of_ble_eq_true rfl) (Nat.le_of_ble_eq_true rfl) rfl rfl (s_Mo_insert g9 g10 g4 r2 r3 r4 ?_)
              show ga_W G (d + 4) mt_Mo_addBorder 92 [some (.inr 348), some (.inl v1), some (.inl v2), some (.inl v3), some (.inl v4), some (.inl z1), none] [.inl (gp_st (ms_p (I2 349) v1) v2 (ms_n (I2 349) v1).toNat)] (ga_uc I2 349 (ns_in (I2 349) v1 (gp_st (ms_p (I2 349) v1) v2 (ms_n (I2 349) v1).toNat).toNat (ms_n (I2 349) v1).toNat v2 v3 v4)) E
              refine gw_nm (fun I3 q4 => ?_)
              have h := h I3 q4
              refine gw_RG (fun hI4 => ?_)
              refine gw_istore 6 d_Mo_addBorder_92 (Nat.le_of_ble_eq_true rfl) rfl ?_
              refine gw_aload_n 0 d_Mo_addBorder_94 rfl rfl ?_
              refine gw_iload 5 d_Mo_addBorder_95 rfl ?_
              obtain ⟨g11, h⟩ := h
              refine gw_invV (as := [.inl z1]) (k := 348) (rest := []) (d' := (d + 3)) d_Mo_addBorder_97 lk_Mo_126 (ga_rcv (ga_oM) rfl rfl) rfl (Nat.le_of_ble_eq_true rfl) (Nat.le_of_ble_eq_true rfl) rfl rfl (s_Mo_settle g11 ?_)
              show ga_W G (d + 4) mt_Mo_addBorder 100 [some (.inr 348), some (.inl v1), some (.inl v2), some (.inl v3), some (.inl v4), some (.inl z1), some (.inl (gp_st (ms_p (I2 349) v1) v2 (ms_n (I2 349) v1).toNat))] [] (ga_uc I3 349 (ns_st (I3 349) z1)) E
              refine gw_nm (fun I4 q5 => ?_)
              have h := h I4 q5
              refine gw_RG (fun hI5 => ?_)
              refine gw_iload 6 d_Mo_addBorder_100 rfl ?_
              exact gw_ireturn d_Mo_addBorder_102 rfl h
            · have h := h.2 hc
              refine gw_ldc (n := (-2000000003)) d_Mo_addBorder_70 kw_Mo_118 (by decide +kernel) ?_
              exact gw_ireturn d_Mo_addBorder_72 rfl h
          · have h := h.2 (hc)
            refine gw_ldc (n := (-2000000002)) d_Mo_addBorder_57 kw_Mo_117 (by decide +kernel) ?_
            exact gw_ireturn d_Mo_addBorder_59 rfl h
        · have h := h.2 (of_decide_eq_false hc)
          refine gw_ldc (n := (-2000000001)) d_Mo_addBorder_41 kw_Mo_112 (by decide +kernel) ?_
          exact gw_ireturn d_Mo_addBorder_43 rfl h

theorem k_Mo_removeBorder_0 {G : ga_G} {d : Nat} {I : ga_I} {E : Option ga_V → ga_I → Prop} {v1 : Int} {v2 : Int} (r1 : ga_rg v1) (r2 : ga_rg v2)
    (h : ga_RG I → (∀ I1 : ga_I, I1 = (ga_up I 348 0 0) → (mo_n I1) ∧ ((((0 ≤ v1 ∧ v1 ≤ 1) ∧ (0 ≤ v2 ∧ v2 < ms_n (I1 349) v1)) → (0 ≤ I1 348 4 ∧ I1 348 4 ≤ 5) ∧ ((∀ I2 : ga_I, I2 = (mx_ac I1) → (mo_n I2) ∧ ((∀ z1 : Int, z1 = gp_tt (mp_g3 (I2 349)) ((ms_n (I2 349) 0).toNat + 1) ((ms_n (I2 349) 1).toNat + 1) → (0 ≤ v1 ∧ v1 ≤ 1) ∧ (ga_W G (d + 4) mt_Mo_removeBorder 36 [some (.inr 348), some (.inl v1), some (.inl v2), some (.inl z1), some (.inl (ms_n (I2 349) v1)), some (.inl v2)] [] I2 E)))))) ∧ ((¬ ((0 ≤ v1 ∧ v1 ≤ 1) ∧ (0 ≤ v2 ∧ v2 < ms_n (I1 349) v1))) → E (some (.inl (-2000000001))) I1)))) :
    ga_W G (d + 4) mt_Mo_removeBorder 0 (ga_en 6 [.inr 348, .inl v1, .inl v2]) [] I E := by
  show ga_W G (d + 4) mt_Mo_removeBorder 0 [some (.inr 348), some (.inl v1), some (.inl v2), none, none, none] [] I E
  refine gw_RG (fun hI1 => ?_)
  have h := h hI1
  refine gw_aload_n 0 d_Mo_removeBorder_0 rfl rfl ?_
  refine gw_iconst d_Mo_removeBorder_1 ?_
  refine gw_putI d_Mo_removeBorder_2 fp_Mo_37 (ga_oM) rfl ?_
  show ga_W G (d + 4) mt_Mo_removeBorder 5 [some (.inr 348), some (.inl v1), some (.inl v2), none, none, none] [] (ga_up I 348 0 (ga_wr 0)) E
  rw [ga_wr_eq (z := 0) ⟨by decide, by decide⟩]
  refine gw_nm (J := (ga_up I 348 0 0)) (fun I1 q1 => ?_)
  have h := h I1 q1
  refine gw_RG (fun hI2 => ?_)
  refine gw_aload_n 0 d_Mo_removeBorder_5 rfl rfl ?_
  refine gw_iload_n 1 d_Mo_removeBorder_6 rfl rfl ?_
  refine gw_iload_n 2 d_Mo_removeBorder_7 rfl rfl ?_
  obtain ⟨g1, h⟩ := h
  refine gw_invV (as := [.inl v1, .inl v2]) (k := 348) (rest := []) (d' := (d + 3)) d_Mo_removeBorder_8 lk_Mo_130 (ga_rcv (ga_oM) rfl rfl) rfl (Nat.le_of_ble_eq_true rfl) (Nat.le_of_ble_eq_true rfl) rfl rfl (s_Mo_isBorder r1 r2 g1 ?_)
  show ga_W G (d + 4) mt_Mo_removeBorder 11 [some (.inr 348), some (.inl v1), some (.inl v2), none, none, none] [.inl (ga_bb (decide ((0 ≤ v1 ∧ v1 ≤ 1) ∧ (0 ≤ v2 ∧ v2 < ms_n (I1 349) v1))))] I1 E
  refine gw_ifb_ne 17 d_Mo_removeBorder_11 (by decide) (fun hc => ?_) (fun hc => ?_)
  · have h := h.1 (of_decide_eq_true hc)
    refine gw_aload_n 0 d_Mo_removeBorder_17 rfl rfl ?_
    obtain ⟨g2, h⟩ := h
    refine gw_invV (as := []) (k := 348) (rest := []) (d' := (d + 3)) d_Mo_removeBorder_18 lk_Mo_119 (ga_rcv (ga_oM) rfl rfl) rfl (Nat.le_of_ble_eq_true rfl) (Nat.le_of_ble_eq_true rfl) rfl rfl (s_Mo_act g2 ?_)
    show ga_W G (d + 4) mt_Mo_removeBorder 21 [some (.inr 348), some (.inl v1), some (.inl v2), none, none, none] [] (mx_ac I1) E
    refine gw_nm (fun I2 q2 => ?_)
    have h := h I2 q2
    refine gw_RG (fun hI3 => ?_)
    refine gw_aload_n 0 d_Mo_removeBorder_21 rfl rfl ?_
    obtain ⟨g3, h⟩ := h
    refine gw_invV (as := []) (k := 348) (rest := []) (d' := (d + 3)) d_Mo_removeBorder_22 lk_Mo_99 (ga_rcv (ga_oM) rfl rfl) rfl (Nat.le_of_ble_eq_true rfl) (Nat.le_of_ble_eq_true rfl) rfl rfl (s_Mo_allGains g3 ?_)
    show ga_W G (d + 4) mt_Mo_removeBorder 25 [some (.inr 348), some (.inl v1), some (.inl v2), none, none, none] [.inl (gp_tt (mp_g3 (I2 349)) ((ms_n (I2 349) 0).toNat + 1) ((ms_n (I2 349) 1).toNat + 1))] I2 E
    refine gw_nz (z := gp_tt (mp_g3 (I2 349)) ((ms_n (I2 349) 0).toNat + 1) ((ms_n (I2 349) 1).toNat + 1)) (fun z1 q3 => ?_)
    have h := h z1 q3
    refine gw_istore_n 3 d_Mo_removeBorder_25 rfl (Nat.le_of_ble_eq_true rfl) rfl ?_
    refine gw_aload_n 0 d_Mo_removeBorder_26 rfl rfl ?_
    refine gw_iload_n 1 d_Mo_removeBorder_27 rfl rfl ?_
    obtain ⟨g4, h⟩ := h
    refine gw_invV (as := [.inl v1]) (k := 348) (rest := []) (d' := (d + 3)) d_Mo_removeBorder_28 lk_Mo_55 (ga_rcv (ga_oM) rfl rfl) rfl (Nat.le_of_ble_eq_true rfl) (Nat.le_of_ble_eq_true rfl) rfl rfl (s_Mo_borders g4 ?_)
    show ga_W G (d + 4) mt_Mo_removeBorder 31 [some (.inr 348), some (.inl v1), some (.inl v2), some (.inl z1), none, none] [.inl (ms_n (I2 349) v1)] I2 E
    refine gw_istore 4 d_Mo_removeBorder_31 (Nat.le_of_ble_eq_true rfl) rfl ?_
    refine gw_iload_n 2 d_Mo_removeBorder_33 rfl rfl ?_
    refine gw_istore 5 d_Mo_removeBorder_34 (Nat.le_of_ble_eq_true rfl) rfl ?_
    exact gw_le h (by exact ⟨rfl, ⟨rfl, ⟨rfl, ⟨rfl, ⟨rfl, ⟨rfl, trivial⟩⟩⟩⟩⟩⟩)
  · have h := h.2 (of_decide_eq_false hc)
    refine gw_ldc (n := (-2000000001)) d_Mo_removeBorder_14 kw_Mo_112 (by decide +kernel) ?_
    exact gw_ireturn d_Mo_removeBorder_16 rfl h
theorem k_Mo_removeBorder_36 {G : ga_G} {d : Nat} {I : ga_I} {E : Option ga_V → ga_I → Prop} {v1 : Int} {v2 : Int} {v3 : Int} {v4 : Int} {v5 : Int} (r4 : ga_rg v4)
    (h : ga_RG I → (ga_rg (v5 + 1)) ∧ (((v4 ≤ (v5 + 1)) → ga_W G (d + 4) mt_Mo_removeBorder 93 [some (.inr 348), some (.inl v1), none, some (.inl v3), some (.inl v4), some (.inl (v2 + 1))] [] I E) ∧ ((¬ (v4 ≤ (v5 + 1))) → (0 ≤ v1 ∧ v1 ≤ 1) ∧ ((0 ≤ (v5 + 1) ∧ (v5 + 1) ≤ 6) ∧ ((0 ≤ (0 : Int) ∧ (0 : Int) ≤ 2) ∧ ((∀ z1 : Int, z1 = ms_b (I 349) v1 (v5 + 1) (0 : Int) → (0 ≤ (1 : Int) ∧ (1 : Int) ≤ 2) ∧ ((∀ z2 : Int, z2 = ms_b (I 349) v1 (v5 + 1) (1 : Int) → (0 ≤ (2 : Int) ∧ (2 : Int) ≤ 2) ∧ ((∀ z3 : Int, z3 = ms_b (I 349) v1 (v5 + 1) (2 : Int) → (0 ≤ v5 ∧ v5 ≤ 6) ∧ ((∀ I1 : ga_I, I1 = (mx_sb I v1 v5 z1 z2 z3) → ga_W G (d + 4) mt_Mo_removeBorder 36 [some (.inr 348), some (.inl v1), some (.inl v2), some (.inl v3), some (.inl v4), some (.inl (v5 + 1))] [] I1 E))))))))))))) :
    ga_W G (d + 4) mt_Mo_removeBorder 36 [some (.inr 348), some (.inl v1), some (.inl v2), some (.inl v3), some (.inl v4), some (.inl v5)] [] I E := by
  refine gw_RG (fun hI1 => ?_)
  have h := h hI1
  refine gw_iload 5 d_Mo_removeBorder_36 rfl ?_
  refine gw_iconst d_Mo_removeBorder_38 ?_
  refine gw_iadd d_Mo_removeBorder_39 ?_
  refine gw_iload 4 d_Mo_removeBorder_40 rfl ?_
  obtain ⟨g1, h⟩ := h
  refine gw_icmp_ge 88 d_Mo_removeBorder_42 (by decide) g1 r4 (fun hc => ?_) (fun hc => ?_)
  · have h := h.1 hc
    refine gw_iload_n 2 d_Mo_removeBorder_88 rfl rfl ?_
    refine gw_iconst d_Mo_removeBorder_89 ?_
    refine gw_iadd d_Mo_removeBorder_90 ?_
    refine gw_istore 5 d_Mo_removeBorder_91 (Nat.le_of_ble_eq_true rfl) rfl ?_
    exact gw_le h (by exact ⟨rfl, ⟨rfl, ⟨rfl, ⟨rfl, ⟨rfl, trivial⟩⟩⟩⟩⟩)
  · have h := h.2 hc
    refine gw_aload_n 0 d_Mo_removeBorder_45 rfl rfl ?_
    refine gw_iload_n 1 d_Mo_removeBorder_46 rfl rfl ?_
    refine gw_iload 5 d_Mo_removeBorder_47 rfl ?_
    refine gw_aload_n 0 d_Mo_removeBorder_49 rfl rfl ?_
    refine gw_iload_n 1 d_Mo_removeBorder_50 rfl rfl ?_
    refine gw_iload 5 d_Mo_removeBorder_51 rfl ?_
    refine gw_iconst d_Mo_removeBorder_53 ?_
    refine gw_iadd d_Mo_removeBorder_54 ?_
    refine gw_iconst d_Mo_removeBorder_55 ?_
    obtain ⟨g2, h⟩ := h
    obtain ⟨g3, h⟩ := h
    obtain ⟨g4, h⟩ := h
    refine gw_invV (as := [.inl v1, .inl (v5 + 1), .inl 0]) (k := 348) (rest := [.inl v5, .inl v1, .inr 348]) (d' := (d + 3)) d_Mo_removeBorder_56 lk_Mo_63 (ga_rcv (ga_oM) rfl rfl) rfl (Nat.le_of_ble_eq_true rfl) (Nat.le_of_ble_eq_true rfl) rfl rfl (s_Mo_ofBorder g2 g3 g4 ?_)
    show ga_W G (d + 4) mt_Mo_removeBorder 59 [some (.inr 348), some (.inl v1), some (.inl v2), some (.inl v3), some (.inl v4), some (.inl v5)] [.inl (ms_b (I 349) v1 (v5 + 1) (0 : Int)), .inl v5, .inl v1, .inr 348] I E
    refine gw_nz (z := ms_b (I 349) v1 (v5 + 1) (0 : Int)) (fun z1 q1 => ?_)
    have h := h z1 q1
    refine gw_aload_n 0 d_Mo_removeBorder_59 rfl rfl ?_
    refine gw_iload_n 1 d_Mo_removeBorder_60 rfl rfl ?_
    refine gw_iload 5 d_Mo_removeBorder_61 rfl ?_
    refine gw_iconst d_Mo_removeBorder_63 ?_
    refine gw_iadd d_Mo_removeBorder_64 ?_
    refine gw_iconst d_Mo_removeBorder_65 ?_
    obtain ⟨g5, h⟩ := h
    refine gw_invV (as := [.inl v1, .inl (v5 + 1), .inl 1]) (k := 348) (rest := [.inl z1, .inl v5, .inl v1, .inr 348]) (d' := (d + 3)) d_Mo_removeBorder_66 lk_Mo_63 (ga_rcv (ga_oM) rfl rfl) rfl (Nat.le_of_ble_eq_true rfl) (Nat.le_of_ble_eq_true rfl) rfl rfl (s_Mo_ofBorder g2 g3 g5 ?_)
    show ga_W G (d + 4) mt_Mo_removeBorder 69 [some (.inr 348), some (.inl v1), some (.inl v2), some (.inl v3), some (.inl v4), some (.inl v5)] [.inl (ms_b (I 349) v1 (v5 + 1) (1 : Int)), .inl z1, .inl v5, .inl v1, .inr 348] I E
    refine gw_nz (z := ms_b (I 349) v1 (v5 + 1) (1 : Int)) (fun z2 q2 => ?_)
    have h := h z2 q2
    refine gw_aload_n 0 d_Mo_removeBorder_69 rfl rfl ?_
    refine gw_iload_n 1 d_Mo_removeBorder_70 rfl rfl ?_
    refine gw_iload 5 d_Mo_removeBorder_71 rfl ?_
    refine gw_iconst d_Mo_removeBorder_73 ?_
    refine gw_iadd d_Mo_removeBorder_74 ?_
    refine gw_iconst d_Mo_removeBorder_75 ?_
    obtain ⟨g6, h⟩ := h
    refine gw_invV (as := [.inl v1, .inl (v5 + 1), .inl 2]) (k := 348) (rest := [.inl z2, .inl z1, .inl v5, .inl v1, .inr 348]) (d' := (d + 3)) d_Mo_removeBorder_76 lk_Mo_63 (ga_rcv (ga_oM) rfl rfl) rfl (Nat.le_of_ble_eq_true rfl) (Nat.le_of_ble_eq_true rfl) rfl rfl (s_Mo_ofBorder g2 g3 g6 ?_)
    show ga_W G (d + 4) mt_Mo_removeBorder 79 [some (.inr 348), some (.inl v1), some (.inl v2), some (.inl v3), some (.inl v4), some (.inl v5)] [.inl (ms_b (I 349) v1 (v5 + 1) (2 : Int)), .inl z2, .inl z1, .inl v5, .inl v1, .inr 348] I E
    refine gw_nz (z := ms_b (I 349) v1 (v5 + 1) (2 : Int)) (fun z3 q3 => ?_)
    have h := h z3 q3
    obtain ⟨g7, h⟩ := h
    refine gw_invV (as := [.inl v1, .inl v5, .inl z1, .inl z2, .inl z3]) (k := 348) (rest := []) (d' := (d + 3)) d_Mo_removeBorder_79 lk_Mo_92 (ga_rcv (ga_oM) rfl rfl) rfl (Nat.le_of_ble_eq_true rfl) (Nat.le_of_ble_eq_true rfl) rfl rfl (s_Mo_setBorder g2 g7 (by rw [q1]; exact (hI1 _ _)) (by rw [q2]; exact (hI1 _ _)) (by rw [q3]; exact (hI1 _ _)) ?_)
    show ga_W G (d + 4) mt_Mo_removeBorder 82 [some (.inr 348), some (.inl v1), some (.inl v2), some (.inl v3), some (.inl v4), some (.inl v5)] [] (mx_sb I v1 v5 z1 z2 z3) E
    refine gw_nm (fun I1 q4 => ?_)
    have h := h I1 q4
    refine gw_RG (fun hI2 => ?_)
    refine gw_iinc 5 d_Mo_removeBorder_82 rfl rfl ?_
    refine gw_goto 36 d_Mo_removeBorder_85 (by decide) ?_
    exact gw_le h (by exact ⟨rfl, ⟨rfl, ⟨rfl, ⟨rfl, ⟨rfl, ⟨rfl, trivial⟩⟩⟩⟩⟩⟩)
theorem k_Mo_removeBorder_93 {G : ga_G} {d : Nat} {I : ga_I} {E : Option ga_V → ga_I → Prop} {v1 : Int} {v3 : Int} {v4 : Int} {v5 : Int} (r1 : ga_rg v1) (r4 : ga_rg v4) (r5 : ga_rg v5)
    (h : ga_RG I → ((v4 ≤ v5) → (0 ≤ (0 + (19 * v1))) ∧ (((0 + (19 * v1)) < 1120) ∧ ((∀ I1 : ga_I, I1 = (ga_up I 349 (0 + (19 * v1)).toNat (ga_wr ((I 349 (0 + (19 * v1)).toNat) - 1))) → (mo_n I1) ∧ ((∀ I2 : ga_I, I2 = (ga_uc I1 349 (ns_st (I1 349) v3)) → (0 ≤ v1 ∧ v1 ≤ 1) ∧ (E (some (.inl (ms_n (I2 349) v1))) I2))))))) ∧ ((¬ (v4 ≤ v5)) → (0 ≤ (v5 + 1) ∧ (v5 + 1) < 7) ∧ ((0 ≤ v5 ∧ v5 < 7) ∧ (((v5 + 1) ≠ v5) ∧ ((∀ I3 : ga_I, I3 = (mx_re I (gp_sr v1 (v5 + 1).toNat v5.toNat 7)) → ga_W G (d + 4) mt_Mo_removeBorder 93 [some (.inr 348), some (.inl v1), none, some (.inl v3), some (.inl v4), some (.inl (v5 + 1))] [] I3 E)))))) :
    ga_W G (d + 4) mt_Mo_removeBorder 93 [some (.inr 348), some (.inl v1), none, some (.inl v3), some (.inl v4), some (.inl v5)] [] I E := by
  refine gw_RG (fun hI1 => ?_)
  have h := h hI1
  refine gw_iload 5 d_Mo_removeBorder_93 rfl ?_
  refine gw_iload 4 d_Mo_removeBorder_95 rfl ?_
  refine gw_icmp_ge 117 d_Mo_removeBorder_97 (by decide) r5 r4 (fun hc => ?_) (fun hc => ?_)
  · have h := h.1 hc
    refine gw_aload_n 0 d_Mo_removeBorder_117 rfl rfl ?_
    refine gw_getR d_Mo_removeBorder_118 fl_Mo_7 (ga_oM) rfl ?_
    refine gw_iconst d_Mo_removeBorder_121 ?_
    refine gw_bipush d_Mo_removeBorder_122 (by decide +kernel) ?_
    refine gw_iload_n 1 d_Mo_removeBorder_124 rfl rfl ?_
    refine gw_imul d_Mo_removeBorder_125 ?_
    refine gw_iadd d_Mo_removeBorder_126 ?_
    refine gw_dup2 d_Mo_removeBorder_127 ?_
    obtain ⟨g1, h⟩ := h
    obtain ⟨g2, h⟩ := h
    refine gw_iald d_Mo_removeBorder_128 (ga_aM1) g1 g2 ?_
    refine gw_iconst d_Mo_removeBorder_129 ?_
    refine gw_isub d_Mo_removeBorder_130 ?_
    refine gw_iast d_Mo_removeBorder_131 (ga_aM1) g1 g2 ?_
    refine gw_nm (J := (ga_up I 349 (0 + (19 * v1)).toNat (ga_wr ((I 349 (0 + (19 * v1)).toNat) - 1)))) (fun I1 q1 => ?_)
    have h := h I1 q1
    refine gw_RG (fun hI2 => ?_)
    refine gw_aload_n 0 d_Mo_removeBorder_132 rfl rfl ?_
    refine gw_iload_n 3 d_Mo_removeBorder_133 rfl rfl ?_
    obtain ⟨g3, h⟩ := h
    refine gw_invV (as := [.inl v3]) (k := 348) (rest := []) (d' := (d + 3)) d_Mo_removeBorder_134 lk_Mo_126 (ga_rcv (ga_oM) rfl rfl) rfl (Nat.le_of_ble_eq_true rfl) (Nat.le_of_ble_eq_true rfl) rfl rfl (s_Mo_settle g3 ?_)
    show ga_W G (d + 4) mt_Mo_removeBorder 137 [some (.inr 348), some (.inl v1), none, some (.inl v3), some (.inl v4), some (.inl v5)] [] (ga_uc I1 349 (ns_st (I1 349) v3)) E
    refine gw_nm (fun I2 q2 => ?_)
    have h := h I2 q2
    refine gw_RG (fun hI3 => ?_)
    refine gw_aload_n 0 d_Mo_removeBorder_137 rfl rfl ?_
    refine gw_iload_n 1 d_Mo_removeBorder_138 rfl rfl ?_
    obtain ⟨g4, h⟩ := h
    refine gw_invV (as := [.inl v1]) (k := 348) (rest := []) (d' := (d + 3)) d_Mo_removeBorder_139 lk_Mo_55 (ga_rcv (ga_oM) rfl rfl) rfl (Nat.le_of_ble_eq_true rfl) (Nat.le_of_ble_eq_true rfl) rfl rfl (s_Mo_borders g4 ?_)
    show ga_W G (d + 4) mt_Mo_removeBorder 142 [some (.inr 348), some (.inl v1), none, some (.inl v3), some (.inl v4), some (.inl v5)] [.inl (ms_n (I2 349) v1)] I2 E
    exact gw_ireturn d_Mo_removeBorder_142 rfl h
  · have h := h.2 hc
    refine gw_aload_n 0 d_Mo_removeBorder_100 rfl rfl ?_
    refine gw_iload_n 1 d_Mo_removeBorder_101 rfl rfl ?_
    refine gw_iload 5 d_Mo_removeBorder_102 rfl ?_
    refine gw_iconst d_Mo_removeBorder_104 ?_
    refine gw_iadd d_Mo_removeBorder_105 ?_
    refine gw_iload 5 d_Mo_removeBorder_106 rfl ?_
    obtain ⟨g5, h⟩ := h
    obtain ⟨g6, h⟩ := h
    obtain ⟨g7, h⟩ := h
    refine gw_invV (as := [.inl v1, .inl (v5 + 1), .inl v5]) (k := 348) (rest := []) (d' := (d + 3)) d_Mo_removeBorder_108 lk_Mo_96 (ga_rcv (ga_oM) rfl rfl) rfl (Nat.le_of_ble_eq_true rfl) (Nat.le_of_ble_eq_true rfl) rfl rfl (s_Mo_copyStrip r1 g5 g6 g7 ?_)
    show ga_W G (d + 4) mt_Mo_removeBorder 111 [some (.inr 348), some (.inl v1), none, some (.inl v3), some (.inl v4), some (.inl v5)] [] (mx_re I (gp_sr v1 (v5 + 1).toNat v5.toNat 7)) E
    refine gw_nm (fun I3 q3 => ?_)
    have h := h I3 q3
    refine gw_RG (fun hI4 => ?_)
    refine gw_iinc 5 d_Mo_removeBorder_111 rfl rfl ?_
    refine gw_goto 93 d_Mo_removeBorder_114 (by decide) ?_
    exact gw_le h (by exact ⟨rfl, ⟨rfl, ⟨rfl, ⟨rfl, ⟨rfl, trivial⟩⟩⟩⟩⟩)

theorem k_Mo_setReach_0 {G : ga_G} {d : Nat} {I : ga_I} {E : Option ga_V → ga_I → Prop} {v1 : Int} {v2 : Int} {v3 : Int} (r1 : ga_rg v1) (r2 : ga_rg v2) (r3 : ga_rg v3)
    (h : ga_RG I → (∀ I1 : ga_I, I1 = (ga_up I 348 0 0) → (mo_n I1) ∧ (((¬ ((0 ≤ v1 ∧ v1 ≤ 1) ∧ (0 ≤ v2 ∧ v2 < ms_n (I1 349) v1))) → E (some (.inl (-2000000001))) I1) ∧ (((0 ≤ v1 ∧ v1 ≤ 1) ∧ (0 ≤ v2 ∧ v2 < ms_n (I1 349) v1)) → (0 ≤ v1 ∧ v1 ≤ 1) ∧ ((0 ≤ v2 ∧ v2 ≤ 6) ∧ ((0 ≤ (1 : Int) ∧ (1 : Int) ≤ 2) ∧ ((∀ z1 : Int, z1 = ms_b (I1 349) v1 v2 (1 : Int) → ((¬ ((0 ≤ z1 ∧ z1 ≤ 1) ∧ (z1 ≤ v3 ∧ v3 ≤ 100))) → E (some (.inl (-2000000001))) I1) ∧ (((0 ≤ z1 ∧ z1 ≤ 1) ∧ (z1 ≤ v3 ∧ v3 ≤ 100)) → (0 ≤ (0 : Int) ∧ (0 : Int) ≤ 2) ∧ ((∀ z2 : Int, z2 = ms_b (I1 349) v1 v2 (0 : Int) → (ga_rg (z2 - v3)) ∧ ((ga_rg (z2 + v3)) ∧ (((0 ≤ z2 - v3 ∧ z2 + v3 ≤ 1000) → (∀ z3 : Int, z3 = ms_b (I1 349) v1 v2 (0 : Int) → (mo_ok I1 v1) ∧ ((-3000 ≤ z3 ∧ z3 ≤ 3000) ∧ ((-3000 ≤ v3 ∧ v3 ≤ 3000) ∧ ((((!gp_fr (ms_p (I1 349) v1) (ms_r (I1 349) v1) z3 v3 v2 (ms_n (I1 349) v1).toNat) = false) → (0 ≤ I1 348 4 ∧ I1 348 4 ≤ 5) ∧ ((∀ I2 : ga_I, I2 = (mx_ac I1) → (0 ≤ (2 : Int) ∧ (2 : Int) ≤ 2) ∧ ((∀ z4 : Int, z4 = ms_b (I2 349) v1 v2 (2 : Int) → (∀ z5 : Int, z5 = ms_b (I2 349) v1 v2 (0 : Int) → (∀ z6 : Int, z6 = ms_b (I2 349) v1 v2 (1 : Int) → (∀ I3 : ga_I, I3 = (mx_sb I2 v1 v2 z5 z6 v3) → (mo_n I3) ∧ ((∀ I4 : ga_I, I4 = (mx_fz I3) → E (some (.inl z4)) I4)))))))))) ∧ (((!gp_fr (ms_p (I1 349) v1) (ms_r (I1 349) v1) z3 v3 v2 (ms_n (I1 349) v1).toNat) = true) → E (some (.inl (-2000000002))) I1)))))) ∧ ((¬ (0 ≤ z2 - v3 ∧ z2 + v3 ≤ 1000)) → E (some (.inl (-2000000001))) I1)))))))))))))) :
    ga_W G (d + 3) mt_Mo_setReach 0 (ga_en 5 [.inr 348, .inl v1, .inl v2, .inl v3]) [] I E := by
  show ga_W G (d + 3) mt_Mo_setReach 0 [some (.inr 348), some (.inl v1), some (.inl v2), some (.inl v3), none] [] I E
  refine gw_RG (fun hI1 => ?_)
  have h := h hI1
  refine gw_aload_n 0 d_Mo_setReach_0 rfl rfl ?_
  refine gw_iconst d_Mo_setReach_1 ?_
  refine gw_putI d_Mo_setReach_2 fp_Mo_37 (ga_oM) rfl ?_
  show ga_W G (d + 3) mt_Mo_setReach 5 [some (.inr 348), some (.inl v1), some (.inl v2), some (.inl v3), none] [] (ga_up I 348 0 (ga_wr 0)) E
  rw [ga_wr_eq (z := 0) ⟨by decide, by decide⟩]
  refine gw_nm (J := (ga_up I 348 0 0)) (fun I1 q1 => ?_)
  have h := h I1 q1
  refine gw_RG (fun hI2 => ?_)
  refine gw_aload_n 0 d_Mo_setReach_5 rfl rfl ?_
  refine gw_iload_n 1 d_Mo_setReach_6 rfl rfl ?_
  refine gw_iload_n 2 d_Mo_setReach_7 rfl rfl ?_
  obtain ⟨g1, h⟩ := h
  refine gw_invV (as := [.inl v1, .inl v2]) (k := 348) (rest := []) (d' := (d + 2)) d_Mo_setReach_8 lk_Mo_130 (ga_rcv (ga_oM) rfl rfl) rfl (Nat.le_of_ble_eq_true rfl) (Nat.le_of_ble_eq_true rfl) rfl rfl (s_Mo_isBorder r1 r2 g1 ?_)
  show ga_W G (d + 3) mt_Mo_setReach 11 [some (.inr 348), some (.inl v1), some (.inl v2), some (.inl v3), none] [.inl (ga_bb (decide ((0 ≤ v1 ∧ v1 ≤ 1) ∧ (0 ≤ v2 ∧ v2 < ms_n (I1 349) v1))))] I1 E
  refine gw_ifb_eq 42 d_Mo_setReach_11 (by decide) (fun hc => ?_) (fun hc => ?_)
  · have h := h.1 (of_decide_eq_false hc)
    refine gw_ldc (n := (-2000000001)) d_Mo_setReach_42 kw_Mo_112 (by decide +kernel) ?_
    exact gw_ireturn d_Mo_setReach_44 rfl h
  · have h := h.2 (of_decide_eq_true hc)
    refine gw_aload_n 0 d_Mo_setReach_14 rfl rfl ?_
    refine gw_iload_n 1 d_Mo_setReach_15 rfl rfl ?_
    refine gw_iload_n 2 d_Mo_setReach_16 rfl rfl ?_
    refine gw_iconst d_Mo_setReach_17 ?_
    obtain ⟨g2, h⟩ := h
    obtain ⟨g3, h⟩ := h
    obtain ⟨g4, h⟩ := h
    refine gw_invV (as := [.inl v1, .inl v2, .inl 1]) (k := 348) (rest := []) (d' := (d + 2)) d_Mo_setReach_18 lk_Mo_63 (ga_rcv (ga_oM) rfl rfl) rfl (Nat.le_of_ble_eq_true rfl) (Nat.le_of_ble_eq_true rfl) rfl rfl (s_Mo_ofBorder g2 g3 g4 ?_)
    show ga_W G (d + 3) mt_Mo_setReach 21 [some (.inr 348), some (.inl v1), some (.inl v2), some (.inl v3), none] [.inl (ms_b (I1 349) v1 v2 (1 : Int))] I1 E
    refine gw_nz (z := ms_b (I1 349) v1 v2 (1 : Int)) (fun z1 q2 => ?_)
    have h := h z1 q2
    refine gw_iload_n 3 d_Mo_setReach_21 rfl rfl ?_
    refine gw_invS (as := [.inl z1, .inl v3]) (rest := []) (d' := (d + 2)) d_Mo_setReach_22 lk_Mo_105 rfl (Nat.le_of_ble_eq_true rfl) (Nat.le_of_ble_eq_true rfl) rfl rfl (s_Mo_isReach (by rw [q2]; exact (hI2 _ _)) r3 ?_)
    show ga_W G (d + 3) mt_Mo_setReach 25 [some (.inr 348), some (.inl v1), some (.inl v2), some (.inl v3), none] [.inl (ga_bb (decide ((0 ≤ z1 ∧ z1 ≤ 1) ∧ (z1 ≤ v3 ∧ v3 ≤ 100))))] I1 E
    refine gw_ifb_eq 42 d_Mo_setReach_25 (by decide) (fun hc => ?_) (fun hc => ?_)
    · have h := h.1 (of_decide_eq_false hc)
      refine gw_ldc (n := (-2000000001)) d_Mo_setReach_42 kw_Mo_112 (by decide +kernel) ?_
      exact gw_ireturn d_Mo_setReach_44 rfl h
    · have h := h.2 (of_decide_eq_true hc)
      refine gw_aload_n 0 d_Mo_setReach_28 rfl rfl ?_
      refine gw_iload_n 1 d_Mo_setReach_29 rfl rfl ?_
      refine gw_iload_n 2 d_Mo_setReach_30 rfl rfl ?_
      refine gw_iconst d_Mo_setReach_31 ?_
      obtain ⟨g5, h⟩ := h
      refine gw_invV (as := [.inl v1, .inl v2, .inl 0]) (k := 348) (rest := []) (d' := (d + 2)) d_Mo_setReach_32 lk_Mo_63 (ga_rcv (ga_oM) rfl rfl) rfl (Nat.le_of_ble_eq_true rfl) (Nat.le_of_ble_eq_true rfl) rfl rfl (s_Mo_ofBorder g2 g3 g5 ?_)
      show ga_W G (d + 3) mt_Mo_setReach 35 [some (.inr 348), some (.inl v1), some (.inl v2), some (.inl v3), none] [.inl (ms_b (I1 349) v1 v2 (0 : Int))] I1 E
      refine gw_nz (z := ms_b (I1 349) v1 v2 (0 : Int)) (fun z2 q3 => ?_)
      have h := h z2 q3
      refine gw_iload_n 3 d_Mo_setReach_35 rfl rfl ?_
      obtain ⟨g6, h⟩ := h
      obtain ⟨g7, h⟩ := h
      refine gw_invS (as := [.inl z2, .inl v3]) (rest := []) (d' := (d + 2)) d_Mo_setReach_36 lk_Mo_109 rfl (Nat.le_of_ble_eq_true rfl) (Nat.le_of_ble_eq_true rfl) rfl rfl (s_Mo_isInside g6 g7 ?_)
      show ga_W G (d + 3) mt_Mo_setReach 39 [some (.inr 348), some (.inl v1), some (.inl v2), some (.inl v3), none] [.inl (ga_bb (decide (0 ≤ z2 - v3 ∧ z2 + v3 ≤ 1000)))] I1 E
      refine gw_ifb_ne 45 d_Mo_setReach_39 (by decide) (fun hc => ?_) (fun hc => ?_)
      · have h := h.1 (of_decide_eq_true hc)
        refine gw_aload_n 0 d_Mo_setReach_45 rfl rfl ?_
        refine gw_iload_n 1 d_Mo_setReach_46 rfl rfl ?_
        refine gw_aload_n 0 d_Mo_setReach_47 rfl rfl ?_
        refine gw_iload_n 1 d_Mo_setReach_48 rfl rfl ?_
        refine gw_iload_n 2 d_Mo_setReach_49 rfl rfl ?_
        refine gw_iconst d_Mo_setReach_50 ?_
        refine gw_invV (as := [.inl v1, .inl v2, .inl 0]) (k := 348) (rest := [.inl v1, .inr 348]) (d' := (d + 2)) d_Mo_setReach_51 lk_Mo_63 (ga_rcv (ga_oM) rfl rfl) rfl (Nat.le_of_ble_eq_true rfl) (Nat.le_of_ble_eq_true rfl) rfl rfl (s_Mo_ofBorder g2 g3 g5 ?_)
        show ga_W G (d + 3) mt_Mo_setReach 54 [some (.inr 348), some (.inl v1), some (.inl v2), some (.inl v3), none] [.inl (ms_b (I1 349) v1 v2 (0 : Int)), .inl v1, .inr 348] I1 E
        refine gw_nz (z := ms_b (I1 349) v1 v2 (0 : Int)) (fun z3 q4 => ?_)
        have h := h z3 q4
        refine gw_iload_n 3 d_Mo_setReach_54 rfl rfl ?_
        refine gw_iload_n 2 d_Mo_setReach_55 rfl rfl ?_
        obtain ⟨g8, h⟩ := h
        obtain ⟨g9, h⟩ := h
        obtain ⟨g10, h⟩ := h
        refine gw_invV (as := [.inl v1, .inl z3, .inl v3, .inl v2]) (k := 348) (rest := []) (d' := (d + 2)) d_Mo_setReach_56 lk_Mo_113 (ga_rcv (ga_oM) rfl rfl) rfl (Nat.le_of_ble_eq_true rfl) (Nat.le_of_ble_eq_true rfl) rfl rfl (s_Mo_isOccupied g8 g2 g9 g10 r2 ?_)
        show ga_W G (d + 3) mt_Mo_setReach 59 [some (.inr 348), some (.inl v1), some (.inl v2), some (.inl v3), none] [.inl (ga_bb (!gp_fr (ms_p (I1 349) v1) (ms_r (I1 349) v1) z3 v3 v2 (ms_n (I1 349) v1).toNat))] I1 E
        refine gw_ifb_eq 65 d_Mo_setReach_59 (by decide) (fun hc => ?_) (fun hc => ?_)
        · have h := h.1 (hc)
          refine gw_aload_n 0 d_Mo_setReach_65 rfl rfl ?_
          obtain ⟨g11, h⟩ := h
          refine gw_invV (as := []) (k := 348) (rest := []) (d' := (d + 2)) d_Mo_setReach_66 lk_Mo_119 (ga_rcv (ga_oM) rfl rfl) rfl (Nat.le_of_ble_eq_true rfl) (Nat.le_of_ble_eq_true rfl) rfl rfl (s_Mo_act g11 ?_)
          show ga_W G (d + 3) mt_Mo_setReach 69 [some (.inr 348), some (.inl v1), some (.inl v2), some (.inl v3), none] [] (mx_ac I1) E
          refine gw_nm (fun I2 q5 => ?_)
          have h := h I2 q5
          refine gw_RG (fun hI3 => ?_)
          refine gw_aload_n 0 d_Mo_setReach_69 rfl rfl ?_
          refine gw_iload_n 1 d_Mo_setReach_70 rfl rfl ?_
          refine gw_iload_n 2 d_Mo_setReach_71 rfl rfl ?_
          refine gw_iconst d_Mo_setReach_72 ?_
          obtain ⟨g12, h⟩ := h
          refine gw_invV (as := [.inl v1, .inl v2, .inl 2]) (k := 348) (rest := []) (d' := (d + 2)) d_Mo_setReach_73 lk_Mo_63 (ga_rcv (ga_oM) rfl rfl) rfl (Nat.le_of_ble_eq_true rfl) (Nat.le_of_ble_eq_true rfl) rfl rfl (s_Mo_ofBorder g2 g3 g12 ?_)
          show ga_W G (d + 3) mt_Mo_setReach 76 [some (.inr 348), some (.inl v1), some (.inl v2), some (.inl v3), none] [.inl (ms_b (I2 349) v1 v2 (2 : Int))] I2 E
          refine gw_nz (z := ms_b (I2 349) v1 v2 (2 : Int)) (fun z4 q6 => ?_)
          have h := h z4 q6
          refine gw_istore 4 d_Mo_setReach_76 (Nat.le_of_ble_eq_true rfl) rfl ?_
          refine gw_aload_n 0 d_Mo_setReach_78 rfl rfl ?_
          refine gw_iload_n 1 d_Mo_setReach_79 rfl rfl ?_
          refine gw_iload_n 2 d_Mo_setReach_80 rfl rfl ?_
          refine gw_aload_n 0 d_Mo_setReach_81 rfl rfl ?_
          refine gw_iload_n 1 d_Mo_setReach_82 rfl rfl ?_
          refine gw_iload_n 2 d_Mo_setReach_83 rfl rfl ?_
          refine gw_iconst d_Mo_setReach_84 ?_
          refine gw_invV (as := [.inl v1, .inl v2, .inl 0]) (k := 348) (rest := [.inl v2, .inl v1, .inr 348]) (d' := (d + 2)) d_Mo_setReach_85 lk_Mo_63 (ga_rcv (ga_oM) rfl rfl) rfl (Nat.le_of_ble_eq_true rfl) (Nat.le_of_ble_eq_true rfl) rfl rfl (s_Mo_ofBorder g2 g3 g5 ?_)
          show ga_W G (d + 3) mt_Mo_setReach 88 [some (.inr 348), some (.inl v1), some (.inl v2), some (.inl v3), some (.inl z4)] [.inl (ms_b (I2 349) v1 v2 (0 : Int)), .inl v2, .inl v1, .inr 348] I2 E
          refine gw_nz (z := ms_b (I2 349) v1 v2 (0 : Int)) (fun z5 q7 => ?_)
          have h := h z5 q7
          refine gw_aload_n 0 d_Mo_setReach_88 rfl rfl ?_
          refine gw_iload_n 1 d_Mo_setReach_89 rfl rfl ?_
          refine gw_iload_n 2 d_Mo_setReach_90 rfl rfl ?_
          refine gw_iconst d_Mo_setReach_91 ?_
          refine gw_invV (as := [.inl v1, .inl v2, .inl 1]) (k := 348) (rest := [.inl z5, .inl v2, .inl v1, .inr 348]) (d' := (d + 2)) d_Mo_setReach_92 lk_Mo_63 (ga_rcv (ga_oM) rfl rfl) rfl (Nat.le_of_ble_eq_true rfl) (Nat.le_of_ble_eq_true rfl) rfl rfl (s_Mo_ofBorder g2 g3 g4 ?_)
          show ga_W G (d + 3) mt_Mo_setReach 95 [some (.inr 348), some (.inl v1), some (.inl v2), some (.inl v3), some (.inl z4)] [.inl (ms_b (I2 349) v1 v2 (1 : Int)), .inl z5, .inl v2, .inl v1, .inr 348] I2 E
          refine gw_nz (z := ms_b (I2 349) v1 v2 (1 : Int)) (fun z6 q8 => ?_)
          have h := h z6 q8
          refine gw_iload_n 3 d_Mo_setReach_95 rfl rfl ?_
          refine gw_invV (as := [.inl v1, .inl v2, .inl z5, .inl z6, .inl v3]) (k := 348) (rest := []) (d' := (d + 2)) d_Mo_setReach_96 lk_Mo_92 (ga_rcv (ga_oM) rfl rfl) rfl (Nat.le_of_ble_eq_true rfl) (Nat.le_of_ble_eq_true rfl) rfl rfl (s_Mo_setBorder g2 g3 (by rw [q7]; exact (hI3 _ _)) (by rw [q8]; exact (hI3 _ _)) r3 ?_)
          show ga_W G (d + 3) mt_Mo_setReach 99 [some (.inr 348), some (.inl v1), some (.inl v2), some (.inl v3), some (.inl z4)] [] (mx_sb I2 v1 v2 z5 z6 v3) E
          refine gw_nm (fun I3 q9 => ?_)
          have h := h I3 q9
          refine gw_RG (fun hI4 => ?_)
          refine gw_aload_n 0 d_Mo_setReach_99 rfl rfl ?_
          obtain ⟨g13, h⟩ := h
          refine gw_invV (as := []) (k := 348) (rest := []) (d' := (d + 2)) d_Mo_setReach_100 lk_Mo_102 (ga_rcv (ga_oM) rfl rfl) rfl (Nat.le_of_ble_eq_true rfl) (Nat.le_of_ble_eq_true rfl) rfl rfl (s_Mo_findZones g13 ?_)
          show ga_W G (d + 3) mt_Mo_setReach 103 [some (.inr 348), some (.inl v1), some (.inl v2), some (.inl v3), some (.inl z4)] [] (mx_fz I3) E
          refine gw_nm (fun I4 q10 => ?_)
          have h := h I4 q10
          refine gw_RG (fun hI5 => ?_)
          refine gw_iload 4 d_Mo_setReach_103 rfl ?_
          exact gw_ireturn d_Mo_setReach_105 rfl h
        · have h := h.2 (hc)
          refine gw_ldc (n := (-2000000002)) d_Mo_setReach_62 kw_Mo_117 (by decide +kernel) ?_
          exact gw_ireturn d_Mo_setReach_64 rfl h
      · have h := h.2 (of_decide_eq_false hc)
        refine gw_ldc (n := (-2000000001)) d_Mo_setReach_42 kw_Mo_112 (by decide +kernel) ?_
        exact gw_ireturn d_Mo_setReach_44 rfl h

theorem k_Mo_setOperator_0 {G : ga_G} {d : Nat} {I : ga_I} {E : Option ga_V → ga_I → Prop} {v1 : Int} {v2 : Int} {v3 : Int} (r1 : ga_rg v1) (r2 : ga_rg v2) (r3 : ga_rg v3)
    (h : ga_RG I → (∀ I1 : ga_I, I1 = (ga_up I 348 0 0) → ((v2 ≠ 0) → ((v2 ≠ 1) → ((¬ (0 ≤ v1 ∧ v1 ≤ 2)) → E (some (.inl (-2000000001))) I1) ∧ ((0 ≤ v1 ∧ v1 ≤ 2) → (((0 : Int) ≠ 0) → (0 ≤ I1 348 4 ∧ I1 348 4 ≤ 5) ∧ ((∀ I2 : ga_I, I2 = (mx_ac I1) → (0 ≤ ((241 + (3 * v1)) + v2)) ∧ ((((241 + (3 * v1)) + v2) < 1120) ∧ ((∀ I3 : ga_I, I3 = (ga_up I2 349 ((241 + (3 * v1)) + v2).toNat (ga_wr v3)) → E (some (.inl (I2 349 ((241 + (3 * v1)) + v2).toNat))) I3)))))) ∧ (((0 : Int) = 0) → E (some (.inl (-2000000001))) I1))) ∧ ((v2 = 1) → ((¬ ((0 : Int) ≤ v3 ∧ v3 ≤ (99999 : Int))) → ((¬ (0 ≤ v1 ∧ v1 ≤ 2)) → E (some (.inl (-2000000001))) I1) ∧ ((0 ≤ v1 ∧ v1 ≤ 2) → (((0 : Int) ≠ 0) → (0 ≤ I1 348 4 ∧ I1 348 4 ≤ 5) ∧ ((∀ I4 : ga_I, I4 = (mx_ac I1) → (0 ≤ ((241 + (3 * v1)) + v2)) ∧ ((((241 + (3 * v1)) + v2) < 1120) ∧ ((∀ I5 : ga_I, I5 = (ga_up I4 349 ((241 + (3 * v1)) + v2).toNat v3) → E (some (.inl (I4 349 ((241 + (3 * v1)) + v2).toNat))) I5)))))) ∧ (((0 : Int) = 0) → E (some (.inl (-2000000001))) I1))) ∧ (((0 : Int) ≤ v3 ∧ v3 ≤ (99999 : Int)) → ((¬ (0 ≤ v1 ∧ v1 ≤ 2)) → E (some (.inl (-2000000001))) I1) ∧ ((0 ≤ v1 ∧ v1 ≤ 2) → (((1 : Int) ≠ 0) → (0 ≤ I1 348 4 ∧ I1 348 4 ≤ 5) ∧ ((∀ I6 : ga_I, I6 = (mx_ac I1) → (0 ≤ ((241 + (3 * v1)) + v2)) ∧ ((((241 + (3 * v1)) + v2) < 1120) ∧ ((∀ I7 : ga_I, I7 = (ga_up I6 349 ((241 + (3 * v1)) + v2).toNat v3) → E (some (.inl (I6 349 ((241 + (3 * v1)) + v2).toNat))) I7)))))) ∧ (((1 : Int) = 0) → E (some (.inl (-2000000001))) I1))))) ∧ ((v2 = 0) → ((¬ (0 ≤ v1 ∧ v1 ≤ 2)) → E (some (.inl (-2000000001))) I1) ∧ ((0 ≤ v1 ∧ v1 ≤ 2) → (((1 : Int) ≤ v3 ∧ v3 ≤ (9999 : Int)) → (0 ≤ I1 348 4 ∧ I1 348 4 ≤ 5) ∧ ((∀ I8 : ga_I, I8 = (mx_ac I1) → (0 ≤ ((241 + (3 * v1)) + v2)) ∧ ((((241 + (3 * v1)) + v2) < 1120) ∧ ((∀ I9 : ga_I, I9 = (ga_up I8 349 ((241 + (3 * v1)) + v2).toNat v3) → E (some (.inl (I8 349 ((241 + (3 * v1)) + v2).toNat))) I9)))))) ∧ ((¬ ((1 : Int) ≤ v3 ∧ v3 ≤ (9999 : Int))) → E (some (.inl (-2000000001))) I1))))) :
    ga_W G (d + 2) mt_Mo_setOperator 0 (ga_en 6 [.inr 348, .inl v1, .inl v2, .inl v3]) [] I E := by
  show ga_W G (d + 2) mt_Mo_setOperator 0 [some (.inr 348), some (.inl v1), some (.inl v2), some (.inl v3), none, none] [] I E
  refine gw_RG (fun hI1 => ?_)
  have h := h hI1
  refine gw_aload_n 0 d_Mo_setOperator_0 rfl rfl ?_
  refine gw_iconst d_Mo_setOperator_1 ?_
  refine gw_putI d_Mo_setOperator_2 fp_Mo_37 (ga_oM) rfl ?_
  show ga_W G (d + 2) mt_Mo_setOperator 5 [some (.inr 348), some (.inl v1), some (.inl v2), some (.inl v3), none, none] [] (ga_up I 348 0 (ga_wr 0)) E
  rw [ga_wr_eq (z := 0) ⟨by decide, by decide⟩]
  refine gw_nm (J := (ga_up I 348 0 0)) (fun I1 q1 => ?_)
  have h := h I1 q1
  refine gw_RG (fun hI2 => ?_)
  refine gw_iload_n 2 d_Mo_setOperator_5 rfl rfl ?_
  refine gw_if_ne 20 d_Mo_setOperator_6 (by decide) r2 (fun hc => ?_) (fun hc => ?_)
  · have h := h.1 hc
    refine gw_iload_n 2 d_Mo_setOperator_20 rfl rfl ?_
    refine gw_iconst d_Mo_setOperator_21 ?_
    refine gw_icmp_ne 39 d_Mo_setOperator_22 (by decide) r2 ⟨by decide, by decide⟩ (fun hc => ?_) (fun hc => ?_)
    · have h := h.1 hc
      refine gw_iconst d_Mo_setOperator_39 ?_
      refine gw_istore 4 d_Mo_setOperator_40 (Nat.le_of_ble_eq_true rfl) rfl ?_
      refine gw_iload_n 1 d_Mo_setOperator_42 rfl rfl ?_
      refine gw_invS (as := [.inl v1]) (rest := []) (d' := (d + 1)) d_Mo_setOperator_43 lk_Mo_134 rfl (Nat.le_of_ble_eq_true rfl) (Nat.le_of_ble_eq_true rfl) rfl rfl (s_Mo_isOperator r1 ?_)
      show ga_W G (d + 2) mt_Mo_setOperator 46 [some (.inr 348), some (.inl v1), some (.inl v2), some (.inl v3), some (.inl 0), none] [.inl (ga_bb (decide (0 ≤ v1 ∧ v1 ≤ 2)))] I1 E
      refine gw_ifb_eq 54 d_Mo_setOperator_46 (by decide) (fun hc => ?_) (fun hc => ?_)
      · have h := h.1 (of_decide_eq_false hc)
        refine gw_ldc (n := (-2000000001)) d_Mo_setOperator_54 kw_Mo_112 (by decide +kernel) ?_
        exact gw_ireturn d_Mo_setOperator_56 rfl h
      · have h := h.2 (of_decide_eq_true hc)
        refine gw_iload 4 d_Mo_setOperator_49 rfl ?_
        refine gw_if_ne 57 d_Mo_setOperator_51 (by decide) ⟨by decide, by decide⟩ (fun hc => ?_) (fun hc => ?_)
        · have h := h.1 hc
          refine gw_aload_n 0 d_Mo_setOperator_57 rfl rfl ?_
          obtain ⟨g1, h⟩ := h
          refine gw_invV (as := []) (k := 348) (rest := []) (d' := (d + 1)) d_Mo_setOperator_58 lk_Mo_119 (ga_rcv (ga_oM) rfl rfl) rfl (Nat.le_of_ble_eq_true rfl) (Nat.le_of_ble_eq_true rfl) rfl rfl (s_Mo_act g1 ?_)
          show ga_W G (d + 2) mt_Mo_setOperator 61 [some (.inr 348), some (.inl v1), some (.inl v2), some (.inl v3), some (.inl 0), none] [] (mx_ac I1) E
          refine gw_nm (fun I2 q2 => ?_)
          have h := h I2 q2
          refine gw_RG (fun hI3 => ?_)
          refine gw_aload_n 0 d_Mo_setOperator_61 rfl rfl ?_
          refine gw_getR d_Mo_setOperator_62 fl_Mo_7 (ga_oM) rfl ?_
          refine gw_sipush d_Mo_setOperator_65 (by decide +kernel) ?_
          refine gw_iconst d_Mo_setOperator_68 ?_
          refine gw_iload_n 1 d_Mo_setOperator_69 rfl rfl ?_
          refine gw_imul d_Mo_setOperator_70 ?_
          refine gw_iadd d_Mo_setOperator_71 ?_
          refine gw_iload_n 2 d_Mo_setOperator_72 rfl rfl ?_
          refine gw_iadd d_Mo_setOperator_73 ?_
          obtain ⟨g2, h⟩ := h
          obtain ⟨g3, h⟩ := h
          refine gw_iald d_Mo_setOperator_74 (ga_aM1) g2 g3 ?_
          refine gw_istore 5 d_Mo_setOperator_75 (Nat.le_of_ble_eq_true rfl) rfl ?_
          refine gw_aload_n 0 d_Mo_setOperator_77 rfl rfl ?_
          refine gw_getR d_Mo_setOperator_78 fl_Mo_7 (ga_oM) rfl ?_
          refine gw_sipush d_Mo_setOperator_81 (by decide +kernel) ?_
          refine gw_iconst d_Mo_setOperator_84 ?_
          refine gw_iload_n 1 d_Mo_setOperator_85 rfl rfl ?_
          refine gw_imul d_Mo_setOperator_86 ?_
          refine gw_iadd d_Mo_setOperator_87 ?_
          refine gw_iload_n 2 d_Mo_setOperator_88 rfl rfl ?_
          refine gw_iadd d_Mo_setOperator_89 ?_
          refine gw_iload_n 3 d_Mo_setOperator_90 rfl rfl ?_
          refine gw_iast d_Mo_setOperator_91 (ga_aM1) g2 g3 ?_
          refine gw_nm (J := (ga_up I2 349 ((241 + (3 * v1)) + v2).toNat (ga_wr v3))) (fun I3 q3 => ?_)
          have h := h I3 q3
          refine gw_RG (fun hI4 => ?_)
          refine gw_iload 5 d_Mo_setOperator_92 rfl ?_
          exact gw_ireturn d_Mo_setOperator_94 rfl h
        · have h := h.2 hc
          refine gw_ldc (n := (-2000000001)) d_Mo_setOperator_54 kw_Mo_112 (by decide +kernel) ?_
          exact gw_ireturn d_Mo_setOperator_56 rfl h
    · have h := h.2 hc
      refine gw_iload_n 3 d_Mo_setOperator_25 rfl rfl ?_
      refine gw_iconst d_Mo_setOperator_26 ?_
      refine gw_ldc (n := 99999) d_Mo_setOperator_27 kw_Mo_133 (by decide +kernel) ?_
      refine gw_invS (as := [.inl v3, .inl 0, .inl 99999]) (rest := []) (d' := (d + 1)) d_Mo_setOperator_29 lk_Mo_47 rfl (Nat.le_of_ble_eq_true rfl) (Nat.le_of_ble_eq_true rfl) rfl rfl (s_Mo_in r3 ⟨by decide, by decide⟩ ⟨by decide, by decide⟩ ?_)
      show ga_W G (d + 2) mt_Mo_setOperator 32 [some (.inr 348), some (.inl v1), some (.inl v2), some (.inl v3), none, none] [.inl (ga_bb (decide ((0 : Int) ≤ v3 ∧ v3 ≤ (99999 : Int))))] I1 E
      refine gw_ifb_eq 39 d_Mo_setOperator_32 (by decide) (fun hc => ?_) (fun hc => ?_)
      · have h := h.1 (of_decide_eq_false hc)
        refine gw_iconst d_Mo_setOperator_39 ?_
        refine gw_istore 4 d_Mo_setOperator_40 (Nat.le_of_ble_eq_true rfl) rfl ?_
        refine gw_iload_n 1 d_Mo_setOperator_42 rfl rfl ?_
        refine gw_invS (as := [.inl v1]) (rest := []) (d' := (d + 1)) d_Mo_setOperator_43 lk_Mo_134 rfl (Nat.le_of_ble_eq_true rfl) (Nat.le_of_ble_eq_true rfl) rfl rfl (s_Mo_isOperator r1 ?_)
        show ga_W G (d + 2) mt_Mo_setOperator 46 [some (.inr 348), some (.inl v1), some (.inl v2), some (.inl v3), some (.inl 0), none] [.inl (ga_bb (decide (0 ≤ v1 ∧ v1 ≤ 2)))] I1 E
        refine gw_ifb_eq 54 d_Mo_setOperator_46 (by decide) (fun hc => ?_) (fun hc => ?_)
        · have h := h.1 (of_decide_eq_false hc)
          refine gw_ldc (n := (-2000000001)) d_Mo_setOperator_54 kw_Mo_112 (by decide +kernel) ?_
          exact gw_ireturn d_Mo_setOperator_56 rfl h
        · have h := h.2 (of_decide_eq_true hc)
          refine gw_iload 4 d_Mo_setOperator_49 rfl ?_
          refine gw_if_ne 57 d_Mo_setOperator_51 (by decide) ⟨by decide, by decide⟩ (fun hc => ?_) (fun hc => ?_)
          · have h := h.1 hc
            refine gw_aload_n 0 d_Mo_setOperator_57 rfl rfl ?_
            obtain ⟨g4, h⟩ := h
            refine gw_invV (as := []) (k := 348) (rest := []) (d' := (d + 1)) d_Mo_setOperator_58 lk_Mo_119 (ga_rcv (ga_oM) rfl rfl) rfl (Nat.le_of_ble_eq_true rfl) (Nat.le_of_ble_eq_true rfl) rfl rfl (s_Mo_act g4 ?_)
            show ga_W G (d + 2) mt_Mo_setOperator 61 [some (.inr 348), some (.inl v1), some (.inl v2), some (.inl v3), some (.inl 0), none] [] (mx_ac I1) E
            refine gw_nm (fun I4 q4 => ?_)
            have h := h I4 q4
            refine gw_RG (fun hI5 => ?_)
            refine gw_aload_n 0 d_Mo_setOperator_61 rfl rfl ?_
            refine gw_getR d_Mo_setOperator_62 fl_Mo_7 (ga_oM) rfl ?_
            refine gw_sipush d_Mo_setOperator_65 (by decide +kernel) ?_
            refine gw_iconst d_Mo_setOperator_68 ?_
            refine gw_iload_n 1 d_Mo_setOperator_69 rfl rfl ?_
            refine gw_imul d_Mo_setOperator_70 ?_
            refine gw_iadd d_Mo_setOperator_71 ?_
            refine gw_iload_n 2 d_Mo_setOperator_72 rfl rfl ?_
            refine gw_iadd d_Mo_setOperator_73 ?_
            obtain ⟨g5, h⟩ := h
            obtain ⟨g6, h⟩ := h
            refine gw_iald d_Mo_setOperator_74 (ga_aM1) g5 g6 ?_
            refine gw_istore 5 d_Mo_setOperator_75 (Nat.le_of_ble_eq_true rfl) rfl ?_
            refine gw_aload_n 0 d_Mo_setOperator_77 rfl rfl ?_
            refine gw_getR d_Mo_setOperator_78 fl_Mo_7 (ga_oM) rfl ?_
            refine gw_sipush d_Mo_setOperator_81 (by decide +kernel) ?_
            refine gw_iconst d_Mo_setOperator_84 ?_
            refine gw_iload_n 1 d_Mo_setOperator_85 rfl rfl ?_
            refine gw_imul d_Mo_setOperator_86 ?_
            refine gw_iadd d_Mo_setOperator_87 ?_
            refine gw_iload_n 2 d_Mo_setOperator_88 rfl rfl ?_
            refine gw_iadd d_Mo_setOperator_89 ?_
            refine gw_iload_n 3 d_Mo_setOperator_90 rfl rfl ?_
            refine gw_iast d_Mo_setOperator_91 (ga_aM1) g5 g6 ?_
            show ga_W G (d + 2) mt_Mo_setOperator 92 [some (.inr 348), some (.inl v1), some (.inl v2), some (.inl v3), some (.inl 0), some (.inl (I4 349 ((241 + (3 * v1)) + v2).toNat))] [] (ga_up I4 349 ((241 + (3 * v1)) + v2).toNat (ga_wr v3)) E
            rw [ga_wr_eq (z := v3) r3]
            refine gw_nm (J := (ga_up I4 349 ((241 + (3 * v1)) + v2).toNat v3)) (fun I5 q5 => ?_)
            have h := h I5 q5
            refine gw_RG (fun hI6 => ?_)
            refine gw_iload 5 d_Mo_setOperator_92 rfl ?_
            exact gw_ireturn d_Mo_setOperator_94 rfl h
          · have h := h.2 hc
            refine gw_ldc (n := (-2000000001)) d_Mo_setOperator_54 kw_Mo_112 (by decide +kernel) ?_
            exact gw_ireturn d_Mo_setOperator_56 rfl h
      · have h := h.2 (of_decide_eq_true hc)
        refine gw_iconst d_Mo_setOperator_35 ?_
        refine gw_goto 40 d_Mo_setOperator_36 (by decide) ?_
        refine gw_istore 4 d_Mo_setOperator_40 (Nat.le_of_ble_eq_true rfl) rfl ?_
        refine gw_iload_n 1 d_Mo_setOperator_42 rfl rfl ?_
        refine gw_invS (as := [.inl v1]) (rest := []) (d' := (d + 1)) d_Mo_setOperator_43 lk_Mo_134 rfl (Nat.le_of_ble_eq_true rfl) (Nat.le_of_ble_eq_true rfl) rfl rfl (s_Mo_isOperator r1 ?_)
        show ga_W G (d + 2) mt_Mo_setOperator 46 [some (.inr 348), some (.inl v1), some (.inl v2), some (.inl v3), some (.inl 1), none] [.inl (ga_bb (decide (0 ≤ v1 ∧ v1 ≤ 2)))] I1 E
        refine gw_ifb_eq 54 d_Mo_setOperator_46 (by decide) (fun hc => ?_) (fun hc => ?_)
        · have h := h.1 (of_decide_eq_false hc)
          refine gw_ldc (n := (-2000000001)) d_Mo_setOperator_54 kw_Mo_112 (by decide +kernel) ?_
          exact gw_ireturn d_Mo_setOperator_56 rfl h
        · have h := h.2 (of_decide_eq_true hc)
          refine gw_iload 4 d_Mo_setOperator_49 rfl ?_
          refine gw_if_ne 57 d_Mo_setOperator_51 (by decide) ⟨by decide, by decide⟩ (fun hc => ?_) (fun hc => ?_)
          · have h := h.1 hc
            refine gw_aload_n 0 d_Mo_setOperator_57 rfl rfl ?_
            obtain ⟨g7, h⟩ := h
            refine gw_invV (as := []) (k := 348) (rest := []) (d' := (d + 1)) d_Mo_setOperator_58 lk_Mo_119 (ga_rcv (ga_oM) rfl rfl) rfl (Nat.le_of_ble_eq_true rfl) (Nat.le_of_ble_eq_true rfl) rfl rfl (s_Mo_act g7 ?_)
            show ga_W G (d + 2) mt_Mo_setOperator 61 [some (.inr 348), some (.inl v1), some (.inl v2), some (.inl v3), some (.inl 1), none] [] (mx_ac I1) E
            refine gw_nm (fun I6 q6 => ?_)
            have h := h I6 q6
            refine gw_RG (fun hI7 => ?_)
            refine gw_aload_n 0 d_Mo_setOperator_61 rfl rfl ?_
            refine gw_getR d_Mo_setOperator_62 fl_Mo_7 (ga_oM) rfl ?_
            refine gw_sipush d_Mo_setOperator_65 (by decide +kernel) ?_
            refine gw_iconst d_Mo_setOperator_68 ?_
            refine gw_iload_n 1 d_Mo_setOperator_69 rfl rfl ?_
            refine gw_imul d_Mo_setOperator_70 ?_
            refine gw_iadd d_Mo_setOperator_71 ?_
            refine gw_iload_n 2 d_Mo_setOperator_72 rfl rfl ?_
            refine gw_iadd d_Mo_setOperator_73 ?_
            obtain ⟨g8, h⟩ := h
            obtain ⟨g9, h⟩ := h
            refine gw_iald d_Mo_setOperator_74 (ga_aM1) g8 g9 ?_
            refine gw_istore 5 d_Mo_setOperator_75 (Nat.le_of_ble_eq_true rfl) rfl ?_
            refine gw_aload_n 0 d_Mo_setOperator_77 rfl rfl ?_
            refine gw_getR d_Mo_setOperator_78 fl_Mo_7 (ga_oM) rfl ?_
            refine gw_sipush d_Mo_setOperator_81 (by decide +kernel) ?_
            refine gw_iconst d_Mo_setOperator_84 ?_
            refine gw_iload_n 1 d_Mo_setOperator_85 rfl rfl ?_
            refine gw_imul d_Mo_setOperator_86 ?_
            refine gw_iadd d_Mo_setOperator_87 ?_
            refine gw_iload_n 2 d_Mo_setOperator_88 rfl rfl ?_
            refine gw_iadd d_Mo_setOperator_89 ?_
            refine gw_iload_n 3 d_Mo_setOperator_90 rfl rfl ?_
            refine gw_iast d_Mo_setOperator_91 (ga_aM1) g8 g9 ?_
            show ga_W G (d + 2) mt_Mo_setOperator 92 [some (.inr 348), some (.inl v1), some (.inl v2), some (.inl v3), some (.inl 1), some (.inl (I6 349 ((241 + (3 * v1)) + v2).toNat))] [] (ga_up I6 349 ((241 + (3 * v1)) + v2).toNat (ga_wr v3)) E
            rw [ga_wr_eq (z := v3) r3]
            refine gw_nm (J := (ga_up I6 349 ((241 + (3 * v1)) + v2).toNat v3)) (fun I7 q7 => ?_)
            have h := h I7 q7
            refine gw_RG (fun hI8 => ?_)
            refine gw_iload 5 d_Mo_setOperator_92 rfl ?_
            exact gw_ireturn d_Mo_setOperator_94 rfl h
          · have h := h.2 hc
            refine gw_ldc (n := (-2000000001)) d_Mo_setOperator_54 kw_Mo_112 (by decide +kernel) ?_
            exact gw_ireturn d_Mo_setOperator_56 rfl h
  · have h := h.2 hc
    refine gw_iload_n 3 d_Mo_setOperator_9 rfl rfl ?_
    refine gw_iconst d_Mo_setOperator_10 ?_
    refine gw_sipush d_Mo_setOperator_11 (by decide +kernel) ?_
    refine gw_invS (as := [.inl v3, .inl 1, .inl 9999]) (rest := []) (d' := (d + 1)) d_Mo_setOperator_14 lk_Mo_47 rfl (Nat.le_of_ble_eq_true rfl) (Nat.le_of_ble_eq_true rfl) rfl rfl (s_Mo_in r3 ⟨by decide, by decide⟩ ⟨by decide, by decide⟩ ?_)
    show ga_W G (d + 2) mt_Mo_setOperator 17 [some (.inr 348), some (.inl v1), some (.inl v2), some (.inl v3), none, none] [.inl (ga_bb (decide ((1 : Int) ≤ v3 ∧ v3 ≤ (9999 : Int))))] I1 E
    refine gw_goto 40 d_Mo_setOperator_17 (by decide) ?_
    refine gw_istore 4 d_Mo_setOperator_40 (Nat.le_of_ble_eq_true rfl) rfl ?_
    refine gw_iload_n 1 d_Mo_setOperator_42 rfl rfl ?_
    refine gw_invS (as := [.inl v1]) (rest := []) (d' := (d + 1)) d_Mo_setOperator_43 lk_Mo_134 rfl (Nat.le_of_ble_eq_true rfl) (Nat.le_of_ble_eq_true rfl) rfl rfl (s_Mo_isOperator r1 ?_)
    show ga_W G (d + 2) mt_Mo_setOperator 46 [some (.inr 348), some (.inl v1), some (.inl v2), some (.inl v3), some (.inl (ga_bb (decide ((1 : Int) ≤ v3 ∧ v3 ≤ (9999 : Int))))), none] [.inl (ga_bb (decide (0 ≤ v1 ∧ v1 ≤ 2)))] I1 E
    refine gw_ifb_eq 54 d_Mo_setOperator_46 (by decide) (fun hc => ?_) (fun hc => ?_)
    · have h := h.1 (of_decide_eq_false hc)
      refine gw_ldc (n := (-2000000001)) d_Mo_setOperator_54 kw_Mo_112 (by decide +kernel) ?_
      exact gw_ireturn d_Mo_setOperator_56 rfl h
    · have h := h.2 (of_decide_eq_true hc)
      refine gw_iload 4 d_Mo_setOperator_49 rfl ?_
      refine gw_ifb_ne 57 d_Mo_setOperator_51 (by decide) (fun hc => ?_) (fun hc => ?_)
      · have h := h.1 (of_decide_eq_true hc)
        refine gw_aload_n 0 d_Mo_setOperator_57 rfl rfl ?_
        obtain ⟨g10, h⟩ := h
        refine gw_invV (as := []) (k := 348) (rest := []) (d' := (d + 1)) d_Mo_setOperator_58 lk_Mo_119 (ga_rcv (ga_oM) rfl rfl) rfl (Nat.le_of_ble_eq_true rfl) (Nat.le_of_ble_eq_true rfl) rfl rfl (s_Mo_act g10 ?_)
        show ga_W G (d + 2) mt_Mo_setOperator 61 [some (.inr 348), some (.inl v1), some (.inl v2), some (.inl v3), some (.inl (ga_bb (decide ((1 : Int) ≤ v3 ∧ v3 ≤ (9999 : Int))))), none] [] (mx_ac I1) E
        refine gw_nm (fun I8 q8 => ?_)
        have h := h I8 q8
        refine gw_RG (fun hI9 => ?_)
        refine gw_aload_n 0 d_Mo_setOperator_61 rfl rfl ?_
        refine gw_getR d_Mo_setOperator_62 fl_Mo_7 (ga_oM) rfl ?_
        refine gw_sipush d_Mo_setOperator_65 (by decide +kernel) ?_
        refine gw_iconst d_Mo_setOperator_68 ?_
        refine gw_iload_n 1 d_Mo_setOperator_69 rfl rfl ?_
        refine gw_imul d_Mo_setOperator_70 ?_
        refine gw_iadd d_Mo_setOperator_71 ?_
        refine gw_iload_n 2 d_Mo_setOperator_72 rfl rfl ?_
        refine gw_iadd d_Mo_setOperator_73 ?_
        obtain ⟨g11, h⟩ := h
        obtain ⟨g12, h⟩ := h
        refine gw_iald d_Mo_setOperator_74 (ga_aM1) g11 g12 ?_
        refine gw_istore 5 d_Mo_setOperator_75 (Nat.le_of_ble_eq_true rfl) rfl ?_
        refine gw_aload_n 0 d_Mo_setOperator_77 rfl rfl ?_
        refine gw_getR d_Mo_setOperator_78 fl_Mo_7 (ga_oM) rfl ?_
        refine gw_sipush d_Mo_setOperator_81 (by decide +kernel) ?_
        refine gw_iconst d_Mo_setOperator_84 ?_
        refine gw_iload_n 1 d_Mo_setOperator_85 rfl rfl ?_
        refine gw_imul d_Mo_setOperator_86 ?_
        refine gw_iadd d_Mo_setOperator_87 ?_
        refine gw_iload_n 2 d_Mo_setOperator_88 rfl rfl ?_
        refine gw_iadd d_Mo_setOperator_89 ?_
        refine gw_iload_n 3 d_Mo_setOperator_90 rfl rfl ?_
        refine gw_iast d_Mo_setOperator_91 (ga_aM1) g11 g12 ?_
        show ga_W G (d + 2) mt_Mo_setOperator 92 [some (.inr 348), some (.inl v1), some (.inl v2), some (.inl v3), some (.inl (ga_bb (decide ((1 : Int) ≤ v3 ∧ v3 ≤ (9999 : Int))))), some (.inl (I8 349 ((241 + (3 * v1)) + v2).toNat))] [] (ga_up I8 349 ((241 + (3 * v1)) + v2).toNat (ga_wr v3)) E
        rw [ga_wr_eq (z := v3) r3]
        refine gw_nm (J := (ga_up I8 349 ((241 + (3 * v1)) + v2).toNat v3)) (fun I9 q9 => ?_)
        have h := h I9 q9
        refine gw_RG (fun hI10 => ?_)
        refine gw_iload 5 d_Mo_setOperator_92 rfl ?_
        exact gw_ireturn d_Mo_setOperator_94 rfl h
      · have h := h.2 (of_decide_eq_false hc)
        refine gw_ldc (n := (-2000000001)) d_Mo_setOperator_54 kw_Mo_112 (by decide +kernel) ?_
        exact gw_ireturn d_Mo_setOperator_56 rfl h

theorem k_Mo_isEdit_0 {G : ga_G} {d : Nat} {I : ga_I} {E : Option ga_V → ga_I → Prop} {v1 : Int} {v2 : Int} {v3 : Int} {v4 : Int} {v5 : Int} (r1 : ga_rg v1) (r2 : ga_rg v2) (r3 : ga_rg v3) (r4 : ga_rg v4) (r5 : ga_rg v5)
    (h : ga_RG I → ((¬ (0 ≤ v1 ∧ v1 ≤ 2)) → E (some (.inl 0)) I) ∧ ((0 ≤ v1 ∧ v1 ≤ 2) → ((¬ ((0 ≤ v2 ∧ v2 ≤ ms_n (I 349) 0) ∧ (0 ≤ v3 ∧ v3 ≤ ms_n (I 349) 1))) → E (some (.inl 0)) I) ∧ (((0 ≤ v2 ∧ v2 ≤ ms_n (I 349) 0) ∧ (0 ≤ v3 ∧ v3 ≤ ms_n (I 349) 1)) → ((¬ ((0 : Int) ≤ v4 ∧ v4 ≤ (2 : Int))) → E (some (.inl 0)) I) ∧ (((0 : Int) ≤ v4 ∧ v4 ≤ (2 : Int)) → ((¬ ((0 : Int) ≤ v5 ∧ v5 ≤ (9999 : Int))) → E (some (.inl 0)) I) ∧ (((0 : Int) ≤ v5 ∧ v5 ≤ (9999 : Int)) → E (some (.inl 1)) I))))) :
    ga_W G (d + 2) mt_Mo_isEdit 0 (ga_en 6 [.inr 348, .inl v1, .inl v2, .inl v3, .inl v4, .inl v5]) [] I E := by
  show ga_W G (d + 2) mt_Mo_isEdit 0 [some (.inr 348), some (.inl v1), some (.inl v2), some (.inl v3), some (.inl v4), some (.inl v5)] [] I E
  refine gw_RG (fun hI1 => ?_)
  have h := h hI1
  refine gw_iload_n 1 d_Mo_isEdit_0 rfl rfl ?_
  refine gw_invS (as := [.inl v1]) (rest := []) (d' := (d + 1)) d_Mo_isEdit_1 lk_Mo_134 rfl (Nat.le_of_ble_eq_true rfl) (Nat.le_of_ble_eq_true rfl) rfl rfl (s_Mo_isOperator r1 ?_)
  show ga_W G (d + 2) mt_Mo_isEdit 4 [some (.inr 348), some (.inl v1), some (.inl v2), some (.inl v3), some (.inl v4), some (.inl v5)] [.inl (ga_bb (decide (0 ≤ v1 ∧ v1 ≤ 2)))] I E
  refine gw_ifb_eq 42 d_Mo_isEdit_4 (by decide) (fun hc => ?_) (fun hc => ?_)
  · have h := h.1 (of_decide_eq_false hc)
    refine gw_iconst d_Mo_isEdit_42 ?_
    exact gw_zreturn d_Mo_isEdit_43 rfl (by decide) h
  · have h := h.2 (of_decide_eq_true hc)
    refine gw_aload_n 0 d_Mo_isEdit_7 rfl rfl ?_
    refine gw_iload_n 2 d_Mo_isEdit_8 rfl rfl ?_
    refine gw_iload_n 3 d_Mo_isEdit_9 rfl rfl ?_
    refine gw_invV (as := [.inl v2, .inl v3]) (k := 348) (rest := []) (d' := (d + 1)) d_Mo_isEdit_10 lk_Mo_137 (ga_rcv (ga_oM) rfl rfl) rfl (Nat.le_of_ble_eq_true rfl) (Nat.le_of_ble_eq_true rfl) rfl rfl (s_Mo_isRegion r2 r3 ?_)
    show ga_W G (d + 2) mt_Mo_isEdit 13 [some (.inr 348), some (.inl v1), some (.inl v2), some (.inl v3), some (.inl v4), some (.inl v5)] [.inl (ga_bb (decide ((0 ≤ v2 ∧ v2 ≤ ms_n (I 349) 0) ∧ (0 ≤ v3 ∧ v3 ≤ ms_n (I 349) 1))))] I E
    refine gw_ifb_eq 42 d_Mo_isEdit_13 (by decide) (fun hc => ?_) (fun hc => ?_)
    · have h := h.1 (of_decide_eq_false hc)
      refine gw_iconst d_Mo_isEdit_42 ?_
      exact gw_zreturn d_Mo_isEdit_43 rfl (by decide) h
    · have h := h.2 (of_decide_eq_true hc)
      refine gw_iload 4 d_Mo_isEdit_16 rfl ?_
      refine gw_iconst d_Mo_isEdit_18 ?_
      refine gw_iconst d_Mo_isEdit_19 ?_
      refine gw_invS (as := [.inl v4, .inl 0, .inl 2]) (rest := []) (d' := (d + 1)) d_Mo_isEdit_20 lk_Mo_47 rfl (Nat.le_of_ble_eq_true rfl) (Nat.le_of_ble_eq_true rfl) rfl rfl (s_Mo_in r4 ⟨by decide, by decide⟩ ⟨by decide, by decide⟩ ?_)
      show ga_W G (d + 2) mt_Mo_isEdit 23 [some (.inr 348), some (.inl v1), some (.inl v2), some (.inl v3), some (.inl v4), some (.inl v5)] [.inl (ga_bb (decide ((0 : Int) ≤ v4 ∧ v4 ≤ (2 : Int))))] I E
      refine gw_ifb_eq 42 d_Mo_isEdit_23 (by decide) (fun hc => ?_) (fun hc => ?_)
      · have h := h.1 (of_decide_eq_false hc)
        refine gw_iconst d_Mo_isEdit_42 ?_
        exact gw_zreturn d_Mo_isEdit_43 rfl (by decide) h
      · have h := h.2 (of_decide_eq_true hc)
        refine gw_iload 5 d_Mo_isEdit_26 rfl ?_
        refine gw_iconst d_Mo_isEdit_28 ?_
        refine gw_sipush d_Mo_isEdit_29 (by decide +kernel) ?_
        refine gw_invS (as := [.inl v5, .inl 0, .inl 9999]) (rest := []) (d' := (d + 1)) d_Mo_isEdit_32 lk_Mo_47 rfl (Nat.le_of_ble_eq_true rfl) (Nat.le_of_ble_eq_true rfl) rfl rfl (s_Mo_in r5 ⟨by decide, by decide⟩ ⟨by decide, by decide⟩ ?_)
        show ga_W G (d + 2) mt_Mo_isEdit 35 [some (.inr 348), some (.inl v1), some (.inl v2), some (.inl v3), some (.inl v4), some (.inl v5)] [.inl (ga_bb (decide ((0 : Int) ≤ v5 ∧ v5 ≤ (9999 : Int))))] I E
        refine gw_ifb_eq 42 d_Mo_isEdit_35 (by decide) (fun hc => ?_) (fun hc => ?_)
        · have h := h.1 (of_decide_eq_false hc)
          refine gw_iconst d_Mo_isEdit_42 ?_
          exact gw_zreturn d_Mo_isEdit_43 rfl (by decide) h
        · have h := h.2 (of_decide_eq_true hc)
          refine gw_iconst d_Mo_isEdit_38 ?_
          refine gw_goto 43 d_Mo_isEdit_39 (by decide) ?_
          exact gw_zreturn d_Mo_isEdit_43 rfl (by decide) h

theorem k_Mo_edit_0 {G : ga_G} {d : Nat} {I : ga_I} {E : Option ga_V → ga_I → Prop} {v1 : Int} {v2 : Int} {v3 : Int} {v4 : Int} {v5 : Int} (r1 : ga_rg v1) (r2 : ga_rg v2) (r3 : ga_rg v3) (r4 : ga_rg v4) (r5 : ga_rg v5)
    (h : ga_RG I → (∀ I1 : ga_I, I1 = (ga_up I 348 0 0) → (((0 ≤ v1 ∧ v1 ≤ 2) ∧ ((0 ≤ v2 ∧ v2 ≤ ms_n (I1 349) 0) ∧ (0 ≤ v3 ∧ v3 ≤ ms_n (I1 349) 1)) ∧ (0 ≤ v4 ∧ v4 ≤ 2) ∧ (0 ≤ v5 ∧ v5 ≤ 9999)) → (0 ≤ v1 ∧ v1 ≤ 2) ∧ ((0 ≤ v2 ∧ v2 ≤ 6) ∧ ((0 ≤ v3 ∧ v3 ≤ 6) ∧ ((0 ≤ v4 ∧ v4 ≤ 2) ∧ ((0 ≤ v5 ∧ v5 ≤ 9999) ∧ ((mo_g I1) ∧ ((∀ z1 : Int, z1 = mp_ra (I1 349 (38 + 4 * (7 * v2 + v3) + 3).toNat) (I1 349 (38 + 4 * (7 * v2 + v3) + v4).toNat) (I1 349 (241 + 3 * v1).toNat) (I1 349 (241 + 3 * v1 + 1).toNat) v1 v5 → (ga_rg z1) ∧ (((z1 = 0) → (0 ≤ I1 348 4 ∧ I1 348 4 ≤ 5) ∧ ((∀ I2 : ga_I, I2 = (mx_ac I1) → (0 ≤ ((38 + 4 * (7 * v2 + v3)) + v4)) ∧ ((((38 + 4 * (7 * v2 + v3)) + v4) < 1120) ∧ ((mo_g I2) ∧ ((∀ I3 : ga_I, I3 = (mx_ch I2 v1 (38 + 4 * (7 * v2 + v3) + v4).toNat v5) → E (some (.inl (I2 349 ((38 + 4 * (7 * v2 + v3)) + v4).toNat))) I3))))))) ∧ ((¬ (z1 = 0)) → E (some (.inl (-2000000002))) I1)))))))))) ∧ ((¬ ((0 ≤ v1 ∧ v1 ≤ 2) ∧ ((0 ≤ v2 ∧ v2 ≤ ms_n (I1 349) 0) ∧ (0 ≤ v3 ∧ v3 ≤ ms_n (I1 349) 1)) ∧ (0 ≤ v4 ∧ v4 ≤ 2) ∧ (0 ≤ v5 ∧ v5 ≤ 9999))) → E (some (.inl (-2000000001))) I1))) :
    ga_W G (d + 3) mt_Mo_edit 0 (ga_en 7 [.inr 348, .inl v1, .inl v2, .inl v3, .inl v4, .inl v5]) [] I E := by
  show ga_W G (d + 3) mt_Mo_edit 0 [some (.inr 348), some (.inl v1), some (.inl v2), some (.inl v3), some (.inl v4), some (.inl v5), none] [] I E
  refine gw_RG (fun hI1 => ?_)
  have h := h hI1
  refine gw_aload_n 0 d_Mo_edit_0 rfl rfl ?_
  refine gw_iconst d_Mo_edit_1 ?_
  refine gw_putI d_Mo_edit_2 fp_Mo_37 (ga_oM) rfl ?_
  show ga_W G (d + 3) mt_Mo_edit 5 [some (.inr 348), some (.inl v1), some (.inl v2), some (.inl v3), some (.inl v4), some (.inl v5), none] [] (ga_up I 348 0 (ga_wr 0)) E
  rw [ga_wr_eq (z := 0) ⟨by decide, by decide⟩]
  refine gw_nm (J := (ga_up I 348 0 0)) (fun I1 q1 => ?_)
  have h := h I1 q1
  refine gw_RG (fun hI2 => ?_)
  refine gw_aload_n 0 d_Mo_edit_5 rfl rfl ?_
  refine gw_iload_n 1 d_Mo_edit_6 rfl rfl ?_
  refine gw_iload_n 2 d_Mo_edit_7 rfl rfl ?_
  refine gw_iload_n 3 d_Mo_edit_8 rfl rfl ?_
  refine gw_iload 4 d_Mo_edit_9 rfl ?_
  refine gw_iload 5 d_Mo_edit_11 rfl ?_
  refine gw_invV (as := [.inl v1, .inl v2, .inl v3, .inl v4, .inl v5]) (k := 348) (rest := []) (d' := (d + 2)) d_Mo_edit_13 lk_Mo_140 (ga_rcv (ga_oM) rfl rfl) rfl (Nat.le_of_ble_eq_true rfl) (Nat.le_of_ble_eq_true rfl) rfl rfl (s_Mo_isEdit r1 r2 r3 r4 r5 ?_)
  show ga_W G (d + 3) mt_Mo_edit 16 [some (.inr 348), some (.inl v1), some (.inl v2), some (.inl v3), some (.inl v4), some (.inl v5), none] [.inl (ga_bb (decide ((0 ≤ v1 ∧ v1 ≤ 2) ∧ ((0 ≤ v2 ∧ v2 ≤ ms_n (I1 349) 0) ∧ (0 ≤ v3 ∧ v3 ≤ ms_n (I1 349) 1)) ∧ (0 ≤ v4 ∧ v4 ≤ 2) ∧ (0 ≤ v5 ∧ v5 ≤ 9999))))] I1 E
  refine gw_ifb_ne 22 d_Mo_edit_16 (by decide) (fun hc => ?_) (fun hc => ?_)
  · have h := h.1 (of_decide_eq_true hc)
    refine gw_aload_n 0 d_Mo_edit_22 rfl rfl ?_
    refine gw_iload_n 1 d_Mo_edit_23 rfl rfl ?_
    refine gw_iload_n 2 d_Mo_edit_24 rfl rfl ?_
    refine gw_iload_n 3 d_Mo_edit_25 rfl rfl ?_
    refine gw_iload 4 d_Mo_edit_26 rfl ?_
    refine gw_iload 5 d_Mo_edit_28 rfl ?_
    obtain ⟨g1, h⟩ := h
    obtain ⟨g2, h⟩ := h
    obtain ⟨g3, h⟩ := h
    obtain ⟨g4, h⟩ := h
    obtain ⟨g5, h⟩ := h
    obtain ⟨g6, h⟩ := h
    refine gw_invV (as := [.inl v1, .inl v2, .inl v3, .inl v4, .inl v5]) (k := 348) (rest := []) (d' := (d + 2)) d_Mo_edit_30 lk_Mo_144 (ga_rcv (ga_oM) rfl rfl) rfl (Nat.le_of_ble_eq_true rfl) (Nat.le_of_ble_eq_true rfl) rfl rfl (s_Mo_refusalOf g1 g2 g3 g4 g5 g6 ?_)
    show ga_W G (d + 3) mt_Mo_edit 33 [some (.inr 348), some (.inl v1), some (.inl v2), some (.inl v3), some (.inl v4), some (.inl v5), none] [.inl (mp_ra (I1 349 (38 + 4 * (7 * v2 + v3) + 3).toNat) (I1 349 (38 + 4 * (7 * v2 + v3) + v4).toNat) (I1 349 (241 + 3 * v1).toNat) (I1 349 (241 + 3 * v1 + 1).toNat) v1 v5)] I1 E
    refine gw_nz (z := mp_ra (I1 349 (38 + 4 * (7 * v2 + v3) + 3).toNat) (I1 349 (38 + 4 * (7 * v2 + v3) + v4).toNat) (I1 349 (241 + 3 * v1).toNat) (I1 349 (241 + 3 * v1 + 1).toNat) v1 v5) (fun z1 q2 => ?_)
    have h := h z1 q2
    obtain ⟨g7, h⟩ := h
    refine gw_if_eq 39 d_Mo_edit_33 (by decide) g7 (fun hc => ?_) (fun hc => ?_)
    · have h := h.1 hc
      refine gw_aload_n 0 d_Mo_edit_39 rfl rfl ?_
      obtain ⟨g8, h⟩ := h
      refine gw_invV (as := []) (k := 348) (rest := []) (d' := (d + 2)) d_Mo_edit_40 lk_Mo_119 (ga_rcv (ga_oM) rfl rfl) rfl (Nat.le_of_ble_eq_true rfl) (Nat.le_of_ble_eq_true rfl) rfl rfl (s_Mo_act g8 ?_)
      show ga_W G (d + 3) mt_Mo_edit 43 [some (.inr 348), some (.inl v1), some (.inl v2), some (.inl v3), some (.inl v4), some (.inl v5), none] [] (mx_ac I1) E
      refine gw_nm (fun I2 q3 => ?_)
      have h := h I2 q3
      refine gw_RG (fun hI3 => ?_)
      refine gw_aload_n 0 d_Mo_edit_43 rfl rfl ?_
      refine gw_getR d_Mo_edit_44 fl_Mo_7 (ga_oM) rfl ?_
      refine gw_iload_n 2 d_Mo_edit_47 rfl rfl ?_
      refine gw_iload_n 3 d_Mo_edit_48 rfl rfl ?_
      refine gw_invS (as := [.inl v2, .inl v3]) (rest := [.inr 349]) (d' := (d + 2)) d_Mo_edit_49 lk_Mo_59 rfl (Nat.le_of_ble_eq_true rfl) (Nat.le_of_ble_eq_true rfl) rfl rfl (s_Mo_at  ?_)
      show ga_W G (d + 3) mt_Mo_edit 52 [some (.inr 348), some (.inl v1), some (.inl v2), some (.inl v3), some (.inl v4), some (.inl v5), none] [.inl (38 + 4 * (7 * v2 + v3)), .inr 349] I2 E
      refine gw_iload 4 d_Mo_edit_52 rfl ?_
      refine gw_iadd d_Mo_edit_54 ?_
      obtain ⟨g9, h⟩ := h
      obtain ⟨g10, h⟩ := h
      refine gw_iald d_Mo_edit_55 (ga_aM1) g9 g10 ?_
      refine gw_istore 6 d_Mo_edit_56 (Nat.le_of_ble_eq_true rfl) rfl ?_
      refine gw_aload_n 0 d_Mo_edit_58 rfl rfl ?_
      refine gw_iload_n 1 d_Mo_edit_59 rfl rfl ?_
      refine gw_iload_n 2 d_Mo_edit_60 rfl rfl ?_
      refine gw_iload_n 3 d_Mo_edit_61 rfl rfl ?_
      refine gw_iload 4 d_Mo_edit_62 rfl ?_
      refine gw_iload 5 d_Mo_edit_64 rfl ?_
      obtain ⟨g11, h⟩ := h
      refine gw_invV (as := [.inl v1, .inl v2, .inl v3, .inl v4, .inl v5]) (k := 348) (rest := []) (d' := (d + 2)) d_Mo_edit_66 lk_Mo_148 (ga_rcv (ga_oM) rfl rfl) rfl (Nat.le_of_ble_eq_true rfl) (Nat.le_of_ble_eq_true rfl) rfl rfl (s_Mo_change g1 g2 g3 g4 g5 g11 ?_)
      show ga_W G (d + 3) mt_Mo_edit 69 [some (.inr 348), some (.inl v1), some (.inl v2), some (.inl v3), some (.inl v4), some (.inl v5), some (.inl (I2 349 ((38 + 4 * (7 * v2 + v3)) + v4).toNat))] [] (mx_ch I2 v1 (38 + 4 * (7 * v2 + v3) + v4).toNat v5) E
      refine gw_nm (fun I3 q4 => ?_)
      have h := h I3 q4
      refine gw_RG (fun hI4 => ?_)
      refine gw_iload 6 d_Mo_edit_69 rfl ?_
      exact gw_ireturn d_Mo_edit_71 rfl h
    · have h := h.2 hc
      refine gw_ldc (n := (-2000000002)) d_Mo_edit_36 kw_Mo_117 (by decide +kernel) ?_
      exact gw_ireturn d_Mo_edit_38 rfl h
  · have h := h.2 (of_decide_eq_false hc)
    refine gw_ldc (n := (-2000000001)) d_Mo_edit_19 kw_Mo_112 (by decide +kernel) ?_
    exact gw_ireturn d_Mo_edit_21 rfl h

theorem k_Mo_scale_0 {G : ga_G} {d : Nat} {I : ga_I} {E : Option ga_V → ga_I → Prop} {v1 : Int} {v2 : Int} {v3 : Int} (r1 : ga_rg v1) (r2 : ga_rg v2) (r3 : ga_rg v3)
    (h : ga_RG I → (∀ I1 : ga_I, I1 = (ga_up I 348 0 0) → ((¬ (0 ≤ v1 ∧ v1 ≤ 2)) → E (some (.inl (-2000000001))) I1) ∧ ((0 ≤ v1 ∧ v1 ≤ 2) → ((¬ ((0 : Int) ≤ v2 ∧ v2 ≤ (2 : Int))) → E (some (.inl (-2000000001))) I1) ∧ (((0 : Int) ≤ v2 ∧ v2 ≤ (2 : Int)) → (((0 : Int) ≤ v3 ∧ v3 ≤ (1000 : Int)) → (0 ≤ I1 348 4 ∧ I1 348 4 ≤ 5) ∧ ((∀ I2 : ga_I, I2 = (mx_ac I1) → ga_W G (d + 2) mt_Mo_scale 45 [some (.inr 348), some (.inl v1), some (.inl v2), some (.inl v3), some (.inl 0), some (.inl 0), none, none] [] I2 E))) ∧ ((¬ ((0 : Int) ≤ v3 ∧ v3 ≤ (1000 : Int))) → E (some (.inl (-2000000001))) I1))))) :
    ga_W G (d + 2) mt_Mo_scale 0 (ga_en 8 [.inr 348, .inl v1, .inl v2, .inl v3]) [] I E := by
  show ga_W G (d + 2) mt_Mo_scale 0 [some (.inr 348), some (.inl v1), some (.inl v2), some (.inl v3), none, none, none, none] [] I E
  refine gw_RG (fun hI1 => ?_)
  have h := h hI1
  refine gw_aload_n 0 d_Mo_scale_0 rfl rfl ?_
  refine gw_iconst d_Mo_scale_1 ?_
  refine gw_putI d_Mo_scale_2 fp_Mo_37 (ga_oM) rfl ?_
  show ga_W G (d + 2) mt_Mo_scale 5 [some (.inr 348), some (.inl v1), some (.inl v2), some (.inl v3), none, none, none, none] [] (ga_up I 348 0 (ga_wr 0)) E
  rw [ga_wr_eq (z := 0) ⟨by decide, by decide⟩]
  refine gw_nm (J := (ga_up I 348 0 0)) (fun I1 q1 => ?_)
  have h := h I1 q1
  refine gw_RG (fun hI2 => ?_)
  refine gw_iload_n 1 d_Mo_scale_5 rfl rfl ?_
  refine gw_invS (as := [.inl v1]) (rest := []) (d' := (d + 1)) d_Mo_scale_6 lk_Mo_134 rfl (Nat.le_of_ble_eq_true rfl) (Nat.le_of_ble_eq_true rfl) rfl rfl (s_Mo_isOperator r1 ?_)
  show ga_W G (d + 2) mt_Mo_scale 9 [some (.inr 348), some (.inl v1), some (.inl v2), some (.inl v3), none, none, none, none] [.inl (ga_bb (decide (0 ≤ v1 ∧ v1 ≤ 2)))] I1 E
  refine gw_ifb_eq 32 d_Mo_scale_9 (by decide) (fun hc => ?_) (fun hc => ?_)
  · have h := h.1 (of_decide_eq_false hc)
    refine gw_ldc (n := (-2000000001)) d_Mo_scale_32 kw_Mo_112 (by decide +kernel) ?_
    exact gw_ireturn d_Mo_scale_34 rfl h
  · have h := h.2 (of_decide_eq_true hc)
    refine gw_iload_n 2 d_Mo_scale_12 rfl rfl ?_
    refine gw_iconst d_Mo_scale_13 ?_
    refine gw_iconst d_Mo_scale_14 ?_
    refine gw_invS (as := [.inl v2, .inl 0, .inl 2]) (rest := []) (d' := (d + 1)) d_Mo_scale_15 lk_Mo_47 rfl (Nat.le_of_ble_eq_true rfl) (Nat.le_of_ble_eq_true rfl) rfl rfl (s_Mo_in r2 ⟨by decide, by decide⟩ ⟨by decide, by decide⟩ ?_)
    show ga_W G (d + 2) mt_Mo_scale 18 [some (.inr 348), some (.inl v1), some (.inl v2), some (.inl v3), none, none, none, none] [.inl (ga_bb (decide ((0 : Int) ≤ v2 ∧ v2 ≤ (2 : Int))))] I1 E
    refine gw_ifb_eq 32 d_Mo_scale_18 (by decide) (fun hc => ?_) (fun hc => ?_)
    · have h := h.1 (of_decide_eq_false hc)
      refine gw_ldc (n := (-2000000001)) d_Mo_scale_32 kw_Mo_112 (by decide +kernel) ?_
      exact gw_ireturn d_Mo_scale_34 rfl h
    · have h := h.2 (of_decide_eq_true hc)
      refine gw_iload_n 3 d_Mo_scale_21 rfl rfl ?_
      refine gw_iconst d_Mo_scale_22 ?_
      refine gw_sipush d_Mo_scale_23 (by decide +kernel) ?_
      refine gw_invS (as := [.inl v3, .inl 0, .inl 1000]) (rest := []) (d' := (d + 1)) d_Mo_scale_26 lk_Mo_47 rfl (Nat.le_of_ble_eq_true rfl) (Nat.le_of_ble_eq_true rfl) rfl rfl (s_Mo_in r3 ⟨by decide, by decide⟩ ⟨by decide, by decide⟩ ?_)
      show ga_W G (d + 2) mt_Mo_scale 29 [some (.inr 348), some (.inl v1), some (.inl v2), some (.inl v3), none, none, none, none] [.inl (ga_bb (decide ((0 : Int) ≤ v3 ∧ v3 ≤ (1000 : Int))))] I1 E
      refine gw_ifb_ne 35 d_Mo_scale_29 (by decide) (fun hc => ?_) (fun hc => ?_)
      · have h := h.1 (of_decide_eq_true hc)
        refine gw_aload_n 0 d_Mo_scale_35 rfl rfl ?_
        obtain ⟨g1, h⟩ := h
        refine gw_invV (as := []) (k := 348) (rest := []) (d' := (d + 1)) d_Mo_scale_36 lk_Mo_119 (ga_rcv (ga_oM) rfl rfl) rfl (Nat.le_of_ble_eq_true rfl) (Nat.le_of_ble_eq_true rfl) rfl rfl (s_Mo_act g1 ?_)
        show ga_W G (d + 2) mt_Mo_scale 39 [some (.inr 348), some (.inl v1), some (.inl v2), some (.inl v3), none, none, none, none] [] (mx_ac I1) E
        refine gw_nm (fun I2 q2 => ?_)
        have h := h I2 q2
        refine gw_RG (fun hI3 => ?_)
        refine gw_iconst d_Mo_scale_39 ?_
        refine gw_istore 4 d_Mo_scale_40 (Nat.le_of_ble_eq_true rfl) rfl ?_
        refine gw_iconst d_Mo_scale_42 ?_
        refine gw_istore 5 d_Mo_scale_43 (Nat.le_of_ble_eq_true rfl) rfl ?_
        exact gw_le h (by exact ⟨rfl, ⟨rfl, ⟨rfl, ⟨rfl, ⟨rfl, ⟨rfl, trivial⟩⟩⟩⟩⟩⟩)
      · have h := h.2 (of_decide_eq_false hc)
        refine gw_ldc (n := (-2000000001)) d_Mo_scale_32 kw_Mo_112 (by decide +kernel) ?_
        exact gw_ireturn d_Mo_scale_34 rfl h
theorem k_Mo_scale_45 {G : ga_G} {d : Nat} {I : ga_I} {E : Option ga_V → ga_I → Prop} {v1 : Int} {v2 : Int} {v3 : Int} {v4 : Int} {v5 : Int} (r5 : ga_rg v5)
    (h : ga_RG I → (0 ≤ (0 : Int) ∧ (0 : Int) ≤ 1) ∧ ((((ms_n (I 349) (0 : Int)) < v5) → E (some (.inl v4)) I) ∧ ((¬ ((ms_n (I 349) (0 : Int)) < v5)) → ga_W G (d + 2) mt_Mo_scale 58 [some (.inr 348), some (.inl v1), some (.inl v2), some (.inl v3), some (.inl v4), some (.inl v5), some (.inl 0), none] [] I E))) :
    ga_W G (d + 2) mt_Mo_scale 45 [some (.inr 348), some (.inl v1), some (.inl v2), some (.inl v3), some (.inl v4), some (.inl v5), none, none] [] I E := by
  refine gw_RG (fun hI1 => ?_)
  have h := h hI1
  refine gw_iload 5 d_Mo_scale_45 rfl ?_
  refine gw_aload_n 0 d_Mo_scale_47 rfl rfl ?_
  refine gw_iconst d_Mo_scale_48 ?_
  obtain ⟨g1, h⟩ := h
  refine gw_invV (as := [.inl 0]) (k := 348) (rest := [.inl v5]) (d' := (d + 1)) d_Mo_scale_49 lk_Mo_55 (ga_rcv (ga_oM) rfl rfl) rfl (Nat.le_of_ble_eq_true rfl) (Nat.le_of_ble_eq_true rfl) rfl rfl (s_Mo_borders g1 ?_)
  show ga_W G (d + 2) mt_Mo_scale 52 [some (.inr 348), some (.inl v1), some (.inl v2), some (.inl v3), some (.inl v4), some (.inl v5), none, none] [.inl (ms_n (I 349) (0 : Int)), .inl v5] I E
  refine gw_icmp_gt 149 d_Mo_scale_52 (by decide) r5 (hI1 _ _) (fun hc => ?_) (fun hc => ?_)
  · have h := h.1 hc
    refine gw_iload 4 d_Mo_scale_149 rfl ?_
    exact gw_ireturn d_Mo_scale_151 rfl h
  · have h := h.2 hc
    refine gw_iconst d_Mo_scale_55 ?_
    refine gw_istore 6 d_Mo_scale_56 (Nat.le_of_ble_eq_true rfl) rfl ?_
    exact gw_le h (by exact ⟨rfl, ⟨rfl, ⟨rfl, ⟨rfl, ⟨rfl, ⟨rfl, ⟨rfl, trivial⟩⟩⟩⟩⟩⟩⟩)
theorem k_Mo_scale_58 {G : ga_G} {d : Nat} {I : ga_I} {E : Option ga_V → ga_I → Prop} {v1 : Int} {v2 : Int} {v3 : Int} {v4 : Int} {v5 : Int} {v6 : Int} (r6 : ga_rg v6)
    (h : ga_RG I → (0 ≤ (1 : Int) ∧ (1 : Int) ≤ 1) ∧ ((((ms_n (I 349) (1 : Int)) < v6) → ga_W G (d + 2) mt_Mo_scale 45 [some (.inr 348), some (.inl v1), some (.inl v2), some (.inl v3), some (.inl v4), some (.inl (v5 + 1)), none, none] [] I E) ∧ ((¬ ((ms_n (I 349) (1 : Int)) < v6)) → (0 ≤ ((38 + 4 * (7 * v5 + v6)) + v2)) ∧ ((((38 + 4 * (7 * v5 + v6)) + v2) < 1120) ∧ ((ga_rg ((I 349 ((38 + 4 * (7 * v5 + v6)) + v2).toNat) * v3)) ∧ ((ga_rg (Int.tdiv ((I 349 ((38 + 4 * (7 * v5 + v6)) + v2).toNat) * v3) 100)) ∧ ((((Int.tdiv ((I 349 ((38 + 4 * (7 * v5 + v6)) + v2).toNat) * v3) 100) ≤ 9999) → (0 ≤ v1 ∧ v1 ≤ 2) ∧ ((0 ≤ v5 ∧ v5 ≤ 6) ∧ ((0 ≤ v6 ∧ v6 ≤ 6) ∧ ((0 ≤ v2 ∧ v2 ≤ 2) ∧ ((0 ≤ (Int.tdiv ((I 349 ((38 + 4 * (7 * v5 + v6)) + v2).toNat) * v3) 100) ∧ (Int.tdiv ((I 349 ((38 + 4 * (7 * v5 + v6)) + v2).toNat) * v3) 100) ≤ 9999) ∧ ((mo_g I) ∧ ((∀ z1 : Int, z1 = mp_ra (I 349 (38 + 4 * (7 * v5 + v6) + 3).toNat) (I 349 (38 + 4 * (7 * v5 + v6) + v2).toNat) (I 349 (241 + 3 * v1).toNat) (I 349 (241 + 3 * v1 + 1).toNat) v1 (Int.tdiv ((I 349 ((38 + 4 * (7 * v5 + v6)) + v2).toNat) * v3) 100) → (ga_rg z1) ∧ (((z1 ≠ 0) → ga_W G (d + 2) mt_Mo_scale 58 [some (.inr 348), some (.inl v1), some (.inl v2), some (.inl v3), some (.inl v4), some (.inl v5), some (.inl (v6 + 1)), none] [] I E) ∧ ((z1 = 0) → (∀ I1 : ga_I, I1 = (mx_ch I v1 (38 + 4 * (7 * v5 + v6) + v2).toNat (Int.tdiv ((I 349 ((38 + 4 * (7 * v5 + v6)) + v2).toNat) * v3) 100)) → ga_W G (d + 2) mt_Mo_scale 58 [some (.inr 348), some (.inl v1), some (.inl v2), some (.inl v3), some (.inl (v4 + 1)), some (.inl v5), some (.inl (v6 + 1)), none] [] I1 E))))))))))) ∧ ((¬ ((Int.tdiv ((I 349 ((38 + 4 * (7 * v5 + v6)) + v2).toNat) * v3) 100) ≤ 9999)) → (0 ≤ v1 ∧ v1 ≤ 2) ∧ ((0 ≤ v5 ∧ v5 ≤ 6) ∧ ((0 ≤ v6 ∧ v6 ≤ 6) ∧ ((0 ≤ v2 ∧ v2 ≤ 2) ∧ ((0 ≤ (9999 : Int) ∧ (9999 : Int) ≤ 9999) ∧ ((mo_g I) ∧ ((∀ z2 : Int, z2 = mp_ra (I 349 (38 + 4 * (7 * v5 + v6) + 3).toNat) (I 349 (38 + 4 * (7 * v5 + v6) + v2).toNat) (I 349 (241 + 3 * v1).toNat) (I 349 (241 + 3 * v1 + 1).toNat) v1 (9999 : Int) → (ga_rg z2) ∧ (((z2 ≠ 0) → ga_W G (d + 2) mt_Mo_scale 58 [some (.inr 348), some (.inl v1), some (.inl v2), some (.inl v3), some (.inl v4), some (.inl v5), some (.inl (v6 + 1)), none] [] I E) ∧ ((z2 = 0) → (∀ I2 : ga_I, I2 = (mx_ch I v1 (38 + 4 * (7 * v5 + v6) + v2).toNat (9999 : Int)) → ga_W G (d + 2) mt_Mo_scale 58 [some (.inr 348), some (.inl v1), some (.inl v2), some (.inl v3), some (.inl (v4 + 1)), some (.inl v5), some (.inl (v6 + 1)), none] [] I2 E)))))))))))))))))) :
    ga_W G (d + 2) mt_Mo_scale 58 [some (.inr 348), some (.inl v1), some (.inl v2), some (.inl v3), some (.inl v4), some (.inl v5), some (.inl v6), none] [] I E := by
  refine gw_RG (fun hI1 => ?_)
  have h := h hI1
  refine gw_iload 6 d_Mo_scale_58 rfl ?_
  refine gw_aload_n 0 d_Mo_scale_60 rfl rfl ?_
  refine gw_iconst d_Mo_scale_61 ?_
  obtain ⟨g1, h⟩ := h
  refine gw_invV (as := [.inl 1]) (k := 348) (rest := [.inl v6]) (d' := (d + 1)) d_Mo_scale_62 lk_Mo_55 (ga_rcv (ga_oM) rfl rfl) rfl (Nat.le_of_ble_eq_true rfl) (Nat.le_of_ble_eq_true rfl) rfl rfl (s_Mo_borders g1 ?_)
  show ga_W G (d + 2) mt_Mo_scale 65 [some (.inr 348), some (.inl v1), some (.inl v2), some (.inl v3), some (.inl v4), some (.inl v5), some (.inl v6), none] [.inl (ms_n (I 349) (1 : Int)), .inl v6] I E
  refine gw_icmp_gt 143 d_Mo_scale_65 (by decide) r6 (hI1 _ _) (fun hc => ?_) (fun hc => ?_)
  · have h := h.1 hc
    refine gw_iinc 5 d_Mo_scale_143 rfl rfl ?_
    refine gw_goto 45 d_Mo_scale_146 (by decide) ?_
    exact gw_le h (by exact ⟨rfl, ⟨rfl, ⟨rfl, ⟨rfl, ⟨rfl, ⟨rfl, trivial⟩⟩⟩⟩⟩⟩)
  · have h := h.2 hc
    refine gw_aload_n 0 d_Mo_scale_68 rfl rfl ?_
    refine gw_getR d_Mo_scale_69 fl_Mo_7 (ga_oM) rfl ?_
    refine gw_iload 5 d_Mo_scale_72 rfl ?_
    refine gw_iload 6 d_Mo_scale_74 rfl ?_
    refine gw_invS (as := [.inl v5, .inl v6]) (rest := [.inr 349]) (d' := (d + 1)) d_Mo_scale_76 lk_Mo_59 rfl (Nat.le_of_ble_eq_true rfl) (Nat.le_of_ble_eq_true rfl) rfl rfl (s_Mo_at  ?_)
    show ga_W G (d + 2) mt_Mo_scale 79 [some (.inr 348), some (.inl v1), some (.inl v2), some (.inl v3), some (.inl v4), some (.inl v5), some (.inl v6), none] [.inl (38 + 4 * (7 * v5 + v6)), .inr 349] I E
    refine gw_iload_n 2 d_Mo_scale_79 rfl rfl ?_
    refine gw_iadd d_Mo_scale_80 ?_
    obtain ⟨g2, h⟩ := h
    obtain ⟨g3, h⟩ := h
    refine gw_iald d_Mo_scale_81 (ga_aM1) g2 g3 ?_
    refine gw_iload_n 3 d_Mo_scale_82 rfl rfl ?_
    refine gw_imul d_Mo_scale_83 ?_
    refine gw_bipush d_Mo_scale_84 (by decide +kernel) ?_
    obtain ⟨g4, h⟩ := h
    refine gw_idiv d_Mo_scale_86 g4 ⟨by decide, by decide⟩ (by decide) ?_
    refine gw_istore 7 d_Mo_scale_87 (Nat.le_of_ble_eq_true rfl) rfl ?_
    refine gw_iload 7 d_Mo_scale_89 rfl ?_
    refine gw_sipush d_Mo_scale_91 (by decide +kernel) ?_
    obtain ⟨g5, h⟩ := h
    refine gw_icmp_le 103 d_Mo_scale_94 (by decide) g5 ⟨by decide, by decide⟩ (fun hc => ?_) (fun hc => ?_)
    · have h := h.1 hc
      refine gw_iload 7 d_Mo_scale_103 rfl ?_
      refine gw_istore 7 d_Mo_scale_105 (Nat.le_of_ble_eq_true rfl) rfl ?_
      refine gw_aload_n 0 d_Mo_scale_107 rfl rfl ?_
      refine gw_iload_n 1 d_Mo_scale_108 rfl rfl ?_
      refine gw_iload 5 d_Mo_scale_109 rfl ?_
      refine gw_iload 6 d_Mo_scale_111 rfl ?_
      refine gw_iload_n 2 d_Mo_scale_113 rfl rfl ?_
      refine gw_iload 7 d_Mo_scale_114 rfl ?_
      obtain ⟨g6, h⟩ := h
      obtain ⟨g7, h⟩ := h
      obtain ⟨g8, h⟩ := h
      obtain ⟨g9, h⟩ := h
      obtain ⟨g10, h⟩ := h
      obtain ⟨g11, h⟩ := h
      refine gw_invV (as := [.inl v1, .inl v5, .inl v6, .inl v2, .inl (Int.tdiv ((I 349 ((38 + 4 * (7 * v5 + v6)) + v2).toNat) * v3) 100)]) (k := 348) (rest := []) (d' := (d + 1)) d_Mo_scale_116 lk_Mo_144 (ga_rcv (ga_oM) rfl rfl) rfl (Nat.le_of_ble_eq_true rfl) (Nat.le_of_ble_eq_true rfl) rfl rfl (s_Mo_refusalOf g6 g7 g8 g9 g10 g11 ?_)
      show ga_W G (d + 2) mt_Mo_scale 119 [some (.inr 348), some (.inl v1), some (.inl v2), some (.inl v3), some (.inl v4), some (.inl v5), some (.inl v6), some (.inl (Int.tdiv ((I 349 ((38 + 4 * (7 * v5 + v6)) + v2).toNat) * v3) 100))] [.inl (mp_ra (I 349 (38 + 4 * (7 * v5 + v6) + 3).toNat) (I 349 (38 + 4 * (7 * v5 + v6) + v2).toNat) (I 349 (241 + 3 * v1).toNat) (I 349 (241 + 3 * v1 + 1).toNat) v1 (Int.tdiv ((I 349 ((38 + 4 * (7 * v5 + v6)) + v2).toNat) * v3) 100))] I E
      refine gw_nz (z := mp_ra (I 349 (38 + 4 * (7 * v5 + v6) + 3).toNat) (I 349 (38 + 4 * (7 * v5 + v6) + v2).toNat) (I 349 (241 + 3 * v1).toNat) (I 349 (241 + 3 * v1 + 1).toNat) v1 (Int.tdiv ((I 349 ((38 + 4 * (7 * v5 + v6)) + v2).toNat) * v3) 100)) (fun z1 q1 => ?_)
      have h := h z1 q1
      obtain ⟨g12, h⟩ := h
      refine gw_if_ne 137 d_Mo_scale_119 (by decide) g12 (fun hc => ?_) (fun hc => ?_)
      · have h := h.1 hc
        refine gw_iinc 6 d_Mo_scale_137 rfl rfl ?_
        refine gw_goto 58 d_Mo_scale_140 (by decide) ?_
        exact gw_le h (by exact ⟨rfl, ⟨rfl, ⟨rfl, ⟨rfl, ⟨rfl, ⟨rfl, ⟨rfl, trivial⟩⟩⟩⟩⟩⟩⟩)
      · have h := h.2 hc
        refine gw_aload_n 0 d_Mo_scale_122 rfl rfl ?_
        refine gw_iload_n 1 d_Mo_scale_123 rfl rfl ?_
        refine gw_iload 5 d_Mo_scale_124 rfl ?_
        refine gw_iload 6 d_Mo_scale_126 rfl ?_
        refine gw_iload_n 2 d_Mo_scale_128 rfl rfl ?_
        refine gw_iload 7 d_Mo_scale_129 rfl ?_
        refine gw_invV (as := [.inl v1, .inl v5, .inl v6, .inl v2, .inl (Int.tdiv ((I 349 ((38 + 4 * (7 * v5 + v6)) + v2).toNat) * v3) 100)]) (k := 348) (rest := []) (d' := (d + 1)) d_Mo_scale_131 lk_Mo_148 (ga_rcv (ga_oM) rfl rfl) rfl (Nat.le_of_ble_eq_true rfl) (Nat.le_of_ble_eq_true rfl) rfl rfl (s_Mo_change g6 g7 g8 g9 g10 g11 ?_)
        show ga_W G (d + 2) mt_Mo_scale 134 [some (.inr 348), some (.inl v1), some (.inl v2), some (.inl v3), some (.inl v4), some (.inl v5), some (.inl v6), some (.inl (Int.tdiv ((I 349 ((38 + 4 * (7 * v5 + v6)) + v2).toNat) * v3) 100))] [] (mx_ch I v1 (38 + 4 * (7 * v5 + v6) + v2).toNat (Int.tdiv ((I 349 ((38 + 4 * (7 * v5 + v6)) + v2).toNat) * v3) 100)) E
        refine gw_nm (fun I1 q2 => ?_)
        have h := h I1 q2
        refine gw_RG (fun hI2 => ?_)
        refine gw_iinc 4 d_Mo_scale_134 rfl rfl ?_
        refine gw_iinc 6 d_Mo_scale_137 rfl rfl ?_
        refine gw_goto 58 d_Mo_scale_140 (by decide) ?_
        exact gw_le h (by exact ⟨rfl, ⟨rfl, ⟨rfl, ⟨rfl, ⟨rfl, ⟨rfl, ⟨rfl, trivial⟩⟩⟩⟩⟩⟩⟩)
    · have h := h.2 hc
      refine gw_sipush d_Mo_scale_97 (by decide +kernel) ?_
      refine gw_goto 105 d_Mo_scale_100 (by decide) ?_
      refine gw_istore 7 d_Mo_scale_105 (Nat.le_of_ble_eq_true rfl) rfl ?_
      refine gw_aload_n 0 d_Mo_scale_107 rfl rfl ?_
      refine gw_iload_n 1 d_Mo_scale_108 rfl rfl ?_
      refine gw_iload 5 d_Mo_scale_109 rfl ?_
      refine gw_iload 6 d_Mo_scale_111 rfl ?_
      refine gw_iload_n 2 d_Mo_scale_113 rfl rfl ?_
      refine gw_iload 7 d_Mo_scale_114 rfl ?_
      obtain ⟨g13, h⟩ := h
      obtain ⟨g14, h⟩ := h
      obtain ⟨g15, h⟩ := h
      obtain ⟨g16, h⟩ := h
      obtain ⟨g17, h⟩ := h
      obtain ⟨g18, h⟩ := h
      refine gw_invV (as := [.inl v1, .inl v5, .inl v6, .inl v2, .inl 9999]) (k := 348) (rest := []) (d' := (d + 1)) d_Mo_scale_116 lk_Mo_144 (ga_rcv (ga_oM) rfl rfl) rfl (Nat.le_of_ble_eq_true rfl) (Nat.le_of_ble_eq_true rfl) rfl rfl (s_Mo_refusalOf g13 g14 g15 g16 g17 g18 ?_)
      show ga_W G (d + 2) mt_Mo_scale 119 [some (.inr 348), some (.inl v1), some (.inl v2), some (.inl v3), some (.inl v4), some (.inl v5), some (.inl v6), some (.inl 9999)] [.inl (mp_ra (I 349 (38 + 4 * (7 * v5 + v6) + 3).toNat) (I 349 (38 + 4 * (7 * v5 + v6) + v2).toNat) (I 349 (241 + 3 * v1).toNat) (I 349 (241 + 3 * v1 + 1).toNat) v1 (9999 : Int))] I E
      refine gw_nz (z := mp_ra (I 349 (38 + 4 * (7 * v5 + v6) + 3).toNat) (I 349 (38 + 4 * (7 * v5 + v6) + v2).toNat) (I 349 (241 + 3 * v1).toNat) (I 349 (241 + 3 * v1 + 1).toNat) v1 (9999 : Int)) (fun z2 q3 => ?_)
      have h := h z2 q3
      obtain ⟨g19, h⟩ := h
      refine gw_if_ne 137 d_Mo_scale_119 (by decide) g19 (fun hc => ?_) (fun hc => ?_)
      · have h := h.1 hc
        refine gw_iinc 6 d_Mo_scale_137 rfl rfl ?_
        refine gw_goto 58 d_Mo_scale_140 (by decide) ?_
        exact gw_le h (by exact ⟨rfl, ⟨rfl, ⟨rfl, ⟨rfl, ⟨rfl, ⟨rfl, ⟨rfl, trivial⟩⟩⟩⟩⟩⟩⟩)
      · have h := h.2 hc
        refine gw_aload_n 0 d_Mo_scale_122 rfl rfl ?_
        refine gw_iload_n 1 d_Mo_scale_123 rfl rfl ?_
        refine gw_iload 5 d_Mo_scale_124 rfl ?_
        refine gw_iload 6 d_Mo_scale_126 rfl ?_
        refine gw_iload_n 2 d_Mo_scale_128 rfl rfl ?_
        refine gw_iload 7 d_Mo_scale_129 rfl ?_
        refine gw_invV (as := [.inl v1, .inl v5, .inl v6, .inl v2, .inl 9999]) (k := 348) (rest := []) (d' := (d + 1)) d_Mo_scale_131 lk_Mo_148 (ga_rcv (ga_oM) rfl rfl) rfl (Nat.le_of_ble_eq_true rfl) (Nat.le_of_ble_eq_true rfl) rfl rfl (s_Mo_change g13 g14 g15 g16 g17 g18 ?_)
        show ga_W G (d + 2) mt_Mo_scale 134 [some (.inr 348), some (.inl v1), some (.inl v2), some (.inl v3), some (.inl v4), some (.inl v5), some (.inl v6), some (.inl 9999)] [] (mx_ch I v1 (38 + 4 * (7 * v5 + v6) + v2).toNat (9999 : Int)) E
        refine gw_nm (fun I2 q4 => ?_)
        have h := h I2 q4
        refine gw_RG (fun hI3 => ?_)
        refine gw_iinc 4 d_Mo_scale_134 rfl rfl ?_
        refine gw_iinc 6 d_Mo_scale_137 rfl rfl ?_
        refine gw_goto 58 d_Mo_scale_140 (by decide) ?_
        exact gw_le h (by exact ⟨rfl, ⟨rfl, ⟨rfl, ⟨rfl, ⟨rfl, ⟨rfl, ⟨rfl, trivial⟩⟩⟩⟩⟩⟩⟩)

theorem k_Mo_lock_0 {G : ga_G} {d : Nat} {I : ga_I} {E : Option ga_V → ga_I → Prop} {v1 : Int} {v2 : Int} {v3 : Int} {v4 : Int} (r1 : ga_rg v1) (r2 : ga_rg v2) (r3 : ga_rg v3) (r4 : ga_rg v4)
    (h : ga_RG I → (∀ I1 : ga_I, I1 = (ga_up I 348 0 0) → ((¬ (0 ≤ v1 ∧ v1 ≤ 2)) → E (some (.inl (-2000000001))) I1) ∧ ((0 ≤ v1 ∧ v1 ≤ 2) → ((¬ ((0 ≤ v2 ∧ v2 ≤ ms_n (I1 349) 0) ∧ (0 ≤ v3 ∧ v3 ≤ ms_n (I1 349) 1))) → E (some (.inl (-2000000001))) I1) ∧ (((0 ≤ v2 ∧ v2 ≤ ms_n (I1 349) 0) ∧ (0 ≤ v3 ∧ v3 ≤ ms_n (I1 349) 1)) → (((0 : Int) ≤ v4 ∧ v4 ≤ (1 : Int)) → (0 ≤ ((38 + 4 * (7 * v2 + v3)) + 3)) ∧ ((((38 + 4 * (7 * v2 + v3)) + 3) < 1120) ∧ (((v4 ≠ 1) → (((I1 349 ((38 + 4 * (7 * v2 + v3)) + 3).toNat) = v1) → (0 ≤ I1 348 4 ∧ I1 348 4 ≤ 5) ∧ ((∀ I2 : ga_I, I2 = (mx_ac I1) → ((v4 ≠ 1) → (∀ I3 : ga_I, I3 = (ga_up I2 349 ((38 + 4 * (7 * v2 + v3)) + 3).toNat (-1)) → (mo_n I3) ∧ ((∀ z1 : Int, z1 = gp_tt (mp_lk (I3 349) v1) ((ms_n (I3 349) 0).toNat + 1) ((ms_n (I3 349) 1).toNat + 1) → E (some (.inl z1)) I3)))) ∧ ((v4 = 1) → (∀ I4 : ga_I, I4 = (ga_up I2 349 ((38 + 4 * (7 * v2 + v3)) + 3).toNat v1) → (mo_n I4) ∧ ((∀ z2 : Int, z2 = gp_tt (mp_lk (I4 349) v1) ((ms_n (I4 349) 0).toNat + 1) ((ms_n (I4 349) 1).toNat + 1) → E (some (.inl z2)) I4))))))) ∧ ((¬ ((I1 349 ((38 + 4 * (7 * v2 + v3)) + 3).toNat) = v1)) → E (some (.inl (-2000000002))) I1)) ∧ ((v4 = 1) → (((I1 349 ((38 + 4 * (7 * v2 + v3)) + 3).toNat) = (-1)) → (0 ≤ I1 348 4 ∧ I1 348 4 ≤ 5) ∧ ((∀ I5 : ga_I, I5 = (mx_ac I1) → ((v4 ≠ 1) → (∀ I6 : ga_I, I6 = (ga_up I5 349 ((38 + 4 * (7 * v2 + v3)) + 3).toNat (-1)) → (mo_n I6) ∧ ((∀ z3 : Int, z3 = gp_tt (mp_lk (I6 349) v1) ((ms_n (I6 349) 0).toNat + 1) ((ms_n (I6 349) 1).toNat + 1) → E (some (.inl z3)) I6)))) ∧ ((v4 = 1) → (∀ I7 : ga_I, I7 = (ga_up I5 349 ((38 + 4 * (7 * v2 + v3)) + 3).toNat v1) → (mo_n I7) ∧ ((∀ z4 : Int, z4 = gp_tt (mp_lk (I7 349) v1) ((ms_n (I7 349) 0).toNat + 1) ((ms_n (I7 349) 1).toNat + 1) → E (some (.inl z4)) I7))))))) ∧ ((¬ ((I1 349 ((38 + 4 * (7 * v2 + v3)) + 3).toNat) = (-1))) → E (some (.inl (-2000000002))) I1))))) ∧ ((¬ ((0 : Int) ≤ v4 ∧ v4 ≤ (1 : Int))) → E (some (.inl (-2000000001))) I1))))) :
    ga_W G (d + 2) mt_Mo_lock 0 (ga_en 5 [.inr 348, .inl v1, .inl v2, .inl v3, .inl v4]) [] I E := by
  show ga_W G (d + 2) mt_Mo_lock 0 [some (.inr 348), some (.inl v1), some (.inl v2), some (.inl v3), some (.inl v4)] [] I E
  refine gw_RG (fun hI1 => ?_)
  have h := h hI1
  refine gw_aload_n 0 d_Mo_lock_0 rfl rfl ?_
  refine gw_iconst d_Mo_lock_1 ?_
  refine gw_putI d_Mo_lock_2 fp_Mo_37 (ga_oM) rfl ?_
  show ga_W G (d + 2) mt_Mo_lock 5 [some (.inr 348), some (.inl v1), some (.inl v2), some (.inl v3), some (.inl v4)] [] (ga_up I 348 0 (ga_wr 0)) E
  rw [ga_wr_eq (z := 0) ⟨by decide, by decide⟩]
  refine gw_nm (J := (ga_up I 348 0 0)) (fun I1 q1 => ?_)
  have h := h I1 q1
  refine gw_RG (fun hI2 => ?_)
  refine gw_iload_n 1 d_Mo_lock_5 rfl rfl ?_
  refine gw_invS (as := [.inl v1]) (rest := []) (d' := (d + 1)) d_Mo_lock_6 lk_Mo_134 rfl (Nat.le_of_ble_eq_true rfl) (Nat.le_of_ble_eq_true rfl) rfl rfl (s_Mo_isOperator r1 ?_)
  show ga_W G (d + 2) mt_Mo_lock 9 [some (.inr 348), some (.inl v1), some (.inl v2), some (.inl v3), some (.inl v4)] [.inl (ga_bb (decide (0 ≤ v1 ∧ v1 ≤ 2)))] I1 E
  refine gw_ifb_eq 31 d_Mo_lock_9 (by decide) (fun hc => ?_) (fun hc => ?_)
  · have h := h.1 (of_decide_eq_false hc)
    refine gw_ldc (n := (-2000000001)) d_Mo_lock_31 kw_Mo_112 (by decide +kernel) ?_
    exact gw_ireturn d_Mo_lock_33 rfl h
  · have h := h.2 (of_decide_eq_true hc)
    refine gw_aload_n 0 d_Mo_lock_12 rfl rfl ?_
    refine gw_iload_n 2 d_Mo_lock_13 rfl rfl ?_
    refine gw_iload_n 3 d_Mo_lock_14 rfl rfl ?_
    refine gw_invV (as := [.inl v2, .inl v3]) (k := 348) (rest := []) (d' := (d + 1)) d_Mo_lock_15 lk_Mo_137 (ga_rcv (ga_oM) rfl rfl) rfl (Nat.le_of_ble_eq_true rfl) (Nat.le_of_ble_eq_true rfl) rfl rfl (s_Mo_isRegion r2 r3 ?_)
    show ga_W G (d + 2) mt_Mo_lock 18 [some (.inr 348), some (.inl v1), some (.inl v2), some (.inl v3), some (.inl v4)] [.inl (ga_bb (decide ((0 ≤ v2 ∧ v2 ≤ ms_n (I1 349) 0) ∧ (0 ≤ v3 ∧ v3 ≤ ms_n (I1 349) 1))))] I1 E
    refine gw_ifb_eq 31 d_Mo_lock_18 (by decide) (fun hc => ?_) (fun hc => ?_)
    · have h := h.1 (of_decide_eq_false hc)
      refine gw_ldc (n := (-2000000001)) d_Mo_lock_31 kw_Mo_112 (by decide +kernel) ?_
      exact gw_ireturn d_Mo_lock_33 rfl h
    · have h := h.2 (of_decide_eq_true hc)
      refine gw_iload 4 d_Mo_lock_21 rfl ?_
      refine gw_iconst d_Mo_lock_23 ?_
      refine gw_iconst d_Mo_lock_24 ?_
      refine gw_invS (as := [.inl v4, .inl 0, .inl 1]) (rest := []) (d' := (d + 1)) d_Mo_lock_25 lk_Mo_47 rfl (Nat.le_of_ble_eq_true rfl) (Nat.le_of_ble_eq_true rfl) rfl rfl (s_Mo_in r4 ⟨by decide, by decide⟩ ⟨by decide, by decide⟩ ?_)
      show ga_W G (d + 2) mt_Mo_lock 28 [some (.inr 348), some (.inl v1), some (.inl v2), some (.inl v3), some (.inl v4)] [.inl (ga_bb (decide ((0 : Int) ≤ v4 ∧ v4 ≤ (1 : Int))))] I1 E
      refine gw_ifb_ne 34 d_Mo_lock_28 (by decide) (fun hc => ?_) (fun hc => ?_)
      · have h := h.1 (of_decide_eq_true hc)
        refine gw_aload_n 0 d_Mo_lock_34 rfl rfl ?_
        refine gw_getR d_Mo_lock_35 fl_Mo_7 (ga_oM) rfl ?_
        refine gw_iload_n 2 d_Mo_lock_38 rfl rfl ?_
        refine gw_iload_n 3 d_Mo_lock_39 rfl rfl ?_
        refine gw_invS (as := [.inl v2, .inl v3]) (rest := [.inr 349]) (d' := (d + 1)) d_Mo_lock_40 lk_Mo_59 rfl (Nat.le_of_ble_eq_true rfl) (Nat.le_of_ble_eq_true rfl) rfl rfl (s_Mo_at  ?_)
        show ga_W G (d + 2) mt_Mo_lock 43 [some (.inr 348), some (.inl v1), some (.inl v2), some (.inl v3), some (.inl v4)] [.inl (38 + 4 * (7 * v2 + v3)), .inr 349] I1 E
        refine gw_iconst d_Mo_lock_43 ?_
        refine gw_iadd d_Mo_lock_44 ?_
        obtain ⟨g1, h⟩ := h
        obtain ⟨g2, h⟩ := h
        refine gw_iald d_Mo_lock_45 (ga_aM1) g1 g2 ?_
        refine gw_iload 4 d_Mo_lock_46 rfl ?_
        refine gw_iconst d_Mo_lock_48 ?_
        refine gw_icmp_ne 56 d_Mo_lock_49 (by decide) r4 ⟨by decide, by decide⟩ (fun hc => ?_) (fun hc => ?_)
        · have h := h.1 hc
          refine gw_iload_n 1 d_Mo_lock_56 rfl rfl ?_
          refine gw_icmp_eq 63 d_Mo_lock_57 (by decide) (hI2 _ _) r1 (fun hc => ?_) (fun hc => ?_)
          · have h := h.1 hc
            refine gw_aload_n 0 d_Mo_lock_63 rfl rfl ?_
            obtain ⟨g3, h⟩ := h
            refine gw_invV (as := []) (k := 348) (rest := []) (d' := (d + 1)) d_Mo_lock_64 lk_Mo_119 (ga_rcv (ga_oM) rfl rfl) rfl (Nat.le_of_ble_eq_true rfl) (Nat.le_of_ble_eq_true rfl) rfl rfl (s_Mo_act g3 ?_)
            show ga_W G (d + 2) mt_Mo_lock 67 [some (.inr 348), some (.inl v1), some (.inl v2), some (.inl v3), some (.inl v4)] [] (mx_ac I1) E
            refine gw_nm (fun I2 q2 => ?_)
            have h := h I2 q2
            refine gw_RG (fun hI3 => ?_)
            refine gw_aload_n 0 d_Mo_lock_67 rfl rfl ?_
            refine gw_getR d_Mo_lock_68 fl_Mo_7 (ga_oM) rfl ?_
            refine gw_iload_n 2 d_Mo_lock_71 rfl rfl ?_
            refine gw_iload_n 3 d_Mo_lock_72 rfl rfl ?_
            refine gw_invS (as := [.inl v2, .inl v3]) (rest := [.inr 349]) (d' := (d + 1)) d_Mo_lock_73 lk_Mo_59 rfl (Nat.le_of_ble_eq_true rfl) (Nat.le_of_ble_eq_true rfl) rfl rfl (s_Mo_at  ?_)
            show ga_W G (d + 2) mt_Mo_lock 76 [some (.inr 348), some (.inl v1), some (.inl v2), some (.inl v3), some (.inl v4)] [.inl (38 + 4 * (7 * v2 + v3)), .inr 349] I2 E
            refine gw_iconst d_Mo_lock_76 ?_
            refine gw_iadd d_Mo_lock_77 ?_
            refine gw_iload 4 d_Mo_lock_78 rfl ?_
            refine gw_iconst d_Mo_lock_80 ?_
            refine gw_icmp_ne 88 d_Mo_lock_81 (by decide) r4 ⟨by decide, by decide⟩ (fun hc => ?_) (fun hc => ?_)
            · have h := h.1 hc
              refine gw_iconst d_Mo_lock_88 ?_
              refine gw_iast d_Mo_lock_89 (ga_aM1) g1 g2 ?_
              show ga_W G (d + 2) mt_Mo_lock 90 [some (.inr 348), some (.inl v1), some (.inl v2), some (.inl v3), some (.inl v4)] [] (ga_up I2 349 ((38 + 4 * (7 * v2 + v3)) + 3).toNat (ga_wr (-1))) E
              rw [ga_wr_eq (z := (-1)) ⟨by decide, by decide⟩]
              refine gw_nm (J := (ga_up I2 349 ((38 + 4 * (7 * v2 + v3)) + 3).toNat (-1))) (fun I3 q3 => ?_)
              have h := h I3 q3
              refine gw_RG (fun hI4 => ?_)
              refine gw_aload_n 0 d_Mo_lock_90 rfl rfl ?_
              refine gw_iload_n 1 d_Mo_lock_91 rfl rfl ?_
              obtain ⟨g4, h⟩ := h
              refine gw_invV (as := [.inl v1]) (k := 348) (rest := []) (d' := (d + 1)) d_Mo_lock_92 lk_Mo_151 (ga_rcv (ga_oM) rfl rfl) rfl (Nat.le_of_ble_eq_true rfl) (Nat.le_of_ble_eq_true rfl) rfl rfl (s_Mo_locksOf g4 r1 ?_)
              show ga_W G (d + 2) mt_Mo_lock 95 [some (.inr 348), some (.inl v1), some (.inl v2), some (.inl v3), some (.inl v4)] [.inl (gp_tt (mp_lk (I3 349) v1) ((ms_n (I3 349) 0).toNat + 1) ((ms_n (I3 349) 1).toNat + 1))] I3 E
              refine gw_nz (z := gp_tt (mp_lk (I3 349) v1) ((ms_n (I3 349) 0).toNat + 1) ((ms_n (I3 349) 1).toNat + 1)) (fun z1 q4 => ?_)
              have h := h z1 q4
              exact gw_ireturn d_Mo_lock_95 rfl h
            · have h := h.2 hc
              refine gw_iload_n 1 d_Mo_lock_84 rfl rfl ?_
              refine gw_goto 89 d_Mo_lock_85 (by decide) ?_
              refine gw_iast d_Mo_lock_89 (ga_aM1) g1 g2 ?_
              show ga_W G (d + 2) mt_Mo_lock 90 [some (.inr 348), some (.inl v1), some (.inl v2), some (.inl v3), some (.inl v4)] [] (ga_up I2 349 ((38 + 4 * (7 * v2 + v3)) + 3).toNat (ga_wr v1)) E
              rw [ga_wr_eq (z := v1) r1]
              refine gw_nm (J := (ga_up I2 349 ((38 + 4 * (7 * v2 + v3)) + 3).toNat v1)) (fun I4 q5 => ?_)
              have h := h I4 q5
              refine gw_RG (fun hI5 => ?_)
              refine gw_aload_n 0 d_Mo_lock_90 rfl rfl ?_
              refine gw_iload_n 1 d_Mo_lock_91 rfl rfl ?_
              obtain ⟨g5, h⟩ := h
              refine gw_invV (as := [.inl v1]) (k := 348) (rest := []) (d' := (d + 1)) d_Mo_lock_92 lk_Mo_151 (ga_rcv (ga_oM) rfl rfl) rfl (Nat.le_of_ble_eq_true rfl) (Nat.le_of_ble_eq_true rfl) rfl rfl (s_Mo_locksOf g5 r1 ?_)
              show ga_W G (d + 2) mt_Mo_lock 95 [some (.inr 348), some (.inl v1), some (.inl v2), some (.inl v3), some (.inl v4)] [.inl (gp_tt (mp_lk (I4 349) v1) ((ms_n (I4 349) 0).toNat + 1) ((ms_n (I4 349) 1).toNat + 1))] I4 E
              refine gw_nz (z := gp_tt (mp_lk (I4 349) v1) ((ms_n (I4 349) 0).toNat + 1) ((ms_n (I4 349) 1).toNat + 1)) (fun z2 q6 => ?_)
              have h := h z2 q6
              exact gw_ireturn d_Mo_lock_95 rfl h
          · have h := h.2 hc
            refine gw_ldc (n := (-2000000002)) d_Mo_lock_60 kw_Mo_117 (by decide +kernel) ?_
            exact gw_ireturn d_Mo_lock_62 rfl h
        · have h := h.2 hc
          refine gw_iconst d_Mo_lock_52 ?_
          refine gw_goto 57 d_Mo_lock_53 (by decide) ?_
          refine gw_icmp_eq 63 d_Mo_lock_57 (by decide) (hI2 _ _) ⟨by decide, by decide⟩ (fun hc => ?_) (fun hc => ?_)
          · have h := h.1 hc
            refine gw_aload_n 0 d_Mo_lock_63 rfl rfl ?_
            obtain ⟨g6, h⟩ := h
            refine gw_invV (as := []) (k := 348) (rest := []) (d' := (d + 1)) d_Mo_lock_64 lk_Mo_119 (ga_rcv (ga_oM) rfl rfl) rfl (Nat.le_of_ble_eq_true rfl) (Nat.le_of_ble_eq_true rfl) rfl rfl (s_Mo_act g6 ?_)
            show ga_W G (d + 2) mt_Mo_lock 67 [some (.inr 348), some (.inl v1), some (.inl v2), some (.inl v3), some (.inl v4)] [] (mx_ac I1) E
            refine gw_nm (fun I5 q7 => ?_)
            have h := h I5 q7
            refine gw_RG (fun hI6 => ?_)
            refine gw_aload_n 0 d_Mo_lock_67 rfl rfl ?_
            refine gw_getR d_Mo_lock_68 fl_Mo_7 (ga_oM) rfl ?_
            refine gw_iload_n 2 d_Mo_lock_71 rfl rfl ?_
            refine gw_iload_n 3 d_Mo_lock_72 rfl rfl ?_
            refine gw_invS (as := [.inl v2, .inl v3]) (rest := [.inr 349]) (d' := (d + 1)) d_Mo_lock_73 lk_Mo_59 rfl (Nat.le_of_ble_eq_true rfl) (Nat.le_of_ble_eq_true rfl) rfl rfl (s_Mo_at  ?_)
            show ga_W G (d + 2) mt_Mo_lock 76 [some (.inr 348), some (.inl v1), some (.inl v2), some (.inl v3), some (.inl v4)] [.inl (38 + 4 * (7 * v2 + v3)), .inr 349] I5 E
            refine gw_iconst d_Mo_lock_76 ?_
            refine gw_iadd d_Mo_lock_77 ?_
            refine gw_iload 4 d_Mo_lock_78 rfl ?_
            refine gw_iconst d_Mo_lock_80 ?_
            refine gw_icmp_ne 88 d_Mo_lock_81 (by decide) r4 ⟨by decide, by decide⟩ (fun hc => ?_) (fun hc => ?_)
            · have h := h.1 hc
              refine gw_iconst d_Mo_lock_88 ?_
              refine gw_iast d_Mo_lock_89 (ga_aM1) g1 g2 ?_
              show ga_W G (d + 2) mt_Mo_lock 90 [some (.inr 348), some (.inl v1), some (.inl v2), some (.inl v3), some (.inl v4)] [] (ga_up I5 349 ((38 + 4 * (7 * v2 + v3)) + 3).toNat (ga_wr (-1))) E
              rw [ga_wr_eq (z := (-1)) ⟨by decide, by decide⟩]
              refine gw_nm (J := (ga_up I5 349 ((38 + 4 * (7 * v2 + v3)) + 3).toNat (-1))) (fun I6 q8 => ?_)
              have h := h I6 q8
              refine gw_RG (fun hI7 => ?_)
              refine gw_aload_n 0 d_Mo_lock_90 rfl rfl ?_
              refine gw_iload_n 1 d_Mo_lock_91 rfl rfl ?_
              obtain ⟨g7, h⟩ := h
              refine gw_invV (as := [.inl v1]) (k := 348) (rest := []) (d' := (d + 1)) d_Mo_lock_92 lk_Mo_151 (ga_rcv (ga_oM) rfl rfl) rfl (Nat.le_of_ble_eq_true rfl) (Nat.le_of_ble_eq_true rfl) rfl rfl (s_Mo_locksOf g7 r1 ?_)
              show ga_W G (d + 2) mt_Mo_lock 95 [some (.inr 348), some (.inl v1), some (.inl v2), some (.inl v3), some (.inl v4)] [.inl (gp_tt (mp_lk (I6 349) v1) ((ms_n (I6 349) 0).toNat + 1) ((ms_n (I6 349) 1).toNat + 1))] I6 E
              refine gw_nz (z := gp_tt (mp_lk (I6 349) v1) ((ms_n (I6 349) 0).toNat + 1) ((ms_n (I6 349) 1).toNat + 1)) (fun z3 q9 => ?_)
              have h := h z3 q9
              exact gw_ireturn d_Mo_lock_95 rfl h
            · have h := h.2 hc
              refine gw_iload_n 1 d_Mo_lock_84 rfl rfl ?_
              refine gw_goto 89 d_Mo_lock_85 (by decide) ?_
              refine gw_iast d_Mo_lock_89 (ga_aM1) g1 g2 ?_
              show ga_W G (d + 2) mt_Mo_lock 90 [some (.inr 348), some (.inl v1), some (.inl v2), some (.inl v3), some (.inl v4)] [] (ga_up I5 349 ((38 + 4 * (7 * v2 + v3)) + 3).toNat (ga_wr v1)) E
              rw [ga_wr_eq (z := v1) r1]
              refine gw_nm (J := (ga_up I5 349 ((38 + 4 * (7 * v2 + v3)) + 3).toNat v1)) (fun I7 q10 => ?_)
              have h := h I7 q10
              refine gw_RG (fun hI8 => ?_)
              refine gw_aload_n 0 d_Mo_lock_90 rfl rfl ?_
              refine gw_iload_n 1 d_Mo_lock_91 rfl rfl ?_
              obtain ⟨g8, h⟩ := h
              refine gw_invV (as := [.inl v1]) (k := 348) (rest := []) (d' := (d + 1)) d_Mo_lock_92 lk_Mo_151 (ga_rcv (ga_oM) rfl rfl) rfl (Nat.le_of_ble_eq_true rfl) (Nat.le_of_ble_eq_true rfl) rfl rfl (s_Mo_locksOf g8 r1 ?_)
              show ga_W G (d + 2) mt_Mo_lock 95 [some (.inr 348), some (.inl v1), some (.inl v2), some (.inl v3), some (.inl v4)] [.inl (gp_tt (mp_lk (I7 349) v1) ((ms_n (I7 349) 0).toNat + 1) ((ms_n (I7 349) 1).toNat + 1))] I7 E
              refine gw_nz (z := gp_tt (mp_lk (I7 349) v1) ((ms_n (I7 349) 0).toNat + 1) ((ms_n (I7 349) 1).toNat + 1)) (fun z4 q11 => ?_)
              have h := h z4 q11
              exact gw_ireturn d_Mo_lock_95 rfl h
          · have h := h.2 hc
            refine gw_ldc (n := (-2000000002)) d_Mo_lock_60 kw_Mo_117 (by decide +kernel) ?_
            exact gw_ireturn d_Mo_lock_62 rfl h
      · have h := h.2 (of_decide_eq_false hc)
        refine gw_ldc (n := (-2000000001)) d_Mo_lock_31 kw_Mo_112 (by decide +kernel) ?_
        exact gw_ireturn d_Mo_lock_33 rfl h

theorem k_Mo_setMargin_0 {G : ga_G} {d : Nat} {I : ga_I} {E : Option ga_V → ga_I → Prop} {v1 : Int} (r1 : ga_rg v1)
    (h : ga_RG I → (∀ I1 : ga_I, I1 = (ga_up I 348 0 0) → (((0 : Int) ≤ v1 ∧ v1 ≤ (50 : Int)) → (0 ≤ I1 348 4 ∧ I1 348 4 ≤ 5) ∧ ((∀ I2 : ga_I, I2 = (mx_ac I1) → (∀ I3 : ga_I, I3 = (ga_up I2 349 238 v1) → E (some (.inl (I2 349 238))) I3)))) ∧ ((¬ ((0 : Int) ≤ v1 ∧ v1 ≤ (50 : Int))) → E (some (.inl (-2000000001))) I1))) :
    ga_W G (d + 1) mt_Mo_setMargin 0 (ga_en 3 [.inr 348, .inl v1]) [] I E := by
  show ga_W G (d + 1) mt_Mo_setMargin 0 [some (.inr 348), some (.inl v1), none] [] I E
  refine gw_RG (fun hI1 => ?_)
  have h := h hI1
  refine gw_aload_n 0 d_Mo_setMargin_0 rfl rfl ?_
  refine gw_iconst d_Mo_setMargin_1 ?_
  refine gw_putI d_Mo_setMargin_2 fp_Mo_37 (ga_oM) rfl ?_
  show ga_W G (d + 1) mt_Mo_setMargin 5 [some (.inr 348), some (.inl v1), none] [] (ga_up I 348 0 (ga_wr 0)) E
  rw [ga_wr_eq (z := 0) ⟨by decide, by decide⟩]
  refine gw_nm (J := (ga_up I 348 0 0)) (fun I1 q1 => ?_)
  have h := h I1 q1
  refine gw_RG (fun hI2 => ?_)
  refine gw_iload_n 1 d_Mo_setMargin_5 rfl rfl ?_
  refine gw_iconst d_Mo_setMargin_6 ?_
  refine gw_bipush d_Mo_setMargin_7 (by decide +kernel) ?_
  refine gw_invS (as := [.inl v1, .inl 0, .inl 50]) (rest := []) (d' := d) d_Mo_setMargin_9 lk_Mo_47 rfl (Nat.le_of_ble_eq_true rfl) (Nat.le_of_ble_eq_true rfl) rfl rfl (s_Mo_in r1 ⟨by decide, by decide⟩ ⟨by decide, by decide⟩ ?_)
  show ga_W G (d + 1) mt_Mo_setMargin 12 [some (.inr 348), some (.inl v1), none] [.inl (ga_bb (decide ((0 : Int) ≤ v1 ∧ v1 ≤ (50 : Int))))] I1 E
  refine gw_ifb_ne 18 d_Mo_setMargin_12 (by decide) (fun hc => ?_) (fun hc => ?_)
  · have h := h.1 (of_decide_eq_true hc)
    refine gw_aload_n 0 d_Mo_setMargin_18 rfl rfl ?_
    obtain ⟨g1, h⟩ := h
    refine gw_invV (as := []) (k := 348) (rest := []) (d' := d) d_Mo_setMargin_19 lk_Mo_119 (ga_rcv (ga_oM) rfl rfl) rfl (Nat.le_of_ble_eq_true rfl) (Nat.le_of_ble_eq_true rfl) rfl rfl (s_Mo_act g1 ?_)
    show ga_W G (d + 1) mt_Mo_setMargin 22 [some (.inr 348), some (.inl v1), none] [] (mx_ac I1) E
    refine gw_nm (fun I2 q2 => ?_)
    have h := h I2 q2
    refine gw_RG (fun hI3 => ?_)
    refine gw_aload_n 0 d_Mo_setMargin_22 rfl rfl ?_
    refine gw_getR d_Mo_setMargin_23 fl_Mo_7 (ga_oM) rfl ?_
    refine gw_sipush d_Mo_setMargin_26 (by decide +kernel) ?_
    refine gw_iald d_Mo_setMargin_29 (ga_aM1) (by decide) (by decide) ?_
    refine gw_istore_n 2 d_Mo_setMargin_30 rfl (Nat.le_of_ble_eq_true rfl) rfl ?_
    refine gw_aload_n 0 d_Mo_setMargin_31 rfl rfl ?_
    refine gw_getR d_Mo_setMargin_32 fl_Mo_7 (ga_oM) rfl ?_
    refine gw_sipush d_Mo_setMargin_35 (by decide +kernel) ?_
    refine gw_iload_n 1 d_Mo_setMargin_38 rfl rfl ?_
    refine gw_iast d_Mo_setMargin_39 (ga_aM1) (by decide) (by decide) ?_
    show ga_W G (d + 1) mt_Mo_setMargin 40 [some (.inr 348), some (.inl v1), some (.inl (I2 349 238))] [] (ga_up I2 349 238 (ga_wr v1)) E
    rw [ga_wr_eq (z := v1) r1]
    refine gw_nm (J := (ga_up I2 349 238 v1)) (fun I3 q3 => ?_)
    have h := h I3 q3
    refine gw_RG (fun hI4 => ?_)
    refine gw_iload_n 2 d_Mo_setMargin_40 rfl rfl ?_
    exact gw_ireturn d_Mo_setMargin_41 rfl h
  · have h := h.2 (of_decide_eq_false hc)
    refine gw_ldc (n := (-2000000001)) d_Mo_setMargin_15 kw_Mo_112 (by decide +kernel) ?_
    exact gw_ireturn d_Mo_setMargin_17 rfl h

theorem k_Mo_move_0 {G : ga_G} {d : Nat} {I : ga_I} {E : Option ga_V → ga_I → Prop} {v1 : Int} {v2 : Int} (r1 : ga_rg v1) (r2 : ga_rg v2)
    (h : ga_RG I → (∀ I1 : ga_I, I1 = (ga_up I 348 0 0) → ((¬ (0 ≤ v1 ∧ v1 ≤ 1000)) → E (some (.inl (-2000000001))) I1) ∧ ((0 ≤ v1 ∧ v1 ≤ 1000) → ((0 ≤ v2 ∧ v2 ≤ 1000) → (0 ≤ I1 348 4 ∧ I1 348 4 ≤ 5) ∧ ((∀ I2 : ga_I, I2 = (mx_ac I1) → (mo_ok I2 0) ∧ ((mo_ok I2 1) ∧ ((mo_pz I2) ∧ ((mo_zn I2) ∧ ((mo_g I2) ∧ ((0 ≤ I2 349 254 ∧ I2 349 254 ≤ 20) ∧ ((0 ≤ v1 ∧ v1 ≤ 1000) ∧ ((0 ≤ v2 ∧ v2 ≤ 1000) ∧ ((∀ I3 : ga_I, gr_mm I2 I3 v1 v2 → E (some (.inl (na_mm (I2 349) v1 v2))) I3)))))))))))) ∧ ((¬ (0 ≤ v2 ∧ v2 ≤ 1000)) → E (some (.inl (-2000000001))) I1)))) :
    ga_W G (d + 6) mt_Mo_move 0 (ga_en 3 [.inr 348, .inl v1, .inl v2]) [] I E := by
  show ga_W G (d + 6) mt_Mo_move 0 [some (.inr 348), some (.inl v1), some (.inl v2)] [] I E
  refine gw_RG (fun hI1 => ?_)
  have h := h hI1
  refine gw_aload_n 0 d_Mo_move_0 rfl rfl ?_
  refine gw_iconst d_Mo_move_1 ?_
  refine gw_putI d_Mo_move_2 fp_Mo_37 (ga_oM) rfl ?_
  show ga_W G (d + 6) mt_Mo_move 5 [some (.inr 348), some (.inl v1), some (.inl v2)] [] (ga_up I 348 0 (ga_wr 0)) E
  rw [ga_wr_eq (z := 0) ⟨by decide, by decide⟩]
  refine gw_nm (J := (ga_up I 348 0 0)) (fun I1 q1 => ?_)
  have h := h I1 q1
  refine gw_RG (fun hI2 => ?_)
  refine gw_iload_n 1 d_Mo_move_5 rfl rfl ?_
  refine gw_invS (as := [.inl v1]) (rest := []) (d' := (d + 5)) d_Mo_move_6 lk_Mo_179 rfl (Nat.le_of_ble_eq_true rfl) (Nat.le_of_ble_eq_true rfl) rfl rfl (s_Mo_isCoordinate r1 ?_)
  show ga_W G (d + 6) mt_Mo_move 9 [some (.inr 348), some (.inl v1), some (.inl v2)] [.inl (ga_bb (decide (0 ≤ v1 ∧ v1 ≤ 1000)))] I1 E
  refine gw_ifb_eq 19 d_Mo_move_9 (by decide) (fun hc => ?_) (fun hc => ?_)
  · have h := h.1 (of_decide_eq_false hc)
    refine gw_ldc (n := (-2000000001)) d_Mo_move_19 kw_Mo_112 (by decide +kernel) ?_
    exact gw_ireturn d_Mo_move_21 rfl h
  · have h := h.2 (of_decide_eq_true hc)
    refine gw_iload_n 2 d_Mo_move_12 rfl rfl ?_
    refine gw_invS (as := [.inl v2]) (rest := []) (d' := (d + 5)) d_Mo_move_13 lk_Mo_179 rfl (Nat.le_of_ble_eq_true rfl) (Nat.le_of_ble_eq_true rfl) rfl rfl (s_Mo_isCoordinate r2 ?_)
    show ga_W G (d + 6) mt_Mo_move 16 [some (.inr 348), some (.inl v1), some (.inl v2)] [.inl (ga_bb (decide (0 ≤ v2 ∧ v2 ≤ 1000)))] I1 E
    refine gw_ifb_ne 22 d_Mo_move_16 (by decide) (fun hc => ?_) (fun hc => ?_)
    · have h := h.1 (of_decide_eq_true hc)
      refine gw_aload_n 0 d_Mo_move_22 rfl rfl ?_
      obtain ⟨g1, h⟩ := h
      refine gw_invV (as := []) (k := 348) (rest := []) (d' := (d + 5)) d_Mo_move_23 lk_Mo_119 (ga_rcv (ga_oM) rfl rfl) rfl (Nat.le_of_ble_eq_true rfl) (Nat.le_of_ble_eq_true rfl) rfl rfl (s_Mo_act g1 ?_)
      show ga_W G (d + 6) mt_Mo_move 26 [some (.inr 348), some (.inl v1), some (.inl v2)] [] (mx_ac I1) E
      refine gw_nm (fun I2 q2 => ?_)
      have h := h I2 q2
      refine gw_RG (fun hI3 => ?_)
      refine gw_aload_n 0 d_Mo_move_26 rfl rfl ?_
      refine gw_iload_n 1 d_Mo_move_27 rfl rfl ?_
      refine gw_iload_n 2 d_Mo_move_28 rfl rfl ?_
      obtain ⟨g2, h⟩ := h
      obtain ⟨g3, h⟩ := h
      obtain ⟨g4, h⟩ := h
      obtain ⟨g5, h⟩ := h
      obtain ⟨g6, h⟩ := h
      obtain ⟨g7, h⟩ := h
      obtain ⟨g8, h⟩ := h
      obtain ⟨g9, h⟩ := h
      refine gw_invV (as := [.inl v1, .inl v2]) (k := 348) (rest := []) (d' := (d + 5)) d_Mo_move_29 lk_Mo_182 (ga_rcv (ga_oM) rfl rfl) rfl (Nat.le_of_ble_eq_true rfl) (Nat.le_of_ble_eq_true rfl) rfl rfl (s_Mo_moves g2 g3 g4 g5 g6 g7 g8 g9 (fun I3 q3 => ?_))
      have h := h I3 q3
      show ga_W G (d + 6) mt_Mo_move 32 [some (.inr 348), some (.inl v1), some (.inl v2)] [.inl (na_mm (I2 349) v1 v2)] I3 E
      refine gw_RG (fun hI4 => ?_)
      exact gw_ireturn d_Mo_move_32 rfl h
    · have h := h.2 (of_decide_eq_false hc)
      refine gw_ldc (n := (-2000000001)) d_Mo_move_19 kw_Mo_112 (by decide +kernel) ?_
      exact gw_ireturn d_Mo_move_21 rfl h

theorem k_Mo_sweep_0 {G : ga_G} {d : Nat} {I : ga_I} {E : Option ga_V → ga_I → Prop} {v1 : Int} {v2 : Int} {v3 : Int} (r1 : ga_rg v1) (r2 : ga_rg v2) (r3 : ga_rg v3)
    (h : ga_RG I → (∀ I1 : ga_I, I1 = (ga_up I 348 0 0) → ((¬ (0 ≤ v1 ∧ v1 ≤ 1)) → E (some (.inl (-2000000001))) I1) ∧ ((0 ≤ v1 ∧ v1 ≤ 1) → ((¬ (0 ≤ v2 ∧ v2 ≤ 1000)) → E (some (.inl (-2000000001))) I1) ∧ ((0 ≤ v2 ∧ v2 ≤ 1000) → (((1 : Int) ≤ v3 ∧ v3 ≤ (1000 : Int)) → (0 ≤ (234 + v1)) ∧ (((234 + v1) < 1120) ∧ ((((I1 349 (234 + v1).toNat) ≠ v2) → (0 ≤ I1 348 4 ∧ I1 348 4 ≤ 5) ∧ ((∀ I2 : ga_I, I2 = (mx_ac I1) → ga_W G (d + 6) mt_Mo_sweep 69 [some (.inr 348), some (.inl v1), some (.inl v2), some (.inl v3), some (.inl 0), some (.inl (I2 349 (234 + v1).toNat)), none, none, none] [] I2 E))) ∧ (((I1 349 (234 + v1).toNat) = v2) → E (some (.inl (-2000000002))) I1)))) ∧ ((¬ ((1 : Int) ≤ v3 ∧ v3 ≤ (1000 : Int))) → E (some (.inl (-2000000001))) I1))))) :
    ga_W G (d + 6) mt_Mo_sweep 0 (ga_en 9 [.inr 348, .inl v1, .inl v2, .inl v3]) [] I E := by
  show ga_W G (d + 6) mt_Mo_sweep 0 [some (.inr 348), some (.inl v1), some (.inl v2), some (.inl v3), none, none, none, none, none] [] I E
  refine gw_RG (fun hI1 => ?_)
  have h := h hI1
  refine gw_aload_n 0 d_Mo_sweep_0 rfl rfl ?_
  refine gw_iconst d_Mo_sweep_1 ?_
  refine gw_putI d_Mo_sweep_2 fp_Mo_37 (ga_oM) rfl ?_
  show ga_W G (d + 6) mt_Mo_sweep 5 [some (.inr 348), some (.inl v1), some (.inl v2), some (.inl v3), none, none, none, none, none] [] (ga_up I 348 0 (ga_wr 0)) E
  rw [ga_wr_eq (z := 0) ⟨by decide, by decide⟩]
  refine gw_nm (J := (ga_up I 348 0 0)) (fun I1 q1 => ?_)
  have h := h I1 q1
  refine gw_RG (fun hI2 => ?_)
  refine gw_iload_n 1 d_Mo_sweep_5 rfl rfl ?_
  refine gw_invS (as := [.inl v1]) (rest := []) (d' := (d + 5)) d_Mo_sweep_6 lk_Mo_51 rfl (Nat.le_of_ble_eq_true rfl) (Nat.le_of_ble_eq_true rfl) rfl rfl (s_Mo_isAxis r1 ?_)
  show ga_W G (d + 6) mt_Mo_sweep 9 [some (.inr 348), some (.inl v1), some (.inl v2), some (.inl v3), none, none, none, none, none] [.inl (ga_bb (decide (0 ≤ v1 ∧ v1 ≤ 1)))] I1 E
  refine gw_ifb_eq 30 d_Mo_sweep_9 (by decide) (fun hc => ?_) (fun hc => ?_)
  · have h := h.1 (of_decide_eq_false hc)
    refine gw_ldc (n := (-2000000001)) d_Mo_sweep_30 kw_Mo_112 (by decide +kernel) ?_
    exact gw_ireturn d_Mo_sweep_32 rfl h
  · have h := h.2 (of_decide_eq_true hc)
    refine gw_iload_n 2 d_Mo_sweep_12 rfl rfl ?_
    refine gw_invS (as := [.inl v2]) (rest := []) (d' := (d + 5)) d_Mo_sweep_13 lk_Mo_179 rfl (Nat.le_of_ble_eq_true rfl) (Nat.le_of_ble_eq_true rfl) rfl rfl (s_Mo_isCoordinate r2 ?_)
    show ga_W G (d + 6) mt_Mo_sweep 16 [some (.inr 348), some (.inl v1), some (.inl v2), some (.inl v3), none, none, none, none, none] [.inl (ga_bb (decide (0 ≤ v2 ∧ v2 ≤ 1000)))] I1 E
    refine gw_ifb_eq 30 d_Mo_sweep_16 (by decide) (fun hc => ?_) (fun hc => ?_)
    · have h := h.1 (of_decide_eq_false hc)
      refine gw_ldc (n := (-2000000001)) d_Mo_sweep_30 kw_Mo_112 (by decide +kernel) ?_
      exact gw_ireturn d_Mo_sweep_32 rfl h
    · have h := h.2 (of_decide_eq_true hc)
      refine gw_iload_n 3 d_Mo_sweep_19 rfl rfl ?_
      refine gw_iconst d_Mo_sweep_20 ?_
      refine gw_sipush d_Mo_sweep_21 (by decide +kernel) ?_
      refine gw_invS (as := [.inl v3, .inl 1, .inl 1000]) (rest := []) (d' := (d + 5)) d_Mo_sweep_24 lk_Mo_47 rfl (Nat.le_of_ble_eq_true rfl) (Nat.le_of_ble_eq_true rfl) rfl rfl (s_Mo_in r3 ⟨by decide, by decide⟩ ⟨by decide, by decide⟩ ?_)
      show ga_W G (d + 6) mt_Mo_sweep 27 [some (.inr 348), some (.inl v1), some (.inl v2), some (.inl v3), none, none, none, none, none] [.inl (ga_bb (decide ((1 : Int) ≤ v3 ∧ v3 ≤ (1000 : Int))))] I1 E
      refine gw_ifb_ne 33 d_Mo_sweep_27 (by decide) (fun hc => ?_) (fun hc => ?_)
      · have h := h.1 (of_decide_eq_true hc)
        refine gw_aload_n 0 d_Mo_sweep_33 rfl rfl ?_
        refine gw_getR d_Mo_sweep_34 fl_Mo_7 (ga_oM) rfl ?_
        refine gw_sipush d_Mo_sweep_37 (by decide +kernel) ?_
        refine gw_iload_n 1 d_Mo_sweep_40 rfl rfl ?_
        refine gw_iadd d_Mo_sweep_41 ?_
        obtain ⟨g1, h⟩ := h
        obtain ⟨g2, h⟩ := h
        refine gw_iald d_Mo_sweep_42 (ga_aM1) g1 g2 ?_
        refine gw_iload_n 2 d_Mo_sweep_43 rfl rfl ?_
        refine gw_icmp_ne 50 d_Mo_sweep_44 (by decide) (hI2 _ _) r2 (fun hc => ?_) (fun hc => ?_)
        · have h := h.1 hc
          refine gw_aload_n 0 d_Mo_sweep_50 rfl rfl ?_
          obtain ⟨g3, h⟩ := h
          refine gw_invV (as := []) (k := 348) (rest := []) (d' := (d + 5)) d_Mo_sweep_51 lk_Mo_119 (ga_rcv (ga_oM) rfl rfl) rfl (Nat.le_of_ble_eq_true rfl) (Nat.le_of_ble_eq_true rfl) rfl rfl (s_Mo_act g3 ?_)
          show ga_W G (d + 6) mt_Mo_sweep 54 [some (.inr 348), some (.inl v1), some (.inl v2), some (.inl v3), none, none, none, none, none] [] (mx_ac I1) E
          refine gw_nm (fun I2 q2 => ?_)
          have h := h I2 q2
          refine gw_RG (fun hI3 => ?_)
          refine gw_iconst d_Mo_sweep_54 ?_
          refine gw_istore 4 d_Mo_sweep_55 (Nat.le_of_ble_eq_true rfl) rfl ?_
          refine gw_aload_n 0 d_Mo_sweep_57 rfl rfl ?_
          refine gw_getR d_Mo_sweep_58 fl_Mo_7 (ga_oM) rfl ?_
          refine gw_sipush d_Mo_sweep_61 (by decide +kernel) ?_
          refine gw_iload_n 1 d_Mo_sweep_64 rfl rfl ?_
          refine gw_iadd d_Mo_sweep_65 ?_
          refine gw_iald d_Mo_sweep_66 (ga_aM1) g1 g2 ?_
          refine gw_istore 5 d_Mo_sweep_67 (Nat.le_of_ble_eq_true rfl) rfl ?_
          exact gw_le h (by exact ⟨rfl, ⟨rfl, ⟨rfl, ⟨rfl, ⟨rfl, ⟨rfl, trivial⟩⟩⟩⟩⟩⟩)
        · have h := h.2 hc
          refine gw_ldc (n := (-2000000002)) d_Mo_sweep_47 kw_Mo_117 (by decide +kernel) ?_
          exact gw_ireturn d_Mo_sweep_49 rfl h
      · have h := h.2 (of_decide_eq_false hc)
        refine gw_ldc (n := (-2000000001)) d_Mo_sweep_30 kw_Mo_112 (by decide +kernel) ?_
        exact gw_ireturn d_Mo_sweep_32 rfl h
theorem k_Mo_sweep_69 {G : ga_G} {d : Nat} {I : ga_I} {E : Option ga_V → ga_I → Prop} {v1 : Int} {v2 : Int} {v3 : Int} {v4 : Int} {v5 : Int} (r1 : ga_rg v1) (r2 : ga_rg v2) (r3 : ga_rg v3) (r5 : ga_rg v5)
    (h : ga_RG I → ((v5 = v2) → E (some (.inl v4)) I) ∧ ((¬ (v5 = v2)) → (ga_rg ((v5 - v2).natAbs : Int)) ∧ (((v3 ≤ ((v5 - v2).natAbs : Int)) → ((v2 ≤ v5) → (0 ≤ (236 + v1)) ∧ (((236 + v1) < 1120) ∧ (((v1 ≠ 0) → (mo_ok I 0) ∧ ((mo_ok I 1) ∧ ((mo_pz I) ∧ ((mo_zn I) ∧ ((mo_g I) ∧ ((0 ≤ I 349 254 ∧ I 349 254 ≤ 20) ∧ ((0 ≤ (I 349 234) ∧ (I 349 234) ≤ 1000) ∧ ((0 ≤ (v5 + (-v3)) ∧ (v5 + (-v3)) ≤ 1000) ∧ ((∀ I1 : ga_I, gr_mm I I1 (I 349 234) (v5 + (-v3)) → (ga_rg (na_mm (I 349) (I 349 234) (v5 + (-v3)))) ∧ ((((na_mm (I 349) (I 349 234) (v5 + (-v3))) = (-2000000009)) → ga_W G (d + 6) mt_Mo_sweep 69 [some (.inr 348), some (.inl v1), some (.inl v2), some (.inl v3), some (.inl (v4 + 0)), some (.inl (v5 + (-v3))), none, none, none] [] I1 E) ∧ ((¬ ((na_mm (I 349) (I 349 234) (v5 + (-v3))) = (-2000000009))) → (((I1 349 (236 + v1).toNat) = (I 349 (236 + v1).toNat)) → ga_W G (d + 6) mt_Mo_sweep 69 [some (.inr 348), some (.inl v1), some (.inl v2), some (.inl v3), some (.inl (v4 + 0)), some (.inl (v5 + (-v3))), none, none, none] [] I1 E) ∧ ((¬ ((I1 349 (236 + v1).toNat) = (I 349 (236 + v1).toNat))) → ga_W G (d + 6) mt_Mo_sweep 69 [some (.inr 348), some (.inl v1), some (.inl v2), some (.inl v3), some (.inl (v4 + 1)), some (.inl (v5 + (-v3))), none, none, none] [] I1 E))))))))))))) ∧ ((v1 = 0) → (mo_ok I 0) ∧ ((mo_ok I 1) ∧ ((mo_pz I) ∧ ((mo_zn I) ∧ ((mo_g I) ∧ ((0 ≤ I 349 254 ∧ I 349 254 ≤ 20) ∧ ((0 ≤ (v5 + (-v3)) ∧ (v5 + (-v3)) ≤ 1000) ∧ ((0 ≤ (I 349 235) ∧ (I 349 235) ≤ 1000) ∧ ((∀ I2 : ga_I, gr_mm I I2 (v5 + (-v3)) (I 349 235) → (ga_rg (na_mm (I 349) (v5 + (-v3)) (I 349 235))) ∧ ((((na_mm (I 349) (v5 + (-v3)) (I 349 235)) = (-2000000009)) → ga_W G (d + 6) mt_Mo_sweep 69 [some (.inr 348), some (.inl v1), some (.inl v2), some (.inl v3), some (.inl (v4 + 0)), some (.inl (v5 + (-v3))), none, none, none] [] I2 E) ∧ ((¬ ((na_mm (I 349) (v5 + (-v3)) (I 349 235)) = (-2000000009))) → (((I2 349 (236 + v1).toNat) = (I 349 (236 + v1).toNat)) → ga_W G (d + 6) mt_Mo_sweep 69 [some (.inr 348), some (.inl v1), some (.inl v2), some (.inl v3), some (.inl (v4 + 0)), some (.inl (v5 + (-v3))), none, none, none] [] I2 E) ∧ ((¬ ((I2 349 (236 + v1).toNat) = (I 349 (236 + v1).toNat))) → ga_W G (d + 6) mt_Mo_sweep 69 [some (.inr 348), some (.inl v1), some (.inl v2), some (.inl v3), some (.inl (v4 + 1)), some (.inl (v5 + (-v3))), none, none, none] [] I2 E)))))))))))))))) ∧ ((¬ (v2 ≤ v5)) → (0 ≤ (236 + v1)) ∧ (((236 + v1) < 1120) ∧ (((v1 ≠ 0) → (mo_ok I 0) ∧ ((mo_ok I 1) ∧ ((mo_pz I) ∧ ((mo_zn I) ∧ ((mo_g I) ∧ ((0 ≤ I 349 254 ∧ I 349 254 ≤ 20) ∧ ((0 ≤ (I 349 234) ∧ (I 349 234) ≤ 1000) ∧ ((0 ≤ (v5 + v3) ∧ (v5 + v3) ≤ 1000) ∧ ((∀ I3 : ga_I, gr_mm I I3 (I 349 234) (v5 + v3) → (ga_rg (na_mm (I 349) (I 349 234) (v5 + v3))) ∧ ((((na_mm (I 349) (I 349 234) (v5 + v3)) = (-2000000009)) → ga_W G (d + 6) mt_Mo_sweep 69 [some (.inr 348), some (.inl v1), some (.inl v2), some (.inl v3), some (.inl (v4 + 0)), some (.inl (v5 + v3)), none, none, none] [] I3 E) ∧ ((¬ ((na_mm (I 349) (I 349 234) (v5 + v3)) = (-2000000009))) → (((I3 349 (236 + v1).toNat) = (I 349 (236 + v1).toNat)) → ga_W G (d + 6) mt_Mo_sweep 69 [some (.inr 348), some (.inl v1), some (.inl v2), some (.inl v3), some (.inl (v4 + 0)), some (.inl (v5 + v3)), none, none, none] [] I3 E) ∧ ((¬ ((I3 349 (236 + v1).toNat) = (I 349 (236 + v1).toNat))) → ga_W G (d + 6) mt_Mo_sweep 69 [some (.inr 348), some (.inl v1), some (.inl v2), some (.inl v3), some (.inl (v4 + 1)), some (.inl (v5 + v3)), none, none, none] [] I3 E))))))))))))) ∧ ((v1 = 0) → (mo_ok I 0) ∧ ((mo_ok I 1) ∧ ((mo_pz I) ∧ ((mo_zn I) ∧ ((mo_g I) ∧ ((0 ≤ I 349 254 ∧ I 349 254 ≤ 20) ∧ ((0 ≤ (v5 + v3) ∧ (v5 + v3) ≤ 1000) ∧ ((0 ≤ (I 349 235) ∧ (I 349 235) ≤ 1000) ∧ ((∀ I4 : ga_I, gr_mm I I4 (v5 + v3) (I 349 235) → (ga_rg (na_mm (I 349) (v5 + v3) (I 349 235))) ∧ ((((na_mm (I 349) (v5 + v3) (I 349 235)) = (-2000000009)) → ga_W G (d + 6) mt_Mo_sweep 69 [some (.inr 348), some (.inl v1), some (.inl v2), some (.inl v3), some (.inl (v4 + 0)), some (.inl (v5 + v3)), none, none, none] [] I4 E) ∧ ((¬ ((na_mm (I 349) (v5 + v3) (I 349 235)) = (-2000000009))) → (((I4 349 (236 + v1).toNat) = (I 349 (236 + v1).toNat)) → ga_W G (d + 6) mt_Mo_sweep 69 [some (.inr 348), some (.inl v1), some (.inl v2), some (.inl v3), some (.inl (v4 + 0)), some (.inl (v5 + v3)), none, none, none] [] I4 E) ∧ ((¬ ((I4 349 (236 + v1).toNat) = (I 349 (236 + v1).toNat))) → ga_W G (d + 6) mt_Mo_sweep 69 [some (.inr 348), some (.inl v1), some (.inl v2), some (.inl v3), some (.inl (v4 + 1)), some (.inl (v5 + v3)), none, none, none] [] I4 E))))))))))))))))) ∧ ((¬ (v3 ≤ ((v5 - v2).natAbs : Int))) → ((v2 ≤ v5) → (0 ≤ (236 + v1)) ∧ (((236 + v1) < 1120) ∧ (((v1 ≠ 0) → (mo_ok I 0) ∧ ((mo_ok I 1) ∧ ((mo_pz I) ∧ ((mo_zn I) ∧ ((mo_g I) ∧ ((0 ≤ I 349 254 ∧ I 349 254 ≤ 20) ∧ ((0 ≤ (I 349 234) ∧ (I 349 234) ≤ 1000) ∧ ((0 ≤ (v5 + (-((v5 - v2).natAbs : Int))) ∧ (v5 + (-((v5 - v2).natAbs : Int))) ≤ 1000) ∧ ((∀ I5 : ga_I, gr_mm I I5 (I 349 234) (v5 + (-((v5 - v2).natAbs : Int))) → (ga_rg (na_mm (I 349) (I 349 234) (v5 + (-((v5 - v2).natAbs : Int))))) ∧ ((((na_mm (I 349) (I 349 234) (v5 + (-((v5 - v2).natAbs : Int)))) = (-2000000009)) → ga_W G (d + 6) mt_Mo_sweep 69 [some (.inr 348), some (.inl v1), some (.inl v2), some (.inl v3), some (.inl (v4 + 0)), some (.inl (v5 + (-((v5 - v2).natAbs : Int)))), none, none, none] [] I5 E) ∧ ((¬ ((na_mm (I 349) (I 349 234) (v5 + (-((v5 - v2).natAbs : Int)))) = (-2000000009))) → (((I5 349 (236 + v1).toNat) = (I 349 (236 + v1).toNat)) → ga_W G (d + 6) mt_Mo_sweep 69 [some (.inr 348), some (.inl v1), some (.inl v2), some (.inl v3), some (.inl (v4 + 0)), some (.inl (v5 + (-((v5 - v2).natAbs : Int)))), none, none, none] [] I5 E) ∧ ((¬ ((I5 349 (236 + v1).toNat) = (I 349 (236 + v1).toNat))) → ga_W G (d + 6) mt_Mo_sweep 69 [some (.inr 348), some (.inl v1), some (.inl v2), some (.inl v3), some (.inl (v4 + 1)), some (.inl (v5 + (-((v5 - v2).natAbs : Int)))), none, none, none] [] I5 E))))))))))))) ∧ ((v1 = 0) → (mo_ok I 0) ∧ ((mo_ok I 1) ∧ ((mo_pz I) ∧ ((mo_zn I) ∧ ((mo_g I) ∧ ((0 ≤ I 349 254 ∧ I 349 254 ≤ 20) ∧ ((0 ≤ (v5 + (-((v5 - v2).natAbs : Int))) ∧ (v5 + (-((v5 - v2).natAbs : Int))) ≤ 1000) ∧ ((0 ≤ (I 349 235) ∧ (I 349 235) ≤ 1000) ∧ ((∀ I6 : ga_I, gr_mm I I6 (v5 + (-((v5 - v2).natAbs : Int))) (I 349 235) → (ga_rg (na_mm (I 349) (v5 + (-((v5 - v2).natAbs : Int))) (I 349 235))) ∧ ((((na_mm (I 349) (v5 + (-((v5 - v2).natAbs : Int))) (I 349 235)) = (-2000000009)) → ga_W G (d + 6) mt_Mo_sweep 69 [some (.inr 348), some (.inl v1), some (.inl v2), some (.inl v3), some (.inl (v4 + 0)), some (.inl (v5 + (-((v5 - v2).natAbs : Int)))), none, none, none] [] I6 E) ∧ ((¬ ((na_mm (I 349) (v5 + (-((v5 - v2).natAbs : Int))) (I 349 235)) = (-2000000009))) → (((I6 349 (236 + v1).toNat) = (I 349 (236 + v1).toNat)) → ga_W G (d + 6) mt_Mo_sweep 69 [some (.inr 348), some (.inl v1), some (.inl v2), some (.inl v3), some (.inl (v4 + 0)), some (.inl (v5 + (-((v5 - v2).natAbs : Int)))), none, none, none] [] I6 E) ∧ ((¬ ((I6 349 (236 + v1).toNat) = (I 349 (236 + v1).toNat))) → ga_W G (d + 6) mt_Mo_sweep 69 [some (.inr 348), some (.inl v1), some (.inl v2), some (.inl v3), some (.inl (v4 + 1)), some (.inl (v5 + (-((v5 - v2).natAbs : Int)))), none, none, none] [] I6 E)))))))))))))))) ∧ ((¬ (v2 ≤ v5)) → (0 ≤ (236 + v1)) ∧ (((236 + v1) < 1120) ∧ (((v1 ≠ 0) → (mo_ok I 0) ∧ ((mo_ok I 1) ∧ ((mo_pz I) ∧ ((mo_zn I) ∧ ((mo_g I) ∧ ((0 ≤ I 349 254 ∧ I 349 254 ≤ 20) ∧ ((0 ≤ (I 349 234) ∧ (I 349 234) ≤ 1000) ∧ ((0 ≤ (v5 + ((v5 - v2).natAbs : Int)) ∧ (v5 + ((v5 - v2).natAbs : Int)) ≤ 1000) ∧ ((∀ I7 : ga_I, gr_mm I I7 (I 349 234) (v5 + ((v5 - v2).natAbs : Int)) → (ga_rg (na_mm (I 349) (I 349 234) (v5 + ((v5 - v2).natAbs : Int)))) ∧ ((((na_mm (I 349) (I 349 234) (v5 + ((v5 - v2).natAbs : Int))) = (-2000000009)) → ga_W G (d + 6) mt_Mo_sweep 69 [some (.inr 348), some (.inl v1), some (.inl v2), some (.inl v3), some (.inl (v4 + 0)), some (.inl (v5 + ((v5 - v2).natAbs : Int))), none, none, none] [] I7 E) ∧ ((¬ ((na_mm (I 349) (I 349 234) (v5 + ((v5 - v2).natAbs : Int))) = (-2000000009))) → (((I7 349 (236 + v1).toNat) = (I 349 (236 + v1).toNat)) → ga_W G (d + 6) mt_Mo_sweep 69 [some (.inr 348), some (.inl v1), some (.inl v2), some (.inl v3), some (.inl (v4 + 0)), some (.inl (v5 + ((v5 - v2).natAbs : Int))), none, none, none] [] I7 E) ∧ ((¬ ((I7 349 (236 + v1).toNat) = (I 349 (236 + v1).toNat))) → ga_W G (d + 6) mt_Mo_sweep 69 [some (.inr 348), some (.inl v1), some (.inl v2), some (.inl v3), some (.inl (v4 + 1)), some (.inl (v5 + ((v5 - v2).natAbs : Int))), none, none, none] [] I7 E))))))))))))) ∧ ((v1 = 0) → (mo_ok I 0) ∧ ((mo_ok I 1) ∧ ((mo_pz I) ∧ ((mo_zn I) ∧ ((mo_g I) ∧ ((0 ≤ I 349 254 ∧ I 349 254 ≤ 20) ∧ ((0 ≤ (v5 + ((v5 - v2).natAbs : Int)) ∧ (v5 + ((v5 - v2).natAbs : Int)) ≤ 1000) ∧ ((0 ≤ (I 349 235) ∧ (I 349 235) ≤ 1000) ∧ ((∀ I8 : ga_I, gr_mm I I8 (v5 + ((v5 - v2).natAbs : Int)) (I 349 235) → (ga_rg (na_mm (I 349) (v5 + ((v5 - v2).natAbs : Int)) (I 349 235))) ∧ ((((na_mm (I 349) (v5 + ((v5 - v2).natAbs : Int)) (I 349 235)) = (-2000000009)) → ga_W G (d + 6) mt_Mo_sweep 69 [some (.inr 348), some (.inl v1), some (.inl v2), some (.inl v3), some (.inl (v4 + 0)), some (.inl (v5 + ((v5 - v2).natAbs : Int))), none, none, none] [] I8 E) ∧ ((¬ ((na_mm (I 349) (v5 + ((v5 - v2).natAbs : Int)) (I 349 235)) = (-2000000009))) → (((I8 349 (236 + v1).toNat) = (I 349 (236 + v1).toNat)) → ga_W G (d + 6) mt_Mo_sweep 69 [some (.inr 348), some (.inl v1), some (.inl v2), some (.inl v3), some (.inl (v4 + 0)), some (.inl (v5 + ((v5 - v2).natAbs : Int))), none, none, none] [] I8 E) ∧ ((¬ ((I8 349 (236 + v1).toNat) = (I 349 (236 + v1).toNat))) → ga_W G (d + 6) mt_Mo_sweep 69 [some (.inr 348), some (.inl v1), some (.inl v2), some (.inl v3), some (.inl (v4 + 1)), some (.inl (v5 + ((v5 - v2).natAbs : Int))), none, none, none] [] I8 E)))))))))))))))))))) :
    ga_W G (d + 6) mt_Mo_sweep 69 [some (.inr 348), some (.inl v1), some (.inl v2), some (.inl v3), some (.inl v4), some (.inl v5), none, none, none] [] I E := by
  refine gw_RG (fun hI1 => ?_)
  have h := h hI1
  refine gw_iload 5 d_Mo_sweep_69 rfl ?_
  refine gw_iload_n 2 d_Mo_sweep_71 rfl rfl ?_
  refine gw_icmp_eq 200 d_Mo_sweep_72 (by decide) r5 r2 (fun hc => ?_) (fun hc => ?_)
  · have h := h.1 hc
    refine gw_iload 4 d_Mo_sweep_200 rfl ?_
    exact gw_ireturn d_Mo_sweep_202 rfl h
  · have h := h.2 hc
    refine gw_iload 5 d_Mo_sweep_75 rfl ?_
    refine gw_iload_n 2 d_Mo_sweep_77 rfl rfl ?_
    refine gw_invS (as := [.inl v5, .inl v2]) (rest := []) (d' := (d + 5)) d_Mo_sweep_78 lk_Mo_85 rfl (Nat.le_of_ble_eq_true rfl) (Nat.le_of_ble_eq_true rfl) rfl rfl (s_Mo_apart r5 r2 ?_)
    show ga_W G (d + 6) mt_Mo_sweep 81 [some (.inr 348), some (.inl v1), some (.inl v2), some (.inl v3), some (.inl v4), some (.inl v5), none, none, none] [.inl ((v5 - v2).natAbs : Int)] I E
    refine gw_iload_n 3 d_Mo_sweep_81 rfl rfl ?_
    obtain ⟨g1, h⟩ := h
    refine gw_icmp_ge 94 d_Mo_sweep_82 (by decide) g1 r3 (fun hc => ?_) (fun hc => ?_)
    · have h := h.1 hc
      refine gw_iload_n 3 d_Mo_sweep_94 rfl rfl ?_
      refine gw_istore 6 d_Mo_sweep_95 (Nat.le_of_ble_eq_true rfl) rfl ?_
      refine gw_iload 5 d_Mo_sweep_97 rfl ?_
      refine gw_iload 5 d_Mo_sweep_99 rfl ?_
      refine gw_iload_n 2 d_Mo_sweep_101 rfl rfl ?_
      refine gw_icmp_ge 110 d_Mo_sweep_102 (by decide) r5 r2 (fun hc => ?_) (fun hc => ?_)
      · have h := h.1 hc
        refine gw_iload 6 d_Mo_sweep_110 rfl ?_
        refine gw_ineg d_Mo_sweep_112 ?_
        refine gw_iadd d_Mo_sweep_113 ?_
        refine gw_istore 5 d_Mo_sweep_114 (Nat.le_of_ble_eq_true rfl) rfl ?_
        refine gw_aload_n 0 d_Mo_sweep_116 rfl rfl ?_
        refine gw_getR d_Mo_sweep_117 fl_Mo_7 (ga_oM) rfl ?_
        refine gw_sipush d_Mo_sweep_120 (by decide +kernel) ?_
        refine gw_iload_n 1 d_Mo_sweep_123 rfl rfl ?_
        refine gw_iadd d_Mo_sweep_124 ?_
        obtain ⟨g2, h⟩ := h
        obtain ⟨g3, h⟩ := h
        refine gw_iald d_Mo_sweep_125 (ga_aM1) g2 g3 ?_
        refine gw_istore 7 d_Mo_sweep_126 (Nat.le_of_ble_eq_true rfl) rfl ?_
        refine gw_iload_n 1 d_Mo_sweep_128 rfl rfl ?_
        refine gw_if_ne 149 d_Mo_sweep_129 (by decide) r1 (fun hc => ?_) (fun hc => ?_)
        · have h := h.1 hc
          refine gw_aload_n 0 d_Mo_sweep_149 rfl rfl ?_
          refine gw_aload_n 0 d_Mo_sweep_150 rfl rfl ?_
          refine gw_getR d_Mo_sweep_151 fl_Mo_7 (ga_oM) rfl ?_
          refine gw_sipush d_Mo_sweep_154 (by decide +kernel) ?_
          refine gw_iald d_Mo_sweep_157 (ga_aM1) (by decide) (by decide) ?_
          refine gw_iload 5 d_Mo_sweep_158 rfl ?_
          obtain ⟨g4, h⟩ := h
          obtain ⟨g5, h⟩ := h
          obtain ⟨g6, h⟩ := h
          obtain ⟨g7, h⟩ := h
          obtain ⟨g8, h⟩ := h
          obtain ⟨g9, h⟩ := h
          obtain ⟨g10, h⟩ := h
          obtain ⟨g11, h⟩ := h
          refine gw_invV (as := [.inl (I 349 234), .inl (v5 + (-v3))]) (k := 348) (rest := []) (d' := (d + 5)) d_Mo_sweep_160 lk_Mo_182 (ga_rcv (ga_oM) rfl rfl) rfl (Nat.le_of_ble_eq_true rfl) (Nat.le_of_ble_eq_true rfl) rfl rfl (s_Mo_moves g4 g5 g6 g7 g8 g9 g10 g11 (fun I1 q1 => ?_))
          have h := h I1 q1
          show ga_W G (d + 6) mt_Mo_sweep 163 [some (.inr 348), some (.inl v1), some (.inl v2), some (.inl v3), some (.inl v4), some (.inl (v5 + (-v3))), some (.inl v3), some (.inl (I 349 (236 + v1).toNat)), none] [.inl (na_mm (I 349) (I 349 234) (v5 + (-v3)))] I1 E
          refine gw_RG (fun hI2 => ?_)
          refine gw_istore 8 d_Mo_sweep_163 (Nat.le_of_ble_eq_true rfl) rfl ?_
          refine gw_iload 4 d_Mo_sweep_165 rfl ?_
          refine gw_iload 8 d_Mo_sweep_167 rfl ?_
          refine gw_ldc (n := (-2000000009)) d_Mo_sweep_169 kw_Mo_67 (by decide +kernel) ?_
          obtain ⟨g12, h⟩ := h
          refine gw_icmp_eq 193 d_Mo_sweep_171 (by decide) g12 ⟨by decide, by decide⟩ (fun hc => ?_) (fun hc => ?_)
          · have h := h.1 hc
            refine gw_iconst d_Mo_sweep_193 ?_
            refine gw_iadd d_Mo_sweep_194 ?_
            refine gw_istore 4 d_Mo_sweep_195 (Nat.le_of_ble_eq_true rfl) rfl ?_
            refine gw_goto 69 d_Mo_sweep_197 (by decide) ?_
            exact gw_le h (by exact ⟨rfl, ⟨rfl, ⟨rfl, ⟨rfl, ⟨rfl, ⟨rfl, trivial⟩⟩⟩⟩⟩⟩)
          · have h := h.2 hc
            refine gw_aload_n 0 d_Mo_sweep_174 rfl rfl ?_
            refine gw_getR d_Mo_sweep_175 fl_Mo_7 (ga_oM) rfl ?_
            refine gw_sipush d_Mo_sweep_178 (by decide +kernel) ?_
            refine gw_iload_n 1 d_Mo_sweep_181 rfl rfl ?_
            refine gw_iadd d_Mo_sweep_182 ?_
            refine gw_iald d_Mo_sweep_183 (ga_aM1) g2 g3 ?_
            refine gw_iload 7 d_Mo_sweep_184 rfl ?_
            refine gw_icmp_eq 193 d_Mo_sweep_186 (by decide) (hI2 _ _) (hI1 _ _) (fun hc => ?_) (fun hc => ?_)
            · have h := h.1 hc
              refine gw_iconst d_Mo_sweep_193 ?_
              refine gw_iadd d_Mo_sweep_194 ?_
              refine gw_istore 4 d_Mo_sweep_195 (Nat.le_of_ble_eq_true rfl) rfl ?_
              refine gw_goto 69 d_Mo_sweep_197 (by decide) ?_
              exact gw_le h (by exact ⟨rfl, ⟨rfl, ⟨rfl, ⟨rfl, ⟨rfl, ⟨rfl, trivial⟩⟩⟩⟩⟩⟩)
            · have h := h.2 hc
              refine gw_iconst d_Mo_sweep_189 ?_
              refine gw_goto 194 d_Mo_sweep_190 (by decide) ?_
              refine gw_iadd d_Mo_sweep_194 ?_
              refine gw_istore 4 d_Mo_sweep_195 (Nat.le_of_ble_eq_true rfl) rfl ?_
              refine gw_goto 69 d_Mo_sweep_197 (by decide) ?_
              exact gw_le h (by exact ⟨rfl, ⟨rfl, ⟨rfl, ⟨rfl, ⟨rfl, ⟨rfl, trivial⟩⟩⟩⟩⟩⟩)
        · have h := h.2 hc
          refine gw_aload_n 0 d_Mo_sweep_132 rfl rfl ?_
          refine gw_iload 5 d_Mo_sweep_133 rfl ?_
          refine gw_aload_n 0 d_Mo_sweep_135 rfl rfl ?_
          refine gw_getR d_Mo_sweep_136 fl_Mo_7 (ga_oM) rfl ?_
          refine gw_sipush d_Mo_sweep_139 (by decide +kernel) ?_
          refine gw_iald d_Mo_sweep_142 (ga_aM1) (by decide) (by decide) ?_
          obtain ⟨g13, h⟩ := h
          obtain ⟨g14, h⟩ := h
          obtain ⟨g15, h⟩ := h
          obtain ⟨g16, h⟩ := h
          obtain ⟨g17, h⟩ := h
          obtain ⟨g18, h⟩ := h
          obtain ⟨g19, h⟩ := h
          obtain ⟨g20, h⟩ := h
          refine gw_invV (as := [.inl (v5 + (-v3)), .inl (I 349 235)]) (k := 348) (rest := []) (d' := (d + 5)) d_Mo_sweep_143 lk_Mo_182 (ga_rcv (ga_oM) rfl rfl) rfl (Nat.le_of_ble_eq_true rfl) (Nat.le_of_ble_eq_true rfl) rfl rfl (s_Mo_moves g13 g14 g15 g16 g17 g18 g19 g20 (fun I2 q2 => ?_))
          have h := h I2 q2
          show ga_W G (d + 6) mt_Mo_sweep 146 [some (.inr 348), some (.inl v1), some (.inl v2), some (.inl v3), some (.inl v4), some (.inl (v5 + (-v3))), some (.inl v3), some (.inl (I 349 (236 + v1).toNat)), none] [.inl (na_mm (I 349) (v5 + (-v3)) (I 349 235))] I2 E
          refine gw_RG (fun hI3 => ?_)
          refine gw_goto 163 d_Mo_sweep_146 (by decide) ?_
          refine gw_istore 8 d_Mo_sweep_163 (Nat.le_of_ble_eq_true rfl) rfl ?_
          refine gw_iload 4 d_Mo_sweep_165 rfl ?_
          refine gw_iload 8 d_Mo_sweep_167 rfl ?_
          refine gw_ldc (n := (-2000000009)) d_Mo_sweep_169 kw_Mo_67 (by decide +kernel) ?_
          obtain ⟨g21, h⟩ := h
          refine gw_icmp_eq 193 d_Mo_sweep_171 (by decide) g21 ⟨by decide, by decide⟩ (fun hc => ?_) (fun hc => ?_)
          · have h := h.1 hc
            refine gw_iconst d_Mo_sweep_193 ?_
            refine gw_iadd d_Mo_sweep_194 ?_
            refine gw_istore 4 d_Mo_sweep_195 (Nat.le_of_ble_eq_true rfl) rfl ?_
            refine gw_goto 69 d_Mo_sweep_197 (by decide) ?_
            exact gw_le h (by exact ⟨rfl, ⟨rfl, ⟨rfl, ⟨rfl, ⟨rfl, ⟨rfl, trivial⟩⟩⟩⟩⟩⟩)
          · have h := h.2 hc
            refine gw_aload_n 0 d_Mo_sweep_174 rfl rfl ?_
            refine gw_getR d_Mo_sweep_175 fl_Mo_7 (ga_oM) rfl ?_
            refine gw_sipush d_Mo_sweep_178 (by decide +kernel) ?_
            refine gw_iload_n 1 d_Mo_sweep_181 rfl rfl ?_
            refine gw_iadd d_Mo_sweep_182 ?_
            refine gw_iald d_Mo_sweep_183 (ga_aM1) g2 g3 ?_
            refine gw_iload 7 d_Mo_sweep_184 rfl ?_
            refine gw_icmp_eq 193 d_Mo_sweep_186 (by decide) (hI3 _ _) (hI1 _ _) (fun hc => ?_) (fun hc => ?_)
            · have h := h.1 hc
              refine gw_iconst d_Mo_sweep_193 ?_
              refine gw_iadd d_Mo_sweep_194 ?_
              refine gw_istore 4 d_Mo_sweep_195 (Nat.le_of_ble_eq_true rfl) rfl ?_
              refine gw_goto 69 d_Mo_sweep_197 (by decide) ?_
              exact gw_le h (by exact ⟨rfl, ⟨rfl, ⟨rfl, ⟨rfl, ⟨rfl, ⟨rfl, trivial⟩⟩⟩⟩⟩⟩)
            · have h := h.2 hc
              refine gw_iconst d_Mo_sweep_189 ?_
              refine gw_goto 194 d_Mo_sweep_190 (by decide) ?_
              refine gw_iadd d_Mo_sweep_194 ?_
              refine gw_istore 4 d_Mo_sweep_195 (Nat.le_of_ble_eq_true rfl) rfl ?_
              refine gw_goto 69 d_Mo_sweep_197 (by decide) ?_
              exact gw_le h (by exact ⟨rfl, ⟨rfl, ⟨rfl, ⟨rfl, ⟨rfl, ⟨rfl, trivial⟩⟩⟩⟩⟩⟩)
      · have h := h.2 hc
        refine gw_iload 6 d_Mo_sweep_105 rfl ?_
        refine gw_goto 113 d_Mo_sweep_107 (by decide) ?_
        refine gw_iadd d_Mo_sweep_113 ?_
        refine gw_istore 5 d_Mo_sweep_114 (Nat.le_of_ble_eq_true rfl) rfl ?_
        refine gw_aload_n 0 d_Mo_sweep_116 rfl rfl ?_
        refine gw_getR d_Mo_sweep_117 fl_Mo_7 (ga_oM) rfl ?_
        refine gw_sipush d_Mo_sweep_120 (by decide +kernel) ?_
        refine gw_iload_n 1 d_Mo_sweep_123 rfl rfl ?_
        refine gw_iadd d_Mo_sweep_124 ?_
        obtain ⟨g22, h⟩ := h
        obtain ⟨g23, h⟩ := h
        refine gw_iald d_Mo_sweep_125 (ga_aM1) g22 g23 ?_
        refine gw_istore 7 d_Mo_sweep_126 (Nat.le_of_ble_eq_true rfl) rfl ?_
        refine gw_iload_n 1 d_Mo_sweep_128 rfl rfl ?_
        refine gw_if_ne 149 d_Mo_sweep_129 (by decide) r1 (fun hc => ?_) (fun hc => ?_)
        · have h := h.1 hc
          refine gw_aload_n 0 d_Mo_sweep_149 rfl rfl ?_
          refine gw_aload_n 0 d_Mo_sweep_150 rfl rfl ?_
          refine gw_getR d_Mo_sweep_151 fl_Mo_7 (ga_oM) rfl ?_
          refine gw_sipush d_Mo_sweep_154 (by decide +kernel) ?_
          refine gw_iald d_Mo_sweep_157 (ga_aM1) (by decide) (by decide) ?_
          refine gw_iload 5 d_Mo_sweep_158 rfl ?_
          obtain ⟨g24, h⟩ := h
          obtain ⟨g25, h⟩ := h
          obtain ⟨g26, h⟩ := h
          obtain ⟨g27, h⟩ := h
          obtain ⟨g28, h⟩ := h
          obtain ⟨g29, h⟩ := h
          obtain ⟨g30, h⟩ := h
          obtain ⟨g31, h⟩ := h
          refine gw_invV (as := [.inl (I 349 234), .inl (v5 + v3)]) (k := 348) (rest := []) (d' := (d + 5)) d_Mo_sweep_160 lk_Mo_182 (ga_rcv (ga_oM) rfl rfl) rfl (Nat.le_of_ble_eq_true rfl) (Nat.le_of_ble_eq_true rfl) rfl rfl (s_Mo_moves g24 g25 g26 g27 g28 g29 g30 g31 (fun I3 q3 => ?_))
          have h := h I3 q3
          show ga_W G (d + 6) mt_Mo_sweep 163 [some (.inr 348), some (.inl v1), some (.inl v2), some (.inl v3), some (.inl v4), some (.inl (v5 + v3)), some (.inl v3), some (.inl (I 349 (236 + v1).toNat)), none] [.inl (na_mm (I 349) (I 349 234) (v5 + v3))] I3 E
          refine gw_RG (fun hI4 => ?_)
          refine gw_istore 8 d_Mo_sweep_163 (Nat.le_of_ble_eq_true rfl) rfl ?_
          refine gw_iload 4 d_Mo_sweep_165 rfl ?_
          refine gw_iload 8 d_Mo_sweep_167 rfl ?_
          refine gw_ldc (n := (-2000000009)) d_Mo_sweep_169 kw_Mo_67 (by decide +kernel) ?_
          obtain ⟨g32, h⟩ := h
          refine gw_icmp_eq 193 d_Mo_sweep_171 (by decide) g32 ⟨by decide, by decide⟩ (fun hc => ?_) (fun hc => ?_)
          · have h := h.1 hc
            refine gw_iconst d_Mo_sweep_193 ?_
            refine gw_iadd d_Mo_sweep_194 ?_
            refine gw_istore 4 d_Mo_sweep_195 (Nat.le_of_ble_eq_true rfl) rfl ?_
            refine gw_goto 69 d_Mo_sweep_197 (by decide) ?_
            exact gw_le h (by exact ⟨rfl, ⟨rfl, ⟨rfl, ⟨rfl, ⟨rfl, ⟨rfl, trivial⟩⟩⟩⟩⟩⟩)
          · have h := h.2 hc
            refine gw_aload_n 0 d_Mo_sweep_174 rfl rfl ?_
            refine gw_getR d_Mo_sweep_175 fl_Mo_7 (ga_oM) rfl ?_
            refine gw_sipush d_Mo_sweep_178 (by decide +kernel) ?_
            refine gw_iload_n 1 d_Mo_sweep_181 rfl rfl ?_
            refine gw_iadd d_Mo_sweep_182 ?_
            refine gw_iald d_Mo_sweep_183 (ga_aM1) g22 g23 ?_
            refine gw_iload 7 d_Mo_sweep_184 rfl ?_
            refine gw_icmp_eq 193 d_Mo_sweep_186 (by decide) (hI4 _ _) (hI1 _ _) (fun hc => ?_) (fun hc => ?_)
            · have h := h.1 hc
              refine gw_iconst d_Mo_sweep_193 ?_
              refine gw_iadd d_Mo_sweep_194 ?_
              refine gw_istore 4 d_Mo_sweep_195 (Nat.le_of_ble_eq_true rfl) rfl ?_
              refine gw_goto 69 d_Mo_sweep_197 (by decide) ?_
              exact gw_le h (by exact ⟨rfl, ⟨rfl, ⟨rfl, ⟨rfl, ⟨rfl, ⟨rfl, trivial⟩⟩⟩⟩⟩⟩)
            · have h := h.2 hc
              refine gw_iconst d_Mo_sweep_189 ?_
              refine gw_goto 194 d_Mo_sweep_190 (by decide) ?_
              refine gw_iadd d_Mo_sweep_194 ?_
              refine gw_istore 4 d_Mo_sweep_195 (Nat.le_of_ble_eq_true rfl) rfl ?_
              refine gw_goto 69 d_Mo_sweep_197 (by decide) ?_
              exact gw_le h (by exact ⟨rfl, ⟨rfl, ⟨rfl, ⟨rfl, ⟨rfl, ⟨rfl, trivial⟩⟩⟩⟩⟩⟩)
        · have h := h.2 hc
          refine gw_aload_n 0 d_Mo_sweep_132 rfl rfl ?_
          refine gw_iload 5 d_Mo_sweep_133 rfl ?_
          refine gw_aload_n 0 d_Mo_sweep_135 rfl rfl ?_
          refine gw_getR d_Mo_sweep_136 fl_Mo_7 (ga_oM) rfl ?_
          refine gw_sipush d_Mo_sweep_139 (by decide +kernel) ?_
          refine gw_iald d_Mo_sweep_142 (ga_aM1) (by decide) (by decide) ?_
          obtain ⟨g33, h⟩ := h
          obtain ⟨g34, h⟩ := h
          obtain ⟨g35, h⟩ := h
          obtain ⟨g36, h⟩ := h
          obtain ⟨g37, h⟩ := h
          obtain ⟨g38, h⟩ := h
          obtain ⟨g39, h⟩ := h
          obtain ⟨g40, h⟩ := h
          refine gw_invV (as := [.inl (v5 + v3), .inl (I 349 235)]) (k := 348) (rest := []) (d' := (d + 5)) d_Mo_sweep_143 lk_Mo_182 (ga_rcv (ga_oM) rfl rfl) rfl (Nat.le_of_ble_eq_true rfl) (Nat.le_of_ble_eq_true rfl) rfl rfl (s_Mo_moves g33 g34 g35 g36 g37 g38 g39 g40 (fun I4 q4 => ?_))
          have h := h I4 q4
          show ga_W G (d + 6) mt_Mo_sweep 146 [some (.inr 348), some (.inl v1), some (.inl v2), some (.inl v3), some (.inl v4), some (.inl (v5 + v3)), some (.inl v3), some (.inl (I 349 (236 + v1).toNat)), none] [.inl (na_mm (I 349) (v5 + v3) (I 349 235))] I4 E
          refine gw_RG (fun hI5 => ?_)
          refine gw_goto 163 d_Mo_sweep_146 (by decide) ?_
          refine gw_istore 8 d_Mo_sweep_163 (Nat.le_of_ble_eq_true rfl) rfl ?_
          refine gw_iload 4 d_Mo_sweep_165 rfl ?_
          refine gw_iload 8 d_Mo_sweep_167 rfl ?_
          refine gw_ldc (n := (-2000000009)) d_Mo_sweep_169 kw_Mo_67 (by decide +kernel) ?_
          obtain ⟨g41, h⟩ := h
          refine gw_icmp_eq 193 d_Mo_sweep_171 (by decide) g41 ⟨by decide, by decide⟩ (fun hc => ?_) (fun hc => ?_)
          · have h := h.1 hc
            refine gw_iconst d_Mo_sweep_193 ?_
            refine gw_iadd d_Mo_sweep_194 ?_
            refine gw_istore 4 d_Mo_sweep_195 (Nat.le_of_ble_eq_true rfl) rfl ?_
            refine gw_goto 69 d_Mo_sweep_197 (by decide) ?_
            exact gw_le h (by exact ⟨rfl, ⟨rfl, ⟨rfl, ⟨rfl, ⟨rfl, ⟨rfl, trivial⟩⟩⟩⟩⟩⟩)
          · have h := h.2 hc
            refine gw_aload_n 0 d_Mo_sweep_174 rfl rfl ?_
            refine gw_getR d_Mo_sweep_175 fl_Mo_7 (ga_oM) rfl ?_
            refine gw_sipush d_Mo_sweep_178 (by decide +kernel) ?_
            refine gw_iload_n 1 d_Mo_sweep_181 rfl rfl ?_
            refine gw_iadd d_Mo_sweep_182 ?_
            refine gw_iald d_Mo_sweep_183 (ga_aM1) g22 g23 ?_
            refine gw_iload 7 d_Mo_sweep_184 rfl ?_
            refine gw_icmp_eq 193 d_Mo_sweep_186 (by decide) (hI5 _ _) (hI1 _ _) (fun hc => ?_) (fun hc => ?_)
            · have h := h.1 hc
              refine gw_iconst d_Mo_sweep_193 ?_
              refine gw_iadd d_Mo_sweep_194 ?_
              refine gw_istore 4 d_Mo_sweep_195 (Nat.le_of_ble_eq_true rfl) rfl ?_
              refine gw_goto 69 d_Mo_sweep_197 (by decide) ?_
              exact gw_le h (by exact ⟨rfl, ⟨rfl, ⟨rfl, ⟨rfl, ⟨rfl, ⟨rfl, trivial⟩⟩⟩⟩⟩⟩)
            · have h := h.2 hc
              refine gw_iconst d_Mo_sweep_189 ?_
              refine gw_goto 194 d_Mo_sweep_190 (by decide) ?_
              refine gw_iadd d_Mo_sweep_194 ?_
              refine gw_istore 4 d_Mo_sweep_195 (Nat.le_of_ble_eq_true rfl) rfl ?_
              refine gw_goto 69 d_Mo_sweep_197 (by decide) ?_
              exact gw_le h (by exact ⟨rfl, ⟨rfl, ⟨rfl, ⟨rfl, ⟨rfl, ⟨rfl, trivial⟩⟩⟩⟩⟩⟩)
    · have h := h.2 hc
      refine gw_iload 5 d_Mo_sweep_85 rfl ?_
      refine gw_iload_n 2 d_Mo_sweep_87 rfl rfl ?_
      refine gw_invS (as := [.inl v5, .inl v2]) (rest := []) (d' := (d + 5)) d_Mo_sweep_88 lk_Mo_85 rfl (Nat.le_of_ble_eq_true rfl) (Nat.le_of_ble_eq_true rfl) rfl rfl (s_Mo_apart r5 r2 ?_)
      show ga_W G (d + 6) mt_Mo_sweep 91 [some (.inr 348), some (.inl v1), some (.inl v2), some (.inl v3), some (.inl v4), some (.inl v5), none, none, none] [.inl ((v5 - v2).natAbs : Int)] I E
      refine gw_goto 95 d_Mo_sweep_91 (by decide) ?_
      refine gw_istore 6 d_Mo_sweep_95 (Nat.le_of_ble_eq_true rfl) rfl ?_
      refine gw_iload 5 d_Mo_sweep_97 rfl ?_
      refine gw_iload 5 d_Mo_sweep_99 rfl ?_
      refine gw_iload_n 2 d_Mo_sweep_101 rfl rfl ?_
      refine gw_icmp_ge 110 d_Mo_sweep_102 (by decide) r5 r2 (fun hc => ?_) (fun hc => ?_)
      · have h := h.1 hc
        refine gw_iload 6 d_Mo_sweep_110 rfl ?_
        refine gw_ineg d_Mo_sweep_112 ?_
        refine gw_iadd d_Mo_sweep_113 ?_
        refine gw_istore 5 d_Mo_sweep_114 (Nat.le_of_ble_eq_true rfl) rfl ?_
        refine gw_aload_n 0 d_Mo_sweep_116 rfl rfl ?_
        refine gw_getR d_Mo_sweep_117 fl_Mo_7 (ga_oM) rfl ?_
        refine gw_sipush d_Mo_sweep_120 (by decide +kernel) ?_
        refine gw_iload_n 1 d_Mo_sweep_123 rfl rfl ?_
        refine gw_iadd d_Mo_sweep_124 ?_
        obtain ⟨g42, h⟩ := h
        obtain ⟨g43, h⟩ := h
        refine gw_iald d_Mo_sweep_125 (ga_aM1) g42 g43 ?_
        refine gw_istore 7 d_Mo_sweep_126 (Nat.le_of_ble_eq_true rfl) rfl ?_
        refine gw_iload_n 1 d_Mo_sweep_128 rfl rfl ?_
        refine gw_if_ne 149 d_Mo_sweep_129 (by decide) r1 (fun hc => ?_) (fun hc => ?_)
        · have h := h.1 hc
          refine gw_aload_n 0 d_Mo_sweep_149 rfl rfl ?_
          refine gw_aload_n 0 d_Mo_sweep_150 rfl rfl ?_
          refine gw_getR d_Mo_sweep_151 fl_Mo_7 (ga_oM) rfl ?_
          refine gw_sipush d_Mo_sweep_154 (by decide +kernel) ?_
          refine gw_iald d_Mo_sweep_157 (ga_aM1) (by decide) (by decide) ?_
          refine gw_iload 5 d_Mo_sweep_158 rfl ?_
          obtain ⟨g44, h⟩ := h
          obtain ⟨g45, h⟩ := h
          obtain ⟨g46, h⟩ := h
          obtain ⟨g47, h⟩ := h
          obtain ⟨g48, h⟩ := h
          obtain ⟨g49, h⟩ := h
          obtain ⟨g50, h⟩ := h
          obtain ⟨g51, h⟩ := h
          refine gw_invV (as := [.inl (I 349 234), .inl (v5 + (-((v5 - v2).natAbs : Int)))]) (k := 348) (rest := []) (d' := (d + 5)) d_Mo_sweep_160 lk_Mo_182 (ga_rcv (ga_oM) rfl rfl) rfl (Nat.le_of_ble_eq_true rfl) (Nat.le_of_ble_eq_true rfl) rfl rfl (s_Mo_moves g44 g45 g46 g47 g48 g49 g50 g51 (fun I5 q5 => ?_))
          have h := h I5 q5
          show ga_W G (d + 6) mt_Mo_sweep 163 [some (.inr 348), some (.inl v1), some (.inl v2), some (.inl v3), some (.inl v4), some (.inl (v5 + (-((v5 - v2).natAbs : Int)))), some (.inl ((v5 - v2).natAbs : Int)), some (.inl (I 349 (236 + v1).toNat)), none] [.inl (na_mm (I 349) (I 349 234) (v5 + (-((v5 - v2).natAbs : Int))))] I5 E
          refine gw_RG (fun hI6 => ?_)
          refine gw_istore 8 d_Mo_sweep_163 (Nat.le_of_ble_eq_true rfl) rfl ?_
          refine gw_iload 4 d_Mo_sweep_165 rfl ?_
          refine gw_iload 8 d_Mo_sweep_167 rfl ?_
          refine gw_ldc (n := (-2000000009)) d_Mo_sweep_169 kw_Mo_67 (by decide +kernel) ?_
          obtain ⟨g52, h⟩ := h
          refine gw_icmp_eq 193 d_Mo_sweep_171 (by decide) g52 ⟨by decide, by decide⟩ (fun hc => ?_) (fun hc => ?_)
          · have h := h.1 hc
            refine gw_iconst d_Mo_sweep_193 ?_
            refine gw_iadd d_Mo_sweep_194 ?_
            refine gw_istore 4 d_Mo_sweep_195 (Nat.le_of_ble_eq_true rfl) rfl ?_
            refine gw_goto 69 d_Mo_sweep_197 (by decide) ?_
            exact gw_le h (by exact ⟨rfl, ⟨rfl, ⟨rfl, ⟨rfl, ⟨rfl, ⟨rfl, trivial⟩⟩⟩⟩⟩⟩)
          · have h := h.2 hc
            refine gw_aload_n 0 d_Mo_sweep_174 rfl rfl ?_
            refine gw_getR d_Mo_sweep_175 fl_Mo_7 (ga_oM) rfl ?_
            refine gw_sipush d_Mo_sweep_178 (by decide +kernel) ?_
            refine gw_iload_n 1 d_Mo_sweep_181 rfl rfl ?_
            refine gw_iadd d_Mo_sweep_182 ?_
            refine gw_iald d_Mo_sweep_183 (ga_aM1) g42 g43 ?_
            refine gw_iload 7 d_Mo_sweep_184 rfl ?_
            refine gw_icmp_eq 193 d_Mo_sweep_186 (by decide) (hI6 _ _) (hI1 _ _) (fun hc => ?_) (fun hc => ?_)
            · have h := h.1 hc
              refine gw_iconst d_Mo_sweep_193 ?_
              refine gw_iadd d_Mo_sweep_194 ?_
              refine gw_istore 4 d_Mo_sweep_195 (Nat.le_of_ble_eq_true rfl) rfl ?_
              refine gw_goto 69 d_Mo_sweep_197 (by decide) ?_
              exact gw_le h (by exact ⟨rfl, ⟨rfl, ⟨rfl, ⟨rfl, ⟨rfl, ⟨rfl, trivial⟩⟩⟩⟩⟩⟩)
            · have h := h.2 hc
              refine gw_iconst d_Mo_sweep_189 ?_
              refine gw_goto 194 d_Mo_sweep_190 (by decide) ?_
              refine gw_iadd d_Mo_sweep_194 ?_
              refine gw_istore 4 d_Mo_sweep_195 (Nat.le_of_ble_eq_true rfl) rfl ?_
              refine gw_goto 69 d_Mo_sweep_197 (by decide) ?_
              exact gw_le h (by exact ⟨rfl, ⟨rfl, ⟨rfl, ⟨rfl, ⟨rfl, ⟨rfl, trivial⟩⟩⟩⟩⟩⟩)
        · have h := h.2 hc
          refine gw_aload_n 0 d_Mo_sweep_132 rfl rfl ?_
          refine gw_iload 5 d_Mo_sweep_133 rfl ?_
          refine gw_aload_n 0 d_Mo_sweep_135 rfl rfl ?_
          refine gw_getR d_Mo_sweep_136 fl_Mo_7 (ga_oM) rfl ?_
          refine gw_sipush d_Mo_sweep_139 (by decide +kernel) ?_
          refine gw_iald d_Mo_sweep_142 (ga_aM1) (by decide) (by decide) ?_
          obtain ⟨g53, h⟩ := h
          obtain ⟨g54, h⟩ := h
          obtain ⟨g55, h⟩ := h
          obtain ⟨g56, h⟩ := h
          obtain ⟨g57, h⟩ := h
          obtain ⟨g58, h⟩ := h
          obtain ⟨g59, h⟩ := h
          obtain ⟨g60, h⟩ := h
          refine gw_invV (as := [.inl (v5 + (-((v5 - v2).natAbs : Int))), .inl (I 349 235)]) (k := 348) (rest := []) (d' := (d + 5)) d_Mo_sweep_143 lk_Mo_182 (ga_rcv (ga_oM) rfl rfl) rfl (Nat.le_of_ble_eq_true rfl) (Nat.le_of_ble_eq_true rfl) rfl rfl (s_Mo_moves g53 g54 g55 g56 g57 g58 g59 g60 (fun I6 q6 => ?_))
          have h := h I6 q6
          show ga_W G (d + 6) mt_Mo_sweep 146 [some (.inr 348), some (.inl v1), some (.inl v2), some (.inl v3), some (.inl v4), some (.inl (v5 + (-((v5 - v2).natAbs : Int)))), some (.inl ((v5 - v2).natAbs : Int)), some (.inl (I 349 (236 + v1).toNat)), none] [.inl (na_mm (I 349) (v5 + (-((v5 - v2).natAbs : Int))) (I 349 235))] I6 E
          refine gw_RG (fun hI7 => ?_)
          refine gw_goto 163 d_Mo_sweep_146 (by decide) ?_
          refine gw_istore 8 d_Mo_sweep_163 (Nat.le_of_ble_eq_true rfl) rfl ?_
          refine gw_iload 4 d_Mo_sweep_165 rfl ?_
          refine gw_iload 8 d_Mo_sweep_167 rfl ?_
          refine gw_ldc (n := (-2000000009)) d_Mo_sweep_169 kw_Mo_67 (by decide +kernel) ?_
          obtain ⟨g61, h⟩ := h
          refine gw_icmp_eq 193 d_Mo_sweep_171 (by decide) g61 ⟨by decide, by decide⟩ (fun hc => ?_) (fun hc => ?_)
          · have h := h.1 hc
            refine gw_iconst d_Mo_sweep_193 ?_
            refine gw_iadd d_Mo_sweep_194 ?_
            refine gw_istore 4 d_Mo_sweep_195 (Nat.le_of_ble_eq_true rfl) rfl ?_
            refine gw_goto 69 d_Mo_sweep_197 (by decide) ?_
            exact gw_le h (by exact ⟨rfl, ⟨rfl, ⟨rfl, ⟨rfl, ⟨rfl, ⟨rfl, trivial⟩⟩⟩⟩⟩⟩)
          · have h := h.2 hc
            refine gw_aload_n 0 d_Mo_sweep_174 rfl rfl ?_
            refine gw_getR d_Mo_sweep_175 fl_Mo_7 (ga_oM) rfl ?_
            refine gw_sipush d_Mo_sweep_178 (by decide +kernel) ?_
            refine gw_iload_n 1 d_Mo_sweep_181 rfl rfl ?_
            refine gw_iadd d_Mo_sweep_182 ?_
            refine gw_iald d_Mo_sweep_183 (ga_aM1) g42 g43 ?_
            refine gw_iload 7 d_Mo_sweep_184 rfl ?_
            refine gw_icmp_eq 193 d_Mo_sweep_186 (by decide) (hI7 _ _) (hI1 _ _) (fun hc => ?_) (fun hc => ?_)
            · have h := h.1 hc
              refine gw_iconst d_Mo_sweep_193 ?_
              refine gw_iadd d_Mo_sweep_194 ?_
              refine gw_istore 4 d_Mo_sweep_195 (Nat.le_of_ble_eq_true rfl) rfl ?_
              refine gw_goto 69 d_Mo_sweep_197 (by decide) ?_
              exact gw_le h (by exact ⟨rfl, ⟨rfl, ⟨rfl, ⟨rfl, ⟨rfl, ⟨rfl, trivial⟩⟩⟩⟩⟩⟩)
            · have h := h.2 hc
              refine gw_iconst d_Mo_sweep_189 ?_
              refine gw_goto 194 d_Mo_sweep_190 (by decide) ?_
              refine gw_iadd d_Mo_sweep_194 ?_
              refine gw_istore 4 d_Mo_sweep_195 (Nat.le_of_ble_eq_true rfl) rfl ?_
              refine gw_goto 69 d_Mo_sweep_197 (by decide) ?_
              exact gw_le h (by exact ⟨rfl, ⟨rfl, ⟨rfl, ⟨rfl, ⟨rfl, ⟨rfl, trivial⟩⟩⟩⟩⟩⟩)
      · have h := h.2 hc
        refine gw_iload 6 d_Mo_sweep_105 rfl ?_
        refine gw_goto 113 d_Mo_sweep_107 (by decide) ?_
        refine gw_iadd d_Mo_sweep_113 ?_
        refine gw_istore 5 d_Mo_sweep_114 (Nat.le_of_ble_eq_true rfl) rfl ?_
        refine gw_aload_n 0 d_Mo_sweep_116 rfl rfl ?_
        refine gw_getR d_Mo_sweep_117 fl_Mo_7 (ga_oM) rfl ?_
        refine gw_sipush d_Mo_sweep_120 (by decide +kernel) ?_
        refine gw_iload_n 1 d_Mo_sweep_123 rfl rfl ?_
        refine gw_iadd d_Mo_sweep_124 ?_
        obtain ⟨g62, h⟩ := h
        obtain ⟨g63, h⟩ := h
        refine gw_iald d_Mo_sweep_125 (ga_aM1) g62 g63 ?_
        refine gw_istore 7 d_Mo_sweep_126 (Nat.le_of_ble_eq_true rfl) rfl ?_
        refine gw_iload_n 1 d_Mo_sweep_128 rfl rfl ?_
        refine gw_if_ne 149 d_Mo_sweep_129 (by decide) r1 (fun hc => ?_) (fun hc => ?_)
        · have h := h.1 hc
          refine gw_aload_n 0 d_Mo_sweep_149 rfl rfl ?_
          refine gw_aload_n 0 d_Mo_sweep_150 rfl rfl ?_
          refine gw_getR d_Mo_sweep_151 fl_Mo_7 (ga_oM) rfl ?_
          refine gw_sipush d_Mo_sweep_154 (by decide +kernel) ?_
          refine gw_iald d_Mo_sweep_157 (ga_aM1) (by decide) (by decide) ?_
          refine gw_iload 5 d_Mo_sweep_158 rfl ?_
          obtain ⟨g64, h⟩ := h
          obtain ⟨g65, h⟩ := h
          obtain ⟨g66, h⟩ := h
          obtain ⟨g67, h⟩ := h
          obtain ⟨g68, h⟩ := h
          obtain ⟨g69, h⟩ := h
          obtain ⟨g70, h⟩ := h
          obtain ⟨g71, h⟩ := h
          refine gw_invV (as := [.inl (I 349 234), .inl (v5 + ((v5 - v2).natAbs : Int))]) (k := 348) (rest := []) (d' := (d + 5)) d_Mo_sweep_160 lk_Mo_182 (ga_rcv (ga_oM) rfl rfl) rfl (Nat.le_of_ble_eq_true rfl) (Nat.le_of_ble_eq_true rfl) rfl rfl (s_Mo_moves g64 g65 g66 g67 g68 g69 g70 g71 (fun I7 q7 => ?_))
          have h := h I7 q7
          show ga_W G (d + 6) mt_Mo_sweep 163 [some (.inr 348), some (.inl v1), some (.inl v2), some (.inl v3), some (.inl v4), some (.inl (v5 + ((v5 - v2).natAbs : Int))), some (.inl ((v5 - v2).natAbs : Int)), some (.inl (I 349 (236 + v1).toNat)), none] [.inl (na_mm (I 349) (I 349 234) (v5 + ((v5 - v2).natAbs : Int)))] I7 E
          refine gw_RG (fun hI8 => ?_)
          refine gw_istore 8 d_Mo_sweep_163 (Nat.le_of_ble_eq_true rfl) rfl ?_
          refine gw_iload 4 d_Mo_sweep_165 rfl ?_
          refine gw_iload 8 d_Mo_sweep_167 rfl ?_
          refine gw_ldc (n := (-2000000009)) d_Mo_sweep_169 kw_Mo_67 (by decide +kernel) ?_
          obtain ⟨g72, h⟩ := h
          refine gw_icmp_eq 193 d_Mo_sweep_171 (by decide) g72 ⟨by decide, by decide⟩ (fun hc => ?_) (fun hc => ?_)
          · have h := h.1 hc
            refine gw_iconst d_Mo_sweep_193 ?_
            refine gw_iadd d_Mo_sweep_194 ?_
            refine gw_istore 4 d_Mo_sweep_195 (Nat.le_of_ble_eq_true rfl) rfl ?_
            refine gw_goto 69 d_Mo_sweep_197 (by decide) ?_
            exact gw_le h (by exact ⟨rfl, ⟨rfl, ⟨rfl, ⟨rfl, ⟨rfl, ⟨rfl, trivial⟩⟩⟩⟩⟩⟩)
          · have h := h.2 hc
            refine gw_aload_n 0 d_Mo_sweep_174 rfl rfl ?_
            refine gw_getR d_Mo_sweep_175 fl_Mo_7 (ga_oM) rfl ?_
            refine gw_sipush d_Mo_sweep_178 (by decide +kernel) ?_
            refine gw_iload_n 1 d_Mo_sweep_181 rfl rfl ?_
            refine gw_iadd d_Mo_sweep_182 ?_
            refine gw_iald d_Mo_sweep_183 (ga_aM1) g62 g63 ?_
            refine gw_iload 7 d_Mo_sweep_184 rfl ?_
            refine gw_icmp_eq 193 d_Mo_sweep_186 (by decide) (hI8 _ _) (hI1 _ _) (fun hc => ?_) (fun hc => ?_)
            · have h := h.1 hc
              refine gw_iconst d_Mo_sweep_193 ?_
              refine gw_iadd d_Mo_sweep_194 ?_
              refine gw_istore 4 d_Mo_sweep_195 (Nat.le_of_ble_eq_true rfl) rfl ?_
              refine gw_goto 69 d_Mo_sweep_197 (by decide) ?_
              exact gw_le h (by exact ⟨rfl, ⟨rfl, ⟨rfl, ⟨rfl, ⟨rfl, ⟨rfl, trivial⟩⟩⟩⟩⟩⟩)
            · have h := h.2 hc
              refine gw_iconst d_Mo_sweep_189 ?_
              refine gw_goto 194 d_Mo_sweep_190 (by decide) ?_
              refine gw_iadd d_Mo_sweep_194 ?_
              refine gw_istore 4 d_Mo_sweep_195 (Nat.le_of_ble_eq_true rfl) rfl ?_
              refine gw_goto 69 d_Mo_sweep_197 (by decide) ?_
              exact gw_le h (by exact ⟨rfl, ⟨rfl, ⟨rfl, ⟨rfl, ⟨rfl, ⟨rfl, trivial⟩⟩⟩⟩⟩⟩)
        · have h := h.2 hc
          refine gw_aload_n 0 d_Mo_sweep_132 rfl rfl ?_
          refine gw_iload 5 d_Mo_sweep_133 rfl ?_
          refine gw_aload_n 0 d_Mo_sweep_135 rfl rfl ?_
          refine gw_getR d_Mo_sweep_136 fl_Mo_7 (ga_oM) rfl ?_
          refine gw_sipush d_Mo_sweep_139 (by decide +kernel) ?_
          refine gw_iald d_Mo_sweep_142 (ga_aM1) (by decide) (by decide) ?_
          obtain ⟨g73, h⟩ := h
          obtain ⟨g74, h⟩ := h
          obtain ⟨g75, h⟩ := h
          obtain ⟨g76, h⟩ := h
          obtain ⟨g77, h⟩ := h
          obtain ⟨g78, h⟩ := h
          obtain ⟨g79, h⟩ := h
          obtain ⟨g80, h⟩ := h
          refine gw_invV (as := [.inl (v5 + ((v5 - v2).natAbs : Int)), .inl (I 349 235)]) (k := 348) (rest := []) (d' := (d + 5)) d_Mo_sweep_143 lk_Mo_182 (ga_rcv (ga_oM) rfl rfl) rfl (Nat.le_of_ble_eq_true rfl) (Nat.le_of_ble_eq_true rfl) rfl rfl (s_Mo_moves g73 g74 g75 g76 g77 g78 g79 g80 (fun I8 q8 => ?_))
          have h := h I8 q8
          show ga_W G (d + 6) mt_Mo_sweep 146 [some (.inr 348), some (.inl v1), some (.inl v2), some (.inl v3), some (.inl v4), some (.inl (v5 + ((v5 - v2).natAbs : Int))), some (.inl ((v5 - v2).natAbs : Int)), some (.inl (I 349 (236 + v1).toNat)), none] [.inl (na_mm (I 349) (v5 + ((v5 - v2).natAbs : Int)) (I 349 235))] I8 E
          refine gw_RG (fun hI9 => ?_)
          refine gw_goto 163 d_Mo_sweep_146 (by decide) ?_
          refine gw_istore 8 d_Mo_sweep_163 (Nat.le_of_ble_eq_true rfl) rfl ?_
          refine gw_iload 4 d_Mo_sweep_165 rfl ?_
          refine gw_iload 8 d_Mo_sweep_167 rfl ?_
          refine gw_ldc (n := (-2000000009)) d_Mo_sweep_169 kw_Mo_67 (by decide +kernel) ?_
          obtain ⟨g81, h⟩ := h
          refine gw_icmp_eq 193 d_Mo_sweep_171 (by decide) g81 ⟨by decide, by decide⟩ (fun hc => ?_) (fun hc => ?_)
          · have h := h.1 hc
            refine gw_iconst d_Mo_sweep_193 ?_
            refine gw_iadd d_Mo_sweep_194 ?_
            refine gw_istore 4 d_Mo_sweep_195 (Nat.le_of_ble_eq_true rfl) rfl ?_
            refine gw_goto 69 d_Mo_sweep_197 (by decide) ?_
            exact gw_le h (by exact ⟨rfl, ⟨rfl, ⟨rfl, ⟨rfl, ⟨rfl, ⟨rfl, trivial⟩⟩⟩⟩⟩⟩)
          · have h := h.2 hc
            refine gw_aload_n 0 d_Mo_sweep_174 rfl rfl ?_
            refine gw_getR d_Mo_sweep_175 fl_Mo_7 (ga_oM) rfl ?_
            refine gw_sipush d_Mo_sweep_178 (by decide +kernel) ?_
            refine gw_iload_n 1 d_Mo_sweep_181 rfl rfl ?_
            refine gw_iadd d_Mo_sweep_182 ?_
            refine gw_iald d_Mo_sweep_183 (ga_aM1) g62 g63 ?_
            refine gw_iload 7 d_Mo_sweep_184 rfl ?_
            refine gw_icmp_eq 193 d_Mo_sweep_186 (by decide) (hI9 _ _) (hI1 _ _) (fun hc => ?_) (fun hc => ?_)
            · have h := h.1 hc
              refine gw_iconst d_Mo_sweep_193 ?_
              refine gw_iadd d_Mo_sweep_194 ?_
              refine gw_istore 4 d_Mo_sweep_195 (Nat.le_of_ble_eq_true rfl) rfl ?_
              refine gw_goto 69 d_Mo_sweep_197 (by decide) ?_
              exact gw_le h (by exact ⟨rfl, ⟨rfl, ⟨rfl, ⟨rfl, ⟨rfl, ⟨rfl, trivial⟩⟩⟩⟩⟩⟩)
            · have h := h.2 hc
              refine gw_iconst d_Mo_sweep_189 ?_
              refine gw_goto 194 d_Mo_sweep_190 (by decide) ?_
              refine gw_iadd d_Mo_sweep_194 ?_
              refine gw_istore 4 d_Mo_sweep_195 (Nat.le_of_ble_eq_true rfl) rfl ?_
              refine gw_goto 69 d_Mo_sweep_197 (by decide) ?_
              exact gw_le h (by exact ⟨rfl, ⟨rfl, ⟨rfl, ⟨rfl, ⟨rfl, ⟨rfl, trivial⟩⟩⟩⟩⟩⟩)

theorem k_Mo_take_0 {G : ga_G} {d : Nat} {I : ga_I} {E : Option ga_V → ga_I → Prop} {v1 : Int} (r1 : ga_rg v1)
    (h : ga_RG I → (∀ I1 : ga_I, I1 = (ga_up I 348 0 0) → ((0 ≤ v1 ∧ v1 ≤ 2) → (0 ≤ I1 348 4 ∧ I1 348 4 ≤ 5) ∧ ((∀ I2 : ga_I, I2 = (mx_ac I1) → (0 ≤ (415 + (235 * v1))) ∧ (((415 + (235 * v1)) < 1120) ∧ ((∀ I3 : ga_I, I3 = (ga_up I2 349 (415 + (235 * v1)).toNat 1) → ga_W G (d + 2) mt_Mo_take 38 [some (.inr 348), none, some (.inl (415 + (235 * v1))), some (.inl 0)] [] I3 E)))))) ∧ ((¬ (0 ≤ v1 ∧ v1 ≤ 2)) → E (some (.inl (-2000000001))) I1))) :
    ga_W G (d + 2) mt_Mo_take 0 (ga_en 4 [.inr 348, .inl v1]) [] I E := by
  show ga_W G (d + 2) mt_Mo_take 0 [some (.inr 348), some (.inl v1), none, none] [] I E
  refine gw_RG (fun hI1 => ?_)
  have h := h hI1
  refine gw_aload_n 0 d_Mo_take_0 rfl rfl ?_
  refine gw_iconst d_Mo_take_1 ?_
  refine gw_putI d_Mo_take_2 fp_Mo_37 (ga_oM) rfl ?_
  show ga_W G (d + 2) mt_Mo_take 5 [some (.inr 348), some (.inl v1), none, none] [] (ga_up I 348 0 (ga_wr 0)) E
  rw [ga_wr_eq (z := 0) ⟨by decide, by decide⟩]
  refine gw_nm (J := (ga_up I 348 0 0)) (fun I1 q1 => ?_)
  have h := h I1 q1
  refine gw_RG (fun hI2 => ?_)
  refine gw_iload_n 1 d_Mo_take_5 rfl rfl ?_
  refine gw_invS (as := [.inl v1]) (rest := []) (d' := (d + 1)) d_Mo_take_6 lk_Mo_185 rfl (Nat.le_of_ble_eq_true rfl) (Nat.le_of_ble_eq_true rfl) rfl rfl (s_Mo_isPlace r1 ?_)
  show ga_W G (d + 2) mt_Mo_take 9 [some (.inr 348), some (.inl v1), none, none] [.inl (ga_bb (decide (0 ≤ v1 ∧ v1 ≤ 2)))] I1 E
  refine gw_ifb_ne 15 d_Mo_take_9 (by decide) (fun hc => ?_) (fun hc => ?_)
  · have h := h.1 (of_decide_eq_true hc)
    refine gw_aload_n 0 d_Mo_take_15 rfl rfl ?_
    obtain ⟨g1, h⟩ := h
    refine gw_invV (as := []) (k := 348) (rest := []) (d' := (d + 1)) d_Mo_take_16 lk_Mo_119 (ga_rcv (ga_oM) rfl rfl) rfl (Nat.le_of_ble_eq_true rfl) (Nat.le_of_ble_eq_true rfl) rfl rfl (s_Mo_act g1 ?_)
    show ga_W G (d + 2) mt_Mo_take 19 [some (.inr 348), some (.inl v1), none, none] [] (mx_ac I1) E
    refine gw_nm (fun I2 q2 => ?_)
    have h := h I2 q2
    refine gw_RG (fun hI3 => ?_)
    refine gw_sipush d_Mo_take_19 (by decide +kernel) ?_
    refine gw_sipush d_Mo_take_22 (by decide +kernel) ?_
    refine gw_iload_n 1 d_Mo_take_25 rfl rfl ?_
    refine gw_imul d_Mo_take_26 ?_
    refine gw_iadd d_Mo_take_27 ?_
    refine gw_istore_n 2 d_Mo_take_28 rfl (Nat.le_of_ble_eq_true rfl) rfl ?_
    refine gw_aload_n 0 d_Mo_take_29 rfl rfl ?_
    refine gw_getR d_Mo_take_30 fl_Mo_7 (ga_oM) rfl ?_
    refine gw_iload_n 2 d_Mo_take_33 rfl rfl ?_
    refine gw_iconst d_Mo_take_34 ?_
    obtain ⟨g2, h⟩ := h
    obtain ⟨g3, h⟩ := h
    refine gw_iast d_Mo_take_35 (ga_aM1) g2 g3 ?_
    show ga_W G (d + 2) mt_Mo_take 36 [some (.inr 348), some (.inl v1), some (.inl (415 + (235 * v1))), none] [] (ga_up I2 349 (415 + (235 * v1)).toNat (ga_wr 1)) E
    rw [ga_wr_eq (z := 1) ⟨by decide, by decide⟩]
    refine gw_nm (J := (ga_up I2 349 (415 + (235 * v1)).toNat 1)) (fun I3 q3 => ?_)
    have h := h I3 q3
    refine gw_RG (fun hI4 => ?_)
    refine gw_iconst d_Mo_take_36 ?_
    refine gw_istore_n 3 d_Mo_take_37 rfl (Nat.le_of_ble_eq_true rfl) rfl ?_
    exact gw_le h (by exact ⟨rfl, ⟨rfl, ⟨rfl, trivial⟩⟩⟩)
  · have h := h.2 (of_decide_eq_false hc)
    refine gw_ldc (n := (-2000000001)) d_Mo_take_12 kw_Mo_112 (by decide +kernel) ?_
    exact gw_ireturn d_Mo_take_14 rfl h
theorem k_Mo_take_38 {G : ga_G} {d : Nat} {I : ga_I} {E : Option ga_V → ga_I → Prop} {v2 : Int} {v3 : Int} (r3 : ga_rg v3)
    (h : ga_RG I → ((234 ≤ v3) → (∀ z1 : Int, z1 = (ms_n (I 349) 0 + 1) * (ms_n (I 349) 1 + 1) → E (some (.inl z1)) I)) ∧ ((¬ (234 ≤ v3)) → (0 ≤ v3) ∧ ((v3 < 1120) ∧ ((0 ≤ ((v2 + 1) + v3)) ∧ ((((v2 + 1) + v3) < 1120) ∧ ((∀ I1 : ga_I, I1 = (ga_up I 349 ((v2 + 1) + v3).toNat (I 349 v3.toNat)) → ga_W G (d + 2) mt_Mo_take 38 [some (.inr 348), none, some (.inl v2), some (.inl (v3 + 1))] [] I1 E))))))) :
    ga_W G (d + 2) mt_Mo_take 38 [some (.inr 348), none, some (.inl v2), some (.inl v3)] [] I E := by
  refine gw_RG (fun hI1 => ?_)
  have h := h hI1
  refine gw_iload_n 3 d_Mo_take_38 rfl rfl ?_
  refine gw_sipush d_Mo_take_39 (by decide +kernel) ?_
  refine gw_icmp_ge 67 d_Mo_take_42 (by decide) r3 ⟨by decide, by decide⟩ (fun hc => ?_) (fun hc => ?_)
  · have h := h.1 hc
    refine gw_aload_n 0 d_Mo_take_67 rfl rfl ?_
    refine gw_invV (as := []) (k := 348) (rest := []) (d' := (d + 1)) d_Mo_take_68 lk_Mo_188 (ga_rcv (ga_oM) rfl rfl) rfl (Nat.le_of_ble_eq_true rfl) (Nat.le_of_ble_eq_true rfl) rfl rfl (s_Mo_regions  ?_)
    show ga_W G (d + 2) mt_Mo_take 71 [some (.inr 348), none, some (.inl v2), some (.inl v3)] [.inl ((ms_n (I 349) 0 + 1) * (ms_n (I 349) 1 + 1))] I E
    refine gw_nz (z := (ms_n (I 349) 0 + 1) * (ms_n (I 349) 1 + 1)) (fun z1 q1 => ?_)
    have h := h z1 q1
    exact gw_ireturn d_Mo_take_71 rfl h
  · have h := h.2 hc
    refine gw_aload_n 0 d_Mo_take_45 rfl rfl ?_
    refine gw_getR d_Mo_take_46 fl_Mo_7 (ga_oM) rfl ?_
    refine gw_iload_n 2 d_Mo_take_49 rfl rfl ?_
    refine gw_iconst d_Mo_take_50 ?_
    refine gw_iadd d_Mo_take_51 ?_
    refine gw_iload_n 3 d_Mo_take_52 rfl rfl ?_
    refine gw_iadd d_Mo_take_53 ?_
    refine gw_aload_n 0 d_Mo_take_54 rfl rfl ?_
    refine gw_getR d_Mo_take_55 fl_Mo_7 (ga_oM) rfl ?_
    refine gw_iload_n 3 d_Mo_take_58 rfl rfl ?_
    obtain ⟨g1, h⟩ := h
    obtain ⟨g2, h⟩ := h
    refine gw_iald d_Mo_take_59 (ga_aM1) g1 g2 ?_
    obtain ⟨g3, h⟩ := h
    obtain ⟨g4, h⟩ := h
    refine gw_iast d_Mo_take_60 (ga_aM1) g3 g4 ?_
    show ga_W G (d + 2) mt_Mo_take 61 [some (.inr 348), none, some (.inl v2), some (.inl v3)] [] (ga_up I 349 ((v2 + 1) + v3).toNat (ga_wr (I 349 v3.toNat))) E
    rw [ga_wr_eq (z := (I 349 v3.toNat)) (hI1 _ _)]
    refine gw_nm (J := (ga_up I 349 ((v2 + 1) + v3).toNat (I 349 v3.toNat))) (fun I1 q2 => ?_)
    have h := h I1 q2
    refine gw_RG (fun hI2 => ?_)
    refine gw_iinc 3 d_Mo_take_61 rfl rfl ?_
    refine gw_goto 38 d_Mo_take_64 (by decide) ?_
    exact gw_le h (by exact ⟨rfl, ⟨rfl, ⟨rfl, trivial⟩⟩⟩)

theorem k_Mo_restore_0 {G : ga_G} {d : Nat} {I : ga_I} {E : Option ga_V → ga_I → Prop} {v1 : Int} (r1 : ga_rg v1)
    (h : ga_RG I → (∀ I1 : ga_I, I1 = (ga_up I 348 0 0) → ((0 ≤ v1 ∧ v1 ≤ 2) → (0 ≤ (415 + (235 * v1))) ∧ (((415 + (235 * v1)) < 1120) ∧ ((((I1 349 (415 + (235 * v1)).toNat) ≠ 0) → (0 ≤ I1 348 4 ∧ I1 348 4 ≤ 5) ∧ ((∀ I2 : ga_I, I2 = (mx_ac I1) → (mo_n I2) ∧ ((∀ z1 : Int, z1 = gp_tt (mp_g3 (I2 349)) ((ms_n (I2 349) 0).toNat + 1) ((ms_n (I2 349) 1).toNat + 1) → ga_W G (d + 4) mt_Mo_restore 49 [some (.inr 348), none, some (.inl (415 + (235 * v1))), some (.inl z1), some (.inl 0)] [] I2 E))))) ∧ (((I1 349 (415 + (235 * v1)).toNat) = 0) → E (some (.inl (-2000000002))) I1)))) ∧ ((¬ (0 ≤ v1 ∧ v1 ≤ 2)) → E (some (.inl (-2000000001))) I1))) :
    ga_W G (d + 4) mt_Mo_restore 0 (ga_en 5 [.inr 348, .inl v1]) [] I E := by
  show ga_W G (d + 4) mt_Mo_restore 0 [some (.inr 348), some (.inl v1), none, none, none] [] I E
  refine gw_RG (fun hI1 => ?_)
  have h := h hI1
  refine gw_aload_n 0 d_Mo_restore_0 rfl rfl ?_
  refine gw_iconst d_Mo_restore_1 ?_
  refine gw_putI d_Mo_restore_2 fp_Mo_37 (ga_oM) rfl ?_
  show ga_W G (d + 4) mt_Mo_restore 5 [some (.inr 348), some (.inl v1), none, none, none] [] (ga_up I 348 0 (ga_wr 0)) E
  rw [ga_wr_eq (z := 0) ⟨by decide, by decide⟩]
  refine gw_nm (J := (ga_up I 348 0 0)) (fun I1 q1 => ?_)
  have h := h I1 q1
  refine gw_RG (fun hI2 => ?_)
  refine gw_iload_n 1 d_Mo_restore_5 rfl rfl ?_
  refine gw_invS (as := [.inl v1]) (rest := []) (d' := (d + 3)) d_Mo_restore_6 lk_Mo_185 rfl (Nat.le_of_ble_eq_true rfl) (Nat.le_of_ble_eq_true rfl) rfl rfl (s_Mo_isPlace r1 ?_)
  show ga_W G (d + 4) mt_Mo_restore 9 [some (.inr 348), some (.inl v1), none, none, none] [.inl (ga_bb (decide (0 ≤ v1 ∧ v1 ≤ 2)))] I1 E
  refine gw_ifb_ne 15 d_Mo_restore_9 (by decide) (fun hc => ?_) (fun hc => ?_)
  · have h := h.1 (of_decide_eq_true hc)
    refine gw_sipush d_Mo_restore_15 (by decide +kernel) ?_
    refine gw_sipush d_Mo_restore_18 (by decide +kernel) ?_
    refine gw_iload_n 1 d_Mo_restore_21 rfl rfl ?_
    refine gw_imul d_Mo_restore_22 ?_
    refine gw_iadd d_Mo_restore_23 ?_
    refine gw_istore_n 2 d_Mo_restore_24 rfl (Nat.le_of_ble_eq_true rfl) rfl ?_
    refine gw_aload_n 0 d_Mo_restore_25 rfl rfl ?_
    refine gw_getR d_Mo_restore_26 fl_Mo_7 (ga_oM) rfl ?_
    refine gw_iload_n 2 d_Mo_restore_29 rfl rfl ?_
    obtain ⟨g1, h⟩ := h
    obtain ⟨g2, h⟩ := h
    refine gw_iald d_Mo_restore_30 (ga_aM1) g1 g2 ?_
    refine gw_if_ne 37 d_Mo_restore_31 (by decide) (hI2 _ _) (fun hc => ?_) (fun hc => ?_)
    · have h := h.1 hc
      refine gw_aload_n 0 d_Mo_restore_37 rfl rfl ?_
      obtain ⟨g3, h⟩ := h
      refine gw_invV (as := []) (k := 348) (rest := []) (d' := (d + 3)) d_Mo_restore_38 lk_Mo_119 (ga_rcv (ga_oM) rfl rfl) rfl (Nat.le_of_ble_eq_true rfl) (Nat.le_of_ble_eq_true rfl) rfl rfl (s_Mo_act g3 ?_)
      show ga_W G (d + 4) mt_Mo_restore 41 [some (.inr 348), some (.inl v1), some (.inl (415 + (235 * v1))), none, none] [] (mx_ac I1) E
      refine gw_nm (fun I2 q2 => ?_)
      have h := h I2 q2
      refine gw_RG (fun hI3 => ?_)
      refine gw_aload_n 0 d_Mo_restore_41 rfl rfl ?_
      obtain ⟨g4, h⟩ := h
      refine gw_invV (as := []) (k := 348) (rest := []) (d' := (d + 3)) d_Mo_restore_42 lk_Mo_99 (ga_rcv (ga_oM) rfl rfl) rfl (Nat.le_of_ble_eq_true rfl) (Nat.le_of_ble_eq_true rfl) rfl rfl (s_Mo_allGains g4 ?_)
      show ga_W G (d + 4) mt_Mo_restore 45 [some (.inr 348), some (.inl v1), some (.inl (415 + (235 * v1))), none, none] [.inl (gp_tt (mp_g3 (I2 349)) ((ms_n (I2 349) 0).toNat + 1) ((ms_n (I2 349) 1).toNat + 1))] I2 E
      refine gw_nz (z := gp_tt (mp_g3 (I2 349)) ((ms_n (I2 349) 0).toNat + 1) ((ms_n (I2 349) 1).toNat + 1)) (fun z1 q3 => ?_)
      have h := h z1 q3
      refine gw_istore_n 3 d_Mo_restore_45 rfl (Nat.le_of_ble_eq_true rfl) rfl ?_
      refine gw_iconst d_Mo_restore_46 ?_
      refine gw_istore 4 d_Mo_restore_47 (Nat.le_of_ble_eq_true rfl) rfl ?_
      exact gw_le h (by exact ⟨rfl, ⟨rfl, ⟨rfl, ⟨rfl, trivial⟩⟩⟩⟩)
    · have h := h.2 hc
      refine gw_ldc (n := (-2000000002)) d_Mo_restore_34 kw_Mo_117 (by decide +kernel) ?_
      exact gw_ireturn d_Mo_restore_36 rfl h
  · have h := h.2 (of_decide_eq_false hc)
    refine gw_ldc (n := (-2000000001)) d_Mo_restore_12 kw_Mo_112 (by decide +kernel) ?_
    exact gw_ireturn d_Mo_restore_14 rfl h
theorem k_Mo_restore_49 {G : ga_G} {d : Nat} {I : ga_I} {E : Option ga_V → ga_I → Prop} {v2 : Int} {v3 : Int} {v4 : Int} (r4 : ga_rg v4)
    (h : ga_RG I → ((234 ≤ v4) → (mo_n I) ∧ ((∀ I1 : ga_I, I1 = (ga_uc I 349 (ns_st (I 349) v3)) → (∀ z1 : Int, z1 = (ms_n (I1 349) 0 + 1) * (ms_n (I1 349) 1 + 1) → E (some (.inl z1)) I1)))) ∧ ((¬ (234 ≤ v4)) → (0 ≤ ((v2 + 1) + v4)) ∧ ((((v2 + 1) + v4) < 1120) ∧ ((0 ≤ v4) ∧ ((v4 < 1120) ∧ ((∀ I2 : ga_I, I2 = (ga_up I 349 v4.toNat (I 349 ((v2 + 1) + v4).toNat)) → ga_W G (d + 4) mt_Mo_restore 49 [some (.inr 348), none, some (.inl v2), some (.inl v3), some (.inl (v4 + 1))] [] I2 E))))))) :
    ga_W G (d + 4) mt_Mo_restore 49 [some (.inr 348), none, some (.inl v2), some (.inl v3), some (.inl v4)] [] I E := by
  refine gw_RG (fun hI1 => ?_)
  have h := h hI1
  refine gw_iload 4 d_Mo_restore_49 rfl ?_
  refine gw_sipush d_Mo_restore_51 (by decide +kernel) ?_
  refine gw_icmp_ge 81 d_Mo_restore_54 (by decide) r4 ⟨by decide, by decide⟩ (fun hc => ?_) (fun hc => ?_)
  · have h := h.1 hc
    refine gw_aload_n 0 d_Mo_restore_81 rfl rfl ?_
    refine gw_iload_n 3 d_Mo_restore_82 rfl rfl ?_
    obtain ⟨g1, h⟩ := h
    refine gw_invV (as := [.inl v3]) (k := 348) (rest := []) (d' := (d + 3)) d_Mo_restore_83 lk_Mo_126 (ga_rcv (ga_oM) rfl rfl) rfl (Nat.le_of_ble_eq_true rfl) (Nat.le_of_ble_eq_true rfl) rfl rfl (s_Mo_settle g1 ?_)
    show ga_W G (d + 4) mt_Mo_restore 86 [some (.inr 348), none, some (.inl v2), some (.inl v3), some (.inl v4)] [] (ga_uc I 349 (ns_st (I 349) v3)) E
    refine gw_nm (fun I1 q1 => ?_)
    have h := h I1 q1
    refine gw_RG (fun hI2 => ?_)
    refine gw_aload_n 0 d_Mo_restore_86 rfl rfl ?_
    refine gw_invV (as := []) (k := 348) (rest := []) (d' := (d + 3)) d_Mo_restore_87 lk_Mo_188 (ga_rcv (ga_oM) rfl rfl) rfl (Nat.le_of_ble_eq_true rfl) (Nat.le_of_ble_eq_true rfl) rfl rfl (s_Mo_regions  ?_)
    show ga_W G (d + 4) mt_Mo_restore 90 [some (.inr 348), none, some (.inl v2), some (.inl v3), some (.inl v4)] [.inl ((ms_n (I1 349) 0 + 1) * (ms_n (I1 349) 1 + 1))] I1 E
    refine gw_nz (z := (ms_n (I1 349) 0 + 1) * (ms_n (I1 349) 1 + 1)) (fun z1 q2 => ?_)
    have h := h z1 q2
    exact gw_ireturn d_Mo_restore_90 rfl h
  · have h := h.2 hc
    refine gw_aload_n 0 d_Mo_restore_57 rfl rfl ?_
    refine gw_getR d_Mo_restore_58 fl_Mo_7 (ga_oM) rfl ?_
    refine gw_iload 4 d_Mo_restore_61 rfl ?_
    refine gw_aload_n 0 d_Mo_restore_63 rfl rfl ?_
    refine gw_getR d_Mo_restore_64 fl_Mo_7 (ga_oM) rfl ?_
    refine gw_iload_n 2 d_Mo_restore_67 rfl rfl ?_
    refine gw_iconst d_Mo_restore_68 ?_
    refine gw_iadd d_Mo_restore_69 ?_
    refine gw_iload 4 d_Mo_restore_70 rfl ?_
    refine gw_iadd d_Mo_restore_72 ?_
    obtain ⟨g2, h⟩ := h
    obtain ⟨g3, h⟩ := h
    refine gw_iald d_Mo_restore_73 (ga_aM1) g2 g3 ?_
    obtain ⟨g4, h⟩ := h
    obtain ⟨g5, h⟩ := h
    refine gw_iast d_Mo_restore_74 (ga_aM1) g4 g5 ?_
    show ga_W G (d + 4) mt_Mo_restore 75 [some (.inr 348), none, some (.inl v2), some (.inl v3), some (.inl v4)] [] (ga_up I 349 v4.toNat (ga_wr (I 349 ((v2 + 1) + v4).toNat))) E
    rw [ga_wr_eq (z := (I 349 ((v2 + 1) + v4).toNat)) (hI1 _ _)]
    refine gw_nm (J := (ga_up I 349 v4.toNat (I 349 ((v2 + 1) + v4).toNat))) (fun I2 q3 => ?_)
    have h := h I2 q3
    refine gw_RG (fun hI3 => ?_)
    refine gw_iinc 4 d_Mo_restore_75 rfl rfl ?_
    refine gw_goto 49 d_Mo_restore_78 (by decide) ?_
    exact gw_le h (by exact ⟨rfl, ⟨rfl, ⟨rfl, ⟨rfl, trivial⟩⟩⟩⟩)

theorem k_Mo_undo_0 {G : ga_G} {d : Nat} {I : ga_I} {E : Option ga_V → ga_I → Prop}  
    (h : ga_RG I → (∀ I1 : ga_I, I1 = (ga_up I 348 0 0) → (((I1 348 4) ≠ 0) → (∀ I2 : ga_I, I2 = (ga_up I1 348 4 (ga_wr ((I1 348 4) - 1))) → ga_W G d mt_Mo_undo 27 [some (.inr 348), some (.inl 0)] [] I2 E)) ∧ (((I1 348 4) = 0) → E (some (.inl (-2000000002))) I1))) :
    ga_W G d mt_Mo_undo 0 (ga_en 2 [.inr 348]) [] I E := by
  show ga_W G d mt_Mo_undo 0 [some (.inr 348), none] [] I E
  refine gw_RG (fun hI1 => ?_)
  have h := h hI1
  refine gw_aload_n 0 d_Mo_undo_0 rfl rfl ?_
  refine gw_iconst d_Mo_undo_1 ?_
  refine gw_putI d_Mo_undo_2 fp_Mo_37 (ga_oM) rfl ?_
  show ga_W G d mt_Mo_undo 5 [some (.inr 348), none] [] (ga_up I 348 0 (ga_wr 0)) E
  rw [ga_wr_eq (z := 0) ⟨by decide, by decide⟩]
  refine gw_nm (J := (ga_up I 348 0 0)) (fun I1 q1 => ?_)
  have h := h I1 q1
  refine gw_RG (fun hI2 => ?_)
  refine gw_aload_n 0 d_Mo_undo_5 rfl rfl ?_
  refine gw_getI d_Mo_undo_6 fl_Mo_44 (ga_oM) rfl ?_
  refine gw_if_ne 15 d_Mo_undo_9 (by decide) (hI2 _ _) (fun hc => ?_) (fun hc => ?_)
  · have h := h.1 hc
    refine gw_aload_n 0 d_Mo_undo_15 rfl rfl ?_
    refine gw_dup d_Mo_undo_16 ?_
    refine gw_getI d_Mo_undo_17 fl_Mo_44 (ga_oM) rfl ?_
    refine gw_iconst d_Mo_undo_20 ?_
    refine gw_isub d_Mo_undo_21 ?_
    refine gw_putI d_Mo_undo_22 fp_Mo_44 (ga_oM) rfl ?_
    refine gw_nm (J := (ga_up I1 348 4 (ga_wr ((I1 348 4) - 1)))) (fun I2 q2 => ?_)
    have h := h I2 q2
    refine gw_RG (fun hI3 => ?_)
    refine gw_iconst d_Mo_undo_25 ?_
    refine gw_istore_n 1 d_Mo_undo_26 rfl (Nat.le_of_ble_eq_true rfl) rfl ?_
    exact gw_le h (by exact ⟨rfl, ⟨rfl, trivial⟩⟩)
  · have h := h.2 hc
    refine gw_ldc (n := (-2000000002)) d_Mo_undo_12 kw_Mo_117 (by decide +kernel) ?_
    exact gw_ireturn d_Mo_undo_14 rfl h
theorem k_Mo_undo_27 {G : ga_G} {d : Nat} {I : ga_I} {E : Option ga_V → ga_I → Prop} {v1 : Int} (r1 : ga_rg v1)
    (h : ga_RG I → ((1120 ≤ v1) → E (some (.inl (I 348 4))) I) ∧ ((¬ (1120 ≤ v1)) → (0 ≤ ((1120 * (I 348 4)) + v1)) ∧ ((((1120 * (I 348 4)) + v1) < 5600) ∧ ((0 ≤ v1) ∧ ((v1 < 1120) ∧ ((∀ I1 : ga_I, I1 = (ga_up I 349 v1.toNat (I 351 ((1120 * (I 348 4)) + v1).toNat)) → ga_W G d mt_Mo_undo 27 [some (.inr 348), some (.inl (v1 + 1))] [] I1 E))))))) :
    ga_W G d mt_Mo_undo 27 [some (.inr 348), some (.inl v1)] [] I E := by
  refine gw_RG (fun hI1 => ?_)
  have h := h hI1
  refine gw_iload_n 1 d_Mo_undo_27 rfl rfl ?_
  refine gw_sipush d_Mo_undo_28 (by decide +kernel) ?_
  refine gw_icmp_ge 61 d_Mo_undo_31 (by decide) r1 ⟨by decide, by decide⟩ (fun hc => ?_) (fun hc => ?_)
  · have h := h.1 hc
    refine gw_aload_n 0 d_Mo_undo_61 rfl rfl ?_
    refine gw_getI d_Mo_undo_62 fl_Mo_44 (ga_oM) rfl ?_
    exact gw_ireturn d_Mo_undo_65 rfl h
  · have h := h.2 hc
    refine gw_aload_n 0 d_Mo_undo_34 rfl rfl ?_
    refine gw_getR d_Mo_undo_35 fl_Mo_7 (ga_oM) rfl ?_
    refine gw_iload_n 1 d_Mo_undo_38 rfl rfl ?_
    refine gw_aload_n 0 d_Mo_undo_39 rfl rfl ?_
    refine gw_getR d_Mo_undo_40 fl_Mo_16 (ga_oM) rfl ?_
    refine gw_sipush d_Mo_undo_43 (by decide +kernel) ?_
    refine gw_aload_n 0 d_Mo_undo_46 rfl rfl ?_
    refine gw_getI d_Mo_undo_47 fl_Mo_44 (ga_oM) rfl ?_
    refine gw_imul d_Mo_undo_50 ?_
    refine gw_iload_n 1 d_Mo_undo_51 rfl rfl ?_
    refine gw_iadd d_Mo_undo_52 ?_
    obtain ⟨g1, h⟩ := h
    obtain ⟨g2, h⟩ := h
    refine gw_iald d_Mo_undo_53 (ga_aM3) g1 g2 ?_
    obtain ⟨g3, h⟩ := h
    obtain ⟨g4, h⟩ := h
    refine gw_iast d_Mo_undo_54 (ga_aM1) g3 g4 ?_
    show ga_W G d mt_Mo_undo 55 [some (.inr 348), some (.inl v1)] [] (ga_up I 349 v1.toNat (ga_wr (I 351 ((1120 * (I 348 4)) + v1).toNat))) E
    rw [ga_wr_eq (z := (I 351 ((1120 * (I 348 4)) + v1).toNat)) (hI1 _ _)]
    refine gw_nm (J := (ga_up I 349 v1.toNat (I 351 ((1120 * (I 348 4)) + v1).toNat))) (fun I1 q1 => ?_)
    have h := h I1 q1
    refine gw_RG (fun hI2 => ?_)
    refine gw_iinc 1 d_Mo_undo_55 rfl rfl ?_
    refine gw_goto 27 d_Mo_undo_58 (by decide) ?_
    exact gw_le h (by exact ⟨rfl, ⟨rfl, trivial⟩⟩)

theorem k_Mo_append_0 {G : ga_G} {d : Nat} {I : ga_I} {E : Option ga_V → ga_I → Prop} {v1 : Int} (r1 : ga_rg v1)
    (h : ga_RG I → (∀ I1 : ga_I, I1 = (ga_up I 348 0 0) → (((1 : Int) ≤ v1 ∧ v1 ≤ (255 : Int)) → (((I1 348 6) ≠ 160) → (0 ≤ (I1 348 6)) ∧ (((I1 348 6) < 160) ∧ ((∀ I2 : ga_I, I2 = (ga_up I1 352 (I1 348 6).toNat v1) → (∀ I3 : ga_I, I3 = (ga_up I2 348 6 (ga_wr ((I2 348 6) + 1))) → E (some (.inl (I3 348 6))) I3))))) ∧ (((I1 348 6) = 160) → E (some (.inl (-2000000003))) I1)) ∧ ((¬ ((1 : Int) ≤ v1 ∧ v1 ≤ (255 : Int))) → E (some (.inl (-2000000001))) I1))) :
    ga_W G (d + 1) mt_Mo_append 0 (ga_en 2 [.inr 348, .inl v1]) [] I E := by
  show ga_W G (d + 1) mt_Mo_append 0 [some (.inr 348), some (.inl v1)] [] I E
  refine gw_RG (fun hI1 => ?_)
  have h := h hI1
  refine gw_aload_n 0 d_Mo_append_0 rfl rfl ?_
  refine gw_iconst d_Mo_append_1 ?_
  refine gw_putI d_Mo_append_2 fp_Mo_37 (ga_oM) rfl ?_
  show ga_W G (d + 1) mt_Mo_append 5 [some (.inr 348), some (.inl v1)] [] (ga_up I 348 0 (ga_wr 0)) E
  rw [ga_wr_eq (z := 0) ⟨by decide, by decide⟩]
  refine gw_nm (J := (ga_up I 348 0 0)) (fun I1 q1 => ?_)
  have h := h I1 q1
  refine gw_RG (fun hI2 => ?_)
  refine gw_iload_n 1 d_Mo_append_5 rfl rfl ?_
  refine gw_iconst d_Mo_append_6 ?_
  refine gw_sipush d_Mo_append_7 (by decide +kernel) ?_
  refine gw_invS (as := [.inl v1, .inl 1, .inl 255]) (rest := []) (d' := d) d_Mo_append_10 lk_Mo_47 rfl (Nat.le_of_ble_eq_true rfl) (Nat.le_of_ble_eq_true rfl) rfl rfl (s_Mo_in r1 ⟨by decide, by decide⟩ ⟨by decide, by decide⟩ ?_)
  show ga_W G (d + 1) mt_Mo_append 13 [some (.inr 348), some (.inl v1)] [.inl (ga_bb (decide ((1 : Int) ≤ v1 ∧ v1 ≤ (255 : Int))))] I1 E
  refine gw_ifb_ne 19 d_Mo_append_13 (by decide) (fun hc => ?_) (fun hc => ?_)
  · have h := h.1 (of_decide_eq_true hc)
    refine gw_aload_n 0 d_Mo_append_19 rfl rfl ?_
    refine gw_getI d_Mo_append_20 fl_Mo_191 (ga_oM) rfl ?_
    refine gw_sipush d_Mo_append_23 (by decide +kernel) ?_
    refine gw_icmp_ne 32 d_Mo_append_26 (by decide) (hI2 _ _) ⟨by decide, by decide⟩ (fun hc => ?_) (fun hc => ?_)
    · have h := h.1 hc
      refine gw_aload_n 0 d_Mo_append_32 rfl rfl ?_
      refine gw_getR d_Mo_append_33 fl_Mo_19 (ga_oM) rfl ?_
      refine gw_aload_n 0 d_Mo_append_36 rfl rfl ?_
      refine gw_getI d_Mo_append_37 fl_Mo_191 (ga_oM) rfl ?_
      refine gw_iload_n 1 d_Mo_append_40 rfl rfl ?_
      obtain ⟨g1, h⟩ := h
      obtain ⟨g2, h⟩ := h
      refine gw_iast d_Mo_append_41 (ga_aM4) g1 g2 ?_
      show ga_W G (d + 1) mt_Mo_append 42 [some (.inr 348), some (.inl v1)] [] (ga_up I1 352 (I1 348 6).toNat (ga_wr v1)) E
      rw [ga_wr_eq (z := v1) r1]
      refine gw_nm (J := (ga_up I1 352 (I1 348 6).toNat v1)) (fun I2 q2 => ?_)
      have h := h I2 q2
      refine gw_RG (fun hI3 => ?_)
      refine gw_aload_n 0 d_Mo_append_42 rfl rfl ?_
      refine gw_dup d_Mo_append_43 ?_
      refine gw_getI d_Mo_append_44 fl_Mo_191 (ga_oM) rfl ?_
      refine gw_iconst d_Mo_append_47 ?_
      refine gw_iadd d_Mo_append_48 ?_
      refine gw_putI d_Mo_append_49 fp_Mo_191 (ga_oM) rfl ?_
      refine gw_nm (J := (ga_up I2 348 6 (ga_wr ((I2 348 6) + 1)))) (fun I3 q3 => ?_)
      have h := h I3 q3
      refine gw_RG (fun hI4 => ?_)
      refine gw_aload_n 0 d_Mo_append_52 rfl rfl ?_
      refine gw_getI d_Mo_append_53 fl_Mo_191 (ga_oM) rfl ?_
      exact gw_ireturn d_Mo_append_56 rfl h
    · have h := h.2 hc
      refine gw_ldc (n := (-2000000003)) d_Mo_append_29 kw_Mo_118 (by decide +kernel) ?_
      exact gw_ireturn d_Mo_append_31 rfl h
  · have h := h.2 (of_decide_eq_false hc)
    refine gw_ldc (n := (-2000000001)) d_Mo_append_16 kw_Mo_112 (by decide +kernel) ?_
    exact gw_ireturn d_Mo_append_18 rfl h

theorem k_Mo_clearText_0 {G : ga_G} {d : Nat} {I : ga_I} {E : Option ga_V → ga_I → Prop}  
    (h : ga_RG I → (∀ I1 : ga_I, I1 = (ga_up I 348 0 0) → (∀ I2 : ga_I, I2 = (ga_up I1 348 6 0) → E (some (.inl (I1 348 6))) I2))) :
    ga_W G d mt_Mo_clearText 0 (ga_en 2 [.inr 348]) [] I E := by
  show ga_W G d mt_Mo_clearText 0 [some (.inr 348), none] [] I E
  refine gw_RG (fun hI1 => ?_)
  have h := h hI1
  refine gw_aload_n 0 d_Mo_clearText_0 rfl rfl ?_
  refine gw_iconst d_Mo_clearText_1 ?_
  refine gw_putI d_Mo_clearText_2 fp_Mo_37 (ga_oM) rfl ?_
  show ga_W G d mt_Mo_clearText 5 [some (.inr 348), none] [] (ga_up I 348 0 (ga_wr 0)) E
  rw [ga_wr_eq (z := 0) ⟨by decide, by decide⟩]
  refine gw_nm (J := (ga_up I 348 0 0)) (fun I1 q1 => ?_)
  have h := h I1 q1
  refine gw_RG (fun hI2 => ?_)
  refine gw_aload_n 0 d_Mo_clearText_5 rfl rfl ?_
  refine gw_getI d_Mo_clearText_6 fl_Mo_191 (ga_oM) rfl ?_
  refine gw_istore_n 1 d_Mo_clearText_9 rfl (Nat.le_of_ble_eq_true rfl) rfl ?_
  refine gw_aload_n 0 d_Mo_clearText_10 rfl rfl ?_
  refine gw_iconst d_Mo_clearText_11 ?_
  refine gw_putI d_Mo_clearText_12 fp_Mo_191 (ga_oM) rfl ?_
  show ga_W G d mt_Mo_clearText 15 [some (.inr 348), some (.inl (I1 348 6))] [] (ga_up I1 348 6 (ga_wr 0)) E
  rw [ga_wr_eq (z := 0) ⟨by decide, by decide⟩]
  refine gw_nm (J := (ga_up I1 348 6 0)) (fun I2 q2 => ?_)
  have h := h I2 q2
  refine gw_RG (fun hI3 => ?_)
  refine gw_iload_n 1 d_Mo_clearText_15 rfl rfl ?_
  exact gw_ireturn d_Mo_clearText_16 rfl h

