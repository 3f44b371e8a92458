/-! the reference: addBorder, removeBorder -/
theorem k_Mo_isEdit_0 {G : ga_G} {d : Nat} {I : ga_I} {E : Option ga_V → ga_I → Prop} {v1 : Int} {v2 : Int} {v3 : Int} {v4 : Int} {v5 : Int} (r1 : ga_rg v1) (r2 : ga_rg v2) (r3 : ga_rg v3) (r4 : ga_rg v4) (r5 : ga_rg v5)
    (h : ga_RG I → ((¬ (0 ≤ v1 ∧ v1 ≤ 2)) → E (some (.inl 0)) I) ∧ ((0 ≤ v1 ∧ v1 ≤ 2) → ((¬ ((0 ≤ v2 ∧ v2 ≤ ms_n (I 349) 0) ∧ (0 ≤ v3 ∧ v3 ≤ ms_n (I 349) 1))) → E (some (.inl 0)) I) ∧ (((0 ≤ v2 ∧ v2 ≤ ms_n (I 349) 0) ∧ (0 ≤ v3 ∧ v3 ≤ ms_n (I 349) 1)) → ((¬ ((0 : Int) ≤ v4 ∧ v4 ≤ (2 : Int))) → E (some (.inl 0)) I) ∧ (((0 : Int) ≤ v4 ∧ v4 ≤ (2 : Int)) → ((¬ ((0 : Int) ≤ v5 ∧ v5 ≤ (9999 : Int))) → E (some (.inl 0)) I) ∧ (((0 : Int) ≤ v5 ∧ v5 ≤ (9999 : Int)) → E (some (.inl 1)) I))))) :
    ga_W G (d + 2) mt_Mo_isEdit 0 (ga_en 6 [.inr 348, .inl v1, .inl v2, .inl v3, .inl v4, .inl v5]) [] I E := by
  show ga_W G (d + 2) mt_Mo_isEdit 0 [some (.inr 348), some (.inl v1), some (.inl v2), some (.inl v3), some (.inl v4), some (.inl v5)] [] I E
  refine gw_RG (fun hI1 => ?_)
  have h := h hI1
  refine gw_iload_n 1 d_Mo_isEdit_0 rfl rfl ?_
  refine gw_invS (as := [.inl v1]) (rest := []) (d' := (d + 1)) d_Mo_isEdit_1 lk_Mo_134 rfl (Nat.le_of_ble_eq_true rfl) (Nat.le_of_ble_eq_true rfl) rfl rfl (s_Mo_isOperator r1 ?_)
  show ga_W G (d + 2) mt_Mo_isEdit 4 [some (.inr 348), some (.inl v1), some (.inl v2), some (.inl v3), some (.inl v4), some (.inl v5)] [.inl (ga_bb (decide (0 ≤ v1 ∧ v1 ≤ 2)))] I E
  refine gw_ifb_eq 42 d_Mo_isEdit_4 (by decide) (fun hc => ?_) (fun hc => ?_)
  · have h := h.1 (of_decide_eq_false hc)
    refine gw_iconst d_Mo_isEdit_42 ?_
    exact gw_zreturn d_Mo_isEdit_43 rfl (by decide) h
  · have h := h.2 (of_decide_eq_true hc)
    refine gw_aload_n 0 d_Mo_isEdit_7 rfl rfl ?_
    refine gw_iload_n 2 d_Mo_isEdit_8 rfl rfl ?_
    refine gw_iload_n 3 d_Mo_isEdit_9 rfl rfl ?_
    refine gw_invV (as := [.inl v2, .inl v3]) (k := 348) (rest := []) (d' := (d + 1)) d_Mo_isEdit_10 lk_Mo_137 (ga_rcv (ga_oM) rfl rfl) rfl (Nat.le_of_ble_eq_true rfl) (Nat.le_of_ble_eq_true rfl) rfl rfl (s_Mo_isRegion r2 r3 ?_)
    show ga_W G (d + 2) mt_Mo_isEdit 13 [some (.inr 348), some (.inl v1), some (.inl v2), some (.inl v3), some (.inl v4), some (.inl v5)] [.inl (ga_bb (decide ((0 ≤ v2 ∧ v2 ≤ ms_n (I 349) 0) ∧ (0 ≤ v3 ∧ v3 ≤ ms_n (I 349) 1))))] I E
    refine gw_ifb_eq 42 d_Mo_isEdit_13 (by decide) (fun hc => ?_) (fun hc => ?_)
    · have h := h.1 (of_decide_eq_false hc)
      refine gw_iconst d_Mo_isEdit_42 ?_
      exact gw_zreturn d_Mo_isEdit_43 rfl (by decide) h
    · have h := h.2 (of_decide_eq_true hc)
      refine gw_iload 4 d_Mo_isEdit_16 rfl ?_
      refine gw_iconst d_Mo_isEdit_18 ?_
      refine gw_iconst d_Mo_isEdit_19 ?_
      refine gw_invS (as := [.inl v4, .inl 0, .inl 2]) (rest := []) (d' := (d + 1)) d_Mo_isEdit_20 lk_Mo_47 rfl (Nat.le_of_ble_eq_true rfl) (Nat.le_of_ble_eq_true rfl) rfl rfl (s_Mo_in r4 ⟨by decide, by decide⟩ ⟨by decide, by decide⟩ ?_)
      show ga_W G (d + 2) mt_Mo_isEdit 23 [some (.inr 348), some (.inl v1), some (.inl v2), some (.inl v3), some (.inl v4), some (.inl v5)] [.inl (ga_bb (decide ((0 : Int) ≤ v4 ∧ v4 ≤ (2 : Int))))] I E
      refine gw_ifb_eq 42 d_Mo_isEdit_23 (by decide) (fun hc => ?_) (fun hc => ?_)
      · have h := h.1 (of_decide_eq_false hc)
        refine gw_iconst d_Mo_isEdit_42 ?_
        exact gw_zreturn d_Mo_isEdit_43 rfl (by decide) h
      · have h := h.2 (of_decide_eq_true hc)
        refine gw_iload 5 d_Mo_isEdit_26 rfl ?_
        refine gw_iconst d_Mo_isEdit_28 ?_
        refine gw_sipush d_Mo_isEdit_29 (by decide +kernel) ?_
        refine gw_invS (as := [.inl v5, .inl 0, .inl 9999]) (rest := []) (d' := (d + 1)) d_Mo_isEdit_32 lk_Mo_47 rfl (Nat.le_of_ble_eq_true rfl) (Nat.le_of_ble_eq_true rfl) rfl rfl (s_Mo_in r5 ⟨by decide, by decide⟩ ⟨by decide, by decide⟩ ?_)
        show ga_W G (d + 2) mt_Mo_isEdit 35 [some (.inr 348), some (.inl v1), some (.inl v2), some (.inl v3), some (.inl v4), some (.inl v5)] [.inl (ga_bb (decide ((0 : Int) ≤ v5 ∧ v5 ≤ (9999 : Int))))] I E
        refine gw_ifb_eq 42 d_Mo_isEdit_35 (by decide) (fun hc => ?_) (fun hc => ?_)
        · have h := h.1 (of_decide_eq_false hc)
          refine gw_iconst d_Mo_isEdit_42 ?_
          exact gw_zreturn d_Mo_isEdit_43 rfl (by decide) h
        · have h := h.2 (of_decide_eq_true hc)
          refine gw_iconst d_Mo_isEdit_38 ?_
          refine gw_goto 43 d_Mo_isEdit_39 (by decide) ?_
          exact gw_zreturn d_Mo_isEdit_43 rfl (by decide) h

theorem k_Mo_addBorder_0 {G : ga_G} {d : Nat} {I : ga_I} {E : Option ga_V → ga_I → Prop} {v1 : Int} {v2 : Int} {v3 : Int} {v4 : Int} (r1 : ga_rg v1) (r2 : ga_rg v2) (r3 : ga_rg v3) (r4 : ga_rg v4)
    (h : ga_RG I → (∀ I1 : ga_I, I1 = (ga_up I 348 0 0) → ((¬ (0 ≤ v1 ∧ v1 ≤ 1)) → E (some (.inl (-2000000001))) I1) ∧ ((0 ≤ v1 ∧ v1 ≤ 1) → ((¬ ((1 : Int) ≤ v2 ∧ v2 ≤ (999 : Int))) → E (some (.inl (-2000000001))) I1) ∧ (((1 : Int) ≤ v2 ∧ v2 ≤ (999 : Int)) → ((¬ ((0 ≤ v3 ∧ v3 ≤ 1) ∧ (v3 ≤ v4 ∧ v4 ≤ 100))) → E (some (.inl (-2000000001))) I1) ∧ (((0 ≤ v3 ∧ v3 ≤ 1) ∧ (v3 ≤ v4 ∧ v4 ≤ 100)) → (ga_rg (v2 - v4)) ∧ ((ga_rg (v2 + v4)) ∧ (((0 ≤ v2 - v4 ∧ v2 + v4 ≤ 1000) → (mo_ok I1 v1) ∧ ((0 ≤ v1 ∧ v1 ≤ 1) ∧ ((-3000 ≤ v2 ∧ v2 ≤ 3000) ∧ ((-3000 ≤ v4 ∧ v4 ≤ 3000) ∧ ((((!gp_fr (ms_p (I1 349) v1) (ms_r (I1 349) v1) v2 v4 ((-2000000009) : Int) (ms_n (I1 349) v1).toNat) = false) → (((ms_n (I1 349) v1) ≠ 6) → (0 ≤ I1 348 4 ∧ I1 348 4 ≤ 5) ∧ ((∀ I2 : ga_I, I2 = (mx_ac I1) → (mo_n I2) ∧ ((∀ z1 : Int, z1 = gp_tt (mp_g3 (I2 349)) ((ms_n (I2 349) 0).toNat + 1) ((ms_n (I2 349) 1).toNat + 1) → (mo_ok I2 v1) ∧ ((ms_n (I2 349) v1 < 6) ∧ ((∀ I3 : ga_I, I3 = (ga_uc I2 349 (ns_in (I2 349) v1 (gp_st (ms_p (I2 349) v1) v2 (ms_n (I2 349) v1).toNat).toNat (ms_n (I2 349) v1).toNat v2 v3 v4)) → (mo_n I3) ∧ ((∀ I4 : ga_I, I4 = (ga_uc I3 349 (ns_st (I3 349) z1)) → E (some (.inl (gp_st (ms_p (I2 349) v1) v2 (ms_n (I2 349) v1).toNat))) I4)))))))))) ∧ (((ms_n (I1 349) v1) = 6) → E (some (.inl (-2000000003))) I1)) ∧ (((!gp_fr (ms_p (I1 349) v1) (ms_r (I1 349) v1) v2 v4 ((-2000000009) : Int) (ms_n (I1 349) v1).toNat) = true) → E (some (.inl (-2000000002))) I1)))))) ∧ ((¬ (0 ≤ v2 - v4 ∧ v2 + v4 ≤ 1000)) → E (some (.inl (-2000000001))) I1)))))))) :
    ga_W G (d + 4) mt_Mo_addBorder 0 (ga_en 7 [.inr 348, .inl v1, .inl v2, .inl v3, .inl v4]) [] I E := by
  show ga_W G (d + 4) mt_Mo_addBorder 0 [some (.inr 348), some (.inl v1), some (.inl v2), some (.inl v3), some (.inl v4), none, none] [] I E
  refine gw_RG (fun hI1 => ?_)
  have h := h hI1
  refine gw_aload_n 0 d_Mo_addBorder_0 rfl rfl ?_
  refine gw_iconst d_Mo_addBorder_1 ?_
  refine gw_putI d_Mo_addBorder_2 fp_Mo_37 (ga_oM) rfl ?_
  show ga_W G (d + 4) mt_Mo_addBorder 5 [some (.inr 348), some (.inl v1), some (.inl v2), some (.inl v3), some (.inl v4), none, none] [] (ga_up I 348 0 (ga_wr 0)) E
  rw [ga_wr_eq (z := 0) ⟨by decide, by decide⟩]
  refine gw_nm (J := (ga_up I 348 0 0)) (fun I1 q1 => ?_)
  have h := h I1 q1
  refine gw_RG (fun hI2 => ?_)
  refine gw_iload_n 1 d_Mo_addBorder_5 rfl rfl ?_
  refine gw_invS (as := [.inl v1]) (rest := []) (d' := (d + 3)) d_Mo_addBorder_6 lk_Mo_51 rfl (Nat.le_of_ble_eq_true rfl) (Nat.le_of_ble_eq_true rfl) rfl rfl (s_Mo_isAxis r1 ?_)
  show ga_W G (d + 4) mt_Mo_addBorder 9 [some (.inr 348), some (.inl v1), some (.inl v2), some (.inl v3), some (.inl v4), none, none] [.inl (ga_bb (decide (0 ≤ v1 ∧ v1 ≤ 1)))] I1 E
  refine gw_ifb_eq 41 d_Mo_addBorder_9 (by decide) (fun hc => ?_) (fun hc => ?_)
  · have h := h.1 (of_decide_eq_false hc)
    refine gw_ldc (n := (-2000000001)) d_Mo_addBorder_41 kw_Mo_112 (by decide +kernel) ?_
    exact gw_ireturn d_Mo_addBorder_43 rfl h
  · have h := h.2 (of_decide_eq_true hc)
    refine gw_iload_n 2 d_Mo_addBorder_12 rfl rfl ?_
    refine gw_iconst d_Mo_addBorder_13 ?_
    refine gw_sipush d_Mo_addBorder_14 (by decide +kernel) ?_
    refine gw_invS (as := [.inl v2, .inl 1, .inl 999]) (rest := []) (d' := (d + 3)) d_Mo_addBorder_17 lk_Mo_47 rfl (Nat.le_of_ble_eq_true rfl) (Nat.le_of_ble_eq_true rfl) rfl rfl (s_Mo_in r2 ⟨by decide, by decide⟩ ⟨by decide, by decide⟩ ?_)
    show ga_W G (d + 4) mt_Mo_addBorder 20 [some (.inr 348), some (.inl v1), some (.inl v2), some (.inl v3), some (.inl v4), none, none] [.inl (ga_bb (decide ((1 : Int) ≤ v2 ∧ v2 ≤ (999 : Int))))] I1 E
    refine gw_ifb_eq 41 d_Mo_addBorder_20 (by decide) (fun hc => ?_) (fun hc => ?_)
    · have h := h.1 (of_decide_eq_false hc)
      refine gw_ldc (n := (-2000000001)) d_Mo_addBorder_41 kw_Mo_112 (by decide +kernel) ?_
      exact gw_ireturn d_Mo_addBorder_43 rfl h
    · have h := h.2 (of_decide_eq_true hc)
      refine gw_iload_n 3 d_Mo_addBorder_23 rfl rfl ?_
      refine gw_iload 4 d_Mo_addBorder_24 rfl ?_
      refine gw_invS (as := [.inl v3, .inl v4]) (rest := []) (d' := (d + 3)) d_Mo_addBorder_26 lk_Mo_105 rfl (Nat.le_of_ble_eq_true rfl) (Nat.le_of_ble_eq_true rfl) rfl rfl (s_Mo_isReach r3 r4 ?_)
      show ga_W G (d + 4) mt_Mo_addBorder 29 [some (.inr 348), some (.inl v1), some (.inl v2), some (.inl v3), some (.inl v4), none, none] [.inl (ga_bb (decide ((0 ≤ v3 ∧ v3 ≤ 1) ∧ (v3 ≤ v4 ∧ v4 ≤ 100))))] I1 E
      refine gw_ifb_eq 41 d_Mo_addBorder_29 (by decide) (fun hc => ?_) (fun hc => ?_)
      · have h := h.1 (of_decide_eq_false hc)
        refine gw_ldc (n := (-2000000001)) d_Mo_addBorder_41 kw_Mo_112 (by decide +kernel) ?_
        exact gw_ireturn d_Mo_addBorder_43 rfl h
      · have h := h.2 (of_decide_eq_true hc)
        refine gw_iload_n 2 d_Mo_addBorder_32 rfl rfl ?_
        refine gw_iload 4 d_Mo_addBorder_33 rfl ?_
        obtain ⟨g1, h⟩ := h
        obtain ⟨g2, h⟩ := h
        refine gw_invS (as := [.inl v2, .inl v4]) (rest := []) (d' := (d + 3)) d_Mo_addBorder_35 lk_Mo_109 rfl (Nat.le_of_ble_eq_true rfl) (Nat.le_of_ble_eq_true rfl) rfl rfl (s_Mo_isInside g1 g2 ?_)
        show ga_W G (d + 4) mt_Mo_addBorder 38 [some (.inr 348), some (.inl v1), some (.inl v2), some (.inl v3), some (.inl v4), none, none] [.inl (ga_bb (decide (0 ≤ v2 - v4 ∧ v2 + v4 ≤ 1000)))] I1 E
        refine gw_ifb_ne 44 d_Mo_addBorder_38 (by decide) (fun hc => ?_) (fun hc => ?_)
        · have h := h.1 (of_decide_eq_true hc)
          refine gw_aload_n 0 d_Mo_addBorder_44 rfl rfl ?_
          refine gw_iload_n 1 d_Mo_addBorder_45 rfl rfl ?_
          refine gw_iload_n 2 d_Mo_addBorder_46 rfl rfl ?_
          refine gw_iload 4 d_Mo_addBorder_47 rfl ?_
          refine gw_ldc (n := (-2000000009)) d_Mo_addBorder_49 kw_Mo_67 (by decide +kernel) ?_
          obtain ⟨g3, h⟩ := h
          obtain ⟨g4, h⟩ := h
          obtain ⟨g5, h⟩ := h
          obtain ⟨g6, h⟩ := h
          refine gw_invV (as := [.inl v1, .inl v2, .inl v4, .inl (-2000000009)]) (k := 348) (rest := []) (d' := (d + 3)) d_Mo_addBorder_51 lk_Mo_113 (ga_rcv (ga_oM) rfl rfl) rfl (Nat.le_of_ble_eq_true rfl) (Nat.le_of_ble_eq_true rfl) rfl rfl (s_Mo_isOccupied g3 g4 g5 g6 ⟨by decide, by decide⟩ ?_)
          show ga_W G (d + 4) mt_Mo_addBorder 54 [some (.inr 348), some (.inl v1), some (.inl v2), some (.inl v3), some (.inl v4), none, none] [.inl (ga_bb (!gp_fr (ms_p (I1 349) v1) (ms_r (I1 349) v1) v2 v4 ((-2000000009) : Int) (ms_n (I1 349) v1).toNat))] I1 E
          refine gw_ifb_eq 60 d_Mo_addBorder_54 (by decide) (fun hc => ?_) (fun hc => ?_)
          · have h := h.1 (hc)
            refine gw_aload_n 0 d_Mo_addBorder_60 rfl rfl ?_
            refine gw_iload_n 1 d_Mo_addBorder_61 rfl rfl ?_
            refine gw_invV (as := [.inl v1]) (k := 348) (rest := []) (d' := (d + 3)) d_Mo_addBorder_62 lk_Mo_55 (ga_rcv (ga_oM) rfl rfl) rfl (Nat.le_of_ble_eq_true rfl) (Nat.le_of_ble_eq_true rfl) rfl rfl (s_Mo_borders g4 ?_)
            show ga_W G (d + 4) mt_Mo_addBorder 65 [some (.inr 348), some (.inl v1), some (.inl v2), some (.inl v3), some (.inl v4), none, none] [.inl (ms_n (I1 349) v1)] I1 E
            refine gw_bipush d_Mo_addBorder_65 (by decide +kernel) ?_
            refine gw_icmp_ne 73 d_Mo_addBorder_67 (by decide) (hI2 _ _) ⟨by decide, by decide⟩ (fun hc => ?_) (fun hc => ?_)
            · have h := h.1 hc
              refine gw_aload_n 0 d_Mo_addBorder_73 rfl rfl ?_
              obtain ⟨g7, h⟩ := h
              refine gw_invV (as := []) (k := 348) (rest := []) (d' := (d + 3)) d_Mo_addBorder_74 lk_Mo_119 (ga_rcv (ga_oM) rfl rfl) rfl (Nat.le_of_ble_eq_true rfl) (Nat.le_of_ble_eq_true rfl) rfl rfl (s_Mo_act g7 ?_)
              show ga_W G (d + 4) mt_Mo_addBorder 77 [some (.inr 348), some (.inl v1), some (.inl v2), some (.inl v3), some (.inl v4), none, none] [] (mx_ac I1) E
              refine gw_nm (fun I2 q2 => ?_)
              have h := h I2 q2
              refine gw_RG (fun hI3 => ?_)
              refine gw_aload_n 0 d_Mo_addBorder_77 rfl rfl ?_
              obtain ⟨g8, h⟩ := h
              refine gw_invV (as := []) (k := 348) (rest := []) (d' := (d + 3)) d_Mo_addBorder_78 lk_Mo_99 (ga_rcv (ga_oM) rfl rfl) rfl (Nat.le_of_ble_eq_true rfl) (Nat.le_of_ble_eq_true rfl) rfl rfl (s_Mo_allGains g8 ?_)
              show ga_W G (d + 4) mt_Mo_addBorder 81 [some (.inr 348), some (.inl v1), some (.inl v2), some (.inl v3), some (.inl v4), none, none] [.inl (gp_tt (mp_g3 (I2 349)) ((ms_n (I2 349) 0).toNat + 1) ((ms_n (I2 349) 1).toNat + 1))] I2 E
              refine gw_nz (z := gp_tt (mp_g3 (I2 349)) ((ms_n (I2 349) 0).toNat + 1) ((ms_n (I2 349) 1).toNat + 1)) (fun z1 q3 => ?_)
              have h := h z1 q3
              refine gw_istore 5 d_Mo_addBorder_81 (Nat.le_of_ble_eq_true rfl) rfl ?_
              refine gw_aload_n 0 d_Mo_addBorder_83 rfl rfl ?_
              refine gw_iload_n 1 d_Mo_addBorder_84 rfl rfl ?_
              refine gw_iload_n 2 d_Mo_addBorder_85 rfl rfl ?_
              refine gw_iload_n 3 d_Mo_addBorder_86 rfl rfl ?_
              refine gw_iload 4 d_Mo_addBorder_87 rfl ?_
              obtain ⟨g9, h⟩ := h
              obtain ⟨g10, h⟩ := h
              refine gw_invV (as := [.inl v1, .inl v2, .inl v3, .inl v4]) (k := 348) (rest := []) (d' := (d + 3)) d_Mo_addBorder_89 lk_Mo_122 (ga_rcv (ga_oM) rfl rfl) rfl (Nat.le_of_ble_eq_true rfl) (Nat.le_of_ble_eq_true rfl) rfl rfl (s_Mo_insert g9 g10 g4 r2 r3 r4 ?_)
              show ga_W G (d + 4) mt_Mo_addBorder 92 [some (.inr 348), some (.inl v1), some (.inl v2), some (.inl v3), some (.inl v4), some (.inl z1), none] [.inl (gp_st (ms_p (I2 349) v1) v2 (ms_n (I2 349) v1).toNat)] (ga_uc I2 349 (ns_in (I2 349) v1 (gp_st (ms_p (I2 349) v1) v2 (ms_n (I2 349) v1).toNat).toNat (ms_n (I2 349) v1).toNat v2 v3 v4)) E
              refine gw_nm (fun I3 q4 => ?_)
              have h := h I3 q4
              refine gw_RG (fun hI4 => ?_)
              refine gw_istore 6 d_Mo_addBorder_92 (Nat.le_of_ble_eq_true rfl) rfl ?_
              refine gw_aload_n 0 d_Mo_addBorder_94 rfl rfl ?_
              refine gw_iload 5 d_Mo_addBorder_95 rfl ?_
              obtain ⟨g11, h⟩ := h
              refine gw_invV (as := [.inl z1]) (k := 348) (rest := []) (d' := (d + 3)) d_Mo_addBorder_97 lk_Mo_126 (ga_rcv (ga_oM) rfl rfl) rfl (Nat.le_of_ble_eq_true rfl) (Nat.le_of_ble_eq_true rfl) rfl rfl (s_Mo_settle g11 ?_)
              show ga_W G (d + 4) mt_Mo_addBorder 100 [some (.inr 348), some (.inl v1), some (.inl v2), some (.inl v3), some (.inl v4), some (.inl z1), some (.inl (gp_st (ms_p (I2 349) v1) v2 (ms_n (I2 349) v1).toNat))] [] (ga_uc I3 349 (ns_st (I3 349) z1)) E
              refine gw_nm (fun I4 q5 => ?_)
              have h := h I4 q5
              refine gw_RG (fun hI5 => ?_)
              refine gw_iload 6 d_Mo_addBorder_100 rfl ?_
              exact gw_ireturn d_Mo_addBorder_102 rfl h
            · have h := h.2 hc
              refine gw_ldc (n := (-2000000003)) d_Mo_addBorder_70 kw_Mo_118 (by decide +kernel) ?_
              exact gw_ireturn d_Mo_addBorder_72 rfl h
          · have h := h.2 (hc)
            refine gw_ldc (n := (-2000000002)) d_Mo_addBorder_57 kw_Mo_117 (by decide +kernel) ?_
            exact gw_ireturn d_Mo_addBorder_59 rfl h
        · have h := h.2 (of_decide_eq_false hc)
          refine gw_ldc (n := (-2000000001)) d_Mo_addBorder_41 kw_Mo_112 (by decide +kernel) ?_
          exact gw_ireturn d_Mo_addBorder_43 rfl h

theorem k_Mo_removeBorder_0 {G : ga_G} {d : Nat} {I : ga_I} {E : Option ga_V → ga_I → Prop} {v1 : Int} {v2 : Int} (r1 : ga_rg v1) (r2 : ga_rg v2)
    (h : ga_RG I → (∀ I1 : ga_I, I1 = (ga_up I 348 0 0) → (mo_n I1) ∧ ((((0 ≤ v1 ∧ v1 ≤ 1) ∧ (0 ≤ v2 ∧ v2 < ms_n (I1 349) v1)) → (0 ≤ I1 348 4 ∧ I1 348 4 ≤ 5) ∧ ((∀ I2 : ga_I, I2 = (mx_ac I1) → (mo_n I2) ∧ ((∀ z1 : Int, z1 = gp_tt (mp_g3 (I2 349)) ((ms_n (I2 349) 0).toNat + 1) ((ms_n (I2 349) 1).toNat + 1) → (0 ≤ v1 ∧ v1 ≤ 1) ∧ (ga_W G (d + 4) mt_Mo_removeBorder 36 [some (.inr 348), some (.inl v1), some (.inl v2), some (.inl z1), some (.inl (ms_n (I2 349) v1)), some (.inl v2)] [] I2 E)))))) ∧ ((¬ ((0 ≤ v1 ∧ v1 ≤ 1) ∧ (0 ≤ v2 ∧ v2 < ms_n (I1 349) v1))) → E (some (.inl (-2000000001))) I1)))) :
    ga_W G (d + 4) mt_Mo_removeBorder 0 (ga_en 6 [.inr 348, .inl v1, .inl v2]) [] I E := by
  show ga_W G (d + 4) mt_Mo_removeBorder 0 [some (.inr 348), some (.inl v1), some (.inl v2), none, none, none] [] I E
  refine gw_RG (fun hI1 => ?_)
  have h := h hI1
  refine gw_aload_n 0 d_Mo_removeBorder_0 rfl rfl ?_
  refine gw_iconst d_Mo_removeBorder_1 ?_
  refine gw_putI d_Mo_removeBorder_2 fp_Mo_37 (ga_oM) rfl ?_
  show ga_W G (d + 4) mt_Mo_removeBorder 5 [some (.inr 348), some (.inl v1), some (.inl v2), none, none, none] [] (ga_up I 348 0 (ga_wr 0)) E
  rw [ga_wr_eq (z := 0) ⟨by decide, by decide⟩]
  refine gw_nm (J := (ga_up I 348 0 0)) (fun I1 q1 => ?_)
  have h := h I1 q1
  refine gw_RG (fun hI2 => ?_)
  refine gw_aload_n 0 d_Mo_removeBorder_5 rfl rfl ?_
  refine gw_iload_n 1 d_Mo_removeBorder_6 rfl rfl ?_
  refine gw_iload_n 2 d_Mo_removeBorder_7 rfl rfl ?_
  obtain ⟨g1, h⟩ := h
  refine gw_invV (as := [.inl v1, .inl v2]) (k := 348) (rest := []) (d' := (d + 3)) d_Mo_removeBorder_8 lk_Mo_130 (ga_rcv (ga_oM) rfl rfl) rfl (Nat.le_of_ble_eq_true rfl) (Nat.le_of_ble_eq_true rfl) rfl rfl (s_Mo_isBorder r1 r2 g1 ?_)
  show ga_W G (d + 4) mt_Mo_removeBorder 11 [some (.inr 348), some (.inl v1), some (.inl v2), none, none, none] [.inl (ga_bb (decide ((0 ≤ v1 ∧ v1 ≤ 1) ∧ (0 ≤ v2 ∧ v2 < ms_n (I1 349) v1))))] I1 E
  refine gw_ifb_ne 17 d_Mo_removeBorder_11 (by decide) (fun hc => ?_) (fun hc => ?_)
  · have h := h.1 (of_decide_eq_true hc)
    refine gw_aload_n 0 d_Mo_removeBorder_17 rfl rfl ?_
    obtain ⟨g2, h⟩ := h
    refine gw_invV (as := []) (k := 348) (rest := []) (d' := (d + 3)) d_Mo_removeBorder_18 lk_Mo_119 (ga_rcv (ga_oM) rfl rfl) rfl (Nat.le_of_ble_eq_true rfl) (Nat.le_of_ble_eq_true rfl) rfl rfl (s_Mo_act g2 ?_)
    show ga_W G (d + 4) mt_Mo_removeBorder 21 [some (.inr 348), some (.inl v1), some (.inl v2), none, none, none] [] (mx_ac I1) E
    refine gw_nm (fun I2 q2 => ?_)
    have h := h I2 q2
    refine gw_RG (fun hI3 => ?_)
    refine gw_aload_n 0 d_Mo_removeBorder_21 rfl rfl ?_
    obtain ⟨g3, h⟩ := h
    refine gw_invV (as := []) (k := 348) (rest := []) (d' := (d + 3)) d_Mo_removeBorder_22 lk_Mo_99 (ga_rcv (ga_oM) rfl rfl) rfl (Nat.le_of_ble_eq_true rfl) (Nat.le_of_ble_eq_true rfl) rfl rfl (s_Mo_allGains g3 ?_)
    show ga_W G (d + 4) mt_Mo_removeBorder 25 [some (.inr 348), some (.inl v1), some (.inl v2), none, none, none] [.inl (gp_tt (mp_g3 (I2 349)) ((ms_n (I2 349) 0).toNat + 1) ((ms_n (I2 349) 1).toNat + 1))] I2 E
    refine gw_nz (z := gp_tt (mp_g3 (I2 349)) ((ms_n (I2 349) 0).toNat + 1) ((ms_n (I2 349) 1).toNat + 1)) (fun z1 q3 => ?_)
    have h := h z1 q3
    refine gw_istore_n 3 d_Mo_removeBorder_25 rfl (Nat.le_of_ble_eq_true rfl) rfl ?_
    refine gw_aload_n 0 d_Mo_removeBorder_26 rfl rfl ?_
    refine gw_iload_n 1 d_Mo_removeBorder_27 rfl rfl ?_
    obtain ⟨g4, h⟩ := h
    refine gw_invV (as := [.inl v1]) (k := 348) (rest := []) (d' := (d + 3)) d_Mo_removeBorder_28 lk_Mo_55 (ga_rcv (ga_oM) rfl rfl) rfl (Nat.le_of_ble_eq_true rfl) (Nat.le_of_ble_eq_true rfl) rfl rfl (s_Mo_borders g4 ?_)
    show ga_W G (d + 4) mt_Mo_removeBorder 31 [some (.inr 348), some (.inl v1), some (.inl v2), some (.inl z1), none, none] [.inl (ms_n (I2 349) v1)] I2 E
    refine gw_istore 4 d_Mo_removeBorder_31 (Nat.le_of_ble_eq_true rfl) rfl ?_
    refine gw_iload_n 2 d_Mo_removeBorder_33 rfl rfl ?_
    refine gw_istore 5 d_Mo_removeBorder_34 (Nat.le_of_ble_eq_true rfl) rfl ?_
    exact gw_le h (by exact ⟨rfl, ⟨rfl, ⟨rfl, ⟨rfl, ⟨rfl, ⟨rfl, trivial⟩⟩⟩⟩⟩⟩)
  · have h := h.2 (of_decide_eq_false hc)
    refine gw_ldc (n := (-2000000001)) d_Mo_removeBorder_14 kw_Mo_112 (by decide +kernel) ?_
    exact gw_ireturn d_Mo_removeBorder_16 rfl h
theorem k_Mo_removeBorder_36 {G : ga_G} {d : Nat} {I : ga_I} {E : Option ga_V → ga_I → Prop} {v1 : Int} {v2 : Int} {v3 : Int} {v4 : Int} {v5 : Int} (r4 : ga_rg v4)
    (h : ga_RG I → (ga_rg (v5 + 1)) ∧ (((v4 ≤ (v5 + 1)) → ga_W G (d + 4) mt_Mo_removeBorder 93 [some (.inr 348), some (.inl v1), none, some (.inl v3), some (.inl v4), some (.inl (v2 + 1))] [] I E) ∧ ((¬ (v4 ≤ (v5 + 1))) → (0 ≤ v1 ∧ v1 ≤ 1) ∧ ((0 ≤ (v5 + 1) ∧ (v5 + 1) ≤ 6) ∧ ((0 ≤ (0 : Int) ∧ (0 : Int) ≤ 2) ∧ ((∀ z1 : Int, z1 = ms_b (I 349) v1 (v5 + 1) (0 : Int) → (0 ≤ (1 : Int) ∧ (1 : Int) ≤ 2) ∧ ((∀ z2 : Int, z2 = ms_b (I 349) v1 (v5 + 1) (1 : Int) → (0 ≤ (2 : Int) ∧ (2 : Int) ≤ 2) ∧ ((∀ z3 : Int, z3 = ms_b (I 349) v1 (v5 + 1) (2 : Int) → (0 ≤ v5 ∧ v5 ≤ 6) ∧ ((∀ I1 : ga_I, I1 = (mx_sb I v1 v5 z1 z2 z3) → ga_W G (d + 4) mt_Mo_removeBorder 36 [some (.inr 348), some (.inl v1), some (.inl v2), some (.inl v3), some (.inl v4), some (.inl (v5 + 1))] [] I1 E))))))))))))) :
    ga_W G (d + 4) mt_Mo_removeBorder 36 [some (.inr 348), some (.inl v1), some (.inl v2), some (.inl v3), some (.inl v4), some (.inl v5)] [] I E := by
  refine gw_RG (fun hI1 => ?_)
  have h := h hI1
  refine gw_iload 5 d_Mo_removeBorder_36 rfl ?_
  refine gw_iconst d_Mo_removeBorder_38 ?_
  refine gw_iadd d_Mo_removeBorder_39 ?_
  refine gw_iload 4 d_Mo_removeBorder_40 rfl ?_
  obtain ⟨g1, h⟩ := h
  refine gw_icmp_ge 88 d_Mo_removeBorder_42 (by decide) g1 r4 (fun hc => ?_) (fun hc => ?_)
  · have h := h.1 hc
    refine gw_iload_n 2 d_Mo_removeBorder_88 rfl rfl ?_
    refine gw_iconst d_Mo_removeBorder_89 ?_
    refine gw_iadd d_Mo_removeBorder_90 ?_
    refine gw_istore 5 d_Mo_removeBorder_91 (Nat.le_of_ble_eq_true rfl) rfl ?_
    exact gw_le h (by exact ⟨rfl, ⟨rfl, ⟨rfl, ⟨rfl, ⟨rfl, trivial⟩⟩⟩⟩⟩)
  · have h := h.2 hc
    refine gw_aload_n 0 d_Mo_removeBorder_45 rfl rfl ?_
    refine gw_iload_n 1 d_Mo_removeBorder_46 rfl rfl ?_
    refine gw_iload 5 d_Mo_removeBorder_47 rfl ?_
    refine gw_aload_n 0 d_Mo_removeBorder_49 rfl rfl ?_
    refine gw_iload_n 1 d_Mo_removeBorder_50 rfl rfl ?_
    refine gw_iload 5 d_Mo_removeBorder_51 rfl ?_
    refine gw_iconst d_Mo_removeBorder_53 ?_
    refine gw_iadd d_Mo_removeBorder_54 ?_
    refine gw_iconst d_Mo_removeBorder_55 ?_
    obtain ⟨g2, h⟩ := h
    obtain ⟨g3, h⟩ := h
    obtain ⟨g4, h⟩ := h
    refine gw_invV (as := [.inl v1, .inl (v5 + 1), .inl 0]) (k := 348) (rest := [.inl v5, .inl v1, .inr 348]) (d' := (d + 3)) d_Mo_removeBorder_56 lk_Mo_63 (ga_rcv (ga_oM) rfl rfl) rfl (Nat.le_of_ble_eq_true rfl) (Nat.le_of_ble_eq_true rfl) rfl rfl (s_Mo_ofBorder g2 g3 g4 ?_)
    show ga_W G (d + 4) mt_Mo_removeBorder 59 [some (.inr 348), some (.inl v1), some (.inl v2), some (.inl v3), some (.inl v4), some (.inl v5)] [.inl (ms_b (I 349) v1 (v5 + 1) (0 : Int)), .inl v5, .inl v1, .inr 348] I E
    refine gw_nz (z := ms_b (I 349) v1 (v5 + 1) (0 : Int)) (fun z1 q1 => ?_)
    have h := h z1 q1
    refine gw_aload_n 0 d_Mo_removeBorder_59 rfl rfl ?_
    refine gw_iload_n 1 d_Mo_removeBorder_60 rfl rfl ?_
    refine gw_iload 5 d_Mo_removeBorder_61 rfl ?_
    refine gw_iconst d_Mo_removeBorder_63 ?_
    refine gw_iadd d_Mo_removeBorder_64 ?_
    refine gw_iconst d_Mo_removeBorder_65 ?_
    obtain ⟨g5, h⟩ := h
    refine gw_invV (as := [.inl v1, .inl (v5 + 1), .inl 1]) (k := 348) (rest := [.inl z1, .inl v5, .inl v1, .inr 348]) (d' := (d + 3)) d_Mo_removeBorder_66 lk_Mo_63 (ga_rcv (ga_oM) rfl rfl) rfl (Nat.le_of_ble_eq_true rfl) (Nat.le_of_ble_eq_true rfl) rfl rfl (s_Mo_ofBorder g2 g3 g5 ?_)
    show ga_W G (d + 4) mt_Mo_removeBorder 69 [some (.inr 348), some (.inl v1), some (.inl v2), some (.inl v3), some (.inl v4), some (.inl v5)] [.inl (ms_b (I 349) v1 (v5 + 1) (1 : Int)), .inl z1, .inl v5, .inl v1, .inr 348] I E
    refine gw_nz (z := ms_b (I 349) v1 (v5 + 1) (1 : Int)) (fun z2 q2 => ?_)
    have h := h z2 q2
    refine gw_aload_n 0 d_Mo_removeBorder_69 rfl rfl ?_
    refine gw_iload_n 1 d_Mo_removeBorder_70 rfl rfl ?_
    refine gw_iload 5 d_Mo_removeBorder_71 rfl ?_
    refine gw_iconst d_Mo_removeBorder_73 ?_
    refine gw_iadd d_Mo_removeBorder_74 ?_
    refine gw_iconst d_Mo_removeBorder_75 ?_
    obtain ⟨g6, h⟩ := h
    refine gw_invV (as := [.inl v1, .inl (v5 + 1), .inl 2]) (k := 348) (rest := [.inl z2, .inl z1, .inl v5, .inl v1, .inr 348]) (d' := (d + 3)) d_Mo_removeBorder_76 lk_Mo_63 (ga_rcv (ga_oM) rfl rfl) rfl (Nat.le_of_ble_eq_true rfl) (Nat.le_of_ble_eq_true rfl) rfl rfl (s_Mo_ofBorder g2 g3 g6 ?_)
    show ga_W G (d + 4) mt_Mo_removeBorder 79 [some (.inr 348), some (.inl v1), some (.inl v2), some (.inl v3), some (.inl v4), some (.inl v5)] [.inl (ms_b (I 349) v1 (v5 + 1) (2 : Int)), .inl z2, .inl z1, .inl v5, .inl v1, .inr 348] I E
    refine gw_nz (z := ms_b (I 349) v1 (v5 + 1) (2 : Int)) (fun z3 q3 => ?_)
    have h := h z3 q3
    obtain ⟨g7, h⟩ := h
    refine gw_invV (as := [.inl v1, .inl v5, .inl z1, .inl z2, .inl z3]) (k := 348) (rest := []) (d' := (d + 3)) d_Mo_removeBorder_79 lk_Mo_92 (ga_rcv (ga_oM) rfl rfl) rfl (Nat.le_of_ble_eq_true rfl) (Nat.le_of_ble_eq_true rfl) rfl rfl (s_Mo_setBorder g2 g7 (by rw [q1]; exact (hI1 _ _)) (by rw [q2]; exact (hI1 _ _)) (by rw [q3]; exact (hI1 _ _)) ?_)
    show ga_W G (d + 4) mt_Mo_removeBorder 82 [some (.inr 348), some (.inl v1), some (.inl v2), some (.inl v3), some (.inl v4), some (.inl v5)] [] (mx_sb I v1 v5 z1 z2 z3) E
    refine gw_nm (fun I1 q4 => ?_)
    have h := h I1 q4
    refine gw_RG (fun hI2 => ?_)
    refine gw_iinc 5 d_Mo_removeBorder_82 rfl rfl ?_
    refine gw_goto 36 d_Mo_removeBorder_85 (by decide) ?_
    exact gw_le h (by exact ⟨rfl, ⟨rfl, ⟨rfl, ⟨rfl, ⟨rfl, ⟨rfl, trivial⟩⟩⟩⟩⟩⟩)
theorem k_Mo_removeBorder_93 {G : ga_G} {d : Nat} {I : ga_I} {E : Option ga_V → ga_I → Prop} {v1 : Int} {v3 : Int} {v4 : Int} {v5 : Int} (r1 : ga_rg v1) (r4 : ga_rg v4) (r5 : ga_rg v5)
    (h : ga_RG I → ((v4 ≤ v5) → (0 ≤ (0 + (19 * v1))) ∧ (((0 + (19 * v1)) < 1120) ∧ ((∀ I1 : ga_I, I1 = (ga_up I 349 (0 + (19 * v1)).toNat (ga_wr ((I 349 (0 + (19 * v1)).toNat) - 1))) → (mo_n I1) ∧ ((∀ I2 : ga_I, I2 = (ga_uc I1 349 (ns_st (I1 349) v3)) → (0 ≤ v1 ∧ v1 ≤ 1) ∧ (E (some (.inl (ms_n (I2 349) v1))) I2))))))) ∧ ((¬ (v4 ≤ v5)) → (0 ≤ (v5 + 1) ∧ (v5 + 1) < 7) ∧ ((0 ≤ v5 ∧ v5 < 7) ∧ (((v5 + 1) ≠ v5) ∧ ((∀ I3 : ga_I, I3 = (mx_re I (gp_sr v1 (v5 + 1).toNat v5.toNat 7)) → ga_W G (d + 4) mt_Mo_removeBorder 93 [some (.inr 348), some (.inl v1), none, some (.inl v3), some (.inl v4), some (.inl (v5 + 1))] [] I3 E)))))) :
    ga_W G (d + 4) mt_Mo_removeBorder 93 [some (.inr 348), some (.inl v1), none, some (.inl v3), some (.inl v4), some (.inl v5)] [] I E := by
  refine gw_RG (fun hI1 => ?_)
  have h := h hI1
  refine gw_iload 5 d_Mo_removeBorder_93 rfl ?_
  refine gw_iload 4 d_Mo_removeBorder_95 rfl ?_
  refine gw_icmp_ge 117 d_Mo_removeBorder_97 (by decide) r5 r4 (fun hc => ?_) (fun hc => ?_)
  · have h := h.1 hc
    refine gw_aload_n 0 d_Mo_removeBorder_117 rfl rfl ?_
    refine gw_getR d_Mo_removeBorder_118 fl_Mo_7 (ga_oM) rfl ?_
    refine gw_iconst d_Mo_removeBorder_121 ?_
    refine gw_bipush d_Mo_removeBorder_122 (by decide +kernel) ?_
    refine gw_iload_n 1 d_Mo_removeBorder_124 rfl rfl ?_
    refine gw_imul d_Mo_removeBorder_125 ?_
    refine gw_iadd d_Mo_removeBorder_126 ?_
    refine gw_dup2 d_Mo_removeBorder_127 ?_
    obtain ⟨g1, h⟩ := h
    obtain ⟨g2, h⟩ := h
    refine gw_iald d_Mo_removeBorder_128 (ga_aM1) g1 g2 ?_
    refine gw_iconst d_Mo_removeBorder_129 ?_
    refine gw_isub d_Mo_removeBorder_130 ?_
    refine gw_iast d_Mo_removeBorder_131 (ga_aM1) g1 g2 ?_
    refine gw_nm (J := (ga_up I 349 (0 + (19 * v1)).toNat (ga_wr ((I 349 (0 + (19 * v1)).toNat) - 1)))) (fun I1 q1 => ?_)
    have h := h I1 q1
    refine gw_RG (fun hI2 => ?_)
    refine gw_aload_n 0 d_Mo_removeBorder_132 rfl rfl ?_
    refine gw_iload_n 3 d_Mo_removeBorder_133 rfl rfl ?_
    obtain ⟨g3, h⟩ := h
    refine gw_invV (as := [.inl v3]) (k := 348) (rest := []) (d' := (d + 3)) d_Mo_removeBorder_134 lk_Mo_126 (ga_rcv (ga_oM) rfl rfl) rfl (Nat.le_of_ble_eq_true rfl) (Nat.le_of_ble_eq_true rfl) rfl rfl (s_Mo_settle g3 ?_)
    show ga_W G (d + 4) mt_Mo_removeBorder 137 [some (.inr 348), some (.inl v1), none, some (.inl v3), some (.inl v4), some (.inl v5)] [] (ga_uc I1 349 (ns_st (I1 349) v3)) E
    refine gw_nm (fun I2 q2 => ?_)
    have h := h I2 q2
    refine gw_RG (fun hI3 => ?_)
    refine gw_aload_n 0 d_Mo_removeBorder_137 rfl rfl ?_
    refine gw_iload_n 1 d_Mo_removeBorder_138 rfl rfl ?_
    obtain ⟨g4, h⟩ := h
    refine gw_invV (as := [.inl v1]) (k := 348) (rest := []) (d' := (d + 3)) d_Mo_removeBorder_139 lk_Mo_55 (ga_rcv (ga_oM) rfl rfl) rfl (Nat.le_of_ble_eq_true rfl) (Nat.le_of_ble_eq_true rfl) rfl rfl (s_Mo_borders g4 ?_)
    show ga_W G (d + 4) mt_Mo_removeBorder 142 [some (.inr 348), some (.inl v1), none, some (.inl v3), some (.inl v4), some (.inl v5)] [.inl (ms_n (I2 349) v1)] I2 E
    exact gw_ireturn d_Mo_removeBorder_142 rfl h
  · have h := h.2 hc
    refine gw_aload_n 0 d_Mo_removeBorder_100 rfl rfl ?_
    refine gw_iload_n 1 d_Mo_removeBorder_101 rfl rfl ?_
    refine gw_iload 5 d_Mo_removeBorder_102 rfl ?_
    refine gw_iconst d_Mo_removeBorder_104 ?_
    refine gw_iadd d_Mo_removeBorder_105 ?_
    refine gw_iload 5 d_Mo_removeBorder_106 rfl ?_
    obtain ⟨g5, h⟩ := h
    obtain ⟨g6, h⟩ := h
    obtain ⟨g7, h⟩ := h
    refine gw_invV (as := [.inl v1, .inl (v5 + 1), .inl v5]) (k := 348) (rest := []) (d' := (d + 3)) d_Mo_removeBorder_108 lk_Mo_96 (ga_rcv (ga_oM) rfl rfl) rfl (Nat.le_of_ble_eq_true rfl) (Nat.le_of_ble_eq_true rfl) rfl rfl (s_Mo_copyStrip r1 g5 g6 g7 ?_)
    show ga_W G (d + 4) mt_Mo_removeBorder 111 [some (.inr 348), some (.inl v1), none, some (.inl v3), some (.inl v4), some (.inl v5)] [] (mx_re I (gp_sr v1 (v5 + 1).toNat v5.toNat 7)) E
    refine gw_nm (fun I3 q3 => ?_)
    have h := h I3 q3
    refine gw_RG (fun hI4 => ?_)
    refine gw_iinc 5 d_Mo_removeBorder_111 rfl rfl ?_
    refine gw_goto 93 d_Mo_removeBorder_114 (by decide) ?_
    exact gw_le h (by exact ⟨rfl, ⟨rfl, ⟨rfl, ⟨rfl, ⟨rfl, trivial⟩⟩⟩⟩⟩)

section MM
variable {G : ga_G} {d : Nat} {I : ga_I} {E : Option ga_V → ga_I → Prop}
theorem s_Mo_isEdit {op c r i z : Int} (r1 : ga_rg op) (r2 : ga_rg c) (r3 : ga_rg r) (r4 : ga_rg i) (r5 : ga_rg z) (h : E (some (.inl (ga_bb (decide ((0 ≤ op ∧ op ≤ 2) ∧ ((0 ≤ c ∧ c ≤ ms_n (I 349) 0) ∧ (0 ≤ r ∧ r ≤ ms_n (I 349) 1)) ∧ (0 ≤ i ∧ i ≤ 2) ∧ (0 ≤ z ∧ z ≤ 9999)))))) I) : ga_W G (d + 2) mt_Mo_isEdit 0 (ga_en 6 [.inr 348, .inl op, .inl c, .inl r, .inl i, .inl z]) [] I E := by
  refine k_Mo_isEdit_0 r1 r2 r3 r4 r5 (fun hI => ⟨fun q1 => ?_, fun q1 => ⟨fun q2 => ?_, fun q2 => ⟨fun q3 => ?_, fun q3 => ⟨fun q4 => ?_, fun q4 => ?_⟩⟩⟩⟩)
  · exact ga_bF (decide_eq_false (fun q => q1 q.1)) h
  · exact ga_bF (decide_eq_false (fun q => q2 q.2.1)) h
  · exact ga_bF (decide_eq_false (fun q => q3 q.2.2.1)) h
  · exact ga_bF (decide_eq_false (fun q => q4 q.2.2.2)) h
  · exact ga_bT (decide_eq_true ⟨q1, q2, q3, q4⟩) h
theorem ns_in_n {s : Nat → Int} {ax a : Int} {c n : Nat} {x q r : Int} (ha : 0 ≤ ax ∧ ax ≤ 1) (hb : 0 ≤ a ∧ a ≤ 1) (hc : c ≤ n) (hn : n < 6) : ms_n (ns_in s ax c n x q r) a = if a = ax then ms_n s a + 1 else ms_n s a := by
  unfold ms_n ns_in
  by_cases e : a = ax
  · subst e; rw [if_pos rfl, if_pos rfl]
  · rw [if_neg e, if_neg (by omega), if_neg (by omega), if_neg (by omega), if_neg (by omega), if_neg (by omega), if_neg (by omega)]
theorem ns_st_o {s : Nat → Int} {z : Int} {j : Nat} (h : j ≠ 236 ∧ j ≠ 237 ∧ j ≠ 253) : ns_st s z j = s j := by
  unfold ns_st ns_fz
  rw [ns_up_ne h.2.1, ns_up_ne h.1, ns_up_ne h.2.2]
theorem mo_n_mk {s : Nat → Int} (e : I 349 = s) (h0 : 0 ≤ ms_n s 0 ∧ ms_n s 0 ≤ 6) (h1 : 0 ≤ ms_n s 1 ∧ ms_n s 1 ≤ 6) : mo_n I := by subst e; exact ⟨h0, h1⟩
theorem m_addBorder {A : na_A} {ax x q r : Int} (r1 : ga_rg ax) (r2 : ga_rg x) (r3 : ga_rg q) (r4 : ga_rg r) (eA : na_ab I = A) (hA : ni_a A) (h : na_E E I (no_addBorder A ax x q r)) : ga_W G (d + 4) mt_Mo_addBorder 0 (ga_en 7 [.inr 348, .inl ax, .inl x, .inl q, .inl r]) [] I E := by
  have hs : ni_s A.1 := hA.1
  have hm := hA.2.1
  refine k_Mo_addBorder_0 r1 r2 r3 r4 (fun hI I1 e1 => ?_)
  obtain ⟨s1, -, m1, -, -⟩ := na_t1 eA e1
  unfold no_addBorder at h
  refine ⟨fun q1 => na_q h eA e1 (by rw [if_pos (fun q => q1 q.1)]), fun q1 => ⟨fun q2 => na_q h eA e1 (by rw [if_pos (fun q => q2 q.2.1)]), fun q2 => ⟨fun q3 => na_q h eA e1 (by rw [if_pos (fun q => q3 q.2.2.1)]), fun q3 => ⟨⟨by omega, by omega⟩, ⟨by omega, by omega⟩, fun q4 => ⟨ni_ax s1 hs q1, q1, by omega, by omega, fun q5 => ⟨fun q6 => ⟨by rw [m1]; exact hm, fun I2 e2 => ?_⟩, fun q6 => ?_⟩, fun q5 => ?_⟩, fun q4 => na_q h eA e1 (by rw [if_pos (fun q => q4 q.2.2.2)])⟩⟩⟩⟩
  · have t2 := (mx_ac_t eA e1 e2).2
    rw [s1] at q5 q6
    have hok := ni_ax t2 hs q1
    have hok0 := ni_axs hs.1 q1
    have hb := gp_st_bd (ms_p A.1 ax) x (ms_n A.1 ax).toNat
    have k0 := (ni_all t2 hs).2.2.1
    have k1 := k0
    unfold mo_n at k1
    rw [t2] at k1
    have n6 : 0 ≤ ms_n A.1 ax ∧ ms_n A.1 ax ≤ 6 := ⟨hok0.1, hok0.2.1⟩
    refine ⟨k0, fun z1 ez1 => ⟨hok, by rw [t2]; omega, fun I3 e3 => ?_⟩⟩
    rw [t2] at ez1 e3
    have s3 : I3 349 = ns_in A.1 ax (gp_st (ms_p A.1 ax) x (ms_n A.1 ax).toNat).toNat (ms_n A.1 ax).toNat x q r := by rw [e3, ga_uc_at]
    have hn : ∀ a, 0 ≤ a ∧ a ≤ 1 → 0 ≤ ms_n (I3 349) a ∧ ms_n (I3 349) a ≤ 6 := fun a ha => by
      rw [s3, ns_in_n q1 ha (by omega) (by omega)]
      by_cases e : a = ax
      · rw [if_pos e, e]; omega
      · rw [if_neg e]
        rcases (show a = 0 ∨ a = 1 by omega) with w | w <;> subst w
        · exact k1.1
        · exact k1.2
    refine ⟨⟨hn 0 (by omega), hn 1 (by omega)⟩, fun I4 e4 => ?_⟩
    rw [t2]
    rw [s3, ez1, e3, ga_uc_uc] at e4
    refine na_u h eA e1 e2 e4 ?_
    rw [if_neg (fun w => w ⟨q1, q2, q3, q4⟩), if_neg (by simpa using q5), if_neg q6]
    rfl
  · rw [s1] at q5 q6
    exact na_q h eA e1 (by rw [if_neg (fun w => w ⟨q1, q2, q3, q4⟩), if_neg (by simpa using q5), if_pos q6])
  · rw [s1] at q5
    exact na_q h eA e1 (by rw [if_neg (fun w => w ⟨q1, q2, q3, q4⟩), if_pos (by simpa using q5)])
def ns_sd (s : Nat → Int) (ax : Int) (b k : Nat) : Nat → Int := fun j => if (19 * ax).toNat + 1 + 3 * b ≤ j ∧ j < (19 * ax).toNat + 1 + 3 * (b + k) then s (j + 3) else s j
theorem ns_sd_0 (s : Nat → Int) (ax : Int) (b : Nat) : ns_sd s ax b 0 = s := funext fun j => by unfold ns_sd; rw [if_neg (by omega)]
theorem ns_sd_n {s : Nat → Int} {ax a : Int} {b k : Nat} (ha : 0 ≤ ax ∧ ax ≤ 1) (ha2 : 0 ≤ a ∧ a ≤ 1) (hk : b + k ≤ 6) : ms_n (ns_sd s ax b k) a = ms_n s a := by
  unfold ms_n ns_sd
  rw [if_neg (by omega)]
theorem l_Mo_removeBorder (I : ga_I) {ax z : Int} {b n : Nat} (ha : 0 ≤ ax ∧ ax ≤ 1) (hb : b < n) (hn : n ≤ 6)
    (K : ga_W G (d + 4) mt_Mo_removeBorder 93 [some (.inr 348), some (.inl ax), none, some (.inl z), some (.inl (n : Int)), some (.inl ((b : Int) + 1))] [] (ga_uc I 349 (ns_sd (I 349) ax b (n - 1 - b))) E) :
    ∀ (j k : Nat), b + k + 1 + j = n → ga_W G (d + 4) mt_Mo_removeBorder 36 [some (.inr 348), some (.inl ax), some (.inl (b : Int)), some (.inl z), some (.inl (n : Int)), some (.inl ((b + k : Nat) : Int))] [] (ga_uc I 349 (ns_sd (I 349) ax b k)) E := by
  intro j
  induction j with
  | zero =>
    intro k hk
    refine k_Mo_removeBorder_36 ⟨by omega, by omega⟩ (fun hI => ⟨⟨by omega, by omega⟩, fun q => ?_, fun q => by exfalso; omega⟩)
    refine gw_eq K rfl ?_
    rw [show n - 1 - b = k by omega]
  | succ j ih =>
    intro k hk
    have e := ih (k + 1) (by omega)
    have eb : ∀ w, w ≤ 2 → ms_b (ga_uc I 349 (ns_sd (I 349) ax b k) 349) ax (((b + k : Nat) : Int) + 1) (w : Nat) = I 349 ((19 * ax).toNat + 1 + 3 * (b + k + 1) + w) := fun w hw => by
      unfold ms_b
      rw [ga_uc_at]
      unfold ns_sd
      rw [if_neg (by omega), show (((b + k : Nat) : Int) + 1).toNat = b + k + 1 by omega, Int.toNat_natCast]
    have eb0 := eb 0 (by omega)
    have eb1 := eb 1 (by omega)
    have eb2 := eb 2 (by omega)
    rw [show ((0 : Nat) : Int) = 0 from rfl] at eb0
    rw [show ((1 : Nat) : Int) = 1 from rfl] at eb1
    rw [show ((2 : Nat) : Int) = 2 from rfl] at eb2
    refine k_Mo_removeBorder_36 ⟨by omega, by omega⟩ (fun hI => ⟨⟨by omega, by omega⟩, fun q => by exfalso; omega, fun q => ⟨ha, by omega, by omega, fun z1 f1 => ⟨by omega, fun z2 f2 => ⟨by omega, fun z3 f3 => ⟨by omega, fun I1 e1 => ?_⟩⟩⟩⟩⟩)
    rw [eb0] at f1
    rw [eb1] at f2
    rw [eb2] at f3
    refine gw_eq e ?_ ?_
    · rw [show ((b + (k + 1) : Nat) : Int) = ((b + k : Nat) : Int) + 1 by omega]
    · rw [e1, mx_sb_uc, f1, f2, f3]
      simp only [ga_uc_uc, ga_uc_at]
      congr 1
      funext j
      unfold ns_up ns_sd
      rw [Int.toNat_natCast]
      by_cases p2 : j = (19 * ax).toNat + 1 + 3 * (b + k) + 2
      · rw [if_pos p2, if_pos (by omega)]; congr 1; omega
      · rw [if_neg p2]
        by_cases p1 : j = (19 * ax).toNat + 1 + 3 * (b + k) + 1
        · rw [if_pos p1, if_pos (by omega)]; congr 1; omega
        · rw [if_neg p1]
          by_cases p0 : j = (19 * ax).toNat + 1 + 3 * (b + k)
          · rw [if_pos p0, if_pos (by omega)]; congr 1; omega
          · rw [if_neg p0]
            by_cases p : (19 * ax).toNat + 1 + 3 * b ≤ j ∧ j < (19 * ax).toNat + 1 + 3 * (b + k)
            · rw [if_pos p, if_pos (by omega)]
            · rw [if_neg p, if_neg (by omega)]
theorem l_Mo_removeBorder2 (I : ga_I) {ax z : Int} {b n : Nat} (ha : 0 ≤ ax ∧ ax ≤ 1) (hb : b < n) (hn : n ≤ 6) (hmn : mo_n I) (hnn : ms_n (I 349) ax = n)
    (h : ∀ J, J = ga_uc I 349 (ns_st (ns_up (ns_re (I 349) (gp_upr ax (b + 2) (n - b - 1))) (19 * ax).toNat ((n : Int) - 1)) z) → E (some (.inl ((n : Int) - 1))) J) :
    ∀ (j m : Nat), b + 1 + m + j = n → ga_W G (d + 4) mt_Mo_removeBorder 93 [some (.inr 348), some (.inl ax), none, some (.inl z), some (.inl (n : Int)), some (.inl ((b + 1 + m : Nat) : Int))] [] (mx_re I (gp_upr ax (b + 2) m)) E := by
  intro j
  induction j with
  | zero =>
    intro m hm
    refine k_Mo_removeBorder_93 ⟨by omega, by omega⟩ ⟨by omega, by omega⟩ ⟨by omega, by omega⟩ (fun hI => ⟨fun q => ⟨by omega, by omega, fun I1 e1 => ?_⟩, fun q => by exfalso; omega⟩)
    rw [show (0 + 19 * ax).toNat = (19 * ax).toNat by omega, mx_re_o (by omega), show I 349 (19 * ax).toNat = n from hnn, ga_wr_eq ⟨by omega, by omega⟩, mx_re_uc, ga_up_uc, ga_uc_uc, ga_uc_at, show m = n - b - 1 by omega] at e1
    have s1 : I1 349 = ns_up (ns_re (I 349) (gp_upr ax (b + 2) (n - b - 1))) (19 * ax).toNat ((n : Int) - 1) := by rw [e1, ga_uc_at]
    have hn1 : ∀ a, 0 ≤ a ∧ a ≤ 1 → ms_n (I1 349) a = if a = ax then (n : Int) - 1 else ms_n (I 349) a := fun a ha2 => by
      rw [s1]
      unfold ms_n
      by_cases e : a = ax
      · subst e; rw [if_pos rfl, ns_up_at]
      · rw [if_neg e, ns_up_ne (by omega)]; unfold ns_re; rw [if_neg (by omega)]
    have hn2 : ∀ a, 0 ≤ a ∧ a ≤ 1 → 0 ≤ ms_n (I1 349) a ∧ ms_n (I1 349) a ≤ 6 := fun a ha2 => by
      rw [hn1 a ha2]
      by_cases e : a = ax
      · rw [if_pos e]; omega
      · rw [if_neg e]
        rcases (show a = 0 ∨ a = 1 by omega) with w | w <;> subst w
        · exact hmn.1
        · exact hmn.2
    refine ⟨⟨hn2 0 (by omega), hn2 1 (by omega)⟩, fun I2 e2 => ⟨ha, ?_⟩⟩
    have e3 : ms_n (I2 349) ax = (n : Int) - 1 := by
      rw [e2, ga_uc_at]
      have := hn1 ax ha
      rw [if_pos rfl] at this
      unfold ms_n at this ⊢
      rw [ns_st_o (by omega), this]
    rw [e3]
    refine h I2 ?_
    rw [e2, s1, e1, ga_uc_uc]
  | succ j ih =>
    intro m hm
    have e := ih (m + 1) (by omega)
    refine k_Mo_removeBorder_93 ⟨by omega, by omega⟩ ⟨by omega, by omega⟩ ⟨by omega, by omega⟩ (fun hI => ⟨fun q => by exfalso; omega, fun q => ⟨by omega, by omega, by omega, fun I3 e3 => ?_⟩⟩)
    refine gw_eq e ?_ ?_
    · rw [show ((b + 1 + (m + 1) : Nat) : Int) = ((b + 1 + m : Nat) : Int) + 1 by omega]
    · rw [e3, mx_re_re _ _ _ (fun g hg => gp_sr_lt (by omega) g hg)]
      rw [show (((b + 1 + m : Nat) : Int) + 1).toNat = b + 2 + m by omega, show (((b + 1 + m : Nat) : Int)).toNat = b + 2 + m - 1 by omega]
      rfl
theorem m_removeBorder {A : na_A} {ax b : Int} (r1 : ga_rg ax) (r2 : ga_rg b) (eA : na_ab I = A) (hA : ni_a A) (h : na_E E I (no_removeBorder A ax b)) : ga_W G (d + 4) mt_Mo_removeBorder 0 (ga_en 6 [.inr 348, .inl ax, .inl b]) [] I E := by
  have hs : ni_s A.1 := hA.1
  have hm := hA.2.1
  refine k_Mo_removeBorder_0 r1 r2 (fun hI I1 e1 => ?_)
  obtain ⟨s1, -, m1, -, -⟩ := na_t1 eA e1
  unfold no_removeBorder at h
  rw [s1]
  refine ⟨(ni_all s1 hs).2.2.1, fun q1 => ⟨by rw [m1]; exact hm, fun I2 e2 => ?_⟩, fun q1 => na_q h eA e1 (by rw [if_pos q1])⟩
  have t2 := (mx_ac_t eA e1 e2).2
  have k2 := (ni_all t2 hs).2.2.1
  have kI := k2
  unfold mo_n at kI
  rw [t2] at kI
  refine ⟨k2, fun z1 ez1 => ⟨q1.1, ?_⟩⟩
  rw [t2] at ez1
  have n6 : ms_n A.1 ax ≤ 6 := by
    rcases (show ax = 0 ∨ ax = 1 by omega) with w | w <;> subst w
    · exact kI.1.2
    · exact kI.2.2
  have hb : b.toNat < (ms_n A.1 ax).toNat := by omega
  have eN : (((ms_n A.1 ax).toNat : Nat) : Int) = ms_n A.1 ax := by omega
  have eS : ∀ j, (j < (19 * ax).toNat + 1 ∨ 38 ≤ j) → ns_sd A.1 ax b.toNat ((ms_n A.1 ax).toNat - 1 - b.toNat) j = A.1 j := fun j hj => by unfold ns_sd; rw [if_neg (by omega)]
  have K2 := l_Mo_removeBorder2 (G := G) (d := d) (E := E) (ga_uc I2 349 (ns_sd A.1 ax b.toNat ((ms_n A.1 ax).toNat - 1 - b.toNat))) (ax := ax) (z := z1) (b := b.toNat) (n := (ms_n A.1 ax).toNat) q1.1 hb (by omega) ?_ ?_ ?_ ((ms_n A.1 ax).toNat - 1 - b.toNat) 0 (by omega)
  · have K1 := l_Mo_removeBorder (G := G) (d := d) (E := E) I2 (ax := ax) (z := z1) (b := b.toNat) (n := (ms_n A.1 ax).toNat) q1.1 hb (by omega) ?_ ((ms_n A.1 ax).toNat - 1 - b.toNat) 0 (by omega)
    · refine gw_eq K1 ?_ ?_
      · rw [eN, t2, show ((b.toNat + 0 : Nat) : Int) = b by omega, show ((b.toNat : Nat) : Int) = b by omega]
      · rw [ns_sd_0, ga_uc_id]
    · rw [t2]
      refine gw_eq K2 ?_ ?_
      · rw [show ((b.toNat + 1 + 0 : Nat) : Int) = (b.toNat : Int) + 1 by omega]
      · exact mx_re_id _ (s := gp_upr ax (b.toNat + 2) 0) (fun g _ => rfl)
  · refine mo_n_mk ga_uc_at ?_ ?_
    · rw [ns_sd_n q1.1 (by omega) (by omega)]; exact kI.1
    · rw [ns_sd_n q1.1 (by omega) (by omega)]; exact kI.2
  · rw [ga_uc_at, ns_sd_n q1.1 q1.1 (by omega)]; omega
  · intro J hJ
    rw [ga_uc_at, ga_uc_uc] at hJ
    rw [eN]
    refine na_u h eA e1 e2 hJ ?_
    rw [if_neg (fun w => w q1)]
    congr 3
    · funext j
      unfold ns_de
      by_cases p0 : j = (19 * ax).toNat
      · rw [if_pos p0, p0, ns_up_at, eN]; rfl
      · rw [if_neg p0, ns_up_ne p0]
        unfold ns_re
        by_cases p1 : 38 ≤ j ∧ j < 234
        · rw [if_pos p1, if_neg (by omega), if_pos p1, eS _ (by omega)]
        · rw [if_neg p1]
          unfold ns_sd
          by_cases p2 : (19 * ax).toNat + 1 + 3 * b.toNat ≤ j ∧ j < (19 * ax).toNat + 1 + 3 * (b.toNat + ((ms_n A.1 ax).toNat - 1 - b.toNat))
          · rw [if_pos p2, if_pos (by omega), if_neg p1]
          · rw [if_neg p2, if_neg (by omega), if_neg p1]
    · exact ez1.symm
end MM
