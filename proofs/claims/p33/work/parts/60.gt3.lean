theorem k_GT_addBorder_0 {G : ga_G} {d : Nat} {I : ga_I} {E : Option ga_V → ga_I → Prop} {v1 : Int} {v2 : Int} {v3 : Int} {v4 : Int} (r1 : ga_rg v1) (r2 : ga_rg v2) (r3 : ga_rg v3) (r4 : ga_rg v4)
    (h : ga_RG I → ((¬ (0 ≤ v1 ∧ v1 ≤ 1)) → E (some (.inl (-2000000001))) I) ∧ ((0 ≤ v1 ∧ v1 ≤ 1) → ((¬ ((1 : Int) ≤ v2 ∧ v2 ≤ (999 : Int))) → E (some (.inl (-2000000001))) I) ∧ (((1 : Int) ≤ v2 ∧ v2 ≤ (999 : Int)) → ((¬ ((0 : Int) ≤ v3 ∧ v3 ≤ (1 : Int))) → E (some (.inl (-2000000001))) I) ∧ (((0 : Int) ≤ v3 ∧ v3 ≤ (1 : Int)) → ((¬ ((if v3 = 1 then 1 else 0) ≤ v4 ∧ v4 ≤ 100)) → E (some (.inl (-2000000001))) I) ∧ (((if v3 = 1 then 1 else 0) ≤ v4 ∧ v4 ≤ 100) → (ga_rg (v2 - v4)) ∧ ((ga_rg (v2 + v4)) ∧ (((0 ≤ v2 - v4 ∧ v2 + v4 ≤ 1000) → (gb_ok I (ga_bo 2 v1)) ∧ (((gp_fr (I ((ga_bo 2 v1) + 1)) (I ((ga_bo 2 v1) + 3)) v2 v4 ((-1) : Int) (I (ga_bo 2 v1) 0).toNat = true) → ((¬ (6 ≤ I (ga_bo 2 v1) 0)) → (gr_H I) ∧ ((∀ I1 : ga_I, gr_kp I I1 → (gt_n I1 2) ∧ ((∀ z1 : Int, z1 = gp_tt (gp_g3 (I1 (2 + 9))) ((I1 (2 + 1) 0).toNat + 1) ((I1 (2 + 5) 0).toNat + 1) → (gb_ok I1 (ga_bo 2 v1)) ∧ ((I1 (ga_bo 2 v1) 0 < 6) ∧ ((∀ I2 : ga_I, gr_sp I1 I2 2 v1 (gp_st (I1 (ga_bo 2 v1 + 1)) v2 (I1 (ga_bo 2 v1) 0).toNat).toNat (I1 (ga_bo 2 v1) 0).toNat v2 v3 v4 → (gb_ok I2 (1 + 2)) ∧ ((gb_ok I2 (1 + 6)) ∧ ((∀ I3 : ga_I, I3 = (gx_st I2 1 z1) → E (some (.inl (gp_st (I1 (ga_bo 2 v1 + 1)) v2 (I1 (ga_bo 2 v1) 0).toNat))) I3))))))))))) ∧ ((6 ≤ I (ga_bo 2 v1) 0) → E (some (.inl (-2000000003))) I)) ∧ ((gp_fr (I ((ga_bo 2 v1) + 1)) (I ((ga_bo 2 v1) + 3)) v2 v4 ((-1) : Int) (I (ga_bo 2 v1) 0).toNat = false) → E (some (.inl (-2000000002))) I))) ∧ ((¬ (0 ≤ v2 - v4 ∧ v2 + v4 ≤ 1000)) → E (some (.inl (-2000000001))) I)))))))) :
    ga_W G (d + 5) mt_GT_addBorder 0 (ga_en 8 [.inr 0, .inl v1, .inl v2, .inl v3, .inl v4]) [] I E := by
  show ga_W G (d + 5) mt_GT_addBorder 0 [some (.inr 0), some (.inl v1), some (.inl v2), some (.inl v3), some (.inl v4), none, none, none] [] I E
  refine gw_RG (fun hI1 => ?_)
  have h := h hI1
  refine gw_iload_n 1 d_GT_addBorder_0 rfl rfl ?_
  refine gw_invS (as := [.inl v1]) (rest := []) (d' := (d + 4)) d_GT_addBorder_1 lk_GT_61 rfl (Nat.le_of_ble_eq_true rfl) (Nat.le_of_ble_eq_true rfl) rfl rfl (s_GT_isAxis r1 ?_)
  show ga_W G (d + 5) mt_GT_addBorder 4 [some (.inr 0), some (.inl v1), some (.inl v2), some (.inl v3), some (.inl v4), none, none, none] [.inl (ga_bb (decide (0 ≤ v1 ∧ v1 ≤ 1)))] I E
  refine gw_ifb_eq 45 d_GT_addBorder_4 (by decide) (fun hc => ?_) (fun hc => ?_)
  · have h := h.1 (of_decide_eq_false hc)
    refine gw_ldc (n := (-2000000001)) d_GT_addBorder_45 kw_GT_76 (by decide +kernel) ?_
    exact gw_ireturn d_GT_addBorder_47 rfl h
  · have h := h.2 (of_decide_eq_true hc)
    refine gw_iload_n 2 d_GT_addBorder_7 rfl rfl ?_
    refine gw_iconst d_GT_addBorder_8 ?_
    refine gw_sipush d_GT_addBorder_9 (by decide +kernel) ?_
    refine gw_invS (as := [.inl v2, .inl 1, .inl 999]) (rest := []) (d' := (d + 4)) d_GT_addBorder_12 lk_GT_65 rfl (Nat.le_of_ble_eq_true rfl) (Nat.le_of_ble_eq_true rfl) rfl rfl (s_GT_isIn r2 ⟨by decide, by decide⟩ ⟨by decide, by decide⟩ ?_)
    show ga_W G (d + 5) mt_GT_addBorder 15 [some (.inr 0), some (.inl v1), some (.inl v2), some (.inl v3), some (.inl v4), none, none, none] [.inl (ga_bb (decide ((1 : Int) ≤ v2 ∧ v2 ≤ (999 : Int))))] I E
    refine gw_ifb_eq 45 d_GT_addBorder_15 (by decide) (fun hc => ?_) (fun hc => ?_)
    · have h := h.1 (of_decide_eq_false hc)
      refine gw_ldc (n := (-2000000001)) d_GT_addBorder_45 kw_GT_76 (by decide +kernel) ?_
      exact gw_ireturn d_GT_addBorder_47 rfl h
    · have h := h.2 (of_decide_eq_true hc)
      refine gw_iload_n 3 d_GT_addBorder_18 rfl rfl ?_
      refine gw_iconst d_GT_addBorder_19 ?_
      refine gw_iconst d_GT_addBorder_20 ?_
      refine gw_invS (as := [.inl v3, .inl 0, .inl 1]) (rest := []) (d' := (d + 4)) d_GT_addBorder_21 lk_GT_65 rfl (Nat.le_of_ble_eq_true rfl) (Nat.le_of_ble_eq_true rfl) rfl rfl (s_GT_isIn r3 ⟨by decide, by decide⟩ ⟨by decide, by decide⟩ ?_)
      show ga_W G (d + 5) mt_GT_addBorder 24 [some (.inr 0), some (.inl v1), some (.inl v2), some (.inl v3), some (.inl v4), none, none, none] [.inl (ga_bb (decide ((0 : Int) ≤ v3 ∧ v3 ≤ (1 : Int))))] I E
      refine gw_ifb_eq 45 d_GT_addBorder_24 (by decide) (fun hc => ?_) (fun hc => ?_)
      · have h := h.1 (of_decide_eq_false hc)
        refine gw_ldc (n := (-2000000001)) d_GT_addBorder_45 kw_GT_76 (by decide +kernel) ?_
        exact gw_ireturn d_GT_addBorder_47 rfl h
      · have h := h.2 (of_decide_eq_true hc)
        refine gw_iload_n 3 d_GT_addBorder_27 rfl rfl ?_
        refine gw_iload 4 d_GT_addBorder_28 rfl ?_
        refine gw_invS (as := [.inl v3, .inl v4]) (rest := []) (d' := (d + 4)) d_GT_addBorder_30 lk_GT_69 rfl (Nat.le_of_ble_eq_true rfl) (Nat.le_of_ble_eq_true rfl) rfl rfl (s_GT_isReach r3 r4 ?_)
        show ga_W G (d + 5) mt_GT_addBorder 33 [some (.inr 0), some (.inl v1), some (.inl v2), some (.inl v3), some (.inl v4), none, none, none] [.inl (ga_bb (decide ((if v3 = 1 then 1 else 0) ≤ v4 ∧ v4 ≤ 100)))] I E
        refine gw_ifb_eq 45 d_GT_addBorder_33 (by decide) (fun hc => ?_) (fun hc => ?_)
        · have h := h.1 (of_decide_eq_false hc)
          refine gw_ldc (n := (-2000000001)) d_GT_addBorder_45 kw_GT_76 (by decide +kernel) ?_
          exact gw_ireturn d_GT_addBorder_47 rfl h
        · have h := h.2 (of_decide_eq_true hc)
          refine gw_iload_n 2 d_GT_addBorder_36 rfl rfl ?_
          refine gw_iload 4 d_GT_addBorder_37 rfl ?_
          obtain ⟨g1, h⟩ := h
          obtain ⟨g2, h⟩ := h
          refine gw_invS (as := [.inl v2, .inl v4]) (rest := []) (d' := (d + 4)) d_GT_addBorder_39 lk_GT_73 rfl (Nat.le_of_ble_eq_true rfl) (Nat.le_of_ble_eq_true rfl) rfl rfl (s_Borders_isInside g1 g2 ?_)
          show ga_W G (d + 5) mt_GT_addBorder 42 [some (.inr 0), some (.inl v1), some (.inl v2), some (.inl v3), some (.inl v4), none, none, none] [.inl (ga_bb (decide (0 ≤ v2 - v4 ∧ v2 + v4 ≤ 1000)))] I E
          refine gw_ifb_ne 48 d_GT_addBorder_42 (by decide) (fun hc => ?_) (fun hc => ?_)
          · have h := h.1 (of_decide_eq_true hc)
            refine gw_aload_n 0 d_GT_addBorder_48 rfl rfl ?_
            refine gw_getR d_GT_addBorder_49 fl_GT_12 (ga_oG) rfl ?_
            refine gw_getR d_GT_addBorder_52 fl_GT_77 (ga_s1.1) rfl ?_
            refine gw_iload_n 1 d_GT_addBorder_55 rfl rfl ?_
            refine gw_invV (as := [.inl v1]) (k := 2) (rest := []) (d' := (d + 4)) d_GT_addBorder_56 lk_GT_80 (ga_rcv (ga_s1.2.1.1) rfl rfl) rfl (Nat.le_of_ble_eq_true rfl) (Nat.le_of_ble_eq_true rfl) rfl rfl (s_Table_bordersOf ga_s1.2.1 r1 ?_)
            show ga_W G (d + 5) mt_GT_addBorder 59 [some (.inr 0), some (.inl v1), some (.inl v2), some (.inl v3), some (.inl v4), none, none, none] [.inr (ga_bo 2 v1)] I E
            refine gw_astore 5 d_GT_addBorder_59 (Nat.le_of_ble_eq_true rfl) rfl ?_
            refine gw_aload 5 d_GT_addBorder_61 rfl ?_
            refine gw_iload_n 2 d_GT_addBorder_63 rfl rfl ?_
            refine gw_iload 4 d_GT_addBorder_64 rfl ?_
            refine gw_iconst d_GT_addBorder_66 ?_
            obtain ⟨g3, h⟩ := h
            refine gw_invV (as := [.inl v2, .inl v4, .inl (-1)]) (k := (ga_bo 2 v1)) (rest := []) (d' := (d + 4)) d_GT_addBorder_67 lk_GT_84 (ga_rcv ((ga_bo_B ga_s1.2.1 v1).1) rfl rfl) rfl (Nat.le_of_ble_eq_true rfl) (Nat.le_of_ble_eq_true rfl) rfl rfl (s_Borders_isFree (ga_bo_B ga_s1.2.1 v1) g3 ⟨by decide, by decide⟩ g1 g2 ?_)
            show ga_W G (d + 5) mt_GT_addBorder 70 [some (.inr 0), some (.inl v1), some (.inl v2), some (.inl v3), some (.inl v4), some (.inr (ga_bo 2 v1)), none, none] [.inl (ga_bb (gp_fr (I ((ga_bo 2 v1) + 1)) (I ((ga_bo 2 v1) + 3)) v2 v4 ((-1) : Int) (I (ga_bo 2 v1) 0).toNat))] I E
            refine gw_ifb_ne 76 d_GT_addBorder_70 (by decide) (fun hc => ?_) (fun hc => ?_)
            · have h := h.1 (hc)
              refine gw_aload 5 d_GT_addBorder_76 rfl ?_
              refine gw_invV (as := []) (k := (ga_bo 2 v1)) (rest := []) (d' := (d + 4)) d_GT_addBorder_78 lk_GT_88 (ga_rcv ((ga_bo_B ga_s1.2.1 v1).1) rfl rfl) rfl (Nat.le_of_ble_eq_true rfl) (Nat.le_of_ble_eq_true rfl) rfl rfl (s_Borders_isFull (ga_bo_B ga_s1.2.1 v1) ?_)
              show ga_W G (d + 5) mt_GT_addBorder 81 [some (.inr 0), some (.inl v1), some (.inl v2), some (.inl v3), some (.inl v4), some (.inr (ga_bo 2 v1)), none, none] [.inl (ga_bb (decide (6 ≤ I (ga_bo 2 v1) 0)))] I E
              refine gw_ifb_eq 87 d_GT_addBorder_81 (by decide) (fun hc => ?_) (fun hc => ?_)
              · have h := h.1 (of_decide_eq_false hc)
                refine gw_aload_n 0 d_GT_addBorder_87 rfl rfl ?_
                refine gw_getR d_GT_addBorder_88 fl_GT_19 (ga_oG) rfl ?_
                refine gw_aload_n 0 d_GT_addBorder_91 rfl rfl ?_
                refine gw_getR d_GT_addBorder_92 fl_GT_12 (ga_oG) rfl ?_
                obtain ⟨g4, h⟩ := h
                refine gw_invV (as := [.inr 1]) (k := 55) (rest := []) (d' := (d + 4)) d_GT_addBorder_95 lk_GT_93 (ga_rcv (ga_oH) rfl rfl) rfl (Nat.le_of_ble_eq_true rfl) (Nat.le_of_ble_eq_true rfl) rfl rfl (s_History_keep g4 (fun I1 q1 => ?_))
                have h := h I1 q1
                show ga_W G (d + 5) mt_GT_addBorder 98 [some (.inr 0), some (.inl v1), some (.inl v2), some (.inl v3), some (.inl v4), some (.inr (ga_bo 2 v1)), none, none] [] I1 E
                refine gw_RG (fun hI2 => ?_)
                refine gw_aload_n 0 d_GT_addBorder_98 rfl rfl ?_
                refine gw_getR d_GT_addBorder_99 fl_GT_12 (ga_oG) rfl ?_
                refine gw_getR d_GT_addBorder_102 fl_GT_77 (ga_s1.1) rfl ?_
                obtain ⟨g5, h⟩ := h
                refine gw_invV (as := []) (k := 2) (rest := []) (d' := (d + 4)) d_GT_addBorder_105 lk_GT_97 (ga_rcv (ga_s1.2.1.1) rfl rfl) rfl (Nat.le_of_ble_eq_true rfl) (Nat.le_of_ble_eq_true rfl) rfl rfl (s_Table_sumOfGains ga_s1.2.1 g5 ?_)
                show ga_W G (d + 5) mt_GT_addBorder 108 [some (.inr 0), some (.inl v1), some (.inl v2), some (.inl v3), some (.inl v4), some (.inr (ga_bo 2 v1)), none, none] [.inl (gp_tt (gp_g3 (I1 (2 + 9))) ((I1 (2 + 1) 0).toNat + 1) ((I1 (2 + 5) 0).toNat + 1))] I1 E
                refine gw_nz (z := gp_tt (gp_g3 (I1 (2 + 9))) ((I1 (2 + 1) 0).toNat + 1) ((I1 (2 + 5) 0).toNat + 1)) (fun z1 q2 => ?_)
                have h := h z1 q2
                refine gw_istore 6 d_GT_addBorder_108 (Nat.le_of_ble_eq_true rfl) rfl ?_
                refine gw_aload_n 0 d_GT_addBorder_110 rfl rfl ?_
                refine gw_getR d_GT_addBorder_111 fl_GT_12 (ga_oG) rfl ?_
                refine gw_getR d_GT_addBorder_114 fl_GT_77 (ga_s1.1) rfl ?_
                refine gw_iload_n 1 d_GT_addBorder_117 rfl rfl ?_
                refine gw_iload_n 2 d_GT_addBorder_118 rfl rfl ?_
                refine gw_iload_n 3 d_GT_addBorder_119 rfl rfl ?_
                refine gw_iload 4 d_GT_addBorder_120 rfl ?_
                obtain ⟨g6, h⟩ := h
                obtain ⟨g7, h⟩ := h
                refine gw_invV (as := [.inl v1, .inl v2, .inl v3, .inl v4]) (k := 2) (rest := []) (d' := (d + 4)) d_GT_addBorder_122 lk_GT_101 (ga_rcv (ga_s1.2.1.1) rfl rfl) rfl (Nat.le_of_ble_eq_true rfl) (Nat.le_of_ble_eq_true rfl) rfl rfl (s_Table_splitAt ga_s1.2.1 r1 g6 g7 r2 r3 r4 (fun I2 q3 => ?_))
                have h := h I2 q3
                show ga_W G (d + 5) mt_GT_addBorder 125 [some (.inr 0), some (.inl v1), some (.inl v2), some (.inl v3), some (.inl v4), some (.inr (ga_bo 2 v1)), some (.inl z1), none] [.inl (gp_st (I1 (ga_bo 2 v1 + 1)) v2 (I1 (ga_bo 2 v1) 0).toNat)] I2 E
                refine gw_RG (fun hI3 => ?_)
                refine gw_istore 7 d_GT_addBorder_125 (Nat.le_of_ble_eq_true rfl) rfl ?_
                refine gw_aload_n 0 d_GT_addBorder_127 rfl rfl ?_
                refine gw_getR d_GT_addBorder_128 fl_GT_12 (ga_oG) rfl ?_
                refine gw_iload 6 d_GT_addBorder_131 rfl ?_
                obtain ⟨g8, h⟩ := h
                obtain ⟨g9, h⟩ := h
                refine gw_invV (as := [.inl z1]) (k := 1) (rest := []) (d' := (d + 4)) d_GT_addBorder_133 lk_GT_105 (ga_rcv (ga_s1.1) rfl rfl) rfl (Nat.le_of_ble_eq_true rfl) (Nat.le_of_ble_eq_true rfl) rfl rfl (s_State_settleTable ga_s1 g8 g9 ?_)
                show ga_W G (d + 5) mt_GT_addBorder 136 [some (.inr 0), some (.inl v1), some (.inl v2), some (.inl v3), some (.inl v4), some (.inr (ga_bo 2 v1)), some (.inl z1), some (.inl (gp_st (I1 (ga_bo 2 v1 + 1)) v2 (I1 (ga_bo 2 v1) 0).toNat))] [] (gx_st I2 1 z1) E
                refine gw_nm (fun I3 q4 => ?_)
                have h := h I3 q4
                refine gw_RG (fun hI4 => ?_)
                refine gw_iload 7 d_GT_addBorder_136 rfl ?_
                exact gw_ireturn d_GT_addBorder_138 rfl h
              · have h := h.2 (of_decide_eq_true hc)
                refine gw_ldc (n := (-2000000003)) d_GT_addBorder_84 kw_GT_92 (by decide +kernel) ?_
                exact gw_ireturn d_GT_addBorder_86 rfl h
            · have h := h.2 (hc)
              refine gw_ldc (n := (-2000000002)) d_GT_addBorder_73 kw_GT_87 (by decide +kernel) ?_
              exact gw_ireturn d_GT_addBorder_75 rfl h
          · have h := h.2 (of_decide_eq_false hc)
            refine gw_ldc (n := (-2000000001)) d_GT_addBorder_45 kw_GT_76 (by decide +kernel) ?_
            exact gw_ireturn d_GT_addBorder_47 rfl h

theorem k_GT_removeBorder_0 {G : ga_G} {d : Nat} {I : ga_I} {E : Option ga_V → ga_I → Prop} {v1 : Int} {v2 : Int} (r1 : ga_rg v1) (r2 : ga_rg v2)
    (h : ga_RG I → (((0 ≤ v1 ∧ v1 ≤ 1) ∧ (0 ≤ v2 ∧ v2 < I (ga_bo 2 v1) 0)) → (gr_H I) ∧ ((∀ I1 : ga_I, gr_kp I I1 → (gt_n I1 2) ∧ ((∀ z1 : Int, z1 = gp_tt (gp_g3 (I1 (2 + 9))) ((I1 (2 + 1) 0).toNat + 1) ((I1 (2 + 5) 0).toNat + 1) → (gb_ok I1 (ga_bo 2 v1)) ∧ ((0 ≤ v2 ∧ v2 < I1 (ga_bo 2 v1) 0) ∧ ((∀ I2 : ga_I, gr_mg I1 I2 2 v1 v2.toNat (I1 (ga_bo 2 v1) 0).toNat → (gb_ok I2 (1 + 2)) ∧ ((gb_ok I2 (1 + 6)) ∧ ((∀ I3 : ga_I, I3 = (gx_st I2 1 z1) → E (some (.inl (I3 (ga_bo 2 v1) 0))) I3))))))))))) ∧ ((¬ ((0 ≤ v1 ∧ v1 ≤ 1) ∧ (0 ≤ v2 ∧ v2 < I (ga_bo 2 v1) 0))) → E (some (.inl (-2000000001))) I)) :
    ga_W G (d + 5) mt_GT_removeBorder 0 (ga_en 4 [.inr 0, .inl v1, .inl v2]) [] I E := by
  show ga_W G (d + 5) mt_GT_removeBorder 0 [some (.inr 0), some (.inl v1), some (.inl v2), none] [] I E
  refine gw_RG (fun hI1 => ?_)
  have h := h hI1
  refine gw_aload_n 0 d_GT_removeBorder_0 rfl rfl ?_
  refine gw_iload_n 1 d_GT_removeBorder_1 rfl rfl ?_
  refine gw_iload_n 2 d_GT_removeBorder_2 rfl rfl ?_
  refine gw_invV (as := [.inl v1, .inl v2]) (k := 0) (rest := []) (d' := (d + 4)) d_GT_removeBorder_3 lk_GT_109 (ga_rcv (ga_oG) rfl rfl) rfl (Nat.le_of_ble_eq_true rfl) (Nat.le_of_ble_eq_true rfl) rfl rfl (s_GT_isBorder r1 r2 ?_)
  show ga_W G (d + 5) mt_GT_removeBorder 6 [some (.inr 0), some (.inl v1), some (.inl v2), none] [.inl (ga_bb (decide ((0 ≤ v1 ∧ v1 ≤ 1) ∧ (0 ≤ v2 ∧ v2 < I (ga_bo 2 v1) 0))))] I E
  refine gw_ifb_ne 12 d_GT_removeBorder_6 (by decide) (fun hc => ?_) (fun hc => ?_)
  · have h := h.1 (of_decide_eq_true hc)
    refine gw_aload_n 0 d_GT_removeBorder_12 rfl rfl ?_
    refine gw_getR d_GT_removeBorder_13 fl_GT_19 (ga_oG) rfl ?_
    refine gw_aload_n 0 d_GT_removeBorder_16 rfl rfl ?_
    refine gw_getR d_GT_removeBorder_17 fl_GT_12 (ga_oG) rfl ?_
    obtain ⟨g1, h⟩ := h
    refine gw_invV (as := [.inr 1]) (k := 55) (rest := []) (d' := (d + 4)) d_GT_removeBorder_20 lk_GT_93 (ga_rcv (ga_oH) rfl rfl) rfl (Nat.le_of_ble_eq_true rfl) (Nat.le_of_ble_eq_true rfl) rfl rfl (s_History_keep g1 (fun I1 q1 => ?_))
    have h := h I1 q1
    show ga_W G (d + 5) mt_GT_removeBorder 23 [some (.inr 0), some (.inl v1), some (.inl v2), none] [] I1 E
    refine gw_RG (fun hI2 => ?_)
    refine gw_aload_n 0 d_GT_removeBorder_23 rfl rfl ?_
    refine gw_getR d_GT_removeBorder_24 fl_GT_12 (ga_oG) rfl ?_
    refine gw_getR d_GT_removeBorder_27 fl_GT_77 (ga_s1.1) rfl ?_
    obtain ⟨g2, h⟩ := h
    refine gw_invV (as := []) (k := 2) (rest := []) (d' := (d + 4)) d_GT_removeBorder_30 lk_GT_97 (ga_rcv (ga_s1.2.1.1) rfl rfl) rfl (Nat.le_of_ble_eq_true rfl) (Nat.le_of_ble_eq_true rfl) rfl rfl (s_Table_sumOfGains ga_s1.2.1 g2 ?_)
    show ga_W G (d + 5) mt_GT_removeBorder 33 [some (.inr 0), some (.inl v1), some (.inl v2), none] [.inl (gp_tt (gp_g3 (I1 (2 + 9))) ((I1 (2 + 1) 0).toNat + 1) ((I1 (2 + 5) 0).toNat + 1))] I1 E
    refine gw_nz (z := gp_tt (gp_g3 (I1 (2 + 9))) ((I1 (2 + 1) 0).toNat + 1) ((I1 (2 + 5) 0).toNat + 1)) (fun z1 q2 => ?_)
    have h := h z1 q2
    refine gw_istore_n 3 d_GT_removeBorder_33 rfl (Nat.le_of_ble_eq_true rfl) rfl ?_
    refine gw_aload_n 0 d_GT_removeBorder_34 rfl rfl ?_
    refine gw_getR d_GT_removeBorder_35 fl_GT_12 (ga_oG) rfl ?_
    refine gw_getR d_GT_removeBorder_38 fl_GT_77 (ga_s1.1) rfl ?_
    refine gw_iload_n 1 d_GT_removeBorder_41 rfl rfl ?_
    refine gw_iload_n 2 d_GT_removeBorder_42 rfl rfl ?_
    obtain ⟨g3, h⟩ := h
    obtain ⟨g4, h⟩ := h
    refine gw_invV (as := [.inl v1, .inl v2]) (k := 2) (rest := []) (d' := (d + 4)) d_GT_removeBorder_43 lk_GT_112 (ga_rcv (ga_s1.2.1.1) rfl rfl) rfl (Nat.le_of_ble_eq_true rfl) (Nat.le_of_ble_eq_true rfl) rfl rfl (s_Table_mergeAt ga_s1.2.1 r1 g3 g4 (fun I2 q3 => ?_))
    have h := h I2 q3
    show ga_W G (d + 5) mt_GT_removeBorder 46 [some (.inr 0), some (.inl v1), some (.inl v2), some (.inl z1)] [] I2 E
    refine gw_RG (fun hI3 => ?_)
    refine gw_aload_n 0 d_GT_removeBorder_46 rfl rfl ?_
    refine gw_getR d_GT_removeBorder_47 fl_GT_12 (ga_oG) rfl ?_
    refine gw_iload_n 3 d_GT_removeBorder_50 rfl rfl ?_
    obtain ⟨g5, h⟩ := h
    obtain ⟨g6, h⟩ := h
    refine gw_invV (as := [.inl z1]) (k := 1) (rest := []) (d' := (d + 4)) d_GT_removeBorder_51 lk_GT_105 (ga_rcv (ga_s1.1) rfl rfl) rfl (Nat.le_of_ble_eq_true rfl) (Nat.le_of_ble_eq_true rfl) rfl rfl (s_State_settleTable ga_s1 g5 g6 ?_)
    show ga_W G (d + 5) mt_GT_removeBorder 54 [some (.inr 0), some (.inl v1), some (.inl v2), some (.inl z1)] [] (gx_st I2 1 z1) E
    refine gw_nm (fun I3 q4 => ?_)
    have h := h I3 q4
    refine gw_RG (fun hI4 => ?_)
    refine gw_aload_n 0 d_GT_removeBorder_54 rfl rfl ?_
    refine gw_getR d_GT_removeBorder_55 fl_GT_12 (ga_oG) rfl ?_
    refine gw_getR d_GT_removeBorder_58 fl_GT_77 (ga_s1.1) rfl ?_
    refine gw_iload_n 1 d_GT_removeBorder_61 rfl rfl ?_
    refine gw_invV (as := [.inl v1]) (k := 2) (rest := []) (d' := (d + 4)) d_GT_removeBorder_62 lk_GT_80 (ga_rcv (ga_s1.2.1.1) rfl rfl) rfl (Nat.le_of_ble_eq_true rfl) (Nat.le_of_ble_eq_true rfl) rfl rfl (s_Table_bordersOf ga_s1.2.1 r1 ?_)
    show ga_W G (d + 5) mt_GT_removeBorder 65 [some (.inr 0), some (.inl v1), some (.inl v2), some (.inl z1)] [.inr (ga_bo 2 v1)] I3 E
    refine gw_getI d_GT_removeBorder_65 fl_GT_116 ((ga_bo_B ga_s1.2.1 v1).1) rfl ?_
    exact gw_ireturn d_GT_removeBorder_68 rfl h
  · have h := h.2 (of_decide_eq_false hc)
    refine gw_ldc (n := (-2000000001)) d_GT_removeBorder_9 kw_GT_76 (by decide +kernel) ?_
    exact gw_ireturn d_GT_removeBorder_11 rfl h

theorem k_GT_setReach_0 {G : ga_G} {d : Nat} {I : ga_I} {E : Option ga_V → ga_I → Prop} {v1 : Int} {v2 : Int} {v3 : Int} (r1 : ga_rg v1) (r2 : ga_rg v2) (r3 : ga_rg v3)
    (h : ga_RG I → (((0 ≤ v1 ∧ v1 ≤ 1) ∧ (0 ≤ v2 ∧ v2 < I (ga_bo 2 v1) 0)) → (gb_ok I (ga_bo 2 v1)) ∧ ((∀ z1 : Int, z1 = gb_at I (ga_bo 2 v1) ((ga_bo 2 v1) + 1) v2 → (∀ z2 : Int, z2 = gb_at I (ga_bo 2 v1) ((ga_bo 2 v1) + 2) v2 → ((¬ ((if z2 = 1 then 1 else 0) ≤ v3 ∧ v3 ≤ 100)) → E (some (.inl (-2000000001))) I) ∧ (((if z2 = 1 then 1 else 0) ≤ v3 ∧ v3 ≤ 100) → (ga_rg (z1 - v3)) ∧ ((ga_rg (z1 + v3)) ∧ (((0 ≤ z1 - v3 ∧ z1 + v3 ≤ 1000) → ((gp_fr (I ((ga_bo 2 v1) + 1)) (I ((ga_bo 2 v1) + 3)) z1 v3 v2 (I (ga_bo 2 v1) 0).toNat = true) → (gr_H I) ∧ ((∀ I1 : ga_I, gr_kp I I1 → (gb_ok I1 (ga_bo 2 v1)) ∧ ((∀ z3 : Int, z3 = gb_at I1 (ga_bo 2 v1) ((ga_bo 2 v1) + 3) v2 → (0 ≤ v2 ∧ v2 < I1 (ga_bo 2 v1) 0) ∧ ((∀ I2 : ga_I, I2 = (ga_up I1 ((ga_bo 2 v1) + 3) v2.toNat v3) → (gb_ok I2 (1 + 2)) ∧ ((gb_ok I2 (1 + 6)) ∧ ((∀ I3 : ga_I, I3 = (gx_fz I2 1) → E (some (.inl z3)) I3)))))))))) ∧ ((gp_fr (I ((ga_bo 2 v1) + 1)) (I ((ga_bo 2 v1) + 3)) z1 v3 v2 (I (ga_bo 2 v1) 0).toNat = false) → E (some (.inl (-2000000002))) I)) ∧ ((¬ (0 ≤ z1 - v3 ∧ z1 + v3 ≤ 1000)) → E (some (.inl (-2000000001))) I)))))))) ∧ ((¬ ((0 ≤ v1 ∧ v1 ≤ 1) ∧ (0 ≤ v2 ∧ v2 < I (ga_bo 2 v1) 0))) → E (some (.inl (-2000000001))) I)) :
    ga_W G (d + 5) mt_GT_setReach 0 (ga_en 7 [.inr 0, .inl v1, .inl v2, .inl v3]) [] I E := by
  show ga_W G (d + 5) mt_GT_setReach 0 [some (.inr 0), some (.inl v1), some (.inl v2), some (.inl v3), none, none, none] [] I E
  refine gw_RG (fun hI1 => ?_)
  have h := h hI1
  refine gw_aload_n 0 d_GT_setReach_0 rfl rfl ?_
  refine gw_iload_n 1 d_GT_setReach_1 rfl rfl ?_
  refine gw_iload_n 2 d_GT_setReach_2 rfl rfl ?_
  refine gw_invV (as := [.inl v1, .inl v2]) (k := 0) (rest := []) (d' := (d + 4)) d_GT_setReach_3 lk_GT_109 (ga_rcv (ga_oG) rfl rfl) rfl (Nat.le_of_ble_eq_true rfl) (Nat.le_of_ble_eq_true rfl) rfl rfl (s_GT_isBorder r1 r2 ?_)
  show ga_W G (d + 5) mt_GT_setReach 6 [some (.inr 0), some (.inl v1), some (.inl v2), some (.inl v3), none, none, none] [.inl (ga_bb (decide ((0 ≤ v1 ∧ v1 ≤ 1) ∧ (0 ≤ v2 ∧ v2 < I (ga_bo 2 v1) 0))))] I E
  refine gw_ifb_ne 12 d_GT_setReach_6 (by decide) (fun hc => ?_) (fun hc => ?_)
  · have h := h.1 (of_decide_eq_true hc)
    refine gw_aload_n 0 d_GT_setReach_12 rfl rfl ?_
    refine gw_getR d_GT_setReach_13 fl_GT_12 (ga_oG) rfl ?_
    refine gw_getR d_GT_setReach_16 fl_GT_77 (ga_s1.1) rfl ?_
    refine gw_iload_n 1 d_GT_setReach_19 rfl rfl ?_
    refine gw_invV (as := [.inl v1]) (k := 2) (rest := []) (d' := (d + 4)) d_GT_setReach_20 lk_GT_80 (ga_rcv (ga_s1.2.1.1) rfl rfl) rfl (Nat.le_of_ble_eq_true rfl) (Nat.le_of_ble_eq_true rfl) rfl rfl (s_Table_bordersOf ga_s1.2.1 r1 ?_)
    show ga_W G (d + 5) mt_GT_setReach 23 [some (.inr 0), some (.inl v1), some (.inl v2), some (.inl v3), none, none, none] [.inr (ga_bo 2 v1)] I E
    refine gw_astore 4 d_GT_setReach_23 (Nat.le_of_ble_eq_true rfl) rfl ?_
    refine gw_aload 4 d_GT_setReach_25 rfl ?_
    refine gw_iload_n 2 d_GT_setReach_27 rfl rfl ?_
    obtain ⟨g1, h⟩ := h
    refine gw_invV (as := [.inl v2]) (k := (ga_bo 2 v1)) (rest := []) (d' := (d + 4)) d_GT_setReach_28 lk_GT_120 (ga_rcv ((ga_bo_B ga_s1.2.1 v1).1) rfl rfl) rfl (Nat.le_of_ble_eq_true rfl) (Nat.le_of_ble_eq_true rfl) rfl rfl (s_Borders_positionOf (ga_bo_B ga_s1.2.1 v1) g1 r2 ?_)
    show ga_W G (d + 5) mt_GT_setReach 31 [some (.inr 0), some (.inl v1), some (.inl v2), some (.inl v3), some (.inr (ga_bo 2 v1)), none, none] [.inl (gb_at I (ga_bo 2 v1) ((ga_bo 2 v1) + 1) v2)] I E
    refine gw_nz (z := gb_at I (ga_bo 2 v1) ((ga_bo 2 v1) + 1) v2) (fun z1 q1 => ?_)
    have h := h z1 q1
    refine gw_istore 5 d_GT_setReach_31 (Nat.le_of_ble_eq_true rfl) rfl ?_
    refine gw_aload 4 d_GT_setReach_33 rfl ?_
    refine gw_iload_n 2 d_GT_setReach_35 rfl rfl ?_
    refine gw_invV (as := [.inl v2]) (k := (ga_bo 2 v1)) (rest := []) (d' := (d + 4)) d_GT_setReach_36 lk_GT_124 (ga_rcv ((ga_bo_B ga_s1.2.1 v1).1) rfl rfl) rfl (Nat.le_of_ble_eq_true rfl) (Nat.le_of_ble_eq_true rfl) rfl rfl (s_Borders_kindOf (ga_bo_B ga_s1.2.1 v1) g1 r2 ?_)
    show ga_W G (d + 5) mt_GT_setReach 39 [some (.inr 0), some (.inl v1), some (.inl v2), some (.inl v3), some (.inr (ga_bo 2 v1)), some (.inl z1), none] [.inl (gb_at I (ga_bo 2 v1) ((ga_bo 2 v1) + 2) v2)] I E
    refine gw_nz (z := gb_at I (ga_bo 2 v1) ((ga_bo 2 v1) + 2) v2) (fun z2 q2 => ?_)
    have h := h z2 q2
    refine gw_iload_n 3 d_GT_setReach_39 rfl rfl ?_
    refine gw_invS (as := [.inl z2, .inl v3]) (rest := []) (d' := (d + 4)) d_GT_setReach_40 lk_GT_69 rfl (Nat.le_of_ble_eq_true rfl) (Nat.le_of_ble_eq_true rfl) rfl rfl (s_GT_isReach (by rw [q2]; exact (gb_at_rg hI1 _ _)) r3 ?_)
    show ga_W G (d + 5) mt_GT_setReach 43 [some (.inr 0), some (.inl v1), some (.inl v2), some (.inl v3), some (.inr (ga_bo 2 v1)), some (.inl z1), none] [.inl (ga_bb (decide ((if z2 = 1 then 1 else 0) ≤ v3 ∧ v3 ≤ 100)))] I E
    refine gw_ifb_eq 55 d_GT_setReach_43 (by decide) (fun hc => ?_) (fun hc => ?_)
    · have h := h.1 (of_decide_eq_false hc)
      refine gw_ldc (n := (-2000000001)) d_GT_setReach_55 kw_GT_76 (by decide +kernel) ?_
      exact gw_ireturn d_GT_setReach_57 rfl h
    · have h := h.2 (of_decide_eq_true hc)
      refine gw_iload 5 d_GT_setReach_46 rfl ?_
      refine gw_iload_n 3 d_GT_setReach_48 rfl rfl ?_
      obtain ⟨g2, h⟩ := h
      obtain ⟨g3, h⟩ := h
      refine gw_invS (as := [.inl z1, .inl v3]) (rest := []) (d' := (d + 4)) d_GT_setReach_49 lk_GT_73 rfl (Nat.le_of_ble_eq_true rfl) (Nat.le_of_ble_eq_true rfl) rfl rfl (s_Borders_isInside g2 g3 ?_)
      show ga_W G (d + 5) mt_GT_setReach 52 [some (.inr 0), some (.inl v1), some (.inl v2), some (.inl v3), some (.inr (ga_bo 2 v1)), some (.inl z1), none] [.inl (ga_bb (decide (0 ≤ z1 - v3 ∧ z1 + v3 ≤ 1000)))] I E
      refine gw_ifb_ne 58 d_GT_setReach_52 (by decide) (fun hc => ?_) (fun hc => ?_)
      · have h := h.1 (of_decide_eq_true hc)
        refine gw_aload 4 d_GT_setReach_58 rfl ?_
        refine gw_iload 5 d_GT_setReach_60 rfl ?_
        refine gw_iload_n 3 d_GT_setReach_62 rfl rfl ?_
        refine gw_iload_n 2 d_GT_setReach_63 rfl rfl ?_
        refine gw_invV (as := [.inl z1, .inl v3, .inl v2]) (k := (ga_bo 2 v1)) (rest := []) (d' := (d + 4)) d_GT_setReach_64 lk_GT_84 (ga_rcv ((ga_bo_B ga_s1.2.1 v1).1) rfl rfl) rfl (Nat.le_of_ble_eq_true rfl) (Nat.le_of_ble_eq_true rfl) rfl rfl (s_Borders_isFree (ga_bo_B ga_s1.2.1 v1) g1 r2 g2 g3 ?_)
        show ga_W G (d + 5) mt_GT_setReach 67 [some (.inr 0), some (.inl v1), some (.inl v2), some (.inl v3), some (.inr (ga_bo 2 v1)), some (.inl z1), none] [.inl (ga_bb (gp_fr (I ((ga_bo 2 v1) + 1)) (I ((ga_bo 2 v1) + 3)) z1 v3 v2 (I (ga_bo 2 v1) 0).toNat))] I E
        refine gw_ifb_ne 73 d_GT_setReach_67 (by decide) (fun hc => ?_) (fun hc => ?_)
        · have h := h.1 (hc)
          refine gw_aload_n 0 d_GT_setReach_73 rfl rfl ?_
          refine gw_getR d_GT_setReach_74 fl_GT_19 (ga_oG) rfl ?_
          refine gw_aload_n 0 d_GT_setReach_77 rfl rfl ?_
          refine gw_getR d_GT_setReach_78 fl_GT_12 (ga_oG) rfl ?_
          obtain ⟨g4, h⟩ := h
          refine gw_invV (as := [.inr 1]) (k := 55) (rest := []) (d' := (d + 4)) d_GT_setReach_81 lk_GT_93 (ga_rcv (ga_oH) rfl rfl) rfl (Nat.le_of_ble_eq_true rfl) (Nat.le_of_ble_eq_true rfl) rfl rfl (s_History_keep g4 (fun I1 q3 => ?_))
          have h := h I1 q3
          show ga_W G (d + 5) mt_GT_setReach 84 [some (.inr 0), some (.inl v1), some (.inl v2), some (.inl v3), some (.inr (ga_bo 2 v1)), some (.inl z1), none] [] I1 E
          refine gw_RG (fun hI2 => ?_)
          refine gw_aload 4 d_GT_setReach_84 rfl ?_
          refine gw_iload_n 2 d_GT_setReach_86 rfl rfl ?_
          obtain ⟨g5, h⟩ := h
          refine gw_invV (as := [.inl v2]) (k := (ga_bo 2 v1)) (rest := []) (d' := (d + 4)) d_GT_setReach_87 lk_GT_127 (ga_rcv ((ga_bo_B ga_s1.2.1 v1).1) rfl rfl) rfl (Nat.le_of_ble_eq_true rfl) (Nat.le_of_ble_eq_true rfl) rfl rfl (s_Borders_reachOf (ga_bo_B ga_s1.2.1 v1) g5 r2 ?_)
          show ga_W G (d + 5) mt_GT_setReach 90 [some (.inr 0), some (.inl v1), some (.inl v2), some (.inl v3), some (.inr (ga_bo 2 v1)), some (.inl z1), none] [.inl (gb_at I1 (ga_bo 2 v1) ((ga_bo 2 v1) + 3) v2)] I1 E
          refine gw_nz (z := gb_at I1 (ga_bo 2 v1) ((ga_bo 2 v1) + 3) v2) (fun z3 q4 => ?_)
          have h := h z3 q4
          refine gw_istore 6 d_GT_setReach_90 (Nat.le_of_ble_eq_true rfl) rfl ?_
          refine gw_aload 4 d_GT_setReach_92 rfl ?_
          refine gw_iload_n 2 d_GT_setReach_94 rfl rfl ?_
          refine gw_iload_n 3 d_GT_setReach_95 rfl rfl ?_
          obtain ⟨g6, h⟩ := h
          refine gw_invV (as := [.inl v2, .inl v3]) (k := (ga_bo 2 v1)) (rest := []) (d' := (d + 4)) d_GT_setReach_96 lk_GT_130 (ga_rcv ((ga_bo_B ga_s1.2.1 v1).1) rfl rfl) rfl (Nat.le_of_ble_eq_true rfl) (Nat.le_of_ble_eq_true rfl) rfl rfl (s_Borders_putReach (ga_bo_B ga_s1.2.1 v1) g5 g6 r3 ?_)
          show ga_W G (d + 5) mt_GT_setReach 99 [some (.inr 0), some (.inl v1), some (.inl v2), some (.inl v3), some (.inr (ga_bo 2 v1)), some (.inl z1), some (.inl z3)] [] (ga_up I1 ((ga_bo 2 v1) + 3) v2.toNat v3) E
          refine gw_nm (fun I2 q5 => ?_)
          have h := h I2 q5
          refine gw_RG (fun hI3 => ?_)
          refine gw_aload_n 0 d_GT_setReach_99 rfl rfl ?_
          refine gw_getR d_GT_setReach_100 fl_GT_12 (ga_oG) rfl ?_
          obtain ⟨g7, h⟩ := h
          obtain ⟨g8, h⟩ := h
          refine gw_invV (as := []) (k := 1) (rest := []) (d' := (d + 4)) d_GT_setReach_103 lk_GT_133 (ga_rcv (ga_s1.1) rfl rfl) rfl (Nat.le_of_ble_eq_true rfl) (Nat.le_of_ble_eq_true rfl) rfl rfl (s_State_findZones ga_s1 g7 g8 ?_)
          show ga_W G (d + 5) mt_GT_setReach 106 [some (.inr 0), some (.inl v1), some (.inl v2), some (.inl v3), some (.inr (ga_bo 2 v1)), some (.inl z1), some (.inl z3)] [] (gx_fz I2 1) E
          refine gw_nm (fun I3 q6 => ?_)
          have h := h I3 q6
          refine gw_RG (fun hI4 => ?_)
          refine gw_iload 6 d_GT_setReach_106 rfl ?_
          exact gw_ireturn d_GT_setReach_108 rfl h
        · have h := h.2 (hc)
          refine gw_ldc (n := (-2000000002)) d_GT_setReach_70 kw_GT_87 (by decide +kernel) ?_
          exact gw_ireturn d_GT_setReach_72 rfl h
      · have h := h.2 (of_decide_eq_false hc)
        refine gw_ldc (n := (-2000000001)) d_GT_setReach_55 kw_GT_76 (by decide +kernel) ?_
        exact gw_ireturn d_GT_setReach_57 rfl h
  · have h := h.2 (of_decide_eq_false hc)
    refine gw_ldc (n := (-2000000001)) d_GT_setReach_9 kw_GT_76 (by decide +kernel) ?_
    exact gw_ireturn d_GT_setReach_11 rfl h

theorem k_GT_setOperator_0 {G : ga_G} {d : Nat} {I : ga_I} {E : Option ga_V → ga_I → Prop} {v1 : Int} {v2 : Int} {v3 : Int} (r1 : ga_rg v1) (r2 : ga_rg v2) (r3 : ga_rg v3)
    (h : ga_RG I → ((¬ (0 ≤ v1 ∧ v1 ≤ 2)) → E (some (.inl (-2000000001))) I) ∧ ((0 ≤ v1 ∧ v1 ≤ 2) → (((0 : Int) ≤ v2 ∧ v2 ≤ (1 : Int)) → ((v2 ≠ 0) → (((0 : Int) ≤ v3 ∧ v3 ≤ (99999 : Int)) → (gr_H I) ∧ ((∀ I1 : ga_I, gr_kp I I1 → ((v2 ≠ 0) → (0 ≤ v1) ∧ ((v1 < 3) ∧ ((∀ I2 : ga_I, I2 = (ga_up I1 52 v1.toNat v3) → E (some (.inl (I1 52 v1.toNat))) I2)))) ∧ ((v2 = 0) → (0 ≤ v1) ∧ ((v1 < 3) ∧ ((∀ I3 : ga_I, I3 = (ga_up I1 51 v1.toNat v3) → E (some (.inl (I1 51 v1.toNat))) I3))))))) ∧ ((¬ ((0 : Int) ≤ v3 ∧ v3 ≤ (99999 : Int))) → E (some (.inl (-2000000001))) I)) ∧ ((v2 = 0) → (((1 : Int) ≤ v3 ∧ v3 ≤ (9999 : Int)) → (gr_H I) ∧ ((∀ I4 : ga_I, gr_kp I I4 → ((v2 ≠ 0) → (0 ≤ v1) ∧ ((v1 < 3) ∧ ((∀ I5 : ga_I, I5 = (ga_up I4 52 v1.toNat v3) → E (some (.inl (I4 52 v1.toNat))) I5)))) ∧ ((v2 = 0) → (0 ≤ v1) ∧ ((v1 < 3) ∧ ((∀ I6 : ga_I, I6 = (ga_up I4 51 v1.toNat v3) → E (some (.inl (I4 51 v1.toNat))) I6))))))) ∧ ((¬ ((1 : Int) ≤ v3 ∧ v3 ≤ (9999 : Int))) → E (some (.inl (-2000000001))) I))) ∧ ((¬ ((0 : Int) ≤ v2 ∧ v2 ≤ (1 : Int))) → E (some (.inl (-2000000001))) I))) :
    ga_W G (d + 5) mt_GT_setOperator 0 (ga_en 6 [.inr 0, .inl v1, .inl v2, .inl v3]) [] I E := by
  show ga_W G (d + 5) mt_GT_setOperator 0 [some (.inr 0), some (.inl v1), some (.inl v2), some (.inl v3), none, none] [] I E
  refine gw_RG (fun hI1 => ?_)
  have h := h hI1
  refine gw_iload_n 1 d_GT_setOperator_0 rfl rfl ?_
  refine gw_invS (as := [.inl v1]) (rest := []) (d' := (d + 4)) d_GT_setOperator_1 lk_GT_136 rfl (Nat.le_of_ble_eq_true rfl) (Nat.le_of_ble_eq_true rfl) rfl rfl (s_GT_isOperator r1 ?_)
  show ga_W G (d + 5) mt_GT_setOperator 4 [some (.inr 0), some (.inl v1), some (.inl v2), some (.inl v3), none, none] [.inl (ga_bb (decide (0 ≤ v1 ∧ v1 ≤ 2)))] I E
  refine gw_ifb_eq 16 d_GT_setOperator_4 (by decide) (fun hc => ?_) (fun hc => ?_)
  · have h := h.1 (of_decide_eq_false hc)
    refine gw_ldc (n := (-2000000001)) d_GT_setOperator_16 kw_GT_76 (by decide +kernel) ?_
    exact gw_ireturn d_GT_setOperator_18 rfl h
  · have h := h.2 (of_decide_eq_true hc)
    refine gw_iload_n 2 d_GT_setOperator_7 rfl rfl ?_
    refine gw_iconst d_GT_setOperator_8 ?_
    refine gw_iconst d_GT_setOperator_9 ?_
    refine gw_invS (as := [.inl v2, .inl 0, .inl 1]) (rest := []) (d' := (d + 4)) d_GT_setOperator_10 lk_GT_65 rfl (Nat.le_of_ble_eq_true rfl) (Nat.le_of_ble_eq_true rfl) rfl rfl (s_GT_isIn r2 ⟨by decide, by decide⟩ ⟨by decide, by decide⟩ ?_)
    show ga_W G (d + 5) mt_GT_setOperator 13 [some (.inr 0), some (.inl v1), some (.inl v2), some (.inl v3), none, none] [.inl (ga_bb (decide ((0 : Int) ≤ v2 ∧ v2 ≤ (1 : Int))))] I E
    refine gw_ifb_ne 19 d_GT_setOperator_13 (by decide) (fun hc => ?_) (fun hc => ?_)
    · have h := h.1 (of_decide_eq_true hc)
      refine gw_iload_n 2 d_GT_setOperator_19 rfl rfl ?_
      refine gw_if_ne 37 d_GT_setOperator_20 (by decide) r2 (fun hc => ?_) (fun hc => ?_)
      · have h := h.1 hc
        refine gw_iload_n 3 d_GT_setOperator_37 rfl rfl ?_
        refine gw_iconst d_GT_setOperator_38 ?_
        refine gw_ldc (n := 99999) d_GT_setOperator_39 kw_GT_139 (by decide +kernel) ?_
        refine gw_invS (as := [.inl v3, .inl 0, .inl 99999]) (rest := []) (d' := (d + 4)) d_GT_setOperator_41 lk_GT_65 rfl (Nat.le_of_ble_eq_true rfl) (Nat.le_of_ble_eq_true rfl) rfl rfl (s_GT_isIn r3 ⟨by decide, by decide⟩ ⟨by decide, by decide⟩ ?_)
        show ga_W G (d + 5) mt_GT_setOperator 44 [some (.inr 0), some (.inl v1), some (.inl v2), some (.inl v3), none, none] [.inl (ga_bb (decide ((0 : Int) ≤ v3 ∧ v3 ≤ (99999 : Int))))] I E
        refine gw_ifb_ne 50 d_GT_setOperator_44 (by decide) (fun hc => ?_) (fun hc => ?_)
        · have h := h.1 (of_decide_eq_true hc)
          refine gw_aload_n 0 d_GT_setOperator_50 rfl rfl ?_
          refine gw_getR d_GT_setOperator_51 fl_GT_19 (ga_oG) rfl ?_
          refine gw_aload_n 0 d_GT_setOperator_54 rfl rfl ?_
          refine gw_getR d_GT_setOperator_55 fl_GT_12 (ga_oG) rfl ?_
          obtain ⟨g1, h⟩ := h
          refine gw_invV (as := [.inr 1]) (k := 55) (rest := []) (d' := (d + 4)) d_GT_setOperator_58 lk_GT_93 (ga_rcv (ga_oH) rfl rfl) rfl (Nat.le_of_ble_eq_true rfl) (Nat.le_of_ble_eq_true rfl) rfl rfl (s_History_keep g1 (fun I1 q1 => ?_))
          have h := h I1 q1
          show ga_W G (d + 5) mt_GT_setOperator 61 [some (.inr 0), some (.inl v1), some (.inl v2), some (.inl v3), none, none] [] I1 E
          refine gw_RG (fun hI2 => ?_)
          refine gw_iload_n 2 d_GT_setOperator_61 rfl rfl ?_
          refine gw_if_ne 75 d_GT_setOperator_62 (by decide) r2 (fun hc => ?_) (fun hc => ?_)
          · have h := h.1 hc
            refine gw_aload_n 0 d_GT_setOperator_75 rfl rfl ?_
            refine gw_getR d_GT_setOperator_76 fl_GT_12 (ga_oG) rfl ?_
            refine gw_getR d_GT_setOperator_79 fl_GT_143 (ga_s1.1) rfl ?_
            refine gw_astore 4 d_GT_setOperator_82 (Nat.le_of_ble_eq_true rfl) rfl ?_
            refine gw_aload 4 d_GT_setOperator_84 rfl ?_
            refine gw_iload_n 1 d_GT_setOperator_86 rfl rfl ?_
            obtain ⟨g2, h⟩ := h
            obtain ⟨g3, h⟩ := h
            refine gw_iald d_GT_setOperator_87 (ga_s1.2.2.2.2.2.2.2.2.2.2.1) g2 g3 ?_
            refine gw_istore 5 d_GT_setOperator_88 (Nat.le_of_ble_eq_true rfl) rfl ?_
            refine gw_aload 4 d_GT_setOperator_90 rfl ?_
            refine gw_iload_n 1 d_GT_setOperator_92 rfl rfl ?_
            refine gw_iload_n 3 d_GT_setOperator_93 rfl rfl ?_
            refine gw_iast d_GT_setOperator_94 (ga_s1.2.2.2.2.2.2.2.2.2.2.1) g2 g3 ?_
            show ga_W G (d + 5) mt_GT_setOperator 95 [some (.inr 0), some (.inl v1), some (.inl v2), some (.inl v3), some (.inr 52), some (.inl (I1 52 v1.toNat))] [] (ga_up I1 52 v1.toNat (ga_wr v3)) E
            rw [ga_wr_eq (z := v3) r3]
            refine gw_nm (J := (ga_up I1 52 v1.toNat v3)) (fun I2 q2 => ?_)
            have h := h I2 q2
            refine gw_RG (fun hI3 => ?_)
            refine gw_iload 5 d_GT_setOperator_95 rfl ?_
            exact gw_ireturn d_GT_setOperator_97 rfl h
          · have h := h.2 hc
            refine gw_aload_n 0 d_GT_setOperator_65 rfl rfl ?_
            refine gw_getR d_GT_setOperator_66 fl_GT_12 (ga_oG) rfl ?_
            refine gw_getR d_GT_setOperator_69 fl_GT_140 (ga_s1.1) rfl ?_
            refine gw_goto 82 d_GT_setOperator_72 (by decide) ?_
            refine gw_astore 4 d_GT_setOperator_82 (Nat.le_of_ble_eq_true rfl) rfl ?_
            refine gw_aload 4 d_GT_setOperator_84 rfl ?_
            refine gw_iload_n 1 d_GT_setOperator_86 rfl rfl ?_
            obtain ⟨g4, h⟩ := h
            obtain ⟨g5, h⟩ := h
            refine gw_iald d_GT_setOperator_87 (ga_s1.2.2.2.2.2.2.2.2.2.1) g4 g5 ?_
            refine gw_istore 5 d_GT_setOperator_88 (Nat.le_of_ble_eq_true rfl) rfl ?_
            refine gw_aload 4 d_GT_setOperator_90 rfl ?_
            refine gw_iload_n 1 d_GT_setOperator_92 rfl rfl ?_
            refine gw_iload_n 3 d_GT_setOperator_93 rfl rfl ?_
            refine gw_iast d_GT_setOperator_94 (ga_s1.2.2.2.2.2.2.2.2.2.1) g4 g5 ?_
            show ga_W G (d + 5) mt_GT_setOperator 95 [some (.inr 0), some (.inl v1), some (.inl v2), some (.inl v3), some (.inr 51), some (.inl (I1 51 v1.toNat))] [] (ga_up I1 51 v1.toNat (ga_wr v3)) E
            rw [ga_wr_eq (z := v3) r3]
            refine gw_nm (J := (ga_up I1 51 v1.toNat v3)) (fun I3 q3 => ?_)
            have h := h I3 q3
            refine gw_RG (fun hI4 => ?_)
            refine gw_iload 5 d_GT_setOperator_95 rfl ?_
            exact gw_ireturn d_GT_setOperator_97 rfl h
        · have h := h.2 (of_decide_eq_false hc)
          refine gw_ldc (n := (-2000000001)) d_GT_setOperator_47 kw_GT_76 (by decide +kernel) ?_
          exact gw_ireturn d_GT_setOperator_49 rfl h
      · have h := h.2 hc
        refine gw_iload_n 3 d_GT_setOperator_23 rfl rfl ?_
        refine gw_iconst d_GT_setOperator_24 ?_
        refine gw_sipush d_GT_setOperator_25 (by decide +kernel) ?_
        refine gw_invS (as := [.inl v3, .inl 1, .inl 9999]) (rest := []) (d' := (d + 4)) d_GT_setOperator_28 lk_GT_65 rfl (Nat.le_of_ble_eq_true rfl) (Nat.le_of_ble_eq_true rfl) rfl rfl (s_GT_isIn r3 ⟨by decide, by decide⟩ ⟨by decide, by decide⟩ ?_)
        show ga_W G (d + 5) mt_GT_setOperator 31 [some (.inr 0), some (.inl v1), some (.inl v2), some (.inl v3), none, none] [.inl (ga_bb (decide ((1 : Int) ≤ v3 ∧ v3 ≤ (9999 : Int))))] I E
        refine gw_ifb_ne 50 d_GT_setOperator_31 (by decide) (fun hc => ?_) (fun hc => ?_)
        · have h := h.1 (of_decide_eq_true hc)
          refine gw_aload_n 0 d_GT_setOperator_50 rfl rfl ?_
          refine gw_getR d_GT_setOperator_51 fl_GT_19 (ga_oG) rfl ?_
          refine gw_aload_n 0 d_GT_setOperator_54 rfl rfl ?_
          refine gw_getR d_GT_setOperator_55 fl_GT_12 (ga_oG) rfl ?_
          obtain ⟨g6, h⟩ := h
          refine gw_invV (as := [.inr 1]) (k := 55) (rest := []) (d' := (d + 4)) d_GT_setOperator_58 lk_GT_93 (ga_rcv (ga_oH) rfl rfl) rfl (Nat.le_of_ble_eq_true rfl) (Nat.le_of_ble_eq_true rfl) rfl rfl (s_History_keep g6 (fun I4 q4 => ?_))
          have h := h I4 q4
          show ga_W G (d + 5) mt_GT_setOperator 61 [some (.inr 0), some (.inl v1), some (.inl v2), some (.inl v3), none, none] [] I4 E
          refine gw_RG (fun hI5 => ?_)
          refine gw_iload_n 2 d_GT_setOperator_61 rfl rfl ?_
          refine gw_if_ne 75 d_GT_setOperator_62 (by decide) r2 (fun hc => ?_) (fun hc => ?_)
          · have h := h.1 hc
            refine gw_aload_n 0 d_GT_setOperator_75 rfl rfl ?_
            refine gw_getR d_GT_setOperator_76 fl_GT_12 (ga_oG) rfl ?_
            refine gw_getR d_GT_setOperator_79 fl_GT_143 (ga_s1.1) rfl ?_
            refine gw_astore 4 d_GT_setOperator_82 (Nat.le_of_ble_eq_true rfl) rfl ?_
            refine gw_aload 4 d_GT_setOperator_84 rfl ?_
            refine gw_iload_n 1 d_GT_setOperator_86 rfl rfl ?_
            obtain ⟨g7, h⟩ := h
            obtain ⟨g8, h⟩ := h
            refine gw_iald d_GT_setOperator_87 (ga_s1.2.2.2.2.2.2.2.2.2.2.1) g7 g8 ?_
            refine gw_istore 5 d_GT_setOperator_88 (Nat.le_of_ble_eq_true rfl) rfl ?_
            refine gw_aload 4 d_GT_setOperator_90 rfl ?_
            refine gw_iload_n 1 d_GT_setOperator_92 rfl rfl ?_
            refine gw_iload_n 3 d_GT_setOperator_93 rfl rfl ?_
            refine gw_iast d_GT_setOperator_94 (ga_s1.2.2.2.2.2.2.2.2.2.2.1) g7 g8 ?_
            show ga_W G (d + 5) mt_GT_setOperator 95 [some (.inr 0), some (.inl v1), some (.inl v2), some (.inl v3), some (.inr 52), some (.inl (I4 52 v1.toNat))] [] (ga_up I4 52 v1.toNat (ga_wr v3)) E
            rw [ga_wr_eq (z := v3) r3]
            refine gw_nm (J := (ga_up I4 52 v1.toNat v3)) (fun I5 q5 => ?_)
            have h := h I5 q5
            refine gw_RG (fun hI6 => ?_)
            refine gw_iload 5 d_GT_setOperator_95 rfl ?_
            exact gw_ireturn d_GT_setOperator_97 rfl h
          · have h := h.2 hc
            refine gw_aload_n 0 d_GT_setOperator_65 rfl rfl ?_
            refine gw_getR d_GT_setOperator_66 fl_GT_12 (ga_oG) rfl ?_
            refine gw_getR d_GT_setOperator_69 fl_GT_140 (ga_s1.1) rfl ?_
            refine gw_goto 82 d_GT_setOperator_72 (by decide) ?_
            refine gw_astore 4 d_GT_setOperator_82 (Nat.le_of_ble_eq_true rfl) rfl ?_
            refine gw_aload 4 d_GT_setOperator_84 rfl ?_
            refine gw_iload_n 1 d_GT_setOperator_86 rfl rfl ?_
            obtain ⟨g9, h⟩ := h
            obtain ⟨g10, h⟩ := h
            refine gw_iald d_GT_setOperator_87 (ga_s1.2.2.2.2.2.2.2.2.2.1) g9 g10 ?_
            refine gw_istore 5 d_GT_setOperator_88 (Nat.le_of_ble_eq_true rfl) rfl ?_
            refine gw_aload 4 d_GT_setOperator_90 rfl ?_
            refine gw_iload_n 1 d_GT_setOperator_92 rfl rfl ?_
            refine gw_iload_n 3 d_GT_setOperator_93 rfl rfl ?_
            refine gw_iast d_GT_setOperator_94 (ga_s1.2.2.2.2.2.2.2.2.2.1) g9 g10 ?_
            show ga_W G (d + 5) mt_GT_setOperator 95 [some (.inr 0), some (.inl v1), some (.inl v2), some (.inl v3), some (.inr 51), some (.inl (I4 51 v1.toNat))] [] (ga_up I4 51 v1.toNat (ga_wr v3)) E
            rw [ga_wr_eq (z := v3) r3]
            refine gw_nm (J := (ga_up I4 51 v1.toNat v3)) (fun I6 q6 => ?_)
            have h := h I6 q6
            refine gw_RG (fun hI7 => ?_)
            refine gw_iload 5 d_GT_setOperator_95 rfl ?_
            exact gw_ireturn d_GT_setOperator_97 rfl h
        · have h := h.2 (of_decide_eq_false hc)
          refine gw_goto 47 d_GT_setOperator_34 (by decide) ?_
          refine gw_ldc (n := (-2000000001)) d_GT_setOperator_47 kw_GT_76 (by decide +kernel) ?_
          exact gw_ireturn d_GT_setOperator_49 rfl h
    · have h := h.2 (of_decide_eq_false hc)
      refine gw_ldc (n := (-2000000001)) d_GT_setOperator_16 kw_GT_76 (by decide +kernel) ?_
      exact gw_ireturn d_GT_setOperator_18 rfl h

theorem k_GT_edit_0 {G : ga_G} {d : Nat} {I : ga_I} {E : Option ga_V → ga_I → Prop} {v1 : Int} {v2 : Int} {v3 : Int} {v4 : Int} {v5 : Int} (r1 : ga_rg v1) (r2 : ga_rg v2) (r3 : ga_rg v3) (r4 : ga_rg v4) (r5 : ga_rg v5)
    (h : ga_RG I → (((0 ≤ v1 ∧ v1 ≤ 2) ∧ ((0 ≤ v2 ∧ v2 ≤ I 3 0) ∧ (0 ≤ v3 ∧ v3 ≤ I 7 0)) ∧ (0 ≤ v4 ∧ v4 ≤ 2) ∧ (0 ≤ v5 ∧ v5 ≤ 9999)) → (0 ≤ v1 ∧ v1 < 3) ∧ ((0 ≤ (v2 * 7 + v3) ∧ (v2 * 7 + v3) < 49) ∧ ((0 ≤ v4 ∧ v4 < 3) ∧ ((0 ≤ v5 ∧ v5 ≤ 9999) ∧ ((gr_gn I (1 + 1)) ∧ ((∀ z1 : Int, z1 = gp_ra (I (1 + 11) (v2 * 7 + v3).toNat) (I (1 + 10) ((v2 * 7 + v3) * 3 + v4).toNat) (I (1 + 50) v1.toNat) (I (1 + 51) v1.toNat) v1 v5 → (ga_rg z1) ∧ (((z1 = 0) → (gr_H I) ∧ ((∀ I1 : ga_I, gr_kp I I1 → (0 ≤ (v2 * 7 + v3) * 3 + v4 ∧ (v2 * 7 + v3) * 3 + v4 < 147) ∧ ((∀ z2 : Int, z2 = I1 (2 + 9) ((v2 * 7 + v3) * 3 + v4).toNat → (gr_gn I1 (1 + 1)) ∧ ((∀ I2 : ga_I, I2 = (gx_ed I1 1 v1.toNat ((v2 * 7 + v3) * 3 + v4).toNat v5) → E (some (.inl z2)) I2))))))) ∧ ((¬ (z1 = 0)) → E (some (.inl (-2000000002))) I))))))))) ∧ ((¬ ((0 ≤ v1 ∧ v1 ≤ 2) ∧ ((0 ≤ v2 ∧ v2 ≤ I 3 0) ∧ (0 ≤ v3 ∧ v3 ≤ I 7 0)) ∧ (0 ≤ v4 ∧ v4 ≤ 2) ∧ (0 ≤ v5 ∧ v5 ≤ 9999))) → E (some (.inl (-2000000001))) I)) :
    ga_W G (d + 5) mt_GT_edit 0 (ga_en 8 [.inr 0, .inl v1, .inl v2, .inl v3, .inl v4, .inl v5]) [] I E := by
  show ga_W G (d + 5) mt_GT_edit 0 [some (.inr 0), some (.inl v1), some (.inl v2), some (.inl v3), some (.inl v4), some (.inl v5), none, none] [] I E
  refine gw_RG (fun hI1 => ?_)
  have h := h hI1
  refine gw_aload_n 0 d_GT_edit_0 rfl rfl ?_
  refine gw_iload_n 1 d_GT_edit_1 rfl rfl ?_
  refine gw_iload_n 2 d_GT_edit_2 rfl rfl ?_
  refine gw_iload_n 3 d_GT_edit_3 rfl rfl ?_
  refine gw_iload 4 d_GT_edit_4 rfl ?_
  refine gw_iload 5 d_GT_edit_6 rfl ?_
  refine gw_invV (as := [.inl v1, .inl v2, .inl v3, .inl v4, .inl v5]) (k := 0) (rest := []) (d' := (d + 4)) d_GT_edit_8 lk_GT_146 (ga_rcv (ga_oG) rfl rfl) rfl (Nat.le_of_ble_eq_true rfl) (Nat.le_of_ble_eq_true rfl) rfl rfl (s_GT_isEdit r1 r2 r3 r4 r5 ?_)
  show ga_W G (d + 5) mt_GT_edit 11 [some (.inr 0), some (.inl v1), some (.inl v2), some (.inl v3), some (.inl v4), some (.inl v5), none, none] [.inl (ga_bb (decide ((0 ≤ v1 ∧ v1 ≤ 2) ∧ ((0 ≤ v2 ∧ v2 ≤ I 3 0) ∧ (0 ≤ v3 ∧ v3 ≤ I 7 0)) ∧ (0 ≤ v4 ∧ v4 ≤ 2) ∧ (0 ≤ v5 ∧ v5 ≤ 9999))))] I E
  refine gw_ifb_ne 17 d_GT_edit_11 (by decide) (fun hc => ?_) (fun hc => ?_)
  · have h := h.1 (of_decide_eq_true hc)
    refine gw_iload_n 2 d_GT_edit_17 rfl rfl ?_
    refine gw_iload_n 3 d_GT_edit_18 rfl rfl ?_
    refine gw_invS (as := [.inl v2, .inl v3]) (rest := []) (d' := (d + 4)) d_GT_edit_19 lk_GT_150 rfl (Nat.le_of_ble_eq_true rfl) (Nat.le_of_ble_eq_true rfl) rfl rfl (s_Table_regionAt  ?_)
    show ga_W G (d + 5) mt_GT_edit 22 [some (.inr 0), some (.inl v1), some (.inl v2), some (.inl v3), some (.inl v4), some (.inl v5), none, none] [.inl (v2 * 7 + v3)] I E
    refine gw_istore 6 d_GT_edit_22 (Nat.le_of_ble_eq_true rfl) rfl ?_
    refine gw_aload_n 0 d_GT_edit_24 rfl rfl ?_
    refine gw_getR d_GT_edit_25 fl_GT_12 (ga_oG) rfl ?_
    refine gw_iload_n 1 d_GT_edit_28 rfl rfl ?_
    refine gw_iload 6 d_GT_edit_29 rfl ?_
    refine gw_iload 4 d_GT_edit_31 rfl ?_
    refine gw_iload 5 d_GT_edit_33 rfl ?_
    obtain ⟨g1, h⟩ := h
    obtain ⟨g2, h⟩ := h
    obtain ⟨g3, h⟩ := h
    obtain ⟨g4, h⟩ := h
    obtain ⟨g5, h⟩ := h
    refine gw_invV (as := [.inl v1, .inl (v2 * 7 + v3), .inl v4, .inl v5]) (k := 1) (rest := []) (d' := (d + 4)) d_GT_edit_35 lk_GT_154 (ga_rcv (ga_s1.1) rfl rfl) rfl (Nat.le_of_ble_eq_true rfl) (Nat.le_of_ble_eq_true rfl) rfl rfl (s_State_reasonAgainst ga_s1 g1 g2 g3 g4 g5 ?_)
    show ga_W G (d + 5) mt_GT_edit 38 [some (.inr 0), some (.inl v1), some (.inl v2), some (.inl v3), some (.inl v4), some (.inl v5), some (.inl (v2 * 7 + v3)), none] [.inl (gp_ra (I (1 + 11) (v2 * 7 + v3).toNat) (I (1 + 10) ((v2 * 7 + v3) * 3 + v4).toNat) (I (1 + 50) v1.toNat) (I (1 + 51) v1.toNat) v1 v5)] I E
    refine gw_nz (z := gp_ra (I (1 + 11) (v2 * 7 + v3).toNat) (I (1 + 10) ((v2 * 7 + v3) * 3 + v4).toNat) (I (1 + 50) v1.toNat) (I (1 + 51) v1.toNat) v1 v5) (fun z1 q1 => ?_)
    have h := h z1 q1
    obtain ⟨g6, h⟩ := h
    refine gw_if_eq 44 d_GT_edit_38 (by decide) g6 (fun hc => ?_) (fun hc => ?_)
    · have h := h.1 hc
      refine gw_aload_n 0 d_GT_edit_44 rfl rfl ?_
      refine gw_getR d_GT_edit_45 fl_GT_19 (ga_oG) rfl ?_
      refine gw_aload_n 0 d_GT_edit_48 rfl rfl ?_
      refine gw_getR d_GT_edit_49 fl_GT_12 (ga_oG) rfl ?_
      obtain ⟨g7, h⟩ := h
      refine gw_invV (as := [.inr 1]) (k := 55) (rest := []) (d' := (d + 4)) d_GT_edit_52 lk_GT_93 (ga_rcv (ga_oH) rfl rfl) rfl (Nat.le_of_ble_eq_true rfl) (Nat.le_of_ble_eq_true rfl) rfl rfl (s_History_keep g7 (fun I1 q2 => ?_))
      have h := h I1 q2
      show ga_W G (d + 5) mt_GT_edit 55 [some (.inr 0), some (.inl v1), some (.inl v2), some (.inl v3), some (.inl v4), some (.inl v5), some (.inl (v2 * 7 + v3)), none] [] I1 E
      refine gw_RG (fun hI2 => ?_)
      refine gw_aload_n 0 d_GT_edit_55 rfl rfl ?_
      refine gw_getR d_GT_edit_56 fl_GT_12 (ga_oG) rfl ?_
      refine gw_getR d_GT_edit_59 fl_GT_77 (ga_s1.1) rfl ?_
      refine gw_iload 6 d_GT_edit_62 rfl ?_
      refine gw_iload 4 d_GT_edit_64 rfl ?_
      obtain ⟨g8, h⟩ := h
      refine gw_invV (as := [.inl (v2 * 7 + v3), .inl v4]) (k := 2) (rest := []) (d' := (d + 4)) d_GT_edit_66 lk_GT_157 (ga_rcv (ga_s1.2.1.1) rfl rfl) rfl (Nat.le_of_ble_eq_true rfl) (Nat.le_of_ble_eq_true rfl) rfl rfl (s_Table_gainAt ga_s1.2.1 g8 ?_)
      show ga_W G (d + 5) mt_GT_edit 69 [some (.inr 0), some (.inl v1), some (.inl v2), some (.inl v3), some (.inl v4), some (.inl v5), some (.inl (v2 * 7 + v3)), none] [.inl (I1 (2 + 9) ((v2 * 7 + v3) * 3 + v4).toNat)] I1 E
      refine gw_nz (z := I1 (2 + 9) ((v2 * 7 + v3) * 3 + v4).toNat) (fun z2 q3 => ?_)
      have h := h z2 q3
      refine gw_istore 7 d_GT_edit_69 (Nat.le_of_ble_eq_true rfl) rfl ?_
      refine gw_aload_n 0 d_GT_edit_71 rfl rfl ?_
      refine gw_getR d_GT_edit_72 fl_GT_12 (ga_oG) rfl ?_
      refine gw_iload_n 1 d_GT_edit_75 rfl rfl ?_
      refine gw_iload 6 d_GT_edit_76 rfl ?_
      refine gw_iload 4 d_GT_edit_78 rfl ?_
      refine gw_iload 5 d_GT_edit_80 rfl ?_
      obtain ⟨g9, h⟩ := h
      refine gw_invV (as := [.inl v1, .inl (v2 * 7 + v3), .inl v4, .inl v5]) (k := 1) (rest := []) (d' := (d + 4)) d_GT_edit_82 lk_GT_160 (ga_rcv (ga_s1.1) rfl rfl) rfl (Nat.le_of_ble_eq_true rfl) (Nat.le_of_ble_eq_true rfl) rfl rfl (s_State_carryOutEdit ga_s1 g1 g2 g3 g4 g9 ?_)
      show ga_W G (d + 5) mt_GT_edit 85 [some (.inr 0), some (.inl v1), some (.inl v2), some (.inl v3), some (.inl v4), some (.inl v5), some (.inl (v2 * 7 + v3)), some (.inl z2)] [] (gx_ed I1 1 v1.toNat ((v2 * 7 + v3) * 3 + v4).toNat v5) E
      refine gw_nm (fun I2 q4 => ?_)
      have h := h I2 q4
      refine gw_RG (fun hI3 => ?_)
      refine gw_iload 7 d_GT_edit_85 rfl ?_
      exact gw_ireturn d_GT_edit_87 rfl h
    · have h := h.2 hc
      refine gw_ldc (n := (-2000000002)) d_GT_edit_41 kw_GT_87 (by decide +kernel) ?_
      exact gw_ireturn d_GT_edit_43 rfl h
  · have h := h.2 (of_decide_eq_false hc)
    refine gw_ldc (n := (-2000000001)) d_GT_edit_14 kw_GT_76 (by decide +kernel) ?_
    exact gw_ireturn d_GT_edit_16 rfl h

theorem k_GT_scale_0 {G : ga_G} {d : Nat} {I : ga_I} {E : Option ga_V → ga_I → Prop} {v1 : Int} {v2 : Int} {v3 : Int} (r1 : ga_rg v1) (r2 : ga_rg v2) (r3 : ga_rg v3)
    (h : ga_RG I → ((¬ (0 ≤ v1 ∧ v1 ≤ 2)) → E (some (.inl (-2000000001))) I) ∧ ((0 ≤ v1 ∧ v1 ≤ 2) → ((¬ (0 ≤ v2 ∧ v2 ≤ 2)) → E (some (.inl (-2000000001))) I) ∧ ((0 ≤ v2 ∧ v2 ≤ 2) → (((0 : Int) ≤ v3 ∧ v3 ≤ (1000 : Int)) → (gr_H I) ∧ ((∀ I1 : ga_I, gr_kp I I1 → ga_W G (d + 5) mt_GT_scale 45 [some (.inr 0), some (.inl v1), some (.inl v2), some (.inl v3), some (.inl 0), some (.inl 0), none, none, none] [] I1 E))) ∧ ((¬ ((0 : Int) ≤ v3 ∧ v3 ≤ (1000 : Int))) → E (some (.inl (-2000000001))) I)))) :
    ga_W G (d + 5) mt_GT_scale 0 (ga_en 9 [.inr 0, .inl v1, .inl v2, .inl v3]) [] I E := by
  show ga_W G (d + 5) mt_GT_scale 0 [some (.inr 0), some (.inl v1), some (.inl v2), some (.inl v3), none, none, none, none, none] [] I E
  refine gw_RG (fun hI1 => ?_)
  have h := h hI1
  refine gw_iload_n 1 d_GT_scale_0 rfl rfl ?_
  refine gw_invS (as := [.inl v1]) (rest := []) (d' := (d + 4)) d_GT_scale_1 lk_GT_136 rfl (Nat.le_of_ble_eq_true rfl) (Nat.le_of_ble_eq_true rfl) rfl rfl (s_GT_isOperator r1 ?_)
  show ga_W G (d + 5) mt_GT_scale 4 [some (.inr 0), some (.inl v1), some (.inl v2), some (.inl v3), none, none, none, none, none] [.inl (ga_bb (decide (0 ≤ v1 ∧ v1 ≤ 2)))] I E
  refine gw_ifb_eq 25 d_GT_scale_4 (by decide) (fun hc => ?_) (fun hc => ?_)
  · have h := h.1 (of_decide_eq_false hc)
    refine gw_ldc (n := (-2000000001)) d_GT_scale_25 kw_GT_76 (by decide +kernel) ?_
    exact gw_ireturn d_GT_scale_27 rfl h
  · have h := h.2 (of_decide_eq_true hc)
    refine gw_iload_n 2 d_GT_scale_7 rfl rfl ?_
    refine gw_invS (as := [.inl v2]) (rest := []) (d' := (d + 4)) d_GT_scale_8 lk_GT_164 rfl (Nat.le_of_ble_eq_true rfl) (Nat.le_of_ble_eq_true rfl) rfl rfl (s_GT_isGain r2 ?_)
    show ga_W G (d + 5) mt_GT_scale 11 [some (.inr 0), some (.inl v1), some (.inl v2), some (.inl v3), none, none, none, none, none] [.inl (ga_bb (decide (0 ≤ v2 ∧ v2 ≤ 2)))] I E
    refine gw_ifb_eq 25 d_GT_scale_11 (by decide) (fun hc => ?_) (fun hc => ?_)
    · have h := h.1 (of_decide_eq_false hc)
      refine gw_ldc (n := (-2000000001)) d_GT_scale_25 kw_GT_76 (by decide +kernel) ?_
      exact gw_ireturn d_GT_scale_27 rfl h
    · have h := h.2 (of_decide_eq_true hc)
      refine gw_iload_n 3 d_GT_scale_14 rfl rfl ?_
      refine gw_iconst d_GT_scale_15 ?_
      refine gw_sipush d_GT_scale_16 (by decide +kernel) ?_
      refine gw_invS (as := [.inl v3, .inl 0, .inl 1000]) (rest := []) (d' := (d + 4)) d_GT_scale_19 lk_GT_65 rfl (Nat.le_of_ble_eq_true rfl) (Nat.le_of_ble_eq_true rfl) rfl rfl (s_GT_isIn r3 ⟨by decide, by decide⟩ ⟨by decide, by decide⟩ ?_)
      show ga_W G (d + 5) mt_GT_scale 22 [some (.inr 0), some (.inl v1), some (.inl v2), some (.inl v3), none, none, none, none, none] [.inl (ga_bb (decide ((0 : Int) ≤ v3 ∧ v3 ≤ (1000 : Int))))] I E
      refine gw_ifb_ne 28 d_GT_scale_22 (by decide) (fun hc => ?_) (fun hc => ?_)
      · have h := h.1 (of_decide_eq_true hc)
        refine gw_aload_n 0 d_GT_scale_28 rfl rfl ?_
        refine gw_getR d_GT_scale_29 fl_GT_19 (ga_oG) rfl ?_
        refine gw_aload_n 0 d_GT_scale_32 rfl rfl ?_
        refine gw_getR d_GT_scale_33 fl_GT_12 (ga_oG) rfl ?_
        obtain ⟨g1, h⟩ := h
        refine gw_invV (as := [.inr 1]) (k := 55) (rest := []) (d' := (d + 4)) d_GT_scale_36 lk_GT_93 (ga_rcv (ga_oH) rfl rfl) rfl (Nat.le_of_ble_eq_true rfl) (Nat.le_of_ble_eq_true rfl) rfl rfl (s_History_keep g1 (fun I1 q1 => ?_))
        have h := h I1 q1
        show ga_W G (d + 5) mt_GT_scale 39 [some (.inr 0), some (.inl v1), some (.inl v2), some (.inl v3), none, none, none, none, none] [] I1 E
        refine gw_RG (fun hI2 => ?_)
        refine gw_iconst d_GT_scale_39 ?_
        refine gw_istore 4 d_GT_scale_40 (Nat.le_of_ble_eq_true rfl) rfl ?_
        refine gw_iconst d_GT_scale_42 ?_
        refine gw_istore 5 d_GT_scale_43 (Nat.le_of_ble_eq_true rfl) rfl ?_
        exact gw_le h (by exact ⟨rfl, ⟨rfl, ⟨rfl, ⟨rfl, ⟨rfl, ⟨rfl, trivial⟩⟩⟩⟩⟩⟩)
      · have h := h.2 (of_decide_eq_false hc)
        refine gw_ldc (n := (-2000000001)) d_GT_scale_25 kw_GT_76 (by decide +kernel) ?_
        exact gw_ireturn d_GT_scale_27 rfl h
theorem k_GT_scale_45 {G : ga_G} {d : Nat} {I : ga_I} {E : Option ga_V → ga_I → Prop} {v1 : Int} {v2 : Int} {v3 : Int} {v4 : Int} {v5 : Int} (r5 : ga_rg v5)
    (h : ga_RG I → (((I 3 0) < v5) → E (some (.inl v4)) I) ∧ ((¬ ((I 3 0) < v5)) → ga_W G (d + 5) mt_GT_scale 66 [some (.inr 0), some (.inl v1), some (.inl v2), some (.inl v3), some (.inl v4), some (.inl v5), some (.inl 0), none, none] [] I E)) :
    ga_W G (d + 5) mt_GT_scale 45 [some (.inr 0), some (.inl v1), some (.inl v2), some (.inl v3), some (.inl v4), some (.inl v5), none, none, none] [] I E := by
  refine gw_RG (fun hI1 => ?_)
  have h := h hI1
  refine gw_iload 5 d_GT_scale_45 rfl ?_
  refine gw_aload_n 0 d_GT_scale_47 rfl rfl ?_
  refine gw_getR d_GT_scale_48 fl_GT_12 (ga_oG) rfl ?_
  refine gw_getR d_GT_scale_51 fl_GT_77 (ga_s1.1) rfl ?_
  refine gw_getR d_GT_scale_54 fl_GT_167 (ga_s1.2.1.1) rfl ?_
  refine gw_getI d_GT_scale_57 fl_GT_116 (ga_s1.2.1.2.1.1) rfl ?_
  refine gw_icmp_gt 163 d_GT_scale_60 (by decide) r5 (hI1 _ _) (fun hc => ?_) (fun hc => ?_)
  · have h := h.1 hc
    refine gw_iload 4 d_GT_scale_163 rfl ?_
    exact gw_ireturn d_GT_scale_165 rfl h
  · have h := h.2 hc
    refine gw_iconst d_GT_scale_63 ?_
    refine gw_istore 6 d_GT_scale_64 (Nat.le_of_ble_eq_true rfl) rfl ?_
    exact gw_le h (by exact ⟨rfl, ⟨rfl, ⟨rfl, ⟨rfl, ⟨rfl, ⟨rfl, ⟨rfl, trivial⟩⟩⟩⟩⟩⟩⟩)
theorem k_GT_scale_66 {G : ga_G} {d : Nat} {I : ga_I} {E : Option ga_V → ga_I → Prop} {v1 : Int} {v2 : Int} {v3 : Int} {v4 : Int} {v5 : Int} {v6 : Int} (r6 : ga_rg v6)
    (h : ga_RG I → (((I 7 0) < v6) → ga_W G (d + 5) mt_GT_scale 45 [some (.inr 0), some (.inl v1), some (.inl v2), some (.inl v3), some (.inl v4), some (.inl (v5 + 1)), none, none, none] [] I E) ∧ ((¬ ((I 7 0) < v6)) → (0 ≤ (v5 * 7 + v6) * 3 + v2 ∧ (v5 * 7 + v6) * 3 + v2 < 147) ∧ ((∀ z1 : Int, z1 = I (2 + 9) ((v5 * 7 + v6) * 3 + v2).toNat → (ga_rg (z1 * v3)) ∧ ((ga_rg (Int.tdiv (z1 * v3) 100)) ∧ ((0 ≤ v1 ∧ v1 < 3) ∧ ((0 ≤ (v5 * 7 + v6) ∧ (v5 * 7 + v6) < 49) ∧ ((0 ≤ v2 ∧ v2 < 3) ∧ ((0 ≤ (min (Int.tdiv (z1 * v3) 100) 9999) ∧ (min (Int.tdiv (z1 * v3) 100) 9999) ≤ 9999) ∧ ((gr_gn I (1 + 1)) ∧ ((∀ z2 : Int, z2 = gp_ra (I (1 + 11) (v5 * 7 + v6).toNat) (I (1 + 10) ((v5 * 7 + v6) * 3 + v2).toNat) (I (1 + 50) v1.toNat) (I (1 + 51) v1.toNat) v1 (min (Int.tdiv (z1 * v3) 100) 9999) → (ga_rg z2) ∧ (((z2 ≠ 0) → ga_W G (d + 5) mt_GT_scale 66 [some (.inr 0), some (.inl v1), some (.inl v2), some (.inl v3), some (.inl v4), some (.inl v5), some (.inl (v6 + 1)), none, none] [] I E) ∧ ((z2 = 0) → (∀ I1 : ga_I, I1 = (gx_ed I 1 v1.toNat ((v5 * 7 + v6) * 3 + v2).toNat (min (Int.tdiv (z1 * v3) 100) 9999)) → ga_W G (d + 5) mt_GT_scale 66 [some (.inr 0), some (.inl v1), some (.inl v2), some (.inl v3), some (.inl (v4 + 1)), some (.inl v5), some (.inl (v6 + 1)), none, none] [] I1 E))))))))))))))) :
    ga_W G (d + 5) mt_GT_scale 66 [some (.inr 0), some (.inl v1), some (.inl v2), some (.inl v3), some (.inl v4), some (.inl v5), some (.inl v6), none, none] [] I E := by
  refine gw_RG (fun hI1 => ?_)
  have h := h hI1
  refine gw_iload 6 d_GT_scale_66 rfl ?_
  refine gw_aload_n 0 d_GT_scale_68 rfl rfl ?_
  refine gw_getR d_GT_scale_69 fl_GT_12 (ga_oG) rfl ?_
  refine gw_getR d_GT_scale_72 fl_GT_77 (ga_s1.1) rfl ?_
  refine gw_getR d_GT_scale_75 fl_GT_170 (ga_s1.2.1.1) rfl ?_
  refine gw_getI d_GT_scale_78 fl_GT_116 (ga_s1.2.1.2.2.1.1) rfl ?_
  refine gw_icmp_gt 157 d_GT_scale_81 (by decide) r6 (hI1 _ _) (fun hc => ?_) (fun hc => ?_)
  · have h := h.1 hc
    refine gw_iinc 5 d_GT_scale_157 rfl rfl ?_
    refine gw_goto 45 d_GT_scale_160 (by decide) ?_
    exact gw_le h (by exact ⟨rfl, ⟨rfl, ⟨rfl, ⟨rfl, ⟨rfl, ⟨rfl, trivial⟩⟩⟩⟩⟩⟩)
  · have h := h.2 hc
    refine gw_iload 5 d_GT_scale_84 rfl ?_
    refine gw_iload 6 d_GT_scale_86 rfl ?_
    refine gw_invS (as := [.inl v5, .inl v6]) (rest := []) (d' := (d + 4)) d_GT_scale_88 lk_GT_150 rfl (Nat.le_of_ble_eq_true rfl) (Nat.le_of_ble_eq_true rfl) rfl rfl (s_Table_regionAt  ?_)
    show ga_W G (d + 5) mt_GT_scale 91 [some (.inr 0), some (.inl v1), some (.inl v2), some (.inl v3), some (.inl v4), some (.inl v5), some (.inl v6), none, none] [.inl (v5 * 7 + v6)] I E
    refine gw_istore 7 d_GT_scale_91 (Nat.le_of_ble_eq_true rfl) rfl ?_
    refine gw_aload_n 0 d_GT_scale_93 rfl rfl ?_
    refine gw_getR d_GT_scale_94 fl_GT_12 (ga_oG) rfl ?_
    refine gw_getR d_GT_scale_97 fl_GT_77 (ga_s1.1) rfl ?_
    refine gw_iload 7 d_GT_scale_100 rfl ?_
    refine gw_iload_n 2 d_GT_scale_102 rfl rfl ?_
    obtain ⟨g1, h⟩ := h
    refine gw_invV (as := [.inl (v5 * 7 + v6), .inl v2]) (k := 2) (rest := []) (d' := (d + 4)) d_GT_scale_103 lk_GT_157 (ga_rcv (ga_s1.2.1.1) rfl rfl) rfl (Nat.le_of_ble_eq_true rfl) (Nat.le_of_ble_eq_true rfl) rfl rfl (s_Table_gainAt ga_s1.2.1 g1 ?_)
    show ga_W G (d + 5) mt_GT_scale 106 [some (.inr 0), some (.inl v1), some (.inl v2), some (.inl v3), some (.inl v4), some (.inl v5), some (.inl v6), some (.inl (v5 * 7 + v6)), none] [.inl (I (2 + 9) ((v5 * 7 + v6) * 3 + v2).toNat)] I E
    refine gw_nz (z := I (2 + 9) ((v5 * 7 + v6) * 3 + v2).toNat) (fun z1 q1 => ?_)
    have h := h z1 q1
    refine gw_iload_n 3 d_GT_scale_106 rfl rfl ?_
    refine gw_imul d_GT_scale_107 ?_
    refine gw_bipush d_GT_scale_108 (by decide +kernel) ?_
    obtain ⟨g2, h⟩ := h
    refine gw_idiv d_GT_scale_110 g2 ⟨by decide, by decide⟩ (by decide) ?_
    refine gw_sipush d_GT_scale_111 (by decide +kernel) ?_
    obtain ⟨g3, h⟩ := h
    refine gw_mmin d_GT_scale_114 lk_GT_173 g3 ⟨by decide, by decide⟩ (by omega) (Nat.le_of_ble_eq_true rfl) ?_
    refine gw_istore 8 d_GT_scale_117 (Nat.le_of_ble_eq_true rfl) rfl ?_
    refine gw_aload_n 0 d_GT_scale_119 rfl rfl ?_
    refine gw_getR d_GT_scale_120 fl_GT_12 (ga_oG) rfl ?_
    refine gw_iload_n 1 d_GT_scale_123 rfl rfl ?_
    refine gw_iload 7 d_GT_scale_124 rfl ?_
    refine gw_iload_n 2 d_GT_scale_126 rfl rfl ?_
    refine gw_iload 8 d_GT_scale_127 rfl ?_
    obtain ⟨g4, h⟩ := h
    obtain ⟨g5, h⟩ := h
    obtain ⟨g6, h⟩ := h
    obtain ⟨g7, h⟩ := h
    obtain ⟨g8, h⟩ := h
    refine gw_invV (as := [.inl v1, .inl (v5 * 7 + v6), .inl v2, .inl (min (Int.tdiv (z1 * v3) 100) 9999)]) (k := 1) (rest := []) (d' := (d + 4)) d_GT_scale_129 lk_GT_154 (ga_rcv (ga_s1.1) rfl rfl) rfl (Nat.le_of_ble_eq_true rfl) (Nat.le_of_ble_eq_true rfl) rfl rfl (s_State_reasonAgainst ga_s1 g4 g5 g6 g7 g8 ?_)
    show ga_W G (d + 5) mt_GT_scale 132 [some (.inr 0), some (.inl v1), some (.inl v2), some (.inl v3), some (.inl v4), some (.inl v5), some (.inl v6), some (.inl (v5 * 7 + v6)), some (.inl (min (Int.tdiv (z1 * v3) 100) 9999))] [.inl (gp_ra (I (1 + 11) (v5 * 7 + v6).toNat) (I (1 + 10) ((v5 * 7 + v6) * 3 + v2).toNat) (I (1 + 50) v1.toNat) (I (1 + 51) v1.toNat) v1 (min (Int.tdiv (z1 * v3) 100) 9999))] I E
    refine gw_nz (z := gp_ra (I (1 + 11) (v5 * 7 + v6).toNat) (I (1 + 10) ((v5 * 7 + v6) * 3 + v2).toNat) (I (1 + 50) v1.toNat) (I (1 + 51) v1.toNat) v1 (min (Int.tdiv (z1 * v3) 100) 9999)) (fun z2 q2 => ?_)
    have h := h z2 q2
    obtain ⟨g9, h⟩ := h
    refine gw_if_ne 151 d_GT_scale_132 (by decide) g9 (fun hc => ?_) (fun hc => ?_)
    · have h := h.1 hc
      refine gw_iinc 6 d_GT_scale_151 rfl rfl ?_
      refine gw_goto 66 d_GT_scale_154 (by decide) ?_
      exact gw_le h (by exact ⟨rfl, ⟨rfl, ⟨rfl, ⟨rfl, ⟨rfl, ⟨rfl, ⟨rfl, trivial⟩⟩⟩⟩⟩⟩⟩)
    · have h := h.2 hc
      refine gw_aload_n 0 d_GT_scale_135 rfl rfl ?_
      refine gw_getR d_GT_scale_136 fl_GT_12 (ga_oG) rfl ?_
      refine gw_iload_n 1 d_GT_scale_139 rfl rfl ?_
      refine gw_iload 7 d_GT_scale_140 rfl ?_
      refine gw_iload_n 2 d_GT_scale_142 rfl rfl ?_
      refine gw_iload 8 d_GT_scale_143 rfl ?_
      refine gw_invV (as := [.inl v1, .inl (v5 * 7 + v6), .inl v2, .inl (min (Int.tdiv (z1 * v3) 100) 9999)]) (k := 1) (rest := []) (d' := (d + 4)) d_GT_scale_145 lk_GT_160 (ga_rcv (ga_s1.1) rfl rfl) rfl (Nat.le_of_ble_eq_true rfl) (Nat.le_of_ble_eq_true rfl) rfl rfl (s_State_carryOutEdit ga_s1 g4 g5 g6 g7 g8 ?_)
      show ga_W G (d + 5) mt_GT_scale 148 [some (.inr 0), some (.inl v1), some (.inl v2), some (.inl v3), some (.inl v4), some (.inl v5), some (.inl v6), some (.inl (v5 * 7 + v6)), some (.inl (min (Int.tdiv (z1 * v3) 100) 9999))] [] (gx_ed I 1 v1.toNat ((v5 * 7 + v6) * 3 + v2).toNat (min (Int.tdiv (z1 * v3) 100) 9999)) E
      refine gw_nm (fun I1 q3 => ?_)
      have h := h I1 q3
      refine gw_RG (fun hI2 => ?_)
      refine gw_iinc 4 d_GT_scale_148 rfl rfl ?_
      refine gw_iinc 6 d_GT_scale_151 rfl rfl ?_
      refine gw_goto 66 d_GT_scale_154 (by decide) ?_
      exact gw_le h (by exact ⟨rfl, ⟨rfl, ⟨rfl, ⟨rfl, ⟨rfl, ⟨rfl, ⟨rfl, trivial⟩⟩⟩⟩⟩⟩⟩)

theorem k_GT_lock_0 {G : ga_G} {d : Nat} {I : ga_I} {E : Option ga_V → ga_I → Prop} {v1 : Int} {v2 : Int} {v3 : Int} {v4 : Int} (r1 : ga_rg v1) (r2 : ga_rg v2) (r3 : ga_rg v3) (r4 : ga_rg v4)
    (h : ga_RG I → ((¬ (0 ≤ v1 ∧ v1 ≤ 2)) → E (some (.inl (-2000000001))) I) ∧ ((0 ≤ v1 ∧ v1 ≤ 2) → ((¬ ((0 ≤ v2 ∧ v2 ≤ I 3 0) ∧ (0 ≤ v3 ∧ v3 ≤ I 7 0))) → E (some (.inl (-2000000001))) I) ∧ (((0 ≤ v2 ∧ v2 ≤ I 3 0) ∧ (0 ≤ v3 ∧ v3 ≤ I 7 0)) → (((0 : Int) ≤ v4 ∧ v4 ≤ (1 : Int)) → ((v4 ≠ 1) → (0 ≤ (v2 * 7 + v3) ∧ (v2 * 7 + v3) < 49) ∧ ((∀ z1 : Int, z1 = I (2 + 10) (v2 * 7 + v3).toNat → ((z1 = v1) → (gr_H I) ∧ ((∀ I1 : ga_I, gr_kp I I1 → ((v4 ≠ 1) → (∀ I2 : ga_I, I2 = (ga_up I1 (2 + 10) (v2 * 7 + v3).toNat ((-2000000009) : Int)) → (gt_n I2 2) ∧ ((∀ z2 : Int, z2 = gp_tt (gp_lk (I2 (2 + 10)) v1) ((I2 (2 + 1) 0).toNat + 1) ((I2 (2 + 5) 0).toNat + 1) → E (some (.inl z2)) I2)))) ∧ ((v4 = 1) → (∀ I3 : ga_I, I3 = (ga_up I1 (2 + 10) (v2 * 7 + v3).toNat v1) → (gt_n I3 2) ∧ ((∀ z3 : Int, z3 = gp_tt (gp_lk (I3 (2 + 10)) v1) ((I3 (2 + 1) 0).toNat + 1) ((I3 (2 + 5) 0).toNat + 1) → E (some (.inl z3)) I3))))))) ∧ ((¬ (z1 = v1)) → E (some (.inl (-2000000002))) I)))) ∧ ((v4 = 1) → (0 ≤ (v2 * 7 + v3) ∧ (v2 * 7 + v3) < 49) ∧ ((∀ z4 : Int, z4 = I (2 + 10) (v2 * 7 + v3).toNat → ((z4 = (-2000000009)) → (gr_H I) ∧ ((∀ I4 : ga_I, gr_kp I I4 → ((v4 ≠ 1) → (∀ I5 : ga_I, I5 = (ga_up I4 (2 + 10) (v2 * 7 + v3).toNat ((-2000000009) : Int)) → (gt_n I5 2) ∧ ((∀ z5 : Int, z5 = gp_tt (gp_lk (I5 (2 + 10)) v1) ((I5 (2 + 1) 0).toNat + 1) ((I5 (2 + 5) 0).toNat + 1) → E (some (.inl z5)) I5)))) ∧ ((v4 = 1) → (∀ I6 : ga_I, I6 = (ga_up I4 (2 + 10) (v2 * 7 + v3).toNat v1) → (gt_n I6 2) ∧ ((∀ z6 : Int, z6 = gp_tt (gp_lk (I6 (2 + 10)) v1) ((I6 (2 + 1) 0).toNat + 1) ((I6 (2 + 5) 0).toNat + 1) → E (some (.inl z6)) I6))))))) ∧ ((¬ (z4 = (-2000000009))) → E (some (.inl (-2000000002))) I))))) ∧ ((¬ ((0 : Int) ≤ v4 ∧ v4 ≤ (1 : Int))) → E (some (.inl (-2000000001))) I)))) :
    ga_W G (d + 5) mt_GT_lock 0 (ga_en 7 [.inr 0, .inl v1, .inl v2, .inl v3, .inl v4]) [] I E := by
  show ga_W G (d + 5) mt_GT_lock 0 [some (.inr 0), some (.inl v1), some (.inl v2), some (.inl v3), some (.inl v4), none, none] [] I E
  refine gw_RG (fun hI1 => ?_)
  have h := h hI1
  refine gw_iload_n 1 d_GT_lock_0 rfl rfl ?_
  refine gw_invS (as := [.inl v1]) (rest := []) (d' := (d + 4)) d_GT_lock_1 lk_GT_136 rfl (Nat.le_of_ble_eq_true rfl) (Nat.le_of_ble_eq_true rfl) rfl rfl (s_GT_isOperator r1 ?_)
  show ga_W G (d + 5) mt_GT_lock 4 [some (.inr 0), some (.inl v1), some (.inl v2), some (.inl v3), some (.inl v4), none, none] [.inl (ga_bb (decide (0 ≤ v1 ∧ v1 ≤ 2)))] I E
  refine gw_ifb_eq 26 d_GT_lock_4 (by decide) (fun hc => ?_) (fun hc => ?_)
  · have h := h.1 (of_decide_eq_false hc)
    refine gw_ldc (n := (-2000000001)) d_GT_lock_26 kw_GT_76 (by decide +kernel) ?_
    exact gw_ireturn d_GT_lock_28 rfl h
  · have h := h.2 (of_decide_eq_true hc)
    refine gw_aload_n 0 d_GT_lock_7 rfl rfl ?_
    refine gw_iload_n 2 d_GT_lock_8 rfl rfl ?_
    refine gw_iload_n 3 d_GT_lock_9 rfl rfl ?_
    refine gw_invV (as := [.inl v2, .inl v3]) (k := 0) (rest := []) (d' := (d + 4)) d_GT_lock_10 lk_GT_178 (ga_rcv (ga_oG) rfl rfl) rfl (Nat.le_of_ble_eq_true rfl) (Nat.le_of_ble_eq_true rfl) rfl rfl (s_GT_isRegion r2 r3 ?_)
    show ga_W G (d + 5) mt_GT_lock 13 [some (.inr 0), some (.inl v1), some (.inl v2), some (.inl v3), some (.inl v4), none, none] [.inl (ga_bb (decide ((0 ≤ v2 ∧ v2 ≤ I 3 0) ∧ (0 ≤ v3 ∧ v3 ≤ I 7 0))))] I E
    refine gw_ifb_eq 26 d_GT_lock_13 (by decide) (fun hc => ?_) (fun hc => ?_)
    · have h := h.1 (of_decide_eq_false hc)
      refine gw_ldc (n := (-2000000001)) d_GT_lock_26 kw_GT_76 (by decide +kernel) ?_
      exact gw_ireturn d_GT_lock_28 rfl h
    · have h := h.2 (of_decide_eq_true hc)
      refine gw_iload 4 d_GT_lock_16 rfl ?_
      refine gw_iconst d_GT_lock_18 ?_
      refine gw_iconst d_GT_lock_19 ?_
      refine gw_invS (as := [.inl v4, .inl 0, .inl 1]) (rest := []) (d' := (d + 4)) d_GT_lock_20 lk_GT_65 rfl (Nat.le_of_ble_eq_true rfl) (Nat.le_of_ble_eq_true rfl) rfl rfl (s_GT_isIn r4 ⟨by decide, by decide⟩ ⟨by decide, by decide⟩ ?_)
      show ga_W G (d + 5) mt_GT_lock 23 [some (.inr 0), some (.inl v1), some (.inl v2), some (.inl v3), some (.inl v4), none, none] [.inl (ga_bb (decide ((0 : Int) ≤ v4 ∧ v4 ≤ (1 : Int))))] I E
      refine gw_ifb_ne 29 d_GT_lock_23 (by decide) (fun hc => ?_) (fun hc => ?_)
      · have h := h.1 (of_decide_eq_true hc)
        refine gw_iload_n 2 d_GT_lock_29 rfl rfl ?_
        refine gw_iload_n 3 d_GT_lock_30 rfl rfl ?_
        refine gw_invS (as := [.inl v2, .inl v3]) (rest := []) (d' := (d + 4)) d_GT_lock_31 lk_GT_150 rfl (Nat.le_of_ble_eq_true rfl) (Nat.le_of_ble_eq_true rfl) rfl rfl (s_Table_regionAt  ?_)
        show ga_W G (d + 5) mt_GT_lock 34 [some (.inr 0), some (.inl v1), some (.inl v2), some (.inl v3), some (.inl v4), none, none] [.inl (v2 * 7 + v3)] I E
        refine gw_istore 5 d_GT_lock_34 (Nat.le_of_ble_eq_true rfl) rfl ?_
        refine gw_iload 4 d_GT_lock_36 rfl ?_
        refine gw_iconst d_GT_lock_38 ?_
        refine gw_icmp_ne 47 d_GT_lock_39 (by decide) r4 ⟨by decide, by decide⟩ (fun hc => ?_) (fun hc => ?_)
        · have h := h.1 hc
          refine gw_iload_n 1 d_GT_lock_47 rfl rfl ?_
          refine gw_istore 6 d_GT_lock_48 (Nat.le_of_ble_eq_true rfl) rfl ?_
          refine gw_aload_n 0 d_GT_lock_50 rfl rfl ?_
          refine gw_getR d_GT_lock_51 fl_GT_12 (ga_oG) rfl ?_
          refine gw_getR d_GT_lock_54 fl_GT_77 (ga_s1.1) rfl ?_
          refine gw_iload 5 d_GT_lock_57 rfl ?_
          obtain ⟨g1, h⟩ := h
          refine gw_invV (as := [.inl (v2 * 7 + v3)]) (k := 2) (rest := []) (d' := (d + 4)) d_GT_lock_59 lk_GT_182 (ga_rcv (ga_s1.2.1.1) rfl rfl) rfl (Nat.le_of_ble_eq_true rfl) (Nat.le_of_ble_eq_true rfl) rfl rfl (s_Table_lockAt ga_s1.2.1 g1 ?_)
          show ga_W G (d + 5) mt_GT_lock 62 [some (.inr 0), some (.inl v1), some (.inl v2), some (.inl v3), some (.inl v4), some (.inl (v2 * 7 + v3)), some (.inl v1)] [.inl (I (2 + 10) (v2 * 7 + v3).toNat)] I E
          refine gw_nz (z := I (2 + 10) (v2 * 7 + v3).toNat) (fun z1 q1 => ?_)
          have h := h z1 q1
          refine gw_iload 6 d_GT_lock_62 rfl ?_
          refine gw_icmp_eq 70 d_GT_lock_64 (by decide) (by rw [q1]; exact (hI1 _ _)) r1 (fun hc => ?_) (fun hc => ?_)
          · have h := h.1 hc
            refine gw_aload_n 0 d_GT_lock_70 rfl rfl ?_
            refine gw_getR d_GT_lock_71 fl_GT_19 (ga_oG) rfl ?_
            refine gw_aload_n 0 d_GT_lock_74 rfl rfl ?_
            refine gw_getR d_GT_lock_75 fl_GT_12 (ga_oG) rfl ?_
            obtain ⟨g2, h⟩ := h
            refine gw_invV (as := [.inr 1]) (k := 55) (rest := []) (d' := (d + 4)) d_GT_lock_78 lk_GT_93 (ga_rcv (ga_oH) rfl rfl) rfl (Nat.le_of_ble_eq_true rfl) (Nat.le_of_ble_eq_true rfl) rfl rfl (s_History_keep g2 (fun I1 q2 => ?_))
            have h := h I1 q2
            show ga_W G (d + 5) mt_GT_lock 81 [some (.inr 0), some (.inl v1), some (.inl v2), some (.inl v3), some (.inl v4), some (.inl (v2 * 7 + v3)), some (.inl v1)] [] I1 E
            refine gw_RG (fun hI2 => ?_)
            refine gw_aload_n 0 d_GT_lock_81 rfl rfl ?_
            refine gw_getR d_GT_lock_82 fl_GT_12 (ga_oG) rfl ?_
            refine gw_getR d_GT_lock_85 fl_GT_77 (ga_s1.1) rfl ?_
            refine gw_iload 5 d_GT_lock_88 rfl ?_
            refine gw_iload 4 d_GT_lock_90 rfl ?_
            refine gw_iconst d_GT_lock_92 ?_
            refine gw_icmp_ne 100 d_GT_lock_93 (by decide) r4 ⟨by decide, by decide⟩ (fun hc => ?_) (fun hc => ?_)
            · have h := h.1 hc
              refine gw_ldc (n := (-2000000009)) d_GT_lock_100 kw_GT_181 (by decide +kernel) ?_
              refine gw_invV (as := [.inl (v2 * 7 + v3), .inl (-2000000009)]) (k := 2) (rest := []) (d' := (d + 4)) d_GT_lock_102 lk_GT_185 (ga_rcv (ga_s1.2.1.1) rfl rfl) rfl (Nat.le_of_ble_eq_true rfl) (Nat.le_of_ble_eq_true rfl) rfl rfl (s_Table_putLock ga_s1.2.1 g1 ⟨by decide, by decide⟩ ?_)
              show ga_W G (d + 5) mt_GT_lock 105 [some (.inr 0), some (.inl v1), some (.inl v2), some (.inl v3), some (.inl v4), some (.inl (v2 * 7 + v3)), some (.inl v1)] [] (ga_up I1 (2 + 10) (v2 * 7 + v3).toNat ((-2000000009) : Int)) E
              refine gw_nm (fun I2 q3 => ?_)
              have h := h I2 q3
              refine gw_RG (fun hI3 => ?_)
              refine gw_aload_n 0 d_GT_lock_105 rfl rfl ?_
              refine gw_getR d_GT_lock_106 fl_GT_12 (ga_oG) rfl ?_
              refine gw_getR d_GT_lock_109 fl_GT_77 (ga_s1.1) rfl ?_
              refine gw_iload_n 1 d_GT_lock_112 rfl rfl ?_
              obtain ⟨g3, h⟩ := h
              refine gw_invV (as := [.inl v1]) (k := 2) (rest := []) (d' := (d + 4)) d_GT_lock_113 lk_GT_188 (ga_rcv (ga_s1.2.1.1) rfl rfl) rfl (Nat.le_of_ble_eq_true rfl) (Nat.le_of_ble_eq_true rfl) rfl rfl (s_Table_locksOf ga_s1.2.1 g3 r1 ?_)
              show ga_W G (d + 5) mt_GT_lock 116 [some (.inr 0), some (.inl v1), some (.inl v2), some (.inl v3), some (.inl v4), some (.inl (v2 * 7 + v3)), some (.inl v1)] [.inl (gp_tt (gp_lk (I2 (2 + 10)) v1) ((I2 (2 + 1) 0).toNat + 1) ((I2 (2 + 5) 0).toNat + 1))] I2 E
              refine gw_nz (z := gp_tt (gp_lk (I2 (2 + 10)) v1) ((I2 (2 + 1) 0).toNat + 1) ((I2 (2 + 5) 0).toNat + 1)) (fun z2 q4 => ?_)
              have h := h z2 q4
              exact gw_ireturn d_GT_lock_116 rfl h
            · have h := h.2 hc
              refine gw_iload_n 1 d_GT_lock_96 rfl rfl ?_
              refine gw_goto 102 d_GT_lock_97 (by decide) ?_
              refine gw_invV (as := [.inl (v2 * 7 + v3), .inl v1]) (k := 2) (rest := []) (d' := (d + 4)) d_GT_lock_102 lk_GT_185 (ga_rcv (ga_s1.2.1.1) rfl rfl) rfl (Nat.le_of_ble_eq_true rfl) (Nat.le_of_ble_eq_true rfl) rfl rfl (s_Table_putLock ga_s1.2.1 g1 r1 ?_)
              show ga_W G (d + 5) mt_GT_lock 105 [some (.inr 0), some (.inl v1), some (.inl v2), some (.inl v3), some (.inl v4), some (.inl (v2 * 7 + v3)), some (.inl v1)] [] (ga_up I1 (2 + 10) (v2 * 7 + v3).toNat v1) E
              refine gw_nm (fun I3 q5 => ?_)
              have h := h I3 q5
              refine gw_RG (fun hI4 => ?_)
              refine gw_aload_n 0 d_GT_lock_105 rfl rfl ?_
              refine gw_getR d_GT_lock_106 fl_GT_12 (ga_oG) rfl ?_
              refine gw_getR d_GT_lock_109 fl_GT_77 (ga_s1.1) rfl ?_
              refine gw_iload_n 1 d_GT_lock_112 rfl rfl ?_
              obtain ⟨g4, h⟩ := h
              refine gw_invV (as := [.inl v1]) (k := 2) (rest := []) (d' := (d + 4)) d_GT_lock_113 lk_GT_188 (ga_rcv (ga_s1.2.1.1) rfl rfl) rfl (Nat.le_of_ble_eq_true rfl) (Nat.le_of_ble_eq_true rfl) rfl rfl (s_Table_locksOf ga_s1.2.1 g4 r1 ?_)
              show ga_W G (d + 5) mt_GT_lock 116 [some (.inr 0), some (.inl v1), some (.inl v2), some (.inl v3), some (.inl v4), some (.inl (v2 * 7 + v3)), some (.inl v1)] [.inl (gp_tt (gp_lk (I3 (2 + 10)) v1) ((I3 (2 + 1) 0).toNat + 1) ((I3 (2 + 5) 0).toNat + 1))] I3 E
              refine gw_nz (z := gp_tt (gp_lk (I3 (2 + 10)) v1) ((I3 (2 + 1) 0).toNat + 1) ((I3 (2 + 5) 0).toNat + 1)) (fun z3 q6 => ?_)
              have h := h z3 q6
              exact gw_ireturn d_GT_lock_116 rfl h
          · have h := h.2 hc
            refine gw_ldc (n := (-2000000002)) d_GT_lock_67 kw_GT_87 (by decide +kernel) ?_
            exact gw_ireturn d_GT_lock_69 rfl h
        · have h := h.2 hc
          refine gw_ldc (n := (-2000000009)) d_GT_lock_42 kw_GT_181 (by decide +kernel) ?_
          refine gw_goto 48 d_GT_lock_44 (by decide) ?_
          refine gw_istore 6 d_GT_lock_48 (Nat.le_of_ble_eq_true rfl) rfl ?_
          refine gw_aload_n 0 d_GT_lock_50 rfl rfl ?_
          refine gw_getR d_GT_lock_51 fl_GT_12 (ga_oG) rfl ?_
          refine gw_getR d_GT_lock_54 fl_GT_77 (ga_s1.1) rfl ?_
          refine gw_iload 5 d_GT_lock_57 rfl ?_
          obtain ⟨g5, h⟩ := h
          refine gw_invV (as := [.inl (v2 * 7 + v3)]) (k := 2) (rest := []) (d' := (d + 4)) d_GT_lock_59 lk_GT_182 (ga_rcv (ga_s1.2.1.1) rfl rfl) rfl (Nat.le_of_ble_eq_true rfl) (Nat.le_of_ble_eq_true rfl) rfl rfl (s_Table_lockAt ga_s1.2.1 g5 ?_)
          show ga_W G (d + 5) mt_GT_lock 62 [some (.inr 0), some (.inl v1), some (.inl v2), some (.inl v3), some (.inl v4), some (.inl (v2 * 7 + v3)), some (.inl (-2000000009))] [.inl (I (2 + 10) (v2 * 7 + v3).toNat)] I E
          refine gw_nz (z := I (2 + 10) (v2 * 7 + v3).toNat) (fun z4 q7 => ?_)
          have h := h z4 q7
          refine gw_iload 6 d_GT_lock_62 rfl ?_
          refine gw_icmp_eq 70 d_GT_lock_64 (by decide) (by rw [q7]; exact (hI1 _ _)) ⟨by decide, by decide⟩ (fun hc => ?_) (fun hc => ?_)
          · have h := h.1 hc
            refine gw_aload_n 0 d_GT_lock_70 rfl rfl ?_
            refine gw_getR d_GT_lock_71 fl_GT_19 (ga_oG) rfl ?_
            refine gw_aload_n 0 d_GT_lock_74 rfl rfl ?_
            refine gw_getR d_GT_lock_75 fl_GT_12 (ga_oG) rfl ?_
            obtain ⟨g6, h⟩ := h
            refine gw_invV (as := [.inr 1]) (k := 55) (rest := []) (d' := (d + 4)) d_GT_lock_78 lk_GT_93 (ga_rcv (ga_oH) rfl rfl) rfl (Nat.le_of_ble_eq_true rfl) (Nat.le_of_ble_eq_true rfl) rfl rfl (s_History_keep g6 (fun I4 q8 => ?_))
            have h := h I4 q8
            show ga_W G (d + 5) mt_GT_lock 81 [some (.inr 0), some (.inl v1), some (.inl v2), some (.inl v3), some (.inl v4), some (.inl (v2 * 7 + v3)), some (.inl (-2000000009))] [] I4 E
            refine gw_RG (fun hI5 => ?_)
            refine gw_aload_n 0 d_GT_lock_81 rfl rfl ?_
            refine gw_getR d_GT_lock_82 fl_GT_12 (ga_oG) rfl ?_
            refine gw_getR d_GT_lock_85 fl_GT_77 (ga_s1.1) rfl ?_
            refine gw_iload 5 d_GT_lock_88 rfl ?_
            refine gw_iload 4 d_GT_lock_90 rfl ?_
            refine gw_iconst d_GT_lock_92 ?_
            refine gw_icmp_ne 100 d_GT_lock_93 (by decide) r4 ⟨by decide, by decide⟩ (fun hc => ?_) (fun hc => ?_)
            · have h := h.1 hc
              refine gw_ldc (n := (-2000000009)) d_GT_lock_100 kw_GT_181 (by decide +kernel) ?_
              refine gw_invV (as := [.inl (v2 * 7 + v3), .inl (-2000000009)]) (k := 2) (rest := []) (d' := (d + 4)) d_GT_lock_102 lk_GT_185 (ga_rcv (ga_s1.2.1.1) rfl rfl) rfl (Nat.le_of_ble_eq_true rfl) (Nat.le_of_ble_eq_true rfl) rfl rfl (s_Table_putLock ga_s1.2.1 g5 ⟨by decide, by decide⟩ ?_)
              show ga_W G (d + 5) mt_GT_lock 105 [some (.inr 0), some (.inl v1), some (.inl v2), some (.inl v3), some (.inl v4), some (.inl (v2 * 7 + v3)), some (.inl (-2000000009))] [] (ga_up I4 (2 + 10) (v2 * 7 + v3).toNat ((-2000000009) : Int)) E
              refine gw_nm (fun I5 q9 => ?_)
              have h := h I5 q9
              refine gw_RG (fun hI6 => ?_)
              refine gw_aload_n 0 d_GT_lock_105 rfl rfl ?_
              refine gw_getR d_GT_lock_106 fl_GT_12 (ga_oG) rfl ?_
              refine gw_getR d_GT_lock_109 fl_GT_77 (ga_s1.1) rfl ?_
              refine gw_iload_n 1 d_GT_lock_112 rfl rfl ?_
              obtain ⟨g7, h⟩ := h
              refine gw_invV (as := [.inl v1]) (k := 2) (rest := []) (d' := (d + 4)) d_GT_lock_113 lk_GT_188 (ga_rcv (ga_s1.2.1.1) rfl rfl) rfl (Nat.le_of_ble_eq_true rfl) (Nat.le_of_ble_eq_true rfl) rfl rfl (s_Table_locksOf ga_s1.2.1 g7 r1 ?_)
              show ga_W G (d + 5) mt_GT_lock 116 [some (.inr 0), some (.inl v1), some (.inl v2), some (.inl v3), some (.inl v4), some (.inl (v2 * 7 + v3)), some (.inl (-2000000009))] [.inl (gp_tt (gp_lk (I5 (2 + 10)) v1) ((I5 (2 + 1) 0).toNat + 1) ((I5 (2 + 5) 0).toNat + 1))] I5 E
              refine gw_nz (z := gp_tt (gp_lk (I5 (2 + 10)) v1) ((I5 (2 + 1) 0).toNat + 1) ((I5 (2 + 5) 0).toNat + 1)) (fun z5 q10 => ?_)
              have h := h z5 q10
              exact gw_ireturn d_GT_lock_116 rfl h
            · have h := h.2 hc
              refine gw_iload_n 1 d_GT_lock_96 rfl rfl ?_
              refine gw_goto 102 d_GT_lock_97 (by decide) ?_
              refine gw_invV (as := [.inl (v2 * 7 + v3), .inl v1]) (k := 2) (rest := []) (d' := (d + 4)) d_GT_lock_102 lk_GT_185 (ga_rcv (ga_s1.2.1.1) rfl rfl) rfl (Nat.le_of_ble_eq_true rfl) (Nat.le_of_ble_eq_true rfl) rfl rfl (s_Table_putLock ga_s1.2.1 g5 r1 ?_)
              show ga_W G (d + 5) mt_GT_lock 105 [some (.inr 0), some (.inl v1), some (.inl v2), some (.inl v3), some (.inl v4), some (.inl (v2 * 7 + v3)), some (.inl (-2000000009))] [] (ga_up I4 (2 + 10) (v2 * 7 + v3).toNat v1) E
              refine gw_nm (fun I6 q11 => ?_)
              have h := h I6 q11
              refine gw_RG (fun hI7 => ?_)
              refine gw_aload_n 0 d_GT_lock_105 rfl rfl ?_
              refine gw_getR d_GT_lock_106 fl_GT_12 (ga_oG) rfl ?_
              refine gw_getR d_GT_lock_109 fl_GT_77 (ga_s1.1) rfl ?_
              refine gw_iload_n 1 d_GT_lock_112 rfl rfl ?_
              obtain ⟨g8, h⟩ := h
              refine gw_invV (as := [.inl v1]) (k := 2) (rest := []) (d' := (d + 4)) d_GT_lock_113 lk_GT_188 (ga_rcv (ga_s1.2.1.1) rfl rfl) rfl (Nat.le_of_ble_eq_true rfl) (Nat.le_of_ble_eq_true rfl) rfl rfl (s_Table_locksOf ga_s1.2.1 g8 r1 ?_)
              show ga_W G (d + 5) mt_GT_lock 116 [some (.inr 0), some (.inl v1), some (.inl v2), some (.inl v3), some (.inl v4), some (.inl (v2 * 7 + v3)), some (.inl (-2000000009))] [.inl (gp_tt (gp_lk (I6 (2 + 10)) v1) ((I6 (2 + 1) 0).toNat + 1) ((I6 (2 + 5) 0).toNat + 1))] I6 E
              refine gw_nz (z := gp_tt (gp_lk (I6 (2 + 10)) v1) ((I6 (2 + 1) 0).toNat + 1) ((I6 (2 + 5) 0).toNat + 1)) (fun z6 q12 => ?_)
              have h := h z6 q12
              exact gw_ireturn d_GT_lock_116 rfl h
          · have h := h.2 hc
            refine gw_ldc (n := (-2000000002)) d_GT_lock_67 kw_GT_87 (by decide +kernel) ?_
            exact gw_ireturn d_GT_lock_69 rfl h
      · have h := h.2 (of_decide_eq_false hc)
        refine gw_ldc (n := (-2000000001)) d_GT_lock_26 kw_GT_76 (by decide +kernel) ?_
        exact gw_ireturn d_GT_lock_28 rfl h

theorem k_GT_setMargin_0 {G : ga_G} {d : Nat} {I : ga_I} {E : Option ga_V → ga_I → Prop} {v1 : Int} (r1 : ga_rg v1)
    (h : ga_RG I → (((0 : Int) ≤ v1 ∧ v1 ≤ (50 : Int)) → (gr_H I) ∧ ((∀ I1 : ga_I, gr_kp I I1 → (∀ I2 : ga_I, I2 = (ga_up I1 1 7 v1) → E (some (.inl (I1 1 7))) I2)))) ∧ ((¬ ((0 : Int) ≤ v1 ∧ v1 ≤ (50 : Int))) → E (some (.inl (-2000000001))) I)) :
    ga_W G (d + 5) mt_GT_setMargin 0 (ga_en 3 [.inr 0, .inl v1]) [] I E := by
  show ga_W G (d + 5) mt_GT_setMargin 0 [some (.inr 0), some (.inl v1), none] [] I E
  refine gw_RG (fun hI1 => ?_)
  have h := h hI1
  refine gw_iload_n 1 d_GT_setMargin_0 rfl rfl ?_
  refine gw_iconst d_GT_setMargin_1 ?_
  refine gw_bipush d_GT_setMargin_2 (by decide +kernel) ?_
  refine gw_invS (as := [.inl v1, .inl 0, .inl 50]) (rest := []) (d' := (d + 4)) d_GT_setMargin_4 lk_GT_65 rfl (Nat.le_of_ble_eq_true rfl) (Nat.le_of_ble_eq_true rfl) rfl rfl (s_GT_isIn r1 ⟨by decide, by decide⟩ ⟨by decide, by decide⟩ ?_)
  show ga_W G (d + 5) mt_GT_setMargin 7 [some (.inr 0), some (.inl v1), none] [.inl (ga_bb (decide ((0 : Int) ≤ v1 ∧ v1 ≤ (50 : Int))))] I E
  refine gw_ifb_ne 13 d_GT_setMargin_7 (by decide) (fun hc => ?_) (fun hc => ?_)
  · have h := h.1 (of_decide_eq_true hc)
    refine gw_aload_n 0 d_GT_setMargin_13 rfl rfl ?_
    refine gw_getR d_GT_setMargin_14 fl_GT_19 (ga_oG) rfl ?_
    refine gw_aload_n 0 d_GT_setMargin_17 rfl rfl ?_
    refine gw_getR d_GT_setMargin_18 fl_GT_12 (ga_oG) rfl ?_
    obtain ⟨g1, h⟩ := h
    refine gw_invV (as := [.inr 1]) (k := 55) (rest := []) (d' := (d + 4)) d_GT_setMargin_21 lk_GT_93 (ga_rcv (ga_oH) rfl rfl) rfl (Nat.le_of_ble_eq_true rfl) (Nat.le_of_ble_eq_true rfl) rfl rfl (s_History_keep g1 (fun I1 q1 => ?_))
    have h := h I1 q1
    show ga_W G (d + 5) mt_GT_setMargin 24 [some (.inr 0), some (.inl v1), none] [] I1 E
    refine gw_RG (fun hI2 => ?_)
    refine gw_aload_n 0 d_GT_setMargin_24 rfl rfl ?_
    refine gw_getR d_GT_setMargin_25 fl_GT_12 (ga_oG) rfl ?_
    refine gw_getI d_GT_setMargin_28 fl_GT_191 (ga_s1.1) rfl ?_
    refine gw_istore_n 2 d_GT_setMargin_31 rfl (Nat.le_of_ble_eq_true rfl) rfl ?_
    refine gw_aload_n 0 d_GT_setMargin_32 rfl rfl ?_
    refine gw_getR d_GT_setMargin_33 fl_GT_12 (ga_oG) rfl ?_
    refine gw_iload_n 1 d_GT_setMargin_36 rfl rfl ?_
    refine gw_putI d_GT_setMargin_37 fp_GT_191 (ga_s1.1) rfl ?_
    show ga_W G (d + 5) mt_GT_setMargin 40 [some (.inr 0), some (.inl v1), some (.inl (I1 1 7))] [] (ga_up I1 1 7 (ga_wr v1)) E
    rw [ga_wr_eq (z := v1) r1]
    refine gw_nm (J := (ga_up I1 1 7 v1)) (fun I2 q2 => ?_)
    have h := h I2 q2
    refine gw_RG (fun hI3 => ?_)
    refine gw_iload_n 2 d_GT_setMargin_40 rfl rfl ?_
    exact gw_ireturn d_GT_setMargin_41 rfl h
  · have h := h.2 (of_decide_eq_false hc)
    refine gw_ldc (n := (-2000000001)) d_GT_setMargin_10 kw_GT_76 (by decide +kernel) ?_
    exact gw_ireturn d_GT_setMargin_12 rfl h

theorem k_GT_move_0 {G : ga_G} {d : Nat} {I : ga_I} {E : Option ga_V → ga_I → Prop} {v1 : Int} {v2 : Int} (r1 : ga_rg v1) (r2 : ga_rg v2)
    (h : ga_RG I → ((¬ (0 ≤ v1 ∧ v1 ≤ 1000)) → E (some (.inl (-2000000001))) I) ∧ ((0 ≤ v1 ∧ v1 ≤ 1000) → ((0 ≤ v2 ∧ v2 ≤ 1000) → (gr_H I) ∧ ((∀ I1 : ga_I, gr_kp I I1 → ga_W G (d + 4) mt_GT_carryOutMove 0 (ga_en 4 [.inr 0, .inl v1, .inl v2]) [] I1 (fun v I2 => ∃ z1 : Int, v = some (.inl z1) ∧ (E (some (.inl z1)) I2))))) ∧ ((¬ (0 ≤ v2 ∧ v2 ≤ 1000)) → E (some (.inl (-2000000001))) I))) :
    ga_W G (d + 5) mt_GT_move 0 (ga_en 3 [.inr 0, .inl v1, .inl v2]) [] I E := by
  show ga_W G (d + 5) mt_GT_move 0 [some (.inr 0), some (.inl v1), some (.inl v2)] [] I E
  refine gw_RG (fun hI1 => ?_)
  have h := h hI1
  refine gw_iload_n 1 d_GT_move_0 rfl rfl ?_
  refine gw_invS (as := [.inl v1]) (rest := []) (d' := (d + 4)) d_GT_move_1 lk_GT_194 rfl (Nat.le_of_ble_eq_true rfl) (Nat.le_of_ble_eq_true rfl) rfl rfl (s_GT_isCoordinate r1 ?_)
  show ga_W G (d + 5) mt_GT_move 4 [some (.inr 0), some (.inl v1), some (.inl v2)] [.inl (ga_bb (decide (0 ≤ v1 ∧ v1 ≤ 1000)))] I E
  refine gw_ifb_eq 14 d_GT_move_4 (by decide) (fun hc => ?_) (fun hc => ?_)
  · have h := h.1 (of_decide_eq_false hc)
    refine gw_ldc (n := (-2000000001)) d_GT_move_14 kw_GT_76 (by decide +kernel) ?_
    exact gw_ireturn d_GT_move_16 rfl h
  · have h := h.2 (of_decide_eq_true hc)
    refine gw_iload_n 2 d_GT_move_7 rfl rfl ?_
    refine gw_invS (as := [.inl v2]) (rest := []) (d' := (d + 4)) d_GT_move_8 lk_GT_194 rfl (Nat.le_of_ble_eq_true rfl) (Nat.le_of_ble_eq_true rfl) rfl rfl (s_GT_isCoordinate r2 ?_)
    show ga_W G (d + 5) mt_GT_move 11 [some (.inr 0), some (.inl v1), some (.inl v2)] [.inl (ga_bb (decide (0 ≤ v2 ∧ v2 ≤ 1000)))] I E
    refine gw_ifb_ne 17 d_GT_move_11 (by decide) (fun hc => ?_) (fun hc => ?_)
    · have h := h.1 (of_decide_eq_true hc)
      refine gw_aload_n 0 d_GT_move_17 rfl rfl ?_
      refine gw_getR d_GT_move_18 fl_GT_19 (ga_oG) rfl ?_
      refine gw_aload_n 0 d_GT_move_21 rfl rfl ?_
      refine gw_getR d_GT_move_22 fl_GT_12 (ga_oG) rfl ?_
      obtain ⟨g1, h⟩ := h
      refine gw_invV (as := [.inr 1]) (k := 55) (rest := []) (d' := (d + 4)) d_GT_move_25 lk_GT_93 (ga_rcv (ga_oH) rfl rfl) rfl (Nat.le_of_ble_eq_true rfl) (Nat.le_of_ble_eq_true rfl) rfl rfl (s_History_keep g1 (fun I1 q1 => ?_))
      have h := h I1 q1
      show ga_W G (d + 5) mt_GT_move 28 [some (.inr 0), some (.inl v1), some (.inl v2)] [] I1 E
      refine gw_RG (fun hI2 => ?_)
      refine gw_aload_n 0 d_GT_move_28 rfl rfl ?_
      refine gw_iload_n 1 d_GT_move_29 rfl rfl ?_
      refine gw_iload_n 2 d_GT_move_30 rfl rfl ?_
      refine gw_invV (as := [.inl v1, .inl v2]) (k := 0) (rest := []) (d' := (d + 4)) d_GT_move_31 lk_GT_197 (ga_rcv (ga_oG) rfl rfl) rfl (Nat.le_of_ble_eq_true rfl) (Nat.le_of_ble_eq_true rfl) rfl rfl (gw_mono (fun v I2 hv => ?_) h)
      obtain ⟨z1, rfl, h⟩ := hv
      show ga_W G (d + 5) mt_GT_move 34 [some (.inr 0), some (.inl v1), some (.inl v2)] [.inl z1] I2 E
      refine gw_RG (fun hI3 => ?_)
      exact gw_ireturn d_GT_move_34 rfl h
    · have h := h.2 (of_decide_eq_false hc)
      refine gw_ldc (n := (-2000000001)) d_GT_move_14 kw_GT_76 (by decide +kernel) ?_
      exact gw_ireturn d_GT_move_16 rfl h

theorem k_GT_sweep_0 {G : ga_G} {d : Nat} {I : ga_I} {E : Option ga_V → ga_I → Prop} {v1 : Int} {v2 : Int} {v3 : Int} (r1 : ga_rg v1) (r2 : ga_rg v2) (r3 : ga_rg v3)
    (h : ga_RG I → ((¬ (0 ≤ v1 ∧ v1 ≤ 1)) → E (some (.inl (-2000000001))) I) ∧ ((0 ≤ v1 ∧ v1 ≤ 1) → ((¬ (0 ≤ v2 ∧ v2 ≤ 1000)) → E (some (.inl (-2000000001))) I) ∧ ((0 ≤ v2 ∧ v2 ≤ 1000) → (((1 : Int) ≤ v3 ∧ v3 ≤ (1000 : Int)) → (0 ≤ v1) ∧ ((v1 < 2) ∧ ((((I 47 v1.toNat) ≠ v2) → (gr_H I) ∧ ((∀ I1 : ga_I, gr_kp I I1 → ga_W G (d + 5) mt_GT_sweep 65 [some (.inr 0), some (.inl v1), some (.inl v2), some (.inl v3), some (.inl (I 47 v1.toNat)), some (.inl 0), some (.inl 0), none] [] I1 E))) ∧ (((I 47 v1.toNat) = v2) → E (some (.inl (-2000000002))) I)))) ∧ ((¬ ((1 : Int) ≤ v3 ∧ v3 ≤ (1000 : Int))) → E (some (.inl (-2000000001))) I)))) :
    ga_W G (d + 5) mt_GT_sweep 0 (ga_en 8 [.inr 0, .inl v1, .inl v2, .inl v3]) [] I E := by
  show ga_W G (d + 5) mt_GT_sweep 0 [some (.inr 0), some (.inl v1), some (.inl v2), some (.inl v3), none, none, none, none] [] I E
  refine gw_RG (fun hI1 => ?_)
  have h := h hI1
  refine gw_iload_n 1 d_GT_sweep_0 rfl rfl ?_
  refine gw_invS (as := [.inl v1]) (rest := []) (d' := (d + 4)) d_GT_sweep_1 lk_GT_61 rfl (Nat.le_of_ble_eq_true rfl) (Nat.le_of_ble_eq_true rfl) rfl rfl (s_GT_isAxis r1 ?_)
  show ga_W G (d + 5) mt_GT_sweep 4 [some (.inr 0), some (.inl v1), some (.inl v2), some (.inl v3), none, none, none, none] [.inl (ga_bb (decide (0 ≤ v1 ∧ v1 ≤ 1)))] I E
  refine gw_ifb_eq 25 d_GT_sweep_4 (by decide) (fun hc => ?_) (fun hc => ?_)
  · have h := h.1 (of_decide_eq_false hc)
    refine gw_ldc (n := (-2000000001)) d_GT_sweep_25 kw_GT_76 (by decide +kernel) ?_
    exact gw_ireturn d_GT_sweep_27 rfl h
  · have h := h.2 (of_decide_eq_true hc)
    refine gw_iload_n 2 d_GT_sweep_7 rfl rfl ?_
    refine gw_invS (as := [.inl v2]) (rest := []) (d' := (d + 4)) d_GT_sweep_8 lk_GT_194 rfl (Nat.le_of_ble_eq_true rfl) (Nat.le_of_ble_eq_true rfl) rfl rfl (s_GT_isCoordinate r2 ?_)
    show ga_W G (d + 5) mt_GT_sweep 11 [some (.inr 0), some (.inl v1), some (.inl v2), some (.inl v3), none, none, none, none] [.inl (ga_bb (decide (0 ≤ v2 ∧ v2 ≤ 1000)))] I E
    refine gw_ifb_eq 25 d_GT_sweep_11 (by decide) (fun hc => ?_) (fun hc => ?_)
    · have h := h.1 (of_decide_eq_false hc)
      refine gw_ldc (n := (-2000000001)) d_GT_sweep_25 kw_GT_76 (by decide +kernel) ?_
      exact gw_ireturn d_GT_sweep_27 rfl h
    · have h := h.2 (of_decide_eq_true hc)
      refine gw_iload_n 3 d_GT_sweep_14 rfl rfl ?_
      refine gw_iconst d_GT_sweep_15 ?_
      refine gw_sipush d_GT_sweep_16 (by decide +kernel) ?_
      refine gw_invS (as := [.inl v3, .inl 1, .inl 1000]) (rest := []) (d' := (d + 4)) d_GT_sweep_19 lk_GT_65 rfl (Nat.le_of_ble_eq_true rfl) (Nat.le_of_ble_eq_true rfl) rfl rfl (s_GT_isIn r3 ⟨by decide, by decide⟩ ⟨by decide, by decide⟩ ?_)
      show ga_W G (d + 5) mt_GT_sweep 22 [some (.inr 0), some (.inl v1), some (.inl v2), some (.inl v3), none, none, none, none] [.inl (ga_bb (decide ((1 : Int) ≤ v3 ∧ v3 ≤ (1000 : Int))))] I E
      refine gw_ifb_ne 28 d_GT_sweep_22 (by decide) (fun hc => ?_) (fun hc => ?_)
      · have h := h.1 (of_decide_eq_true hc)
        refine gw_aload_n 0 d_GT_sweep_28 rfl rfl ?_
        refine gw_getR d_GT_sweep_29 fl_GT_12 (ga_oG) rfl ?_
        refine gw_getR d_GT_sweep_32 fl_GT_200 (ga_s1.1) rfl ?_
        refine gw_iload_n 1 d_GT_sweep_35 rfl rfl ?_
        obtain ⟨g1, h⟩ := h
        obtain ⟨g2, h⟩ := h
        refine gw_iald d_GT_sweep_36 (ga_s1.2.2.2.2.2.2.1) g1 g2 ?_
        refine gw_istore 4 d_GT_sweep_37 (Nat.le_of_ble_eq_true rfl) rfl ?_
        refine gw_iload 4 d_GT_sweep_39 rfl ?_
        refine gw_iload_n 2 d_GT_sweep_41 rfl rfl ?_
        refine gw_icmp_ne 48 d_GT_sweep_42 (by decide) (hI1 _ _) r2 (fun hc => ?_) (fun hc => ?_)
        · have h := h.1 hc
          refine gw_aload_n 0 d_GT_sweep_48 rfl rfl ?_
          refine gw_getR d_GT_sweep_49 fl_GT_19 (ga_oG) rfl ?_
          refine gw_aload_n 0 d_GT_sweep_52 rfl rfl ?_
          refine gw_getR d_GT_sweep_53 fl_GT_12 (ga_oG) rfl ?_
          obtain ⟨g3, h⟩ := h
          refine gw_invV (as := [.inr 1]) (k := 55) (rest := []) (d' := (d + 4)) d_GT_sweep_56 lk_GT_93 (ga_rcv (ga_oH) rfl rfl) rfl (Nat.le_of_ble_eq_true rfl) (Nat.le_of_ble_eq_true rfl) rfl rfl (s_History_keep g3 (fun I1 q1 => ?_))
          have h := h I1 q1
          show ga_W G (d + 5) mt_GT_sweep 59 [some (.inr 0), some (.inl v1), some (.inl v2), some (.inl v3), some (.inl (I 47 v1.toNat)), none, none, none] [] I1 E
          refine gw_RG (fun hI2 => ?_)
          refine gw_iconst d_GT_sweep_59 ?_
          refine gw_istore 5 d_GT_sweep_60 (Nat.le_of_ble_eq_true rfl) rfl ?_
          refine gw_iconst d_GT_sweep_62 ?_
          refine gw_istore 6 d_GT_sweep_63 (Nat.le_of_ble_eq_true rfl) rfl ?_
          exact gw_le h (by exact ⟨rfl, ⟨rfl, ⟨rfl, ⟨rfl, ⟨rfl, ⟨rfl, ⟨rfl, trivial⟩⟩⟩⟩⟩⟩⟩)
        · have h := h.2 hc
          refine gw_ldc (n := (-2000000002)) d_GT_sweep_45 kw_GT_87 (by decide +kernel) ?_
          exact gw_ireturn d_GT_sweep_47 rfl h
      · have h := h.2 (of_decide_eq_false hc)
        refine gw_ldc (n := (-2000000001)) d_GT_sweep_25 kw_GT_76 (by decide +kernel) ?_
        exact gw_ireturn d_GT_sweep_27 rfl h
theorem k_GT_sweep_65 {G : ga_G} {d : Nat} {I : ga_I} {E : Option ga_V → ga_I → Prop} {v1 : Int} {v2 : Int} {v3 : Int} {v4 : Int} {v5 : Int} {v6 : Int} (r1 : ga_rg v1) (r2 : ga_rg v2) (r4 : ga_rg v4) (r6 : ga_rg v6)
    (h : ga_RG I → ((1000 ≤ v6) → E (some (.inl v5)) I) ∧ ((¬ (1000 ≤ v6)) → ((v4 = v2) → E (some (.inl v5)) I) ∧ ((¬ (v4 = v2)) → (0 ≤ v4 ∧ v4 ≤ 1000) ∧ ((0 ≤ v2 ∧ v2 ≤ 1000) ∧ ((1 ≤ v3 ∧ v3 ≤ 1000) ∧ ((0 ≤ v1) ∧ ((v1 < 2) ∧ (((v1 ≠ 0) → ga_W G (d + 4) mt_GT_carryOutMove 0 (ga_en 4 [.inr 0, .inl (I 47 0), .inl (ns_tw v4 v2 v3)]) [] I (fun v I1 => ∃ z1 : Int, v = some (.inl z1) ∧ ((((I1 48 v1.toNat) = (I 48 v1.toNat)) → ga_W G (d + 5) mt_GT_sweep 65 [some (.inr 0), some (.inl v1), some (.inl v2), some (.inl v3), some (.inl (ns_tw v4 v2 v3)), some (.inl v5), some (.inl (v6 + 1)), none] [] I1 E) ∧ ((¬ ((I1 48 v1.toNat) = (I 48 v1.toNat))) → ga_W G (d + 5) mt_GT_sweep 65 [some (.inr 0), some (.inl v1), some (.inl v2), some (.inl v3), some (.inl (ns_tw v4 v2 v3)), some (.inl (v5 + 1)), some (.inl (v6 + 1)), none] [] I1 E)))) ∧ ((v1 = 0) → ga_W G (d + 4) mt_GT_carryOutMove 0 (ga_en 4 [.inr 0, .inl (ns_tw v4 v2 v3), .inl (I 47 1)]) [] I (fun v I2 => ∃ z2 : Int, v = some (.inl z2) ∧ ((((I2 48 v1.toNat) = (I 48 v1.toNat)) → ga_W G (d + 5) mt_GT_sweep 65 [some (.inr 0), some (.inl v1), some (.inl v2), some (.inl v3), some (.inl (ns_tw v4 v2 v3)), some (.inl v5), some (.inl (v6 + 1)), none] [] I2 E) ∧ ((¬ ((I2 48 v1.toNat) = (I 48 v1.toNat))) → ga_W G (d + 5) mt_GT_sweep 65 [some (.inr 0), some (.inl v1), some (.inl v2), some (.inl v3), some (.inl (ns_tw v4 v2 v3)), some (.inl (v5 + 1)), some (.inl (v6 + 1)), none] [] I2 E)))))))))))) :
    ga_W G (d + 5) mt_GT_sweep 65 [some (.inr 0), some (.inl v1), some (.inl v2), some (.inl v3), some (.inl v4), some (.inl v5), some (.inl v6), none] [] I E := by
  refine gw_RG (fun hI1 => ?_)
  have h := h hI1
  refine gw_iload 6 d_GT_sweep_65 rfl ?_
  refine gw_sipush d_GT_sweep_67 (by decide +kernel) ?_
  refine gw_icmp_ge 161 d_GT_sweep_70 (by decide) r6 ⟨by decide, by decide⟩ (fun hc => ?_) (fun hc => ?_)
  · have h := h.1 hc
    refine gw_iload 5 d_GT_sweep_161 rfl ?_
    exact gw_ireturn d_GT_sweep_163 rfl h
  · have h := h.2 hc
    refine gw_iload 4 d_GT_sweep_73 rfl ?_
    refine gw_iload_n 2 d_GT_sweep_75 rfl rfl ?_
    refine gw_icmp_eq 161 d_GT_sweep_76 (by decide) r4 r2 (fun hc => ?_) (fun hc => ?_)
    · have h := h.1 hc
      refine gw_iload 5 d_GT_sweep_161 rfl ?_
      exact gw_ireturn d_GT_sweep_163 rfl h
    · have h := h.2 hc
      refine gw_iload 4 d_GT_sweep_79 rfl ?_
      refine gw_iload_n 2 d_GT_sweep_81 rfl rfl ?_
      refine gw_iload_n 3 d_GT_sweep_82 rfl rfl ?_
      obtain ⟨g1, h⟩ := h
      obtain ⟨g2, h⟩ := h
      obtain ⟨g3, h⟩ := h
      refine gw_invS (as := [.inl v4, .inl v2, .inl v3]) (rest := []) (d' := (d + 4)) d_GT_sweep_83 lk_GT_203 rfl (Nat.le_of_ble_eq_true rfl) (Nat.le_of_ble_eq_true rfl) rfl rfl (s_GT_placeTowards g1 g2 g3 ?_)
      show ga_W G (d + 5) mt_GT_sweep 86 [some (.inr 0), some (.inl v1), some (.inl v2), some (.inl v3), some (.inl v4), some (.inl v5), some (.inl v6), none] [.inl (ns_tw v4 v2 v3)] I E
      refine gw_istore 4 d_GT_sweep_86 (Nat.le_of_ble_eq_true rfl) rfl ?_
      refine gw_aload_n 0 d_GT_sweep_88 rfl rfl ?_
      refine gw_getR d_GT_sweep_89 fl_GT_12 (ga_oG) rfl ?_
      refine gw_getR d_GT_sweep_92 fl_GT_207 (ga_s1.1) rfl ?_
      refine gw_iload_n 1 d_GT_sweep_95 rfl rfl ?_
      obtain ⟨g4, h⟩ := h
      obtain ⟨g5, h⟩ := h
      refine gw_iald d_GT_sweep_96 (ga_s1.2.2.2.2.2.2.2.1) g4 g5 ?_
      refine gw_istore 7 d_GT_sweep_97 (Nat.le_of_ble_eq_true rfl) rfl ?_
      refine gw_iload_n 1 d_GT_sweep_99 rfl rfl ?_
      refine gw_if_ne 122 d_GT_sweep_100 (by decide) r1 (fun hc => ?_) (fun hc => ?_)
      · have h := h.1 hc
        refine gw_aload_n 0 d_GT_sweep_122 rfl rfl ?_
        refine gw_aload_n 0 d_GT_sweep_123 rfl rfl ?_
        refine gw_getR d_GT_sweep_124 fl_GT_12 (ga_oG) rfl ?_
        refine gw_getR d_GT_sweep_127 fl_GT_200 (ga_s1.1) rfl ?_
        refine gw_iconst d_GT_sweep_130 ?_
        refine gw_iald d_GT_sweep_131 (ga_s1.2.2.2.2.2.2.1) (by decide) (by decide) ?_
        refine gw_iload 4 d_GT_sweep_132 rfl ?_
        refine gw_invV (as := [.inl (I 47 0), .inl (ns_tw v4 v2 v3)]) (k := 0) (rest := []) (d' := (d + 4)) d_GT_sweep_134 lk_GT_197 (ga_rcv (ga_oG) rfl rfl) rfl (Nat.le_of_ble_eq_true rfl) (Nat.le_of_ble_eq_true rfl) rfl rfl (gw_mono (fun v I1 hv => ?_) h)
        obtain ⟨z1, rfl, h⟩ := hv
        show ga_W G (d + 5) mt_GT_sweep 137 [some (.inr 0), some (.inl v1), some (.inl v2), some (.inl v3), some (.inl (ns_tw v4 v2 v3)), some (.inl v5), some (.inl v6), some (.inl (I 48 v1.toNat))] [.inl z1] I1 E
        refine gw_RG (fun hI2 => ?_)
        refine gw_pop d_GT_sweep_137 ?_
        refine gw_aload_n 0 d_GT_sweep_138 rfl rfl ?_
        refine gw_getR d_GT_sweep_139 fl_GT_12 (ga_oG) rfl ?_
        refine gw_getR d_GT_sweep_142 fl_GT_207 (ga_s1.1) rfl ?_
        refine gw_iload_n 1 d_GT_sweep_145 rfl rfl ?_
        refine gw_iald d_GT_sweep_146 (ga_s1.2.2.2.2.2.2.2.1) g4 g5 ?_
        refine gw_iload 7 d_GT_sweep_147 rfl ?_
        refine gw_icmp_eq 155 d_GT_sweep_149 (by decide) (hI2 _ _) (hI1 _ _) (fun hc => ?_) (fun hc => ?_)
        · have h := h.1 hc
          refine gw_iinc 6 d_GT_sweep_155 rfl rfl ?_
          refine gw_goto 65 d_GT_sweep_158 (by decide) ?_
          exact gw_le h (by exact ⟨rfl, ⟨rfl, ⟨rfl, ⟨rfl, ⟨rfl, ⟨rfl, ⟨rfl, trivial⟩⟩⟩⟩⟩⟩⟩)
        · have h := h.2 hc
          refine gw_iinc 5 d_GT_sweep_152 rfl rfl ?_
          refine gw_iinc 6 d_GT_sweep_155 rfl rfl ?_
          refine gw_goto 65 d_GT_sweep_158 (by decide) ?_
          exact gw_le h (by exact ⟨rfl, ⟨rfl, ⟨rfl, ⟨rfl, ⟨rfl, ⟨rfl, ⟨rfl, trivial⟩⟩⟩⟩⟩⟩⟩)
      · have h := h.2 hc
        refine gw_aload_n 0 d_GT_sweep_103 rfl rfl ?_
        refine gw_iload 4 d_GT_sweep_104 rfl ?_
        refine gw_aload_n 0 d_GT_sweep_106 rfl rfl ?_
        refine gw_getR d_GT_sweep_107 fl_GT_12 (ga_oG) rfl ?_
        refine gw_getR d_GT_sweep_110 fl_GT_200 (ga_s1.1) rfl ?_
        refine gw_iconst d_GT_sweep_113 ?_
        refine gw_iald d_GT_sweep_114 (ga_s1.2.2.2.2.2.2.1) (by decide) (by decide) ?_
        refine gw_invV (as := [.inl (ns_tw v4 v2 v3), .inl (I 47 1)]) (k := 0) (rest := []) (d' := (d + 4)) d_GT_sweep_115 lk_GT_197 (ga_rcv (ga_oG) rfl rfl) rfl (Nat.le_of_ble_eq_true rfl) (Nat.le_of_ble_eq_true rfl) rfl rfl (gw_mono (fun v I2 hv => ?_) h)
        obtain ⟨z2, rfl, h⟩ := hv
        show ga_W G (d + 5) mt_GT_sweep 118 [some (.inr 0), some (.inl v1), some (.inl v2), some (.inl v3), some (.inl (ns_tw v4 v2 v3)), some (.inl v5), some (.inl v6), some (.inl (I 48 v1.toNat))] [.inl z2] I2 E
        refine gw_RG (fun hI3 => ?_)
        refine gw_pop d_GT_sweep_118 ?_
        refine gw_goto 138 d_GT_sweep_119 (by decide) ?_
        refine gw_aload_n 0 d_GT_sweep_138 rfl rfl ?_
        refine gw_getR d_GT_sweep_139 fl_GT_12 (ga_oG) rfl ?_
        refine gw_getR d_GT_sweep_142 fl_GT_207 (ga_s1.1) rfl ?_
        refine gw_iload_n 1 d_GT_sweep_145 rfl rfl ?_
        refine gw_iald d_GT_sweep_146 (ga_s1.2.2.2.2.2.2.2.1) g4 g5 ?_
        refine gw_iload 7 d_GT_sweep_147 rfl ?_
        refine gw_icmp_eq 155 d_GT_sweep_149 (by decide) (hI3 _ _) (hI1 _ _) (fun hc => ?_) (fun hc => ?_)
        · have h := h.1 hc
          refine gw_iinc 6 d_GT_sweep_155 rfl rfl ?_
          refine gw_goto 65 d_GT_sweep_158 (by decide) ?_
          exact gw_le h (by exact ⟨rfl, ⟨rfl, ⟨rfl, ⟨rfl, ⟨rfl, ⟨rfl, ⟨rfl, trivial⟩⟩⟩⟩⟩⟩⟩)
        · have h := h.2 hc
          refine gw_iinc 5 d_GT_sweep_152 rfl rfl ?_
          refine gw_iinc 6 d_GT_sweep_155 rfl rfl ?_
          refine gw_goto 65 d_GT_sweep_158 (by decide) ?_
          exact gw_le h (by exact ⟨rfl, ⟨rfl, ⟨rfl, ⟨rfl, ⟨rfl, ⟨rfl, ⟨rfl, trivial⟩⟩⟩⟩⟩⟩⟩)

theorem k_GT_take_0 {G : ga_G} {d : Nat} {I : ga_I} {E : Option ga_V → ga_I → Prop} {v1 : Int} (r1 : ga_rg v1)
    (h : ga_RG I → ((0 ≤ v1 ∧ v1 ≤ 2) → (gr_H I) ∧ ((∀ I1 : ga_I, gr_kp I I1 → (2 + 11 ≤ (ga_sn 1 v1) ∨ (ga_sn 1 v1) + 11 ≤ 2 ∨ 2 = (ga_sn 1 v1)) ∧ ((∀ I2 : ga_I, gr_cpT I1 I2 (ga_sn 1 v1) 2 → (0 ≤ v1) ∧ ((v1 < 3) ∧ ((∀ I3 : ga_I, I3 = (ga_up I2 46 v1.toNat 1) → (∀ z1 : Int, z1 = ((I3 (2 + 1) 0) + 1) * ((I3 (2 + 5) 0) + 1) → E (some (.inl z1)) I3))))))))) ∧ ((¬ (0 ≤ v1 ∧ v1 ≤ 2)) → E (some (.inl (-2000000001))) I)) :
    ga_W G (d + 5) mt_GT_take 0 (ga_en 2 [.inr 0, .inl v1]) [] I E := by
  show ga_W G (d + 5) mt_GT_take 0 [some (.inr 0), some (.inl v1)] [] I E
  refine gw_RG (fun hI1 => ?_)
  have h := h hI1
  refine gw_iload_n 1 d_GT_take_0 rfl rfl ?_
  refine gw_invS (as := [.inl v1]) (rest := []) (d' := (d + 4)) d_GT_take_1 lk_GT_210 rfl (Nat.le_of_ble_eq_true rfl) (Nat.le_of_ble_eq_true rfl) rfl rfl (s_GT_isPlace r1 ?_)
  show ga_W G (d + 5) mt_GT_take 4 [some (.inr 0), some (.inl v1)] [.inl (ga_bb (decide (0 ≤ v1 ∧ v1 ≤ 2)))] I E
  refine gw_ifb_ne 10 d_GT_take_4 (by decide) (fun hc => ?_) (fun hc => ?_)
  · have h := h.1 (of_decide_eq_true hc)
    refine gw_aload_n 0 d_GT_take_10 rfl rfl ?_
    refine gw_getR d_GT_take_11 fl_GT_19 (ga_oG) rfl ?_
    refine gw_aload_n 0 d_GT_take_14 rfl rfl ?_
    refine gw_getR d_GT_take_15 fl_GT_12 (ga_oG) rfl ?_
    obtain ⟨g1, h⟩ := h
    refine gw_invV (as := [.inr 1]) (k := 55) (rest := []) (d' := (d + 4)) d_GT_take_18 lk_GT_93 (ga_rcv (ga_oH) rfl rfl) rfl (Nat.le_of_ble_eq_true rfl) (Nat.le_of_ble_eq_true rfl) rfl rfl (s_History_keep g1 (fun I1 q1 => ?_))
    have h := h I1 q1
    show ga_W G (d + 5) mt_GT_take 21 [some (.inr 0), some (.inl v1)] [] I1 E
    refine gw_RG (fun hI2 => ?_)
    refine gw_aload_n 0 d_GT_take_21 rfl rfl ?_
    refine gw_getR d_GT_take_22 fl_GT_12 (ga_oG) rfl ?_
    refine gw_iload_n 1 d_GT_take_25 rfl rfl ?_
    refine gw_invV (as := [.inl v1]) (k := 1) (rest := []) (d' := (d + 4)) d_GT_take_26 lk_GT_213 (ga_rcv (ga_s1.1) rfl rfl) rfl (Nat.le_of_ble_eq_true rfl) (Nat.le_of_ble_eq_true rfl) rfl rfl (s_State_snapshotAt ga_s1 r1 ?_)
    show ga_W G (d + 5) mt_GT_take 29 [some (.inr 0), some (.inl v1)] [.inr (ga_sn 1 v1)] I1 E
    refine gw_aload_n 0 d_GT_take_29 rfl rfl ?_
    refine gw_getR d_GT_take_30 fl_GT_12 (ga_oG) rfl ?_
    refine gw_getR d_GT_take_33 fl_GT_77 (ga_s1.1) rfl ?_
    obtain ⟨g2, h⟩ := h
    refine gw_invV (as := [.inr 2]) (k := (ga_sn 1 v1)) (rest := []) (d' := (d + 4)) d_GT_take_36 lk_GT_217 (ga_rcv ((ga_sn_T ga_s1 v1).1) rfl rfl) rfl (Nat.le_of_ble_eq_true rfl) (Nat.le_of_ble_eq_true rfl) rfl rfl (s_Table_copyFrom (ga_sn_T ga_s1 v1) ga_s1.2.1 g2 (fun I2 q2 => ?_))
    have h := h I2 q2
    show ga_W G (d + 5) mt_GT_take 39 [some (.inr 0), some (.inl v1)] [] I2 E
    refine gw_RG (fun hI3 => ?_)
    refine gw_aload_n 0 d_GT_take_39 rfl rfl ?_
    refine gw_getR d_GT_take_40 fl_GT_12 (ga_oG) rfl ?_
    refine gw_getR d_GT_take_43 fl_GT_221 (ga_s1.1) rfl ?_
    refine gw_iload_n 1 d_GT_take_46 rfl rfl ?_
    refine gw_iconst d_GT_take_47 ?_
    obtain ⟨g3, h⟩ := h
    obtain ⟨g4, h⟩ := h
    refine gw_zast d_GT_take_48 (ga_s1.2.2.2.2.2.1) g3 g4 (by decide) ?_
    show ga_W G (d + 5) mt_GT_take 49 [some (.inr 0), some (.inl v1)] [] (ga_up I2 46 v1.toNat (ga_wr 1)) E
    rw [ga_wr_eq (z := 1) ⟨by decide, by decide⟩]
    refine gw_nm (J := (ga_up I2 46 v1.toNat 1)) (fun I3 q3 => ?_)
    have h := h I3 q3
    refine gw_RG (fun hI4 => ?_)
    refine gw_aload_n 0 d_GT_take_49 rfl rfl ?_
    refine gw_getR d_GT_take_50 fl_GT_12 (ga_oG) rfl ?_
    refine gw_getR d_GT_take_53 fl_GT_77 (ga_s1.1) rfl ?_
    refine gw_invV (as := []) (k := 2) (rest := []) (d' := (d + 4)) d_GT_take_56 lk_GT_225 (ga_rcv (ga_s1.2.1.1) rfl rfl) rfl (Nat.le_of_ble_eq_true rfl) (Nat.le_of_ble_eq_true rfl) rfl rfl (s_Table_regions ga_s1.2.1 ?_)
    show ga_W G (d + 5) mt_GT_take 59 [some (.inr 0), some (.inl v1)] [.inl (((I3 (2 + 1) 0) + 1) * ((I3 (2 + 5) 0) + 1))] I3 E
    refine gw_nz (z := ((I3 (2 + 1) 0) + 1) * ((I3 (2 + 5) 0) + 1)) (fun z1 q4 => ?_)
    have h := h z1 q4
    exact gw_ireturn d_GT_take_59 rfl h
  · have h := h.2 (of_decide_eq_false hc)
    refine gw_ldc (n := (-2000000001)) d_GT_take_7 kw_GT_76 (by decide +kernel) ?_
    exact gw_ireturn d_GT_take_9 rfl h

theorem k_GT_restore_0 {G : ga_G} {d : Nat} {I : ga_I} {E : Option ga_V → ga_I → Prop} {v1 : Int} (r1 : ga_rg v1)
    (h : ga_RG I → ((0 ≤ v1 ∧ v1 ≤ 2) → (0 ≤ v1) ∧ ((v1 < 3) ∧ ((((I 46 v1.toNat) ≠ 0) → (gr_H I) ∧ ((∀ I1 : ga_I, gr_kp I I1 → ((ga_sn 1 v1) + 11 ≤ 1 + 1 ∨ 1 + 12 ≤ (ga_sn 1 v1)) ∧ ((gb_ok I1 (1 + 2)) ∧ ((gb_ok I1 (1 + 6)) ∧ ((gb_ok I1 ((ga_sn 1 v1) + 1)) ∧ ((gb_ok I1 ((ga_sn 1 v1) + 5)) ∧ ((∀ I2 : ga_I, gr_rt I1 I2 1 (ga_sn 1 v1) → (∀ z1 : Int, z1 = ((I2 (2 + 1) 0) + 1) * ((I2 (2 + 5) 0) + 1) → E (some (.inl z1)) I2)))))))))) ∧ (((I 46 v1.toNat) = 0) → E (some (.inl (-2000000002))) I)))) ∧ ((¬ (0 ≤ v1 ∧ v1 ≤ 2)) → E (some (.inl (-2000000001))) I)) :
    ga_W G (d + 5) mt_GT_restore 0 (ga_en 2 [.inr 0, .inl v1]) [] I E := by
  show ga_W G (d + 5) mt_GT_restore 0 [some (.inr 0), some (.inl v1)] [] I E
  refine gw_RG (fun hI1 => ?_)
  have h := h hI1
  refine gw_iload_n 1 d_GT_restore_0 rfl rfl ?_
  refine gw_invS (as := [.inl v1]) (rest := []) (d' := (d + 4)) d_GT_restore_1 lk_GT_210 rfl (Nat.le_of_ble_eq_true rfl) (Nat.le_of_ble_eq_true rfl) rfl rfl (s_GT_isPlace r1 ?_)
  show ga_W G (d + 5) mt_GT_restore 4 [some (.inr 0), some (.inl v1)] [.inl (ga_bb (decide (0 ≤ v1 ∧ v1 ≤ 2)))] I E
  refine gw_ifb_ne 10 d_GT_restore_4 (by decide) (fun hc => ?_) (fun hc => ?_)
  · have h := h.1 (of_decide_eq_true hc)
    refine gw_aload_n 0 d_GT_restore_10 rfl rfl ?_
    refine gw_getR d_GT_restore_11 fl_GT_12 (ga_oG) rfl ?_
    refine gw_getR d_GT_restore_14 fl_GT_221 (ga_s1.1) rfl ?_
    refine gw_iload_n 1 d_GT_restore_17 rfl rfl ?_
    obtain ⟨g1, h⟩ := h
    obtain ⟨g2, h⟩ := h
    refine gw_zald d_GT_restore_18 (ga_s1.2.2.2.2.2.1) g1 g2 ?_
    refine gw_if_ne 25 d_GT_restore_19 (by decide) (hI1 _ _) (fun hc => ?_) (fun hc => ?_)
    · have h := h.1 hc
      refine gw_aload_n 0 d_GT_restore_25 rfl rfl ?_
      refine gw_getR d_GT_restore_26 fl_GT_19 (ga_oG) rfl ?_
      refine gw_aload_n 0 d_GT_restore_29 rfl rfl ?_
      refine gw_getR d_GT_restore_30 fl_GT_12 (ga_oG) rfl ?_
      obtain ⟨g3, h⟩ := h
      refine gw_invV (as := [.inr 1]) (k := 55) (rest := []) (d' := (d + 4)) d_GT_restore_33 lk_GT_93 (ga_rcv (ga_oH) rfl rfl) rfl (Nat.le_of_ble_eq_true rfl) (Nat.le_of_ble_eq_true rfl) rfl rfl (s_History_keep g3 (fun I1 q1 => ?_))
      have h := h I1 q1
      show ga_W G (d + 5) mt_GT_restore 36 [some (.inr 0), some (.inl v1)] [] I1 E
      refine gw_RG (fun hI2 => ?_)
      refine gw_aload_n 0 d_GT_restore_36 rfl rfl ?_
      refine gw_getR d_GT_restore_37 fl_GT_12 (ga_oG) rfl ?_
      refine gw_aload_n 0 d_GT_restore_40 rfl rfl ?_
      refine gw_getR d_GT_restore_41 fl_GT_12 (ga_oG) rfl ?_
      refine gw_iload_n 1 d_GT_restore_44 rfl rfl ?_
      refine gw_invV (as := [.inl v1]) (k := 1) (rest := [.inr 1]) (d' := (d + 4)) d_GT_restore_45 lk_GT_213 (ga_rcv (ga_s1.1) rfl rfl) rfl (Nat.le_of_ble_eq_true rfl) (Nat.le_of_ble_eq_true rfl) rfl rfl (s_State_snapshotAt ga_s1 r1 ?_)
      show ga_W G (d + 5) mt_GT_restore 48 [some (.inr 0), some (.inl v1)] [.inr (ga_sn 1 v1), .inr 1] I1 E
      obtain ⟨g4, h⟩ := h
      obtain ⟨g5, h⟩ := h
      obtain ⟨g6, h⟩ := h
      obtain ⟨g7, h⟩ := h
      obtain ⟨g8, h⟩ := h
      refine gw_invV (as := [.inr (ga_sn 1 v1)]) (k := 1) (rest := []) (d' := (d + 4)) d_GT_restore_48 lk_GT_228 (ga_rcv (ga_s1.1) rfl rfl) rfl (Nat.le_of_ble_eq_true rfl) (Nat.le_of_ble_eq_true rfl) rfl rfl (s_State_replaceTable ga_s1 (ga_sn_T ga_s1 v1) g4 g5 g6 g7 g8 (fun I2 q2 => ?_))
      have h := h I2 q2
      show ga_W G (d + 5) mt_GT_restore 51 [some (.inr 0), some (.inl v1)] [] I2 E
      refine gw_RG (fun hI3 => ?_)
      refine gw_aload_n 0 d_GT_restore_51 rfl rfl ?_
      refine gw_getR d_GT_restore_52 fl_GT_12 (ga_oG) rfl ?_
      refine gw_getR d_GT_restore_55 fl_GT_77 (ga_s1.1) rfl ?_
      refine gw_invV (as := []) (k := 2) (rest := []) (d' := (d + 4)) d_GT_restore_58 lk_GT_225 (ga_rcv (ga_s1.2.1.1) rfl rfl) rfl (Nat.le_of_ble_eq_true rfl) (Nat.le_of_ble_eq_true rfl) rfl rfl (s_Table_regions ga_s1.2.1 ?_)
      show ga_W G (d + 5) mt_GT_restore 61 [some (.inr 0), some (.inl v1)] [.inl (((I2 (2 + 1) 0) + 1) * ((I2 (2 + 5) 0) + 1))] I2 E
      refine gw_nz (z := ((I2 (2 + 1) 0) + 1) * ((I2 (2 + 5) 0) + 1)) (fun z1 q3 => ?_)
      have h := h z1 q3
      exact gw_ireturn d_GT_restore_61 rfl h
    · have h := h.2 hc
      refine gw_ldc (n := (-2000000002)) d_GT_restore_22 kw_GT_87 (by decide +kernel) ?_
      exact gw_ireturn d_GT_restore_24 rfl h
  · have h := h.2 (of_decide_eq_false hc)
    refine gw_ldc (n := (-2000000001)) d_GT_restore_7 kw_GT_76 (by decide +kernel) ?_
    exact gw_ireturn d_GT_restore_9 rfl h

theorem k_GT_undo_0 {G : ga_G} {d : Nat} {I : ga_I} {E : Option ga_V → ga_I → Prop}  
    (h : ga_RG I → (((I 55 0) ≠ 0) → (gr_H I) ∧ ((0 < I 55 0) ∧ ((∀ I1 : ga_I, gr_bb I I1 → E (some (.inl (I1 55 0))) I1)))) ∧ (((I 55 0) = 0) → E (some (.inl (-2000000002))) I)) :
    ga_W G (d + 5) mt_GT_undo 0 (ga_en 1 [.inr 0]) [] I E := by
  show ga_W G (d + 5) mt_GT_undo 0 [some (.inr 0)] [] I E
  refine gw_RG (fun hI1 => ?_)
  have h := h hI1
  refine gw_aload_n 0 d_GT_undo_0 rfl rfl ?_
  refine gw_getR d_GT_undo_1 fl_GT_19 (ga_oG) rfl ?_
  refine gw_getI d_GT_undo_4 fl_GT_231 (ga_oH) rfl ?_
  refine gw_if_ne 13 d_GT_undo_7 (by decide) (hI1 _ _) (fun hc => ?_) (fun hc => ?_)
  · have h := h.1 hc
    refine gw_aload_n 0 d_GT_undo_13 rfl rfl ?_
    refine gw_getR d_GT_undo_14 fl_GT_19 (ga_oG) rfl ?_
    refine gw_aload_n 0 d_GT_undo_17 rfl rfl ?_
    refine gw_getR d_GT_undo_18 fl_GT_12 (ga_oG) rfl ?_
    obtain ⟨g1, h⟩ := h
    obtain ⟨g2, h⟩ := h
    refine gw_invV (as := [.inr 1]) (k := 55) (rest := []) (d' := (d + 4)) d_GT_undo_21 lk_GT_232 (ga_rcv (ga_oH) rfl rfl) rfl (Nat.le_of_ble_eq_true rfl) (Nat.le_of_ble_eq_true rfl) rfl rfl (s_History_bringBack g1 g2 (fun I1 q1 => ?_))
    have h := h I1 q1
    show ga_W G (d + 5) mt_GT_undo 24 [some (.inr 0)] [] I1 E
    refine gw_RG (fun hI2 => ?_)
    refine gw_aload_n 0 d_GT_undo_24 rfl rfl ?_
    refine gw_getR d_GT_undo_25 fl_GT_19 (ga_oG) rfl ?_
    refine gw_getI d_GT_undo_28 fl_GT_231 (ga_oH) rfl ?_
    exact gw_ireturn d_GT_undo_31 rfl h
  · have h := h.2 hc
    refine gw_ldc (n := (-2000000002)) d_GT_undo_10 kw_GT_87 (by decide +kernel) ?_
    exact gw_ireturn d_GT_undo_12 rfl h

theorem k_GT_append_0 {G : ga_G} {d : Nat} {I : ga_I} {E : Option ga_V → ga_I → Prop} {v1 : Int} (r1 : ga_rg v1)
    (h : ga_RG I → (((1 : Int) ≤ v1 ∧ v1 ≤ (255 : Int)) → (((I 327 0) < 160) → (0 ≤ v1) ∧ ((v1 < 65536) ∧ ((gr_X I) ∧ ((I 327 0 < 160) ∧ ((0 ≤ v1 ∧ v1 < 65536) ∧ ((∀ I1 : ga_I, I1 = (ga_up (ga_up I 328 (I 327 0).toNat v1) 327 0 (I 327 0 + 1)) → E (some (.inl (I1 327 0))) I1))))))) ∧ ((¬ ((I 327 0) < 160)) → E (some (.inl (-2000000003))) I)) ∧ ((¬ ((1 : Int) ≤ v1 ∧ v1 ≤ (255 : Int))) → E (some (.inl (-2000000001))) I)) :
    ga_W G (d + 1) mt_GT_append 0 (ga_en 2 [.inr 0, .inl v1]) [] I E := by
  show ga_W G (d + 1) mt_GT_append 0 [some (.inr 0), some (.inl v1)] [] I E
  refine gw_RG (fun hI1 => ?_)
  have h := h hI1
  refine gw_iload_n 1 d_GT_append_0 rfl rfl ?_
  refine gw_iconst d_GT_append_1 ?_
  refine gw_sipush d_GT_append_2 (by decide +kernel) ?_
  refine gw_invS (as := [.inl v1, .inl 1, .inl 255]) (rest := []) (d' := d) d_GT_append_5 lk_GT_65 rfl (Nat.le_of_ble_eq_true rfl) (Nat.le_of_ble_eq_true rfl) rfl rfl (s_GT_isIn r1 ⟨by decide, by decide⟩ ⟨by decide, by decide⟩ ?_)
  show ga_W G (d + 1) mt_GT_append 8 [some (.inr 0), some (.inl v1)] [.inl (ga_bb (decide ((1 : Int) ≤ v1 ∧ v1 ≤ (255 : Int))))] I E
  refine gw_ifb_ne 14 d_GT_append_8 (by decide) (fun hc => ?_) (fun hc => ?_)
  · have h := h.1 (of_decide_eq_true hc)
    refine gw_aload_n 0 d_GT_append_14 rfl rfl ?_
    refine gw_getR d_GT_append_15 fl_GT_26 (ga_oG) rfl ?_
    refine gw_getI d_GT_append_18 fl_GT_235 (ga_oX) rfl ?_
    refine gw_sipush d_GT_append_21 (by decide +kernel) ?_
    refine gw_icmp_lt 30 d_GT_append_24 (by decide) (hI1 _ _) ⟨by decide, by decide⟩ (fun hc => ?_) (fun hc => ?_)
    · have h := h.1 hc
      refine gw_aload_n 0 d_GT_append_30 rfl rfl ?_
      refine gw_getR d_GT_append_31 fl_GT_26 (ga_oG) rfl ?_
      refine gw_iload_n 1 d_GT_append_34 rfl rfl ?_
      obtain ⟨g1, h⟩ := h
      obtain ⟨g2, h⟩ := h
      refine gw_i2c d_GT_append_35 g1 g2 ?_
      obtain ⟨g3, h⟩ := h
      obtain ⟨g4, h⟩ := h
      obtain ⟨g5, h⟩ := h
      refine gw_invV (as := [.inl v1]) (k := 327) (rest := []) (d' := d) d_GT_append_36 lk_GT_238 (ga_rcv (ga_oX) rfl rfl) rfl (Nat.le_of_ble_eq_true rfl) (Nat.le_of_ble_eq_true rfl) rfl rfl (s_Text_put g3 g4 g5 ?_)
      show ga_W G (d + 1) mt_GT_append 39 [some (.inr 0), some (.inl v1)] [] (ga_up (ga_up I 328 (I 327 0).toNat v1) 327 0 (I 327 0 + 1)) E
      refine gw_nm (fun I1 q1 => ?_)
      have h := h I1 q1
      refine gw_RG (fun hI2 => ?_)
      refine gw_aload_n 0 d_GT_append_39 rfl rfl ?_
      refine gw_getR d_GT_append_40 fl_GT_26 (ga_oG) rfl ?_
      refine gw_getI d_GT_append_43 fl_GT_235 (ga_oX) rfl ?_
      exact gw_ireturn d_GT_append_46 rfl h
    · have h := h.2 hc
      refine gw_ldc (n := (-2000000003)) d_GT_append_27 kw_GT_92 (by decide +kernel) ?_
      exact gw_ireturn d_GT_append_29 rfl h
  · have h := h.2 (of_decide_eq_false hc)
    refine gw_ldc (n := (-2000000001)) d_GT_append_11 kw_GT_76 (by decide +kernel) ?_
    exact gw_ireturn d_GT_append_13 rfl h
