/-! the class: items read -/
theorem k_Text_readBorder_0 {G : ga_G} {d : Nat} {I : ga_I} {E : Option ga_V → ga_I → Prop} {o1 : Nat} {v2 : Int} (ho1 : ga_isT o1) (r2 : ga_rg v2)
    (h : ga_RG I → (∀ I1 : ga_I, I1 = (ga_up I 327 2 (ga_wr ((I 327 2) + 1))) → ga_W G (d + 2) mt_Text_readNumber 0 (ga_en 7 [.inr 327, .inl 1, .inl 999]) [] I1 (fun v I2 => ∃ z1 : Int, v = some (.inl z1) ∧ (ga_W G (d + 2) mt_Text_readNumber 0 (ga_en 7 [.inr 327, .inl 0, .inl 100]) [] I2 (fun v I3 => ∃ z2 : Int, v = some (.inl z2) ∧ ((((I3 327 1) ≠ (-1)) → ga_W G (d + 2) mt_Text_readEndOfItem 0 (ga_en 1 [.inr 327]) [] I3 (fun v I4 => v = none ∧ ((((I4 327 1) = (-1)) → (ga_rg z2) ∧ (((¬ ((if (0 : Int) = 1 then 1 else 0) ≤ z2 ∧ z2 ≤ 100)) → (∀ I5 : ga_I, I5 = (ga_up I4 327 1 (I 327 2)) → E none I5)) ∧ (((if (0 : Int) = 1 then 1 else 0) ≤ z2 ∧ z2 ≤ 100) → (ga_rg (z1 - z2)) ∧ ((ga_rg (z1 + z2)) ∧ (((¬ (0 ≤ z1 - z2 ∧ z1 + z2 ≤ 1000)) → (∀ I6 : ga_I, I6 = (ga_up I4 327 1 (I 327 2)) → E none I6)) ∧ ((0 ≤ z1 - z2 ∧ z1 + z2 ≤ 1000) → (gb_ok I4 (ga_bo o1 v2)) ∧ (((gp_fr (I4 ((ga_bo o1 v2) + 1)) (I4 ((ga_bo o1 v2) + 3)) z1 z2 ((-1) : Int) (I4 (ga_bo o1 v2) 0).toNat = false) → (∀ I7 : ga_I, I7 = (ga_up I4 327 1 (I 327 2)) → E none I7)) ∧ ((gp_fr (I4 ((ga_bo o1 v2) + 1)) (I4 ((ga_bo o1 v2) + 3)) z1 z2 ((-1) : Int) (I4 (ga_bo o1 v2) 0).toNat = true) → ((6 ≤ I4 (ga_bo o1 v2) 0) → (∀ I8 : ga_I, I8 = (ga_up I4 327 1 (I 327 2)) → E none I8)) ∧ ((¬ (6 ≤ I4 (ga_bo o1 v2) 0)) → (I4 (ga_bo o1 v2) 0 < 6) ∧ ((ga_rg z1) ∧ ((∀ I9 : ga_I, gr_sp I4 I9 o1 v2 (gp_st (I4 (ga_bo o1 v2 + 1)) z1 (I4 (ga_bo o1 v2) 0).toNat).toNat (I4 (ga_bo o1 v2) 0).toNat z1 (0 : Int) z2 → E none I9)))))))))))) ∧ ((¬ ((I4 327 1) = (-1))) → E none I4)))) ∧ (((I3 327 1) = (-1)) → (xo_x I3) ∧ ((∀ I10 : ga_I, I10 = (ga_up I3 327 2 (xt_p I3 : Nat)) → (ga_rg (xt_hv I3)) ∧ ((((xt_hv I3) ≠ 126) → ga_W G (d + 2) mt_Text_readEndOfItem 0 (ga_en 1 [.inr 327]) [] I10 (fun v I11 => v = none ∧ ((((I11 327 1) = (-1)) → (ga_rg z2) ∧ (((¬ ((if (0 : Int) = 1 then 1 else 0) ≤ z2 ∧ z2 ≤ 100)) → (∀ I12 : ga_I, I12 = (ga_up I11 327 1 (I 327 2)) → E none I12)) ∧ (((if (0 : Int) = 1 then 1 else 0) ≤ z2 ∧ z2 ≤ 100) → (ga_rg (z1 - z2)) ∧ ((ga_rg (z1 + z2)) ∧ (((¬ (0 ≤ z1 - z2 ∧ z1 + z2 ≤ 1000)) → (∀ I13 : ga_I, I13 = (ga_up I11 327 1 (I 327 2)) → E none I13)) ∧ ((0 ≤ z1 - z2 ∧ z1 + z2 ≤ 1000) → (gb_ok I11 (ga_bo o1 v2)) ∧ (((gp_fr (I11 ((ga_bo o1 v2) + 1)) (I11 ((ga_bo o1 v2) + 3)) z1 z2 ((-1) : Int) (I11 (ga_bo o1 v2) 0).toNat = false) → (∀ I14 : ga_I, I14 = (ga_up I11 327 1 (I 327 2)) → E none I14)) ∧ ((gp_fr (I11 ((ga_bo o1 v2) + 1)) (I11 ((ga_bo o1 v2) + 3)) z1 z2 ((-1) : Int) (I11 (ga_bo o1 v2) 0).toNat = true) → ((6 ≤ I11 (ga_bo o1 v2) 0) → (∀ I15 : ga_I, I15 = (ga_up I11 327 1 (I 327 2)) → E none I15)) ∧ ((¬ (6 ≤ I11 (ga_bo o1 v2) 0)) → (I11 (ga_bo o1 v2) 0 < 6) ∧ ((ga_rg z1) ∧ ((∀ I16 : ga_I, gr_sp I11 I16 o1 v2 (gp_st (I11 (ga_bo o1 v2 + 1)) z1 (I11 (ga_bo o1 v2) 0).toNat).toNat (I11 (ga_bo o1 v2) 0).toNat z1 (0 : Int) z2 → E none I16)))))))))))) ∧ ((¬ ((I11 327 1) = (-1))) → E none I11)))) ∧ (((xt_hv I3) = 126) → (∀ I17 : ga_I, I17 = (ga_up I10 327 2 (ga_wr ((I10 327 2) + 1))) → ga_W G (d + 2) mt_Text_readEndOfItem 0 (ga_en 1 [.inr 327]) [] I17 (fun v I18 => v = none ∧ ((((I18 327 1) = (-1)) → (ga_rg z2) ∧ (((¬ ((if (1 : Int) = 1 then 1 else 0) ≤ z2 ∧ z2 ≤ 100)) → (∀ I19 : ga_I, I19 = (ga_up I18 327 1 (I 327 2)) → E none I19)) ∧ (((if (1 : Int) = 1 then 1 else 0) ≤ z2 ∧ z2 ≤ 100) → (ga_rg (z1 - z2)) ∧ ((ga_rg (z1 + z2)) ∧ (((¬ (0 ≤ z1 - z2 ∧ z1 + z2 ≤ 1000)) → (∀ I20 : ga_I, I20 = (ga_up I18 327 1 (I 327 2)) → E none I20)) ∧ ((0 ≤ z1 - z2 ∧ z1 + z2 ≤ 1000) → (gb_ok I18 (ga_bo o1 v2)) ∧ (((gp_fr (I18 ((ga_bo o1 v2) + 1)) (I18 ((ga_bo o1 v2) + 3)) z1 z2 ((-1) : Int) (I18 (ga_bo o1 v2) 0).toNat = false) → (∀ I21 : ga_I, I21 = (ga_up I18 327 1 (I 327 2)) → E none I21)) ∧ ((gp_fr (I18 ((ga_bo o1 v2) + 1)) (I18 ((ga_bo o1 v2) + 3)) z1 z2 ((-1) : Int) (I18 (ga_bo o1 v2) 0).toNat = true) → ((6 ≤ I18 (ga_bo o1 v2) 0) → (∀ I22 : ga_I, I22 = (ga_up I18 327 1 (I 327 2)) → E none I22)) ∧ ((¬ (6 ≤ I18 (ga_bo o1 v2) 0)) → (I18 (ga_bo o1 v2) 0 < 6) ∧ ((ga_rg z1) ∧ ((∀ I23 : ga_I, gr_sp I18 I23 o1 v2 (gp_st (I18 (ga_bo o1 v2 + 1)) z1 (I18 (ga_bo o1 v2) 0).toNat).toNat (I18 (ga_bo o1 v2) 0).toNat z1 (1 : Int) z2 → E none I23)))))))))))) ∧ ((¬ ((I18 327 1) = (-1))) → E none I18))))))))))))))) :
    ga_W G (d + 3) mt_Text_readBorder 0 (ga_en 8 [.inr 327, .inr o1, .inl v2]) [] I E := by
  show ga_W G (d + 3) mt_Text_readBorder 0 [some (.inr 327), some (.inr o1), some (.inl v2), none, none, none, none, none] [] I E
  refine gw_RG (fun hI1 => ?_)
  have h := h hI1
  refine gw_aload_n 0 d_Text_readBorder_0 rfl rfl ?_
  refine gw_getI d_Text_readBorder_1 fl_Text_27 (ga_oX) rfl ?_
  refine gw_istore_n 3 d_Text_readBorder_4 rfl (Nat.le_of_ble_eq_true rfl) rfl ?_
  refine gw_aload_n 0 d_Text_readBorder_5 rfl rfl ?_
  refine gw_dup d_Text_readBorder_6 ?_
  refine gw_getI d_Text_readBorder_7 fl_Text_27 (ga_oX) rfl ?_
  refine gw_iconst d_Text_readBorder_10 ?_
  refine gw_iadd d_Text_readBorder_11 ?_
  refine gw_putI d_Text_readBorder_12 fp_Text_27 (ga_oX) rfl ?_
  refine gw_nm (J := (ga_up I 327 2 (ga_wr ((I 327 2) + 1)))) (fun I1 q1 => ?_)
  have h := h I1 q1
  refine gw_RG (fun hI2 => ?_)
  refine gw_aload_n 0 d_Text_readBorder_15 rfl rfl ?_
  refine gw_iconst d_Text_readBorder_16 ?_
  refine gw_sipush d_Text_readBorder_17 (by decide +kernel) ?_
  refine gw_invV (as := [.inl 1, .inl 999]) (k := 327) (rest := []) (d' := (d + 2)) d_Text_readBorder_20 lk_Text_45 (ga_rcv (ga_oX) rfl rfl) rfl (Nat.le_of_ble_eq_true rfl) (Nat.le_of_ble_eq_true rfl) rfl rfl (gw_mono (fun v I2 hv => ?_) h)
  obtain ⟨z1, rfl, h⟩ := hv
  show ga_W G (d + 3) mt_Text_readBorder 23 [some (.inr 327), some (.inr o1), some (.inl v2), some (.inl (I 327 2)), none, none, none, none] [.inl z1] I2 E
  refine gw_RG (fun hI3 => ?_)
  refine gw_istore 4 d_Text_readBorder_23 (Nat.le_of_ble_eq_true rfl) rfl ?_
  refine gw_aload_n 0 d_Text_readBorder_25 rfl rfl ?_
  refine gw_iconst d_Text_readBorder_26 ?_
  refine gw_bipush d_Text_readBorder_27 (by decide +kernel) ?_
  refine gw_invV (as := [.inl 0, .inl 100]) (k := 327) (rest := []) (d' := (d + 2)) d_Text_readBorder_29 lk_Text_45 (ga_rcv (ga_oX) rfl rfl) rfl (Nat.le_of_ble_eq_true rfl) (Nat.le_of_ble_eq_true rfl) rfl rfl (gw_mono (fun v I3 hv => ?_) h)
  obtain ⟨z2, rfl, h⟩ := hv
  show ga_W G (d + 3) mt_Text_readBorder 32 [some (.inr 327), some (.inr o1), some (.inl v2), some (.inl (I 327 2)), some (.inl z1), none, none, none] [.inl z2] I3 E
  refine gw_RG (fun hI4 => ?_)
  refine gw_istore 5 d_Text_readBorder_32 (Nat.le_of_ble_eq_true rfl) rfl ?_
  refine gw_iconst d_Text_readBorder_34 ?_
  refine gw_istore 6 d_Text_readBorder_35 (Nat.le_of_ble_eq_true rfl) rfl ?_
  refine gw_aload_n 0 d_Text_readBorder_37 rfl rfl ?_
  refine gw_getI d_Text_readBorder_38 fl_Text_11 (ga_oX) rfl ?_
  refine gw_iconst d_Text_readBorder_41 ?_
  refine gw_icmp_ne 67 d_Text_readBorder_42 (by decide) (hI4 _ _) ⟨by decide, by decide⟩ (fun hc => ?_) (fun hc => ?_)
  · have h := h.1 hc
    refine gw_aload_n 0 d_Text_readBorder_67 rfl rfl ?_
    refine gw_invV (as := []) (k := 327) (rest := []) (d' := (d + 2)) d_Text_readBorder_68 lk_Text_49 (ga_rcv (ga_oX) rfl rfl) rfl (Nat.le_of_ble_eq_true rfl) (Nat.le_of_ble_eq_true rfl) rfl rfl (gw_mono (fun v I4 hv => ?_) h)
    obtain ⟨rfl, h⟩ := hv
    show ga_W G (d + 3) mt_Text_readBorder 71 [some (.inr 327), some (.inr o1), some (.inl v2), some (.inl (I 327 2)), some (.inl z1), some (.inl z2), some (.inl 0), none] [] I4 E
    refine gw_RG (fun hI5 => ?_)
    refine gw_aload_n 0 d_Text_readBorder_71 rfl rfl ?_
    refine gw_getI d_Text_readBorder_72 fl_Text_11 (ga_oX) rfl ?_
    refine gw_iconst d_Text_readBorder_75 ?_
    refine gw_icmp_eq 80 d_Text_readBorder_76 (by decide) (hI5 _ _) ⟨by decide, by decide⟩ (fun hc => ?_) (fun hc => ?_)
    · have h := h.1 hc
      refine gw_aload_n 1 d_Text_readBorder_80 rfl rfl ?_
      refine gw_iload_n 2 d_Text_readBorder_81 rfl rfl ?_
      refine gw_invV (as := [.inl v2]) (k := o1) (rest := []) (d' := (d + 2)) d_Text_readBorder_82 lk_Text_52 (ga_rcv (ho1.1) rfl rfl) rfl (Nat.le_of_ble_eq_true rfl) (Nat.le_of_ble_eq_true rfl) rfl rfl (s_Table_bordersOf ho1 r2 ?_)
      show ga_W G (d + 3) mt_Text_readBorder 85 [some (.inr 327), some (.inr o1), some (.inl v2), some (.inl (I 327 2)), some (.inl z1), some (.inl z2), some (.inl 0), none] [.inr (ga_bo o1 v2)] I4 E
      refine gw_astore 7 d_Text_readBorder_85 (Nat.le_of_ble_eq_true rfl) rfl ?_
      refine gw_iload 6 d_Text_readBorder_87 rfl ?_
      refine gw_iload 5 d_Text_readBorder_89 rfl ?_
      obtain ⟨g1, h⟩ := h
      refine gw_invN (as := [.inl 0, .inl z2]) (rest := []) (d' := (d + 2)) d_Text_readBorder_91 lk_Text_56 rfl (Nat.le_of_ble_eq_true rfl) (Nat.le_of_ble_eq_true rfl) rfl rfl (s_GT_isReach ⟨by decide, by decide⟩ g1 ?_)
      show ga_W G (d + 3) mt_Text_readBorder 94 [some (.inr 327), some (.inr o1), some (.inl v2), some (.inl (I 327 2)), some (.inl z1), some (.inl z2), some (.inl 0), some (.inr (ga_bo o1 v2))] [.inl (ga_bb (decide ((if (0 : Int) = 1 then 1 else 0) ≤ z2 ∧ z2 ≤ 100)))] I4 E
      refine gw_ifb_eq 143 d_Text_readBorder_94 (by decide) (fun hc => ?_) (fun hc => ?_)
      · have h := h.1 (of_decide_eq_false hc)
        refine gw_aload_n 0 d_Text_readBorder_143 rfl rfl ?_
        refine gw_iload_n 3 d_Text_readBorder_144 rfl rfl ?_
        refine gw_putI d_Text_readBorder_145 fp_Text_11 (ga_oX) rfl ?_
        show ga_W G (d + 3) mt_Text_readBorder 148 [some (.inr 327), some (.inr o1), some (.inl v2), some (.inl (I 327 2)), some (.inl z1), some (.inl z2), some (.inl 0), some (.inr (ga_bo o1 v2))] [] (ga_up I4 327 1 (ga_wr (I 327 2))) E
        rw [ga_wr_eq (z := (I 327 2)) (hI1 _ _)]
        refine gw_nm (J := (ga_up I4 327 1 (I 327 2))) (fun I5 q2 => ?_)
        have h := h I5 q2
        refine gw_RG (fun hI6 => ?_)
        exact gw_return d_Text_readBorder_148 rfl h
      · have h := h.2 (of_decide_eq_true hc)
        refine gw_iload 4 d_Text_readBorder_97 rfl ?_
        refine gw_iload 5 d_Text_readBorder_99 rfl ?_
        obtain ⟨g2, h⟩ := h
        obtain ⟨g3, h⟩ := h
        refine gw_invS (as := [.inl z1, .inl z2]) (rest := []) (d' := (d + 2)) d_Text_readBorder_101 lk_Text_60 rfl (Nat.le_of_ble_eq_true rfl) (Nat.le_of_ble_eq_true rfl) rfl rfl (s_Borders_isInside g2 g3 ?_)
        show ga_W G (d + 3) mt_Text_readBorder 104 [some (.inr 327), some (.inr o1), some (.inl v2), some (.inl (I 327 2)), some (.inl z1), some (.inl z2), some (.inl 0), some (.inr (ga_bo o1 v2))] [.inl (ga_bb (decide (0 ≤ z1 - z2 ∧ z1 + z2 ≤ 1000)))] I4 E
        refine gw_ifb_eq 143 d_Text_readBorder_104 (by decide) (fun hc => ?_) (fun hc => ?_)
        · have h := h.1 (of_decide_eq_false hc)
          refine gw_aload_n 0 d_Text_readBorder_143 rfl rfl ?_
          refine gw_iload_n 3 d_Text_readBorder_144 rfl rfl ?_
          refine gw_putI d_Text_readBorder_145 fp_Text_11 (ga_oX) rfl ?_
          show ga_W G (d + 3) mt_Text_readBorder 148 [some (.inr 327), some (.inr o1), some (.inl v2), some (.inl (I 327 2)), some (.inl z1), some (.inl z2), some (.inl 0), some (.inr (ga_bo o1 v2))] [] (ga_up I4 327 1 (ga_wr (I 327 2))) E
          rw [ga_wr_eq (z := (I 327 2)) (hI1 _ _)]
          refine gw_nm (J := (ga_up I4 327 1 (I 327 2))) (fun I6 q3 => ?_)
          have h := h I6 q3
          refine gw_RG (fun hI7 => ?_)
          exact gw_return d_Text_readBorder_148 rfl h
        · have h := h.2 (of_decide_eq_true hc)
          refine gw_aload 7 d_Text_readBorder_107 rfl ?_
          refine gw_iload 4 d_Text_readBorder_109 rfl ?_
          refine gw_iload 5 d_Text_readBorder_111 rfl ?_
          refine gw_iconst d_Text_readBorder_113 ?_
          obtain ⟨g4, h⟩ := h
          refine gw_invV (as := [.inl z1, .inl z2, .inl (-1)]) (k := (ga_bo o1 v2)) (rest := []) (d' := (d + 2)) d_Text_readBorder_114 lk_Text_65 (ga_rcv ((ga_bo_B ho1 v2).1) rfl rfl) rfl (Nat.le_of_ble_eq_true rfl) (Nat.le_of_ble_eq_true rfl) rfl rfl (s_Borders_isFree (ga_bo_B ho1 v2) g4 ⟨by decide, by decide⟩ g2 g3 ?_)
          show ga_W G (d + 3) mt_Text_readBorder 117 [some (.inr 327), some (.inr o1), some (.inl v2), some (.inl (I 327 2)), some (.inl z1), some (.inl z2), some (.inl 0), some (.inr (ga_bo o1 v2))] [.inl (ga_bb (gp_fr (I4 ((ga_bo o1 v2) + 1)) (I4 ((ga_bo o1 v2) + 3)) z1 z2 ((-1) : Int) (I4 (ga_bo o1 v2) 0).toNat))] I4 E
          refine gw_ifb_eq 143 d_Text_readBorder_117 (by decide) (fun hc => ?_) (fun hc => ?_)
          · have h := h.1 (hc)
            refine gw_aload_n 0 d_Text_readBorder_143 rfl rfl ?_
            refine gw_iload_n 3 d_Text_readBorder_144 rfl rfl ?_
            refine gw_putI d_Text_readBorder_145 fp_Text_11 (ga_oX) rfl ?_
            show ga_W G (d + 3) mt_Text_readBorder 148 [some (.inr 327), some (.inr o1), some (.inl v2), some (.inl (I 327 2)), some (.inl z1), some (.inl z2), some (.inl 0), some (.inr (ga_bo o1 v2))] [] (ga_up I4 327 1 (ga_wr (I 327 2))) E
            rw [ga_wr_eq (z := (I 327 2)) (hI1 _ _)]
            refine gw_nm (J := (ga_up I4 327 1 (I 327 2))) (fun I7 q4 => ?_)
            have h := h I7 q4
            refine gw_RG (fun hI8 => ?_)
            exact gw_return d_Text_readBorder_148 rfl h
          · have h := h.2 (hc)
            refine gw_aload 7 d_Text_readBorder_120 rfl ?_
            refine gw_invV (as := []) (k := (ga_bo o1 v2)) (rest := []) (d' := (d + 2)) d_Text_readBorder_122 lk_Text_69 (ga_rcv ((ga_bo_B ho1 v2).1) rfl rfl) rfl (Nat.le_of_ble_eq_true rfl) (Nat.le_of_ble_eq_true rfl) rfl rfl (s_Borders_isFull (ga_bo_B ho1 v2) ?_)
            show ga_W G (d + 3) mt_Text_readBorder 125 [some (.inr 327), some (.inr o1), some (.inl v2), some (.inl (I 327 2)), some (.inl z1), some (.inl z2), some (.inl 0), some (.inr (ga_bo o1 v2))] [.inl (ga_bb (decide (6 ≤ I4 (ga_bo o1 v2) 0)))] I4 E
            refine gw_ifb_ne 143 d_Text_readBorder_125 (by decide) (fun hc => ?_) (fun hc => ?_)
            · have h := h.1 (of_decide_eq_true hc)
              refine gw_aload_n 0 d_Text_readBorder_143 rfl rfl ?_
              refine gw_iload_n 3 d_Text_readBorder_144 rfl rfl ?_
              refine gw_putI d_Text_readBorder_145 fp_Text_11 (ga_oX) rfl ?_
              show ga_W G (d + 3) mt_Text_readBorder 148 [some (.inr 327), some (.inr o1), some (.inl v2), some (.inl (I 327 2)), some (.inl z1), some (.inl z2), some (.inl 0), some (.inr (ga_bo o1 v2))] [] (ga_up I4 327 1 (ga_wr (I 327 2))) E
              rw [ga_wr_eq (z := (I 327 2)) (hI1 _ _)]
              refine gw_nm (J := (ga_up I4 327 1 (I 327 2))) (fun I8 q5 => ?_)
              have h := h I8 q5
              refine gw_RG (fun hI9 => ?_)
              exact gw_return d_Text_readBorder_148 rfl h
            · have h := h.2 (of_decide_eq_false hc)
              refine gw_aload_n 1 d_Text_readBorder_128 rfl rfl ?_
              refine gw_iload_n 2 d_Text_readBorder_129 rfl rfl ?_
              refine gw_iload 4 d_Text_readBorder_130 rfl ?_
              refine gw_iload 6 d_Text_readBorder_132 rfl ?_
              refine gw_iload 5 d_Text_readBorder_134 rfl ?_
              obtain ⟨g5, h⟩ := h
              obtain ⟨g6, h⟩ := h
              refine gw_invV (as := [.inl v2, .inl z1, .inl 0, .inl z2]) (k := o1) (rest := []) (d' := (d + 2)) d_Text_readBorder_136 lk_Text_73 (ga_rcv (ho1.1) rfl rfl) rfl (Nat.le_of_ble_eq_true rfl) (Nat.le_of_ble_eq_true rfl) rfl rfl (s_Table_splitAt ho1 r2 g4 g5 g6 ⟨by decide, by decide⟩ g1 (fun I9 q6 => ?_))
              have h := h I9 q6
              show ga_W G (d + 3) mt_Text_readBorder 139 [some (.inr 327), some (.inr o1), some (.inl v2), some (.inl (I 327 2)), some (.inl z1), some (.inl z2), some (.inl 0), some (.inr (ga_bo o1 v2))] [.inl (gp_st (I4 (ga_bo o1 v2 + 1)) z1 (I4 (ga_bo o1 v2) 0).toNat)] I9 E
              refine gw_RG (fun hI10 => ?_)
              refine gw_pop d_Text_readBorder_139 ?_
              refine gw_goto 148 d_Text_readBorder_140 (by decide) ?_
              exact gw_return d_Text_readBorder_148 rfl h
    · have h := h.2 hc
      exact gw_return d_Text_readBorder_79 rfl h
  · have h := h.2 hc
    refine gw_aload_n 0 d_Text_readBorder_45 rfl rfl ?_
    obtain ⟨g7, h⟩ := h
    refine gw_invV (as := []) (k := 327) (rest := []) (d' := (d + 2)) d_Text_readBorder_46 lk_Text_30 (ga_rcv (ga_oX) rfl rfl) rfl (Nat.le_of_ble_eq_true rfl) (Nat.le_of_ble_eq_true rfl) rfl rfl (s_Text_peek g7 ?_)
    show ga_W G (d + 3) mt_Text_readBorder 49 [some (.inr 327), some (.inr o1), some (.inl v2), some (.inl (I 327 2)), some (.inl z1), some (.inl z2), some (.inl 0), none] [.inl (xt_hv I3)] (ga_up I3 327 2 (xt_p I3 : Nat)) E
    refine gw_nm (fun I10 q7 => ?_)
    have h := h I10 q7
    refine gw_RG (fun hI11 => ?_)
    refine gw_bipush d_Text_readBorder_49 (by decide +kernel) ?_
    obtain ⟨g8, h⟩ := h
    refine gw_icmp_ne 67 d_Text_readBorder_51 (by decide) g8 ⟨by decide, by decide⟩ (fun hc => ?_) (fun hc => ?_)
    · have h := h.1 hc
      refine gw_aload_n 0 d_Text_readBorder_67 rfl rfl ?_
      refine gw_invV (as := []) (k := 327) (rest := []) (d' := (d + 2)) d_Text_readBorder_68 lk_Text_49 (ga_rcv (ga_oX) rfl rfl) rfl (Nat.le_of_ble_eq_true rfl) (Nat.le_of_ble_eq_true rfl) rfl rfl (gw_mono (fun v I11 hv => ?_) h)
      obtain ⟨rfl, h⟩ := hv
      show ga_W G (d + 3) mt_Text_readBorder 71 [some (.inr 327), some (.inr o1), some (.inl v2), some (.inl (I 327 2)), some (.inl z1), some (.inl z2), some (.inl 0), none] [] I11 E
      refine gw_RG (fun hI12 => ?_)
      refine gw_aload_n 0 d_Text_readBorder_71 rfl rfl ?_
      refine gw_getI d_Text_readBorder_72 fl_Text_11 (ga_oX) rfl ?_
      refine gw_iconst d_Text_readBorder_75 ?_
      refine gw_icmp_eq 80 d_Text_readBorder_76 (by decide) (hI12 _ _) ⟨by decide, by decide⟩ (fun hc => ?_) (fun hc => ?_)
      · have h := h.1 hc
        refine gw_aload_n 1 d_Text_readBorder_80 rfl rfl ?_
        refine gw_iload_n 2 d_Text_readBorder_81 rfl rfl ?_
        refine gw_invV (as := [.inl v2]) (k := o1) (rest := []) (d' := (d + 2)) d_Text_readBorder_82 lk_Text_52 (ga_rcv (ho1.1) rfl rfl) rfl (Nat.le_of_ble_eq_true rfl) (Nat.le_of_ble_eq_true rfl) rfl rfl (s_Table_bordersOf ho1 r2 ?_)
        show ga_W G (d + 3) mt_Text_readBorder 85 [some (.inr 327), some (.inr o1), some (.inl v2), some (.inl (I 327 2)), some (.inl z1), some (.inl z2), some (.inl 0), none] [.inr (ga_bo o1 v2)] I11 E
        refine gw_astore 7 d_Text_readBorder_85 (Nat.le_of_ble_eq_true rfl) rfl ?_
        refine gw_iload 6 d_Text_readBorder_87 rfl ?_
        refine gw_iload 5 d_Text_readBorder_89 rfl ?_
        obtain ⟨g9, h⟩ := h
        refine gw_invN (as := [.inl 0, .inl z2]) (rest := []) (d' := (d + 2)) d_Text_readBorder_91 lk_Text_56 rfl (Nat.le_of_ble_eq_true rfl) (Nat.le_of_ble_eq_true rfl) rfl rfl (s_GT_isReach ⟨by decide, by decide⟩ g9 ?_)
        show ga_W G (d + 3) mt_Text_readBorder 94 [some (.inr 327), some (.inr o1), some (.inl v2), some (.inl (I 327 2)), some (.inl z1), some (.inl z2), some (.inl 0), some (.inr (ga_bo o1 v2))] [.inl (ga_bb (decide ((if (0 : Int) = 1 then 1 else 0) ≤ z2 ∧ z2 ≤ 100)))] I11 E
        refine gw_ifb_eq 143 d_Text_readBorder_94 (by decide) (fun hc => ?_) (fun hc => ?_)
        · have h := h.1 (of_decide_eq_false hc)
          refine gw_aload_n 0 d_Text_readBorder_143 rfl rfl ?_
          refine gw_iload_n 3 d_Text_readBorder_144 rfl rfl ?_
          refine gw_putI d_Text_readBorder_145 fp_Text_11 (ga_oX) rfl ?_
          show ga_W G (d + 3) mt_Text_readBorder 148 [some (.inr 327), some (.inr o1), some (.inl v2), some (.inl (I 327 2)), some (.inl z1), some (.inl z2), some (.inl 0), some (.inr (ga_bo o1 v2))] [] (ga_up I11 327 1 (ga_wr (I 327 2))) E
          rw [ga_wr_eq (z := (I 327 2)) (hI1 _ _)]
          refine gw_nm (J := (ga_up I11 327 1 (I 327 2))) (fun I12 q8 => ?_)
          have h := h I12 q8
          refine gw_RG (fun hI13 => ?_)
          exact gw_return d_Text_readBorder_148 rfl h
        · have h := h.2 (of_decide_eq_true hc)
          refine gw_iload 4 d_Text_readBorder_97 rfl ?_
          refine gw_iload 5 d_Text_readBorder_99 rfl ?_
          obtain ⟨g10, h⟩ := h
          obtain ⟨g11, h⟩ := h
          refine gw_invS (as := [.inl z1, .inl z2]) (rest := []) (d' := (d + 2)) d_Text_readBorder_101 lk_Text_60 rfl (Nat.le_of_ble_eq_true rfl) (Nat.le_of_ble_eq_true rfl) rfl rfl (s_Borders_isInside g10 g11 ?_)
          show ga_W G (d + 3) mt_Text_readBorder 104 [some (.inr 327), some (.inr o1), some (.inl v2), some (.inl (I 327 2)), some (.inl z1), some (.inl z2), some (.inl 0), some (.inr (ga_bo o1 v2))] [.inl (ga_bb (decide (0 ≤ z1 - z2 ∧ z1 + z2 ≤ 1000)))] I11 E
          refine gw_ifb_eq 143 d_Text_readBorder_104 (by decide) (fun hc => ?_) (fun hc => ?_)
          · have h := h.1 (of_decide_eq_false hc)
            refine gw_aload_n 0 d_Text_readBorder_143 rfl rfl ?_
            refine gw_iload_n 3 d_Text_readBorder_144 rfl rfl ?_
            refine gw_putI d_Text_readBorder_145 fp_Text_11 (ga_oX) rfl ?_
            show ga_W G (d + 3) mt_Text_readBorder 148 [some (.inr 327), some (.inr o1), some (.inl v2), some (.inl (I 327 2)), some (.inl z1), some (.inl z2), some (.inl 0), some (.inr (ga_bo o1 v2))] [] (ga_up I11 327 1 (ga_wr (I 327 2))) E
            rw [ga_wr_eq (z := (I 327 2)) (hI1 _ _)]
            refine gw_nm (J := (ga_up I11 327 1 (I 327 2))) (fun I13 q9 => ?_)
            have h := h I13 q9
            refine gw_RG (fun hI14 => ?_)
            exact gw_return d_Text_readBorder_148 rfl h
          · have h := h.2 (of_decide_eq_true hc)
            refine gw_aload 7 d_Text_readBorder_107 rfl ?_
            refine gw_iload 4 d_Text_readBorder_109 rfl ?_
            refine gw_iload 5 d_Text_readBorder_111 rfl ?_
            refine gw_iconst d_Text_readBorder_113 ?_
            obtain ⟨g12, h⟩ := h
            refine gw_invV (as := [.inl z1, .inl z2, .inl (-1)]) (k := (ga_bo o1 v2)) (rest := []) (d' := (d + 2)) d_Text_readBorder_114 lk_Text_65 (ga_rcv ((ga_bo_B ho1 v2).1) rfl rfl) rfl (Nat.le_of_ble_eq_true rfl) (Nat.le_of_ble_eq_true rfl) rfl rfl (s_Borders_isFree (ga_bo_B ho1 v2) g12 ⟨by decide, by decide⟩ g10 g11 ?_)
            show ga_W G (d + 3) mt_Text_readBorder 117 [some (.inr 327), some (.inr o1), some (.inl v2), some (.inl (I 327 2)), some (.inl z1), some (.inl z2), some (.inl 0), some (.inr (ga_bo o1 v2))] [.inl (ga_bb (gp_fr (I11 ((ga_bo o1 v2) + 1)) (I11 ((ga_bo o1 v2) + 3)) z1 z2 ((-1) : Int) (I11 (ga_bo o1 v2) 0).toNat))] I11 E
            refine gw_ifb_eq 143 d_Text_readBorder_117 (by decide) (fun hc => ?_) (fun hc => ?_)
            · have h := h.1 (hc)
              refine gw_aload_n 0 d_Text_readBorder_143 rfl rfl ?_
              refine gw_iload_n 3 d_Text_readBorder_144 rfl rfl ?_
              refine gw_putI d_Text_readBorder_145 fp_Text_11 (ga_oX) rfl ?_
              show ga_W G (d + 3) mt_Text_readBorder 148 [some (.inr 327), some (.inr o1), some (.inl v2), some (.inl (I 327 2)), some (.inl z1), some (.inl z2), some (.inl 0), some (.inr (ga_bo o1 v2))] [] (ga_up I11 327 1 (ga_wr (I 327 2))) E
              rw [ga_wr_eq (z := (I 327 2)) (hI1 _ _)]
              refine gw_nm (J := (ga_up I11 327 1 (I 327 2))) (fun I14 q10 => ?_)
              have h := h I14 q10
              refine gw_RG (fun hI15 => ?_)
              exact gw_return d_Text_readBorder_148 rfl h
            · have h := h.2 (hc)
              refine gw_aload 7 d_Text_readBorder_120 rfl ?_
              refine gw_invV (as := []) (k := (ga_bo o1 v2)) (rest := []) (d' := (d + 2)) d_Text_readBorder_122 lk_Text_69 (ga_rcv ((ga_bo_B ho1 v2).1) rfl rfl) rfl (Nat.le_of_ble_eq_true rfl) (Nat.le_of_ble_eq_true rfl) rfl rfl (s_Borders_isFull (ga_bo_B ho1 v2) ?_)
              show ga_W G (d + 3) mt_Text_readBorder 125 [some (.inr 327), some (.inr o1), some (.inl v2), some (.inl (I 327 2)), some (.inl z1), some (.inl z2), some (.inl 0), some (.inr (ga_bo o1 v2))] [.inl (ga_bb (decide (6 ≤ I11 (ga_bo o1 v2) 0)))] I11 E
              refine gw_ifb_ne 143 d_Text_readBorder_125 (by decide) (fun hc => ?_) (fun hc => ?_)
              · have h := h.1 (of_decide_eq_true hc)
                refine gw_aload_n 0 d_Text_readBorder_143 rfl rfl ?_
                refine gw_iload_n 3 d_Text_readBorder_144 rfl rfl ?_
                refine gw_putI d_Text_readBorder_145 fp_Text_11 (ga_oX) rfl ?_
                show ga_W G (d + 3) mt_Text_readBorder 148 [some (.inr 327), some (.inr o1), some (.inl v2), some (.inl (I 327 2)), some (.inl z1), some (.inl z2), some (.inl 0), some (.inr (ga_bo o1 v2))] [] (ga_up I11 327 1 (ga_wr (I 327 2))) E
                rw [ga_wr_eq (z := (I 327 2)) (hI1 _ _)]
                refine gw_nm (J := (ga_up I11 327 1 (I 327 2))) (fun I15 q11 => ?_)
                have h := h I15 q11
                refine gw_RG (fun hI16 => ?_)
                exact gw_return d_Text_readBorder_148 rfl h
              · have h := h.2 (of_decide_eq_false hc)
                refine gw_aload_n 1 d_Text_readBorder_128 rfl rfl ?_
                refine gw_iload_n 2 d_Text_readBorder_129 rfl rfl ?_
                refine gw_iload 4 d_Text_readBorder_130 rfl ?_
                refine gw_iload 6 d_Text_readBorder_132 rfl ?_
                refine gw_iload 5 d_Text_readBorder_134 rfl ?_
                obtain ⟨g13, h⟩ := h
                obtain ⟨g14, h⟩ := h
                refine gw_invV (as := [.inl v2, .inl z1, .inl 0, .inl z2]) (k := o1) (rest := []) (d' := (d + 2)) d_Text_readBorder_136 lk_Text_73 (ga_rcv (ho1.1) rfl rfl) rfl (Nat.le_of_ble_eq_true rfl) (Nat.le_of_ble_eq_true rfl) rfl rfl (s_Table_splitAt ho1 r2 g12 g13 g14 ⟨by decide, by decide⟩ g9 (fun I16 q12 => ?_))
                have h := h I16 q12
                show ga_W G (d + 3) mt_Text_readBorder 139 [some (.inr 327), some (.inr o1), some (.inl v2), some (.inl (I 327 2)), some (.inl z1), some (.inl z2), some (.inl 0), some (.inr (ga_bo o1 v2))] [.inl (gp_st (I11 (ga_bo o1 v2 + 1)) z1 (I11 (ga_bo o1 v2) 0).toNat)] I16 E
                refine gw_RG (fun hI17 => ?_)
                refine gw_pop d_Text_readBorder_139 ?_
                refine gw_goto 148 d_Text_readBorder_140 (by decide) ?_
                exact gw_return d_Text_readBorder_148 rfl h
      · have h := h.2 hc
        exact gw_return d_Text_readBorder_79 rfl h
    · have h := h.2 hc
      refine gw_iconst d_Text_readBorder_54 ?_
      refine gw_istore 6 d_Text_readBorder_55 (Nat.le_of_ble_eq_true rfl) rfl ?_
      refine gw_aload_n 0 d_Text_readBorder_57 rfl rfl ?_
      refine gw_dup d_Text_readBorder_58 ?_
      refine gw_getI d_Text_readBorder_59 fl_Text_27 (ga_oX) rfl ?_
      refine gw_iconst d_Text_readBorder_62 ?_
      refine gw_iadd d_Text_readBorder_63 ?_
      refine gw_putI d_Text_readBorder_64 fp_Text_27 (ga_oX) rfl ?_
      refine gw_nm (J := (ga_up I10 327 2 (ga_wr ((I10 327 2) + 1)))) (fun I17 q13 => ?_)
      have h := h I17 q13
      refine gw_RG (fun hI18 => ?_)
      refine gw_aload_n 0 d_Text_readBorder_67 rfl rfl ?_
      refine gw_invV (as := []) (k := 327) (rest := []) (d' := (d + 2)) d_Text_readBorder_68 lk_Text_49 (ga_rcv (ga_oX) rfl rfl) rfl (Nat.le_of_ble_eq_true rfl) (Nat.le_of_ble_eq_true rfl) rfl rfl (gw_mono (fun v I18 hv => ?_) h)
      obtain ⟨rfl, h⟩ := hv
      show ga_W G (d + 3) mt_Text_readBorder 71 [some (.inr 327), some (.inr o1), some (.inl v2), some (.inl (I 327 2)), some (.inl z1), some (.inl z2), some (.inl 1), none] [] I18 E
      refine gw_RG (fun hI19 => ?_)
      refine gw_aload_n 0 d_Text_readBorder_71 rfl rfl ?_
      refine gw_getI d_Text_readBorder_72 fl_Text_11 (ga_oX) rfl ?_
      refine gw_iconst d_Text_readBorder_75 ?_
      refine gw_icmp_eq 80 d_Text_readBorder_76 (by decide) (hI19 _ _) ⟨by decide, by decide⟩ (fun hc => ?_) (fun hc => ?_)
      · have h := h.1 hc
        refine gw_aload_n 1 d_Text_readBorder_80 rfl rfl ?_
        refine gw_iload_n 2 d_Text_readBorder_81 rfl rfl ?_
        refine gw_invV (as := [.inl v2]) (k := o1) (rest := []) (d' := (d + 2)) d_Text_readBorder_82 lk_Text_52 (ga_rcv (ho1.1) rfl rfl) rfl (Nat.le_of_ble_eq_true rfl) (Nat.le_of_ble_eq_true rfl) rfl rfl (s_Table_bordersOf ho1 r2 ?_)
        show ga_W G (d + 3) mt_Text_readBorder 85 [some (.inr 327), some (.inr o1), some (.inl v2), some (.inl (I 327 2)), some (.inl z1), some (.inl z2), some (.inl 1), none] [.inr (ga_bo o1 v2)] I18 E
        refine gw_astore 7 d_Text_readBorder_85 (Nat.le_of_ble_eq_true rfl) rfl ?_
        refine gw_iload 6 d_Text_readBorder_87 rfl ?_
        refine gw_iload 5 d_Text_readBorder_89 rfl ?_
        obtain ⟨g15, h⟩ := h
        refine gw_invN (as := [.inl 1, .inl z2]) (rest := []) (d' := (d + 2)) d_Text_readBorder_91 lk_Text_56 rfl (Nat.le_of_ble_eq_true rfl) (Nat.le_of_ble_eq_true rfl) rfl rfl (s_GT_isReach ⟨by decide, by decide⟩ g15 ?_)
        show ga_W G (d + 3) mt_Text_readBorder 94 [some (.inr 327), some (.inr o1), some (.inl v2), some (.inl (I 327 2)), some (.inl z1), some (.inl z2), some (.inl 1), some (.inr (ga_bo o1 v2))] [.inl (ga_bb (decide ((if (1 : Int) = 1 then 1 else 0) ≤ z2 ∧ z2 ≤ 100)))] I18 E
        refine gw_ifb_eq 143 d_Text_readBorder_94 (by decide) (fun hc => ?_) (fun hc => ?_)
        · have h := h.1 (of_decide_eq_false hc)
          refine gw_aload_n 0 d_Text_readBorder_143 rfl rfl ?_
          refine gw_iload_n 3 d_Text_readBorder_144 rfl rfl ?_
          refine gw_putI d_Text_readBorder_145 fp_Text_11 (ga_oX) rfl ?_
          show ga_W G (d + 3) mt_Text_readBorder 148 [some (.inr 327), some (.inr o1), some (.inl v2), some (.inl (I 327 2)), some (.inl z1), some (.inl z2), some (.inl 1), some (.inr (ga_bo o1 v2))] [] (ga_up I18 327 1 (ga_wr (I 327 2))) E
          rw [ga_wr_eq (z := (I 327 2)) (hI1 _ _)]
          refine gw_nm (J := (ga_up I18 327 1 (I 327 2))) (fun I19 q14 => ?_)
          have h := h I19 q14
          refine gw_RG (fun hI20 => ?_)
          exact gw_return d_Text_readBorder_148 rfl h
        · have h := h.2 (of_decide_eq_true hc)
          refine gw_iload 4 d_Text_readBorder_97 rfl ?_
          refine gw_iload 5 d_Text_readBorder_99 rfl ?_
          obtain ⟨g16, h⟩ := h
          obtain ⟨g17, h⟩ := h
          refine gw_invS (as := [.inl z1, .inl z2]) (rest := []) (d' := (d + 2)) d_Text_readBorder_101 lk_Text_60 rfl (Nat.le_of_ble_eq_true rfl) (Nat.le_of_ble_eq_true rfl) rfl rfl (s_Borders_isInside g16 g17 ?_)
          show ga_W G (d + 3) mt_Text_readBorder 104 [some (.inr 327), some (.inr o1), some (.inl v2), some (.inl (I 327 2)), some (.inl z1), some (.inl z2), some (.inl 1), some (.inr (ga_bo o1 v2))] [.inl (ga_bb (decide (0 ≤ z1 - z2 ∧ z1 + z2 ≤ 1000)))] I18 E
          refine gw_ifb_eq 143 d_Text_readBorder_104 (by decide) (fun hc => ?_) (fun hc => ?_)
          · have h := h.1 (of_decide_eq_false hc)
            refine gw_aload_n 0 d_Text_readBorder_143 rfl rfl ?_
            refine gw_iload_n 3 d_Text_readBorder_144 rfl rfl ?_
            refine gw_putI d_Text_readBorder_145 fp_Text_11 (ga_oX) rfl ?_
            show ga_W G (d + 3) mt_Text_readBorder 148 [some (.inr 327), some (.inr o1), some (.inl v2), some (.inl (I 327 2)), some (.inl z1), some (.inl z2), some (.inl 1), some (.inr (ga_bo o1 v2))] [] (ga_up I18 327 1 (ga_wr (I 327 2))) E
            rw [ga_wr_eq (z := (I 327 2)) (hI1 _ _)]
            refine gw_nm (J := (ga_up I18 327 1 (I 327 2))) (fun I20 q15 => ?_)
            have h := h I20 q15
            refine gw_RG (fun hI21 => ?_)
            exact gw_return d_Text_readBorder_148 rfl h
          · have h := h.2 (of_decide_eq_true hc)
            refine gw_aload 7 d_Text_readBorder_107 rfl ?_
            refine gw_iload 4 d_Text_readBorder_109 rfl ?_
            refine gw_iload 5 d_Text_readBorder_111 rfl ?_
            refine gw_iconst d_Text_readBorder_113 ?_
            obtain ⟨g18, h⟩ := h
            refine gw_invV (as := [.inl z1, .inl z2, .inl (-1)]) (k := (ga_bo o1 v2)) (rest := []) (d' := (d + 2)) d_Text_readBorder_114 lk_Text_65 (ga_rcv ((ga_bo_B ho1 v2).1) rfl rfl) rfl (Nat.le_of_ble_eq_true rfl) (Nat.le_of_ble_eq_true rfl) rfl rfl (s_Borders_isFree (ga_bo_B ho1 v2) g18 ⟨by decide, by decide⟩ g16 g17 ?_)
            show ga_W G (d + 3) mt_Text_readBorder 117 [some (.inr 327), some (.inr o1), some (.inl v2), some (.inl (I 327 2)), some (.inl z1), some (.inl z2), some (.inl 1), some (.inr (ga_bo o1 v2))] [.inl (ga_bb (gp_fr (I18 ((ga_bo o1 v2) + 1)) (I18 ((ga_bo o1 v2) + 3)) z1 z2 ((-1) : Int) (I18 (ga_bo o1 v2) 0).toNat))] I18 E
            refine gw_ifb_eq 143 d_Text_readBorder_117 (by decide) (fun hc => ?_) (fun hc => ?_)
            · have h := h.1 (hc)
              refine gw_aload_n 0 d_Text_readBorder_143 rfl rfl ?_
              refine gw_iload_n 3 d_Text_readBorder_144 rfl rfl ?_
              refine gw_putI d_Text_readBorder_145 fp_Text_11 (ga_oX) rfl ?_
              show ga_W G (d + 3) mt_Text_readBorder 148 [some (.inr 327), some (.inr o1), some (.inl v2), some (.inl (I 327 2)), some (.inl z1), some (.inl z2), some (.inl 1), some (.inr (ga_bo o1 v2))] [] (ga_up I18 327 1 (ga_wr (I 327 2))) E
              rw [ga_wr_eq (z := (I 327 2)) (hI1 _ _)]
              refine gw_nm (J := (ga_up I18 327 1 (I 327 2))) (fun I21 q16 => ?_)
              have h := h I21 q16
              refine gw_RG (fun hI22 => ?_)
              exact gw_return d_Text_readBorder_148 rfl h
            · have h := h.2 (hc)
              refine gw_aload 7 d_Text_readBorder_120 rfl ?_
              refine gw_invV (as := []) (k := (ga_bo o1 v2)) (rest := []) (d' := (d + 2)) d_Text_readBorder_122 lk_Text_69 (ga_rcv ((ga_bo_B ho1 v2).1) rfl rfl) rfl (Nat.le_of_ble_eq_true rfl) (Nat.le_of_ble_eq_true rfl) rfl rfl (s_Borders_isFull (ga_bo_B ho1 v2) ?_)
              show ga_W G (d + 3) mt_Text_readBorder 125 [some (.inr 327), some (.inr o1), some (.inl v2), some (.inl (I 327 2)), some (.inl z1), some (.inl z2), some (.inl 1), some (.inr (ga_bo o1 v2))] [.inl (ga_bb (decide (6 ≤ I18 (ga_bo o1 v2) 0)))] I18 E
              refine gw_ifb_ne 143 d_Text_readBorder_125 (by decide) (fun hc => ?_) (fun hc => ?_)
              · have h := h.1 (of_decide_eq_true hc)
                refine gw_aload_n 0 d_Text_readBorder_143 rfl rfl ?_
                refine gw_iload_n 3 d_Text_readBorder_144 rfl rfl ?_
                refine gw_putI d_Text_readBorder_145 fp_Text_11 (ga_oX) rfl ?_
                show ga_W G (d + 3) mt_Text_readBorder 148 [some (.inr 327), some (.inr o1), some (.inl v2), some (.inl (I 327 2)), some (.inl z1), some (.inl z2), some (.inl 1), some (.inr (ga_bo o1 v2))] [] (ga_up I18 327 1 (ga_wr (I 327 2))) E
                rw [ga_wr_eq (z := (I 327 2)) (hI1 _ _)]
                refine gw_nm (J := (ga_up I18 327 1 (I 327 2))) (fun I22 q17 => ?_)
                have h := h I22 q17
                refine gw_RG (fun hI23 => ?_)
                exact gw_return d_Text_readBorder_148 rfl h
              · have h := h.2 (of_decide_eq_false hc)
                refine gw_aload_n 1 d_Text_readBorder_128 rfl rfl ?_
                refine gw_iload_n 2 d_Text_readBorder_129 rfl rfl ?_
                refine gw_iload 4 d_Text_readBorder_130 rfl ?_
                refine gw_iload 6 d_Text_readBorder_132 rfl ?_
                refine gw_iload 5 d_Text_readBorder_134 rfl ?_
                obtain ⟨g19, h⟩ := h
                obtain ⟨g20, h⟩ := h
                refine gw_invV (as := [.inl v2, .inl z1, .inl 1, .inl z2]) (k := o1) (rest := []) (d' := (d + 2)) d_Text_readBorder_136 lk_Text_73 (ga_rcv (ho1.1) rfl rfl) rfl (Nat.le_of_ble_eq_true rfl) (Nat.le_of_ble_eq_true rfl) rfl rfl (s_Table_splitAt ho1 r2 g18 g19 g20 ⟨by decide, by decide⟩ g15 (fun I23 q18 => ?_))
                have h := h I23 q18
                show ga_W G (d + 3) mt_Text_readBorder 139 [some (.inr 327), some (.inr o1), some (.inl v2), some (.inl (I 327 2)), some (.inl z1), some (.inl z2), some (.inl 1), some (.inr (ga_bo o1 v2))] [.inl (gp_st (I18 (ga_bo o1 v2 + 1)) z1 (I18 (ga_bo o1 v2) 0).toNat)] I23 E
                refine gw_RG (fun hI24 => ?_)
                refine gw_pop d_Text_readBorder_139 ?_
                refine gw_goto 148 d_Text_readBorder_140 (by decide) ?_
                exact gw_return d_Text_readBorder_148 rfl h
      · have h := h.2 hc
        exact gw_return d_Text_readBorder_79 rfl h

theorem k_Text_readGain_0 {G : ga_G} {d : Nat} {I : ga_I} {E : Option ga_V → ga_I → Prop} {o1 : Nat} (ho1 : ga_isT o1)
    (h : ga_RG I → (∀ I1 : ga_I, I1 = (ga_up I 327 2 (ga_wr ((I 327 2) + 1))) → ga_W G (d + 2) mt_Text_readNumber 0 (ga_en 7 [.inr 327, .inl 0, .inl (I1 (o1 + 1) 0)]) [] I1 (fun v I2 => ∃ z1 : Int, v = some (.inl z1) ∧ (ga_W G (d + 2) mt_Text_readNumber 0 (ga_en 7 [.inr 327, .inl 0, .inl (I2 (o1 + 5) 0)]) [] I2 (fun v I3 => ∃ z2 : Int, v = some (.inl z2) ∧ (ga_W G (d + 2) mt_Text_readNumber 0 (ga_en 7 [.inr 327, .inl 0, .inl 2]) [] I3 (fun v I4 => ∃ z3 : Int, v = some (.inl z3) ∧ (ga_W G (d + 2) mt_Text_readNumber 0 (ga_en 7 [.inr 327, .inl 0, .inl 9999]) [] I4 (fun v I5 => ∃ z4 : Int, v = some (.inl z4) ∧ (ga_W G (d + 2) mt_Text_readEndOfItem 0 (ga_en 1 [.inr 327]) [] I5 (fun v I6 => v = none ∧ ((((I6 327 1) ≠ (-1)) → E none I6) ∧ (((I6 327 1) = (-1)) → (0 ≤ (z1 * 7 + z2) * 3 + z3 ∧ (z1 * 7 + z2) * 3 + z3 < 147) ∧ ((ga_rg z4) ∧ ((∀ I7 : ga_I, I7 = (ga_up I6 (o1 + 9) ((z1 * 7 + z2) * 3 + z3).toNat z4) → E none I7)))))))))))))))) :
    ga_W G (d + 3) mt_Text_readGain 0 (ga_en 6 [.inr 327, .inr o1]) [] I E := by
  show ga_W G (d + 3) mt_Text_readGain 0 [some (.inr 327), some (.inr o1), none, none, none, none] [] I E
  refine gw_RG (fun hI1 => ?_)
  have h := h hI1
  refine gw_aload_n 0 d_Text_readGain_0 rfl rfl ?_
  refine gw_dup d_Text_readGain_1 ?_
  refine gw_getI d_Text_readGain_2 fl_Text_27 (ga_oX) rfl ?_
  refine gw_iconst d_Text_readGain_5 ?_
  refine gw_iadd d_Text_readGain_6 ?_
  refine gw_putI d_Text_readGain_7 fp_Text_27 (ga_oX) rfl ?_
  refine gw_nm (J := (ga_up I 327 2 (ga_wr ((I 327 2) + 1)))) (fun I1 q1 => ?_)
  have h := h I1 q1
  refine gw_RG (fun hI2 => ?_)
  refine gw_aload_n 0 d_Text_readGain_10 rfl rfl ?_
  refine gw_iconst d_Text_readGain_11 ?_
  refine gw_aload_n 1 d_Text_readGain_12 rfl rfl ?_
  refine gw_getR d_Text_readGain_13 fl_Text_77 (ho1.1) rfl ?_
  refine gw_getI d_Text_readGain_16 fl_Text_81 (ho1.2.1.1) rfl ?_
  refine gw_invV (as := [.inl 0, .inl (I1 (o1 + 1) 0)]) (k := 327) (rest := []) (d' := (d + 2)) d_Text_readGain_19 lk_Text_45 (ga_rcv (ga_oX) rfl rfl) rfl (Nat.le_of_ble_eq_true rfl) (Nat.le_of_ble_eq_true rfl) rfl rfl (gw_mono (fun v I2 hv => ?_) h)
  obtain ⟨z1, rfl, h⟩ := hv
  show ga_W G (d + 3) mt_Text_readGain 22 [some (.inr 327), some (.inr o1), none, none, none, none] [.inl z1] I2 E
  refine gw_RG (fun hI3 => ?_)
  refine gw_istore_n 2 d_Text_readGain_22 rfl (Nat.le_of_ble_eq_true rfl) rfl ?_
  refine gw_aload_n 0 d_Text_readGain_23 rfl rfl ?_
  refine gw_iconst d_Text_readGain_24 ?_
  refine gw_aload_n 1 d_Text_readGain_25 rfl rfl ?_
  refine gw_getR d_Text_readGain_26 fl_Text_84 (ho1.1) rfl ?_
  refine gw_getI d_Text_readGain_29 fl_Text_81 (ho1.2.2.1.1) rfl ?_
  refine gw_invV (as := [.inl 0, .inl (I2 (o1 + 5) 0)]) (k := 327) (rest := []) (d' := (d + 2)) d_Text_readGain_32 lk_Text_45 (ga_rcv (ga_oX) rfl rfl) rfl (Nat.le_of_ble_eq_true rfl) (Nat.le_of_ble_eq_true rfl) rfl rfl (gw_mono (fun v I3 hv => ?_) h)
  obtain ⟨z2, rfl, h⟩ := hv
  show ga_W G (d + 3) mt_Text_readGain 35 [some (.inr 327), some (.inr o1), some (.inl z1), none, none, none] [.inl z2] I3 E
  refine gw_RG (fun hI4 => ?_)
  refine gw_istore_n 3 d_Text_readGain_35 rfl (Nat.le_of_ble_eq_true rfl) rfl ?_
  refine gw_aload_n 0 d_Text_readGain_36 rfl rfl ?_
  refine gw_iconst d_Text_readGain_37 ?_
  refine gw_iconst d_Text_readGain_38 ?_
  refine gw_invV (as := [.inl 0, .inl 2]) (k := 327) (rest := []) (d' := (d + 2)) d_Text_readGain_39 lk_Text_45 (ga_rcv (ga_oX) rfl rfl) rfl (Nat.le_of_ble_eq_true rfl) (Nat.le_of_ble_eq_true rfl) rfl rfl (gw_mono (fun v I4 hv => ?_) h)
  obtain ⟨z3, rfl, h⟩ := hv
  show ga_W G (d + 3) mt_Text_readGain 42 [some (.inr 327), some (.inr o1), some (.inl z1), some (.inl z2), none, none] [.inl z3] I4 E
  refine gw_RG (fun hI5 => ?_)
  refine gw_istore 4 d_Text_readGain_42 (Nat.le_of_ble_eq_true rfl) rfl ?_
  refine gw_aload_n 0 d_Text_readGain_44 rfl rfl ?_
  refine gw_iconst d_Text_readGain_45 ?_
  refine gw_sipush d_Text_readGain_46 (by decide +kernel) ?_
  refine gw_invV (as := [.inl 0, .inl 9999]) (k := 327) (rest := []) (d' := (d + 2)) d_Text_readGain_49 lk_Text_45 (ga_rcv (ga_oX) rfl rfl) rfl (Nat.le_of_ble_eq_true rfl) (Nat.le_of_ble_eq_true rfl) rfl rfl (gw_mono (fun v I5 hv => ?_) h)
  obtain ⟨z4, rfl, h⟩ := hv
  show ga_W G (d + 3) mt_Text_readGain 52 [some (.inr 327), some (.inr o1), some (.inl z1), some (.inl z2), some (.inl z3), none] [.inl z4] I5 E
  refine gw_RG (fun hI6 => ?_)
  refine gw_istore 5 d_Text_readGain_52 (Nat.le_of_ble_eq_true rfl) rfl ?_
  refine gw_aload_n 0 d_Text_readGain_54 rfl rfl ?_
  refine gw_invV (as := []) (k := 327) (rest := []) (d' := (d + 2)) d_Text_readGain_55 lk_Text_49 (ga_rcv (ga_oX) rfl rfl) rfl (Nat.le_of_ble_eq_true rfl) (Nat.le_of_ble_eq_true rfl) rfl rfl (gw_mono (fun v I6 hv => ?_) h)
  obtain ⟨rfl, h⟩ := hv
  show ga_W G (d + 3) mt_Text_readGain 58 [some (.inr 327), some (.inr o1), some (.inl z1), some (.inl z2), some (.inl z3), some (.inl z4)] [] I6 E
  refine gw_RG (fun hI7 => ?_)
  refine gw_aload_n 0 d_Text_readGain_58 rfl rfl ?_
  refine gw_getI d_Text_readGain_59 fl_Text_11 (ga_oX) rfl ?_
  refine gw_iconst d_Text_readGain_62 ?_
  refine gw_icmp_ne 79 d_Text_readGain_63 (by decide) (hI7 _ _) ⟨by decide, by decide⟩ (fun hc => ?_) (fun hc => ?_)
  · have h := h.1 hc
    exact gw_return d_Text_readGain_79 rfl h
  · have h := h.2 hc
    refine gw_aload_n 1 d_Text_readGain_66 rfl rfl ?_
    refine gw_iload_n 2 d_Text_readGain_67 rfl rfl ?_
    refine gw_iload_n 3 d_Text_readGain_68 rfl rfl ?_
    refine gw_invS (as := [.inl z1, .inl z2]) (rest := [.inr o1]) (d' := (d + 2)) d_Text_readGain_69 lk_Text_87 rfl (Nat.le_of_ble_eq_true rfl) (Nat.le_of_ble_eq_true rfl) rfl rfl (s_Table_regionAt  ?_)
    show ga_W G (d + 3) mt_Text_readGain 72 [some (.inr 327), some (.inr o1), some (.inl z1), some (.inl z2), some (.inl z3), some (.inl z4)] [.inl (z1 * 7 + z2), .inr o1] I6 E
    refine gw_iload 4 d_Text_readGain_72 rfl ?_
    refine gw_iload 5 d_Text_readGain_74 rfl ?_
    obtain ⟨g1, h⟩ := h
    obtain ⟨g2, h⟩ := h
    refine gw_invV (as := [.inl (z1 * 7 + z2), .inl z3, .inl z4]) (k := o1) (rest := []) (d' := (d + 2)) d_Text_readGain_76 lk_Text_90 (ga_rcv (ho1.1) rfl rfl) rfl (Nat.le_of_ble_eq_true rfl) (Nat.le_of_ble_eq_true rfl) rfl rfl (s_Table_putGain ho1 g1 g2 ?_)
    show ga_W G (d + 3) mt_Text_readGain 79 [some (.inr 327), some (.inr o1), some (.inl z1), some (.inl z2), some (.inl z3), some (.inl z4)] [] (ga_up I6 (o1 + 9) ((z1 * 7 + z2) * 3 + z3).toNat z4) E
    refine gw_nm (fun I7 q2 => ?_)
    have h := h I7 q2
    refine gw_RG (fun hI8 => ?_)
    exact gw_return d_Text_readGain_79 rfl h

section TC
variable {G : ga_G} {d : Nat} {I : ga_I} {E : Option ga_V → ga_I → Prop} {t : Nat} {s : Nat → Int}
/-- what an item leaves -/
def gr_ci (I J : ga_I) (t : Nat) (R : Bool × Nat × (Nat → Int)) : Prop := (∀ a, a ≠ 327 → a < t ∨ t + 11 ≤ a → J a = I a) ∧ (∀ j, j ≠ 1 → j ≠ 2 → J 327 j = I 327 j) ∧ (R.1 = true → J 327 1 = -1 ∧ J 327 2 = (R.2.1 : Nat) ∧ rt J t R.2.2) ∧ (R.1 = false → J 327 1 = (R.2.1 : Nat))
theorem s_Text_readBorder {ax : Int} (hT : ga_isT t) (ht : 328 < t) (hx : xo_x I) (hE : I 327 1 = -1) (hst : 0 ≤ I 327 2 ∧ I 327 2 < I 327 0) (hr : rt I t s) (hs : ni_t s) (ha : 0 ≤ ax ∧ ax ≤ 1) (h : ∀ J : ga_I, gr_ci I J t (gp_bd (I 328) (I 327 0).toNat s ax (I 327 2).toNat) → E none J) :
    ga_W G (d + 3) mt_Text_readBorder 0 (ga_en 8 [.inr 327, .inr t, .inl ax]) [] I E := by
  have hx1 : 0 ≤ I 327 0 ∧ I 327 0 ≤ 160 := hx.1
  have n6 := ni_n hs ha
  have fin : ∀ (J : ga_I) (R : Bool × Nat × (Nat → Int)), (∀ a, a ≠ 327 → a < t ∨ t + 11 ≤ a → J a = I a) → (∀ j, j ≠ 1 → j ≠ 2 → J 327 j = I 327 j) → gp_bd (I 328) (I 327 0).toNat s ax (I 327 2).toNat = R → (R.1 = true → J 327 1 = -1 ∧ J 327 2 = (R.2.1 : Nat) ∧ rt J t R.2.2) → (R.1 = false → J 327 1 = (R.2.1 : Nat)) → E none J := fun J R h1 h2 h3 h4 h5 => h J (by rw [h3]; exact ⟨h1, h2, h4, h5⟩)
  refine k_Text_readBorder_0 hT ⟨by omega, by omega⟩ (fun hI I1 e1 => ?_)
  rw [ga_wr_eq ⟨by omega, by omega⟩] at e1
  have n1 : I1 327 2 = (((I 327 2).toNat + 1 : Nat) : Int) := by rw [e1, ga_up_at]; omega
  have m1 : xf I I1 := ⟨fun a ha2 => by rw [e1, ga_up_fn (by omega)], fun j h1 h2 => by rw [e1, ga_up_nj (by omega)]⟩
  have E1 : I1 327 1 = -1 := by rw [e1, ga_up_nj (by omega)]; exact hE
  have x1 : xo_x I1 := xo_x_of hx m1 n1 (by omega)
  have rdA : ∀ (K : ga_I) (n : Nat), xf I K → K 327 2 = (n : Int) → ∀ lo hi, xt_rd K lo hi = gp_rd (I 328) (I 327 0).toNat n lo hi := fun K n mK nK lo hi => by
    unfold xt_rd
    rw [mK.1 328 (by omega), mK.2 0 (by omega) (by omega), nK, Int.toNat_natCast]
  have spA : ∀ (K : ga_I) (n : Nat), xf I K → K 327 2 = (n : Int) → xt_p K = gp_sp (I 328) (I 327 0).toNat n := fun K n mK nK => by
    unfold xt_p
    rw [mK.1 328 (by omega), mK.2 0 (by omega) (by omega), nK, Int.toNat_natCast]
  have B1 := gp_rd_bd (t := I 328) (l := (I 327 0).toNat) (n := (I 327 2).toNat + 1) (lo := 1) (hi := 999) (by omega)
  have eR1 : gp_bd (I 328) (I 327 0).toNat s ax (I 327 2).toNat = gp_b1 (I 328) (I 327 0).toNat s ax (I 327 2).toNat (gp_rd (I 328) (I 327 0).toNat ((I 327 2).toNat + 1) 1 999) := rfl
  refine s_Text_readNumber x1 (by omega) (by omega) (fun I2 z1 c2 => ⟨z1, rfl, ?_⟩)
  obtain ⟨m2', x2, y2, w2⟩ := c2.2 E1
  rw [rdA I1 _ m1 n1] at y2 w2
  have m2 := xf_tr m1 m2'
  generalize gp_rd (I 328) (I 327 0).toNat ((I 327 2).toNat + 1) 1 999 = R1 at *
  refine s_Text_readNumber x2 (by omega) (by omega) (fun I3 z2 c3 => ⟨z2, rfl, ?_⟩)
  -- an error before the end of the item
  have err : ∀ (n : Nat), xf I I3 → xo_x I3 → I3 327 1 = (n : Int) → gp_bd (I 328) (I 327 0).toNat s ax (I 327 2).toNat = (false, n, s) → ga_W G (d + 2) mt_Text_readEndOfItem 0 (ga_en 1 [.inr 327]) [] I3 (fun v I4 => v = none ∧ (I4 327 1 ≠ -1 ∧ E none I4)) := fun n m3 x3 hn he =>
    s_Text_readEndOfItem x3 (fun I4 c4 => ⟨rfl, by
      have e4 := c4.1 (by omega)
      rw [e4]
      exact ⟨by omega, fin I3 _ (fun a h1 _ => m3.1 a h1) m3.2 he (fun w => by cases w) (fun _ => hn)⟩⟩)
  by_cases q1 : R1.1 = true
  · obtain ⟨E2, n2, v1⟩ := y2 q1
    have b1 := B1.2.2 q1
    obtain ⟨m3', x3, y3, w3⟩ := c3.2 E2
    rw [rdA I2 _ m2 n2] at y3 w3
    have m3 := xf_tr m2 m3'
    have B2 := gp_rd_bd (t := I 328) (l := (I 327 0).toNat) (n := R1.2.1) (lo := 0) (hi := 100) B1.2.1
    have eR2 : gp_bd (I 328) (I 327 0).toNat s ax (I 327 2).toNat = gp_b2 (I 328) (I 327 0).toNat s ax (I 327 2).toNat R1.2.2 (gp_rd (I 328) (I 327 0).toNat R1.2.1 0 100) := by rw [eR1]; unfold gp_b1; rw [if_pos q1]
    generalize gp_rd (I 328) (I 327 0).toNat R1.2.1 0 100 = R2 at *
    by_cases q2 : R2.1 = true
    · obtain ⟨E3, n3, v2⟩ := y3 q2
      have b2 := B2.2.2 q2
      have p3 := spA I3 _ m3 n3
      have P3 := gp_sp_le (t := I 328) B2.2.1
      have eR : gp_bd (I 328) (I 327 0).toNat s ax (I 327 2).toNat = gp_bk (I 328) (I 327 0).toNat s ax (I 327 2).toNat R1.2.2 R2.2.2 R2.2.1 := by rw [eR2]; unfold gp_b2; rw [if_pos q2]
      unfold gp_bk at eR
      refine ⟨fun w => absurd E3 w, fun _ => ⟨x3, fun I10 e10 => ?_⟩⟩
      have hvb := xt_hv_bd x3
      have hv := xt_hv_eq x3 (c := 126) (by omega)
      rw [p3, m3.1 328 (by omega), m3.2 0 (by omega) (by omega)] at hv
      rw [p3] at e10
      have n10 : I10 327 2 = ((gp_sp (I 328) (I 327 0).toNat R2.2.1 : Nat) : Int) := by rw [e10, ga_up_at]
      have m10 : xf I I10 := xf_tr m3 ⟨fun a ha2 => by rw [e10, ga_up_fn (by omega)], fun j h1 h2 => by rw [e10, ga_up_nj (by omega)]⟩
      have E10 : I10 327 1 = -1 := by rw [e10, ga_up_nj (by omega)]; exact E3
      have x10 : xo_x I10 := xo_x_of hx m10 n10 (by omega)
      refine ⟨⟨by omega, by omega⟩, fun q3 => ?_, fun q3 I17 e17 => ?_⟩
      · have nk : ¬ gt_ok (I 328) (I 327 0).toNat (gp_sp (I 328) (I 327 0).toNat R2.2.1) 126 := fun w => q3 (hv.mpr w)
        have p10 := spA I10 _ m10 n10
        rw [if_neg (by decide : ¬ (0 : Int) = 1)]
        refine s_Text_readEndOfItem x10 (fun I4 c4 => ⟨rfl, ?_⟩)
        obtain ⟨m4', x4, y4, w4⟩ := c4.2 E10
        have m4 := xf_tr m10 m4'
        have u4 : ∀ a, a ≠ 327 → I4 a = I a := m4.1
        have r4 : rt I4 t s := rt_of (fun a h1 h2 => u4 a (by omega)) hr
        have hat := rt_at r4 ha
        have tx : I10 328 = I 328 := m10.1 328 (by omega)
        have tl : I10 327 0 = I 327 0 := m10.2 0 (by omega) (by omega)
        rw [tx, tl, p10] at y4 w4
        have fail : ∀ J : ga_I, J = ga_up I4 327 1 (I 327 2) → gt_ok (I 328) (I 327 0).toNat (gp_sp (I 328) (I 327 0).toNat (gp_sp (I 328) (I 327 0).toNat R2.2.1)) 59 → ¬ gp_bc s ax R1.2.2 R2.2.2 0 → E none J := fun J eJ ok hn => by
          refine fin J _ (fun a h1 h2 => by rw [eJ, ga_up_fn (by omega)]; exact u4 a h1) (fun j h1 h2 => by rw [eJ, ga_up_nj (by omega)]; exact m4.2 j h1 h2) (eR.trans (if_neg nk)) ?_ ?_
          · unfold gp_be; rw [if_neg (fun w => w ok), if_neg hn]; exact fun w => by cases w
          · unfold gp_be; rw [if_neg (fun w => w ok), if_neg hn]; exact fun _ => by rw [eJ, ga_up_at]; exact (Int.toNat_of_nonneg hst.1).symm
        refine ⟨fun q4 => ?_, fun q4 => ?_⟩
        · have ok : gt_ok (I 328) (I 327 0).toNat (gp_sp (I 328) (I 327 0).toNat (gp_sp (I 328) (I 327 0).toNat R2.2.1)) 59 := Decidable.byContradiction (fun w => by have := w4 w; omega)
          have fr := rt_fr hat z1 z2 (-1)
          rw [gp_fr_neg (e' := -2000000009) (by decide) (by decide)] at fr
          have fr2 := rt_fr hat z1 z2 (-2000000009)
          rw [gp_fr_neg (p := I4 (ga_bo t ax + 1)) (r := I4 (ga_bo t ax + 3)) (e := -1) (e' := -2000000009) (by decide) (by decide), fr2, hat.1]
          refine ⟨⟨by omega, by omega⟩, fun q5 J eJ => fail J eJ ok (fun w => q5 ⟨by have := w.1; rw [v2]; exact this, by omega⟩), fun q5 => ⟨⟨by omega, by omega⟩, ⟨by omega, by omega⟩, fun q6 J eJ => fail J eJ ok (fun w => q6 (by rw [v1, v2]; exact w.2.1)), fun q6 => ⟨rt_b_ok hat (ni_axs hs ha), fun q7 J eJ => fail J eJ ok (fun w => ?_), fun q7 => ⟨fun q8 J eJ => fail J eJ ok (fun w => w.2.2.2 (by omega)), fun q8 => ⟨by omega, ⟨by omega, by omega⟩, fun I9 c9 => ?_⟩⟩⟩⟩⟩
          · rw [v1, v2] at q7; rw [w.2.2.1] at q7; exact absurd q7 (by decide)
          · rw [← hat.1] at c9
            obtain ⟨g1, g2⟩ := rt_sp hs r4 ha (by omega) c9
            have nok : gp_bc s ax R1.2.2 R2.2.2 0 := ⟨by rw [← v2]; exact q5.1, by rw [← v1, ← v2]; exact q6, by rw [← v1, ← v2]; exact q7, by omega⟩
            refine fin I9 _ (fun a h1 h2 => (g2 a (by omega)).trans (u4 a h1)) (fun j h1 h2 => by rw [g2 327 (by omega)]; exact m4.2 j h1 h2) (eR.trans (if_neg nk)) ?_ ?_
            · unfold gp_be; rw [if_neg (fun w => w ok), if_pos nok]
              intro _
              refine ⟨by rw [g2 327 (by omega)]; exact q4, by rw [g2 327 (by omega)]; exact (y4 ok).2, ?_⟩
              rw [v1, v2] at g1
              exact g1
            · unfold gp_be; rw [if_neg (fun w => w ok), if_pos nok]; exact fun w => by cases w
        · have nok : ¬ gt_ok (I 328) (I 327 0).toNat (gp_sp (I 328) (I 327 0).toNat (gp_sp (I 328) (I 327 0).toNat R2.2.1)) 59 := fun w => q4 (y4 w).1
          refine fin I4 _ (fun a h1 h2 => u4 a h1) (fun j h1 h2 => m4.2 j h1 h2) (eR.trans (if_neg nk)) ?_ ?_
          · unfold gp_be; rw [if_pos nok]; exact fun w => by cases w
          · unfold gp_be; rw [if_pos nok]; exact fun _ => w4 nok
      · have yk := hv.mp q3
        have yk1 := yk.1
        rw [n10, ga_wr_eq ⟨by omega, by omega⟩] at e17
        have n17 : I17 327 2 = ((gp_sp (I 328) (I 327 0).toNat R2.2.1 + 1 : Nat) : Int) := by rw [e17, ga_up_at]; omega
        have m17 : xf I I17 := xf_tr m10 ⟨fun a ha2 => by rw [e17, ga_up_fn (by omega)], fun j h1 h2 => by rw [e17, ga_up_nj (by omega)]⟩
        have E17 : I17 327 1 = -1 := by rw [e17, ga_up_nj (by omega)]; exact E10
        have x17 : xo_x I17 := xo_x_of hx m17 n17 (by omega)
        have p17 := spA I17 _ m17 n17
        rw [if_pos rfl]
        refine s_Text_readEndOfItem x17 (fun I4 c4 => ⟨rfl, ?_⟩)
        obtain ⟨m4', x4, y4, w4⟩ := c4.2 E17
        have m4 := xf_tr m17 m4'
        have u4 : ∀ a, a ≠ 327 → I4 a = I a := m4.1
        have r4 : rt I4 t s := rt_of (fun a h1 h2 => u4 a (by omega)) hr
        have hat := rt_at r4 ha
        have tx : I17 328 = I 328 := m17.1 328 (by omega)
        have tl : I17 327 0 = I 327 0 := m17.2 0 (by omega) (by omega)
        rw [tx, tl, p17] at y4 w4
        have fail : ∀ J : ga_I, J = ga_up I4 327 1 (I 327 2) → gt_ok (I 328) (I 327 0).toNat (gp_sp (I 328) (I 327 0).toNat (gp_sp (I 328) (I 327 0).toNat R2.2.1 + 1)) 59 → ¬ gp_bc s ax R1.2.2 R2.2.2 1 → E none J := fun J eJ ok hn => by
          refine fin J _ (fun a h1 h2 => by rw [eJ, ga_up_fn (by omega)]; exact u4 a h1) (fun j h1 h2 => by rw [eJ, ga_up_nj (by omega)]; exact m4.2 j h1 h2) (eR.trans (if_pos yk)) ?_ ?_
          · unfold gp_be; rw [if_neg (fun w => w ok), if_neg hn]; exact fun w => by cases w
          · unfold gp_be; rw [if_neg (fun w => w ok), if_neg hn]; exact fun _ => by rw [eJ, ga_up_at]; exact (Int.toNat_of_nonneg hst.1).symm
        refine ⟨fun q4 => ?_, fun q4 => ?_⟩
        · have ok : gt_ok (I 328) (I 327 0).toNat (gp_sp (I 328) (I 327 0).toNat (gp_sp (I 328) (I 327 0).toNat R2.2.1 + 1)) 59 := Decidable.byContradiction (fun w => by have := w4 w; omega)
          have fr := rt_fr hat z1 z2 (-1)
          rw [gp_fr_neg (e' := -2000000009) (by decide) (by decide)] at fr
          have fr2 := rt_fr hat z1 z2 (-2000000009)
          rw [gp_fr_neg (p := I4 (ga_bo t ax + 1)) (r := I4 (ga_bo t ax + 3)) (e := -1) (e' := -2000000009) (by decide) (by decide), fr2, hat.1]
          refine ⟨⟨by omega, by omega⟩, fun q5 J eJ => fail J eJ ok (fun w => q5 ⟨by have := w.1; rw [v2]; exact this, by omega⟩), fun q5 => ⟨⟨by omega, by omega⟩, ⟨by omega, by omega⟩, fun q6 J eJ => fail J eJ ok (fun w => q6 (by rw [v1, v2]; exact w.2.1)), fun q6 => ⟨rt_b_ok hat (ni_axs hs ha), fun q7 J eJ => fail J eJ ok (fun w => ?_), fun q7 => ⟨fun q8 J eJ => fail J eJ ok (fun w => w.2.2.2 (by omega)), fun q8 => ⟨by omega, ⟨by omega, by omega⟩, fun I9 c9 => ?_⟩⟩⟩⟩⟩
          · rw [v1, v2] at q7; rw [w.2.2.1] at q7; exact absurd q7 (by decide)
          · rw [← hat.1] at c9
            obtain ⟨g1, g2⟩ := rt_sp hs r4 ha (by omega) c9
            have nok : gp_bc s ax R1.2.2 R2.2.2 1 := ⟨by rw [← v2]; exact q5.1, by rw [← v1, ← v2]; exact q6, by rw [← v1, ← v2]; exact q7, by omega⟩
            refine fin I9 _ (fun a h1 h2 => (g2 a (by omega)).trans (u4 a h1)) (fun j h1 h2 => by rw [g2 327 (by omega)]; exact m4.2 j h1 h2) (eR.trans (if_pos yk)) ?_ ?_
            · unfold gp_be; rw [if_neg (fun w => w ok), if_pos nok]
              intro _
              refine ⟨by rw [g2 327 (by omega)]; exact q4, by rw [g2 327 (by omega)]; exact (y4 ok).2, ?_⟩
              rw [v1, v2] at g1
              exact g1
            · unfold gp_be; rw [if_neg (fun w => w ok), if_pos nok]; exact fun w => by cases w
        · have nok : ¬ gt_ok (I 328) (I 327 0).toNat (gp_sp (I 328) (I 327 0).toNat (gp_sp (I 328) (I 327 0).toNat R2.2.1 + 1)) 59 := fun w => q4 (y4 w).1
          refine fin I4 _ (fun a h1 h2 => u4 a h1) (fun j h1 h2 => m4.2 j h1 h2) (eR.trans (if_pos yk)) ?_ ?_
          · unfold gp_be; rw [if_pos nok]; exact fun w => by cases w
          · unfold gp_be; rw [if_pos nok]; exact fun _ => w4 nok
    · have q2' : R2.1 = false := by simpa using q2
      have E3 := w3 q2'
      refine ⟨fun _ => ?_, fun w => by exfalso; omega⟩
      have K := err R2.2.1 m3 x3 E3 (by rw [eR2]; unfold gp_b2; rw [if_neg q2])
      exact gw_mono (fun v I4 c => ⟨c.1, fun w => absurd w c.2.1, fun _ => c.2.2⟩) K
  · have q1' : R1.1 = false := by simpa using q1
    have E2 := w2 q1'
    obtain ⟨e3, -⟩ := c3.1 (by omega)
    subst e3
    refine ⟨fun _ => ?_, fun w => by exfalso; omega⟩
    have K := err R1.2.1 m2 x2 E2 (by rw [eR1]; unfold gp_b1; rw [if_neg q1])
    exact gw_mono (fun v I4 c => ⟨c.1, fun w => absurd w c.2.1, fun _ => c.2.2⟩) K
end TC
