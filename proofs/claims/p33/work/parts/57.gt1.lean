/-! the class: what the public methods share -/
theorem k_GT_isSwing_0 {G : ga_G} {d : Nat} {I : ga_I} {E : Option ga_V → ga_I → Prop} {v0 : Int} {v1 : Int} (r1 : ga_rg v1)
    (h : ga_RG I → ((¬ ((0 : Int) ≤ v1 ∧ v1 ≤ (500 : Int))) → E (some (.inl 0)) I) ∧ (((0 : Int) ≤ v1 ∧ v1 ≤ (500 : Int)) → (ga_rg (v0 - v1)) ∧ (((¬ (0 ≤ (v0 - v1) ∧ (v0 - v1) ≤ 1000)) → E (some (.inl 0)) I) ∧ ((0 ≤ (v0 - v1) ∧ (v0 - v1) ≤ 1000) → (ga_rg (v0 + v1)) ∧ (((¬ (0 ≤ (v0 + v1) ∧ (v0 + v1) ≤ 1000)) → E (some (.inl 0)) I) ∧ ((0 ≤ (v0 + v1) ∧ (v0 + v1) ≤ 1000) → E (some (.inl 1)) I)))))) :
    ga_W G (d + 2) mt_GT_isSwing 0 (ga_en 2 [.inl v0, .inl v1]) [] I E := by
  show ga_W G (d + 2) mt_GT_isSwing 0 [some (.inl v0), some (.inl v1)] [] I E
  refine gw_RG (fun hI1 => ?_)
  have h := h hI1
  refine gw_iload_n 1 d_GT_isSwing_0 rfl rfl ?_
  refine gw_iconst d_GT_isSwing_1 ?_
  refine gw_sipush d_GT_isSwing_2 (by decide +kernel) ?_
  refine gw_invS (as := [.inl v1, .inl 0, .inl 500]) (rest := []) (d' := (d + 1)) d_GT_isSwing_5 lk_GT_65 rfl (Nat.le_of_ble_eq_true rfl) (Nat.le_of_ble_eq_true rfl) rfl rfl (s_GT_isIn r1 ⟨by decide, by decide⟩ ⟨by decide, by decide⟩ ?_)
  show ga_W G (d + 2) mt_GT_isSwing 8 [some (.inl v0), some (.inl v1)] [.inl (ga_bb (decide ((0 : Int) ≤ v1 ∧ v1 ≤ (500 : Int))))] I E
  refine gw_ifb_eq 33 d_GT_isSwing_8 (by decide) (fun hc => ?_) (fun hc => ?_)
  · have h := h.1 (of_decide_eq_false hc)
    refine gw_iconst d_GT_isSwing_33 ?_
    exact gw_zreturn d_GT_isSwing_34 rfl (by decide) h
  · have h := h.2 (of_decide_eq_true hc)
    refine gw_iload_n 0 d_GT_isSwing_11 rfl rfl ?_
    refine gw_iload_n 1 d_GT_isSwing_12 rfl rfl ?_
    refine gw_isub d_GT_isSwing_13 ?_
    obtain ⟨g1, h⟩ := h
    refine gw_invS (as := [.inl (v0 - v1)]) (rest := []) (d' := (d + 1)) d_GT_isSwing_14 lk_GT_194 rfl (Nat.le_of_ble_eq_true rfl) (Nat.le_of_ble_eq_true rfl) rfl rfl (s_GT_isCoordinate g1 ?_)
    show ga_W G (d + 2) mt_GT_isSwing 17 [some (.inl v0), some (.inl v1)] [.inl (ga_bb (decide (0 ≤ (v0 - v1) ∧ (v0 - v1) ≤ 1000)))] I E
    refine gw_ifb_eq 33 d_GT_isSwing_17 (by decide) (fun hc => ?_) (fun hc => ?_)
    · have h := h.1 (of_decide_eq_false hc)
      refine gw_iconst d_GT_isSwing_33 ?_
      exact gw_zreturn d_GT_isSwing_34 rfl (by decide) h
    · have h := h.2 (of_decide_eq_true hc)
      refine gw_iload_n 0 d_GT_isSwing_20 rfl rfl ?_
      refine gw_iload_n 1 d_GT_isSwing_21 rfl rfl ?_
      refine gw_iadd d_GT_isSwing_22 ?_
      obtain ⟨g2, h⟩ := h
      refine gw_invS (as := [.inl (v0 + v1)]) (rest := []) (d' := (d + 1)) d_GT_isSwing_23 lk_GT_194 rfl (Nat.le_of_ble_eq_true rfl) (Nat.le_of_ble_eq_true rfl) rfl rfl (s_GT_isCoordinate g2 ?_)
      show ga_W G (d + 2) mt_GT_isSwing 26 [some (.inl v0), some (.inl v1)] [.inl (ga_bb (decide (0 ≤ (v0 + v1) ∧ (v0 + v1) ≤ 1000)))] I E
      refine gw_ifb_eq 33 d_GT_isSwing_26 (by decide) (fun hc => ?_) (fun hc => ?_)
      · have h := h.1 (of_decide_eq_false hc)
        refine gw_iconst d_GT_isSwing_33 ?_
        exact gw_zreturn d_GT_isSwing_34 rfl (by decide) h
      · have h := h.2 (of_decide_eq_true hc)
        refine gw_iconst d_GT_isSwing_29 ?_
        refine gw_goto 34 d_GT_isSwing_30 (by decide) ?_
        exact gw_zreturn d_GT_isSwing_34 rfl (by decide) h

theorem k_GT_isBorder_0 {G : ga_G} {d : Nat} {I : ga_I} {E : Option ga_V → ga_I → Prop} {v1 : Int} {v2 : Int} (r1 : ga_rg v1) (r2 : ga_rg v2)
    (h : ga_RG I → ((¬ (0 ≤ v1 ∧ v1 ≤ 1)) → E (some (.inl 0)) I) ∧ ((0 ≤ v1 ∧ v1 ≤ 1) → ((¬ (0 ≤ v2 ∧ v2 < I (ga_bo 2 v1) 0)) → E (some (.inl 0)) I) ∧ ((0 ≤ v2 ∧ v2 < I (ga_bo 2 v1) 0) → E (some (.inl 1)) I))) :
    ga_W G (d + 2) mt_GT_isBorder 0 (ga_en 3 [.inr 0, .inl v1, .inl v2]) [] I E := by
  show ga_W G (d + 2) mt_GT_isBorder 0 [some (.inr 0), some (.inl v1), some (.inl v2)] [] I E
  refine gw_RG (fun hI1 => ?_)
  have h := h hI1
  refine gw_iload_n 1 d_GT_isBorder_0 rfl rfl ?_
  refine gw_invS (as := [.inl v1]) (rest := []) (d' := (d + 1)) d_GT_isBorder_1 lk_GT_61 rfl (Nat.le_of_ble_eq_true rfl) (Nat.le_of_ble_eq_true rfl) rfl rfl (s_GT_isAxis r1 ?_)
  show ga_W G (d + 2) mt_GT_isBorder 4 [some (.inr 0), some (.inl v1), some (.inl v2)] [.inl (ga_bb (decide (0 ≤ v1 ∧ v1 ≤ 1)))] I E
  refine gw_ifb_eq 29 d_GT_isBorder_4 (by decide) (fun hc => ?_) (fun hc => ?_)
  · have h := h.1 (of_decide_eq_false hc)
    refine gw_iconst d_GT_isBorder_29 ?_
    exact gw_zreturn d_GT_isBorder_30 rfl (by decide) h
  · have h := h.2 (of_decide_eq_true hc)
    refine gw_aload_n 0 d_GT_isBorder_7 rfl rfl ?_
    refine gw_getR d_GT_isBorder_8 fl_GT_12 (ga_oG) rfl ?_
    refine gw_getR d_GT_isBorder_11 fl_GT_77 (ga_s1.1) rfl ?_
    refine gw_iload_n 1 d_GT_isBorder_14 rfl rfl ?_
    refine gw_invV (as := [.inl v1]) (k := 2) (rest := []) (d' := (d + 1)) d_GT_isBorder_15 lk_GT_80 (ga_rcv (ga_s1.2.1.1) rfl rfl) rfl (Nat.le_of_ble_eq_true rfl) (Nat.le_of_ble_eq_true rfl) rfl rfl (s_Table_bordersOf ga_s1.2.1 r1 ?_)
    show ga_W G (d + 2) mt_GT_isBorder 18 [some (.inr 0), some (.inl v1), some (.inl v2)] [.inr (ga_bo 2 v1)] I E
    refine gw_iload_n 2 d_GT_isBorder_18 rfl rfl ?_
    refine gw_invV (as := [.inl v2]) (k := (ga_bo 2 v1)) (rest := []) (d' := (d + 1)) d_GT_isBorder_19 lk_GT_283 (ga_rcv ((ga_bo_B ga_s1.2.1 v1).1) rfl rfl) rfl (Nat.le_of_ble_eq_true rfl) (Nat.le_of_ble_eq_true rfl) rfl rfl (s_Borders_has (ga_bo_B ga_s1.2.1 v1) r2 ?_)
    show ga_W G (d + 2) mt_GT_isBorder 22 [some (.inr 0), some (.inl v1), some (.inl v2)] [.inl (ga_bb (decide (0 ≤ v2 ∧ v2 < I (ga_bo 2 v1) 0)))] I E
    refine gw_ifb_eq 29 d_GT_isBorder_22 (by decide) (fun hc => ?_) (fun hc => ?_)
    · have h := h.1 (of_decide_eq_false hc)
      refine gw_iconst d_GT_isBorder_29 ?_
      exact gw_zreturn d_GT_isBorder_30 rfl (by decide) h
    · have h := h.2 (of_decide_eq_true hc)
      refine gw_iconst d_GT_isBorder_25 ?_
      refine gw_goto 30 d_GT_isBorder_26 (by decide) ?_
      exact gw_zreturn d_GT_isBorder_30 rfl (by decide) h

theorem k_GT_isRegion_0 {G : ga_G} {d : Nat} {I : ga_I} {E : Option ga_V → ga_I → Prop} {v1 : Int} {v2 : Int} (r1 : ga_rg v1) (r2 : ga_rg v2)
    (h : ga_RG I → ((¬ ((0 : Int) ≤ v1 ∧ v1 ≤ (I 3 0))) → E (some (.inl 0)) I) ∧ (((0 : Int) ≤ v1 ∧ v1 ≤ (I 3 0)) → ((¬ ((0 : Int) ≤ v2 ∧ v2 ≤ (I 7 0))) → E (some (.inl 0)) I) ∧ (((0 : Int) ≤ v2 ∧ v2 ≤ (I 7 0)) → E (some (.inl 1)) I))) :
    ga_W G (d + 1) mt_GT_isRegion 0 (ga_en 3 [.inr 0, .inl v1, .inl v2]) [] I E := by
  show ga_W G (d + 1) mt_GT_isRegion 0 [some (.inr 0), some (.inl v1), some (.inl v2)] [] I E
  refine gw_RG (fun hI1 => ?_)
  have h := h hI1
  refine gw_iload_n 1 d_GT_isRegion_0 rfl rfl ?_
  refine gw_iconst d_GT_isRegion_1 ?_
  refine gw_aload_n 0 d_GT_isRegion_2 rfl rfl ?_
  refine gw_getR d_GT_isRegion_3 fl_GT_12 (ga_oG) rfl ?_
  refine gw_getR d_GT_isRegion_6 fl_GT_77 (ga_s1.1) rfl ?_
  refine gw_getR d_GT_isRegion_9 fl_GT_167 (ga_s1.2.1.1) rfl ?_
  refine gw_getI d_GT_isRegion_12 fl_GT_116 (ga_s1.2.1.2.1.1) rfl ?_
  refine gw_invS (as := [.inl v1, .inl 0, .inl (I 3 0)]) (rest := []) (d' := d) d_GT_isRegion_15 lk_GT_65 rfl (Nat.le_of_ble_eq_true rfl) (Nat.le_of_ble_eq_true rfl) rfl rfl (s_GT_isIn r1 ⟨by decide, by decide⟩ (hI1 _ _) ?_)
  show ga_W G (d + 1) mt_GT_isRegion 18 [some (.inr 0), some (.inl v1), some (.inl v2)] [.inl (ga_bb (decide ((0 : Int) ≤ v1 ∧ v1 ≤ (I 3 0))))] I E
  refine gw_ifb_eq 46 d_GT_isRegion_18 (by decide) (fun hc => ?_) (fun hc => ?_)
  · have h := h.1 (of_decide_eq_false hc)
    refine gw_iconst d_GT_isRegion_46 ?_
    exact gw_zreturn d_GT_isRegion_47 rfl (by decide) h
  · have h := h.2 (of_decide_eq_true hc)
    refine gw_iload_n 2 d_GT_isRegion_21 rfl rfl ?_
    refine gw_iconst d_GT_isRegion_22 ?_
    refine gw_aload_n 0 d_GT_isRegion_23 rfl rfl ?_
    refine gw_getR d_GT_isRegion_24 fl_GT_12 (ga_oG) rfl ?_
    refine gw_getR d_GT_isRegion_27 fl_GT_77 (ga_s1.1) rfl ?_
    refine gw_getR d_GT_isRegion_30 fl_GT_170 (ga_s1.2.1.1) rfl ?_
    refine gw_getI d_GT_isRegion_33 fl_GT_116 (ga_s1.2.1.2.2.1.1) rfl ?_
    refine gw_invS (as := [.inl v2, .inl 0, .inl (I 7 0)]) (rest := []) (d' := d) d_GT_isRegion_36 lk_GT_65 rfl (Nat.le_of_ble_eq_true rfl) (Nat.le_of_ble_eq_true rfl) rfl rfl (s_GT_isIn r2 ⟨by decide, by decide⟩ (hI1 _ _) ?_)
    show ga_W G (d + 1) mt_GT_isRegion 39 [some (.inr 0), some (.inl v1), some (.inl v2)] [.inl (ga_bb (decide ((0 : Int) ≤ v2 ∧ v2 ≤ (I 7 0))))] I E
    refine gw_ifb_eq 46 d_GT_isRegion_39 (by decide) (fun hc => ?_) (fun hc => ?_)
    · have h := h.1 (of_decide_eq_false hc)
      refine gw_iconst d_GT_isRegion_46 ?_
      exact gw_zreturn d_GT_isRegion_47 rfl (by decide) h
    · have h := h.2 (of_decide_eq_true hc)
      refine gw_iconst d_GT_isRegion_42 ?_
      refine gw_goto 47 d_GT_isRegion_43 (by decide) ?_
      exact gw_zreturn d_GT_isRegion_47 rfl (by decide) h

theorem k_GT_placeTowards_0 {G : ga_G} {d : Nat} {I : ga_I} {E : Option ga_V → ga_I → Prop} {v0 : Int} {v1 : Int} {v2 : Int} (r0 : ga_rg v0) (r1 : ga_rg v1)
    (h : ga_RG I → ((v1 ≤ v0) → (ga_rg (v0 - v2)) ∧ (E (some (.inl (max (v0 - v2) v1))) I)) ∧ ((¬ (v1 ≤ v0)) → (ga_rg (v0 + v2)) ∧ (E (some (.inl (min (v0 + v2) v1))) I))) :
    ga_W G (d + 1) mt_GT_placeTowards 0 (ga_en 3 [.inl v0, .inl v1, .inl v2]) [] I E := by
  show ga_W G (d + 1) mt_GT_placeTowards 0 [some (.inl v0), some (.inl v1), some (.inl v2)] [] I E
  refine gw_RG (fun hI1 => ?_)
  have h := h hI1
  refine gw_iload_n 0 d_GT_placeTowards_0 rfl rfl ?_
  refine gw_iload_n 1 d_GT_placeTowards_1 rfl rfl ?_
  refine gw_icmp_ge 15 d_GT_placeTowards_2 (by decide) r0 r1 (fun hc => ?_) (fun hc => ?_)
  · have h := h.1 hc
    refine gw_iload_n 0 d_GT_placeTowards_15 rfl rfl ?_
    refine gw_iload_n 2 d_GT_placeTowards_16 rfl rfl ?_
    refine gw_isub d_GT_placeTowards_17 ?_
    refine gw_iload_n 1 d_GT_placeTowards_18 rfl rfl ?_
    obtain ⟨g1, h⟩ := h
    refine gw_mmax d_GT_placeTowards_19 lk_GT_340 g1 r1 (by omega) (Nat.le_of_ble_eq_true rfl) ?_
    exact gw_ireturn d_GT_placeTowards_22 rfl h
  · have h := h.2 hc
    refine gw_iload_n 0 d_GT_placeTowards_5 rfl rfl ?_
    refine gw_iload_n 2 d_GT_placeTowards_6 rfl rfl ?_
    refine gw_iadd d_GT_placeTowards_7 ?_
    refine gw_iload_n 1 d_GT_placeTowards_8 rfl rfl ?_
    obtain ⟨g2, h⟩ := h
    refine gw_mmin d_GT_placeTowards_9 lk_GT_173 g2 r1 (by omega) (Nat.le_of_ble_eq_true rfl) ?_
    refine gw_goto 22 d_GT_placeTowards_12 (by decide) ?_
    exact gw_ireturn d_GT_placeTowards_22 rfl h

theorem k_GT_blendAtPoint_0 {G : ga_G} {d : Nat} {I : ga_I} {E : Option ga_V → ga_I → Prop}  
    (h : ga_RG I → (gb_ok I 3) ∧ ((-10 ≤ (I 48 0) ∧ (I 48 0) ≤ 10) ∧ ((0 ≤ (I 47 0) ∧ (I 47 0) ≤ 1000) ∧ ((∀ I1 : ga_I, I1 = (gx_bl I 344 (gp_fi (I (3 + 1)) (I (3 + 2)) (I (3 + 3)) (I 3 0).toNat (I 48 0) (I 47 0))) → (gb_ok I1 7) ∧ ((-10 ≤ (I1 48 1) ∧ (I1 48 1) ≤ 10) ∧ ((0 ≤ (I1 47 1) ∧ (I1 47 1) ≤ 1000) ∧ ((∀ I2 : ga_I, I2 = (gx_bl I1 345 (gp_fi (I1 (7 + 1)) (I1 (7 + 2)) (I1 (7 + 3)) (I1 7 0).toNat (I1 48 1) (I1 47 1))) → E none I2))))))))) :
    ga_W G (d + 3) mt_GT_blendAtPoint 0 (ga_en 1 [.inr 0]) [] I E := by
  show ga_W G (d + 3) mt_GT_blendAtPoint 0 [some (.inr 0)] [] I E
  refine gw_RG (fun hI1 => ?_)
  have h := h hI1
  refine gw_aload_n 0 d_GT_blendAtPoint_0 rfl rfl ?_
  refine gw_getR d_GT_blendAtPoint_1 fl_GT_47 (ga_oG) rfl ?_
  refine gw_aload_n 0 d_GT_blendAtPoint_4 rfl rfl ?_
  refine gw_getR d_GT_blendAtPoint_5 fl_GT_12 (ga_oG) rfl ?_
  refine gw_getR d_GT_blendAtPoint_8 fl_GT_77 (ga_s1.1) rfl ?_
  refine gw_getR d_GT_blendAtPoint_11 fl_GT_167 (ga_s1.2.1.1) rfl ?_
  refine gw_aload_n 0 d_GT_blendAtPoint_14 rfl rfl ?_
  refine gw_getR d_GT_blendAtPoint_15 fl_GT_12 (ga_oG) rfl ?_
  refine gw_getR d_GT_blendAtPoint_18 fl_GT_207 (ga_s1.1) rfl ?_
  refine gw_iconst d_GT_blendAtPoint_21 ?_
  refine gw_iald d_GT_blendAtPoint_22 (ga_s1.2.2.2.2.2.2.2.1) (by decide) (by decide) ?_
  refine gw_aload_n 0 d_GT_blendAtPoint_23 rfl rfl ?_
  refine gw_getR d_GT_blendAtPoint_24 fl_GT_12 (ga_oG) rfl ?_
  refine gw_getR d_GT_blendAtPoint_27 fl_GT_200 (ga_s1.1) rfl ?_
  refine gw_iconst d_GT_blendAtPoint_30 ?_
  refine gw_iald d_GT_blendAtPoint_31 (ga_s1.2.2.2.2.2.2.1) (by decide) (by decide) ?_
  obtain ⟨g1, h⟩ := h
  obtain ⟨g2, h⟩ := h
  obtain ⟨g3, h⟩ := h
  refine gw_invV (as := [.inr 3, .inl (I 48 0), .inl (I 47 0)]) (k := 344) (rest := []) (d' := (d + 2)) d_GT_blendAtPoint_32 lk_GT_314 (ga_rcv (ga_l344) rfl rfl) rfl (Nat.le_of_ble_eq_true rfl) (Nat.le_of_ble_eq_true rfl) rfl rfl (s_Blend_findIn ga_l344 ga_s1.2.1.2.1 g1 g2 g3 ?_)
  show ga_W G (d + 3) mt_GT_blendAtPoint 35 [some (.inr 0)] [] (gx_bl I 344 (gp_fi (I (3 + 1)) (I (3 + 2)) (I (3 + 3)) (I 3 0).toNat (I 48 0) (I 47 0))) E
  refine gw_nm (fun I1 q1 => ?_)
  have h := h I1 q1
  refine gw_RG (fun hI2 => ?_)
  refine gw_aload_n 0 d_GT_blendAtPoint_35 rfl rfl ?_
  refine gw_getR d_GT_blendAtPoint_36 fl_GT_51 (ga_oG) rfl ?_
  refine gw_aload_n 0 d_GT_blendAtPoint_39 rfl rfl ?_
  refine gw_getR d_GT_blendAtPoint_40 fl_GT_12 (ga_oG) rfl ?_
  refine gw_getR d_GT_blendAtPoint_43 fl_GT_77 (ga_s1.1) rfl ?_
  refine gw_getR d_GT_blendAtPoint_46 fl_GT_170 (ga_s1.2.1.1) rfl ?_
  refine gw_aload_n 0 d_GT_blendAtPoint_49 rfl rfl ?_
  refine gw_getR d_GT_blendAtPoint_50 fl_GT_12 (ga_oG) rfl ?_
  refine gw_getR d_GT_blendAtPoint_53 fl_GT_207 (ga_s1.1) rfl ?_
  refine gw_iconst d_GT_blendAtPoint_56 ?_
  refine gw_iald d_GT_blendAtPoint_57 (ga_s1.2.2.2.2.2.2.2.1) (by decide) (by decide) ?_
  refine gw_aload_n 0 d_GT_blendAtPoint_58 rfl rfl ?_
  refine gw_getR d_GT_blendAtPoint_59 fl_GT_12 (ga_oG) rfl ?_
  refine gw_getR d_GT_blendAtPoint_62 fl_GT_200 (ga_s1.1) rfl ?_
  refine gw_iconst d_GT_blendAtPoint_65 ?_
  refine gw_iald d_GT_blendAtPoint_66 (ga_s1.2.2.2.2.2.2.1) (by decide) (by decide) ?_
  obtain ⟨g4, h⟩ := h
  obtain ⟨g5, h⟩ := h
  obtain ⟨g6, h⟩ := h
  refine gw_invV (as := [.inr 7, .inl (I1 48 1), .inl (I1 47 1)]) (k := 345) (rest := []) (d' := (d + 2)) d_GT_blendAtPoint_67 lk_GT_314 (ga_rcv (ga_l345) rfl rfl) rfl (Nat.le_of_ble_eq_true rfl) (Nat.le_of_ble_eq_true rfl) rfl rfl (s_Blend_findIn ga_l345 ga_s1.2.1.2.2.1 g4 g5 g6 ?_)
  show ga_W G (d + 3) mt_GT_blendAtPoint 70 [some (.inr 0)] [] (gx_bl I1 345 (gp_fi (I1 (7 + 1)) (I1 (7 + 2)) (I1 (7 + 3)) (I1 7 0).toNat (I1 48 1) (I1 47 1))) E
  refine gw_nm (fun I2 q2 => ?_)
  have h := h I2 q2
  refine gw_RG (fun hI3 => ?_)
  exact gw_return d_GT_blendAtPoint_70 rfl h

section TE
variable {G : ga_G} {d : Nat} {I : ga_I} {E : Option ga_V → ga_I → Prop}
theorem s_GT_isSwing {c m : Int} (hc : 0 ≤ c ∧ c ≤ 1000) (r1 : ga_rg m) (h : E (some (.inl (ga_bb (decide ((0 ≤ m ∧ m ≤ 500) ∧ (0 ≤ c - m ∧ c - m ≤ 1000) ∧ (0 ≤ c + m ∧ c + m ≤ 1000)))))) I) : ga_W G (d + 2) mt_GT_isSwing 0 (ga_en 2 [.inl c, .inl m]) [] I E := by
  refine k_GT_isSwing_0 r1 (fun hI => ⟨fun q1 => ?_, fun q1 => ⟨⟨by omega, by omega⟩, fun q2 => ?_, fun q2 => ⟨⟨by omega, by omega⟩, fun q3 => ?_, fun q3 => ?_⟩⟩⟩)
  · exact ga_bF (decide_eq_false (fun q => q1 q.1)) h
  · exact ga_bF (decide_eq_false (fun q => q2 q.2.1)) h
  · exact ga_bF (decide_eq_false (fun q => q3 q.2.2)) h
  · exact ga_bT (decide_eq_true ⟨q1, q2, q3⟩) h
theorem s_GT_isBorder {ax b : Int} (r1 : ga_rg ax) (r2 : ga_rg b) (h : E (some (.inl (ga_bb (decide ((0 ≤ ax ∧ ax ≤ 1) ∧ (0 ≤ b ∧ b < I (ga_bo 2 ax) 0)))))) I) : ga_W G (d + 2) mt_GT_isBorder 0 (ga_en 3 [.inr 0, .inl ax, .inl b]) [] I E := by
  refine k_GT_isBorder_0 r1 r2 (fun hI => ⟨fun q1 => ?_, fun q1 => ⟨fun q2 => ?_, fun q2 => ?_⟩⟩)
  · exact ga_bF (decide_eq_false (fun q => q1 q.1)) h
  · exact ga_bF (decide_eq_false (fun q => q2 q.2)) h
  · exact ga_bT (decide_eq_true ⟨q1, q2⟩) h
theorem s_GT_isRegion {c r : Int} (r1 : ga_rg c) (r2 : ga_rg r) (h : E (some (.inl (ga_bb (decide ((0 ≤ c ∧ c ≤ I 3 0) ∧ (0 ≤ r ∧ r ≤ I 7 0)))))) I) : ga_W G (d + 1) mt_GT_isRegion 0 (ga_en 3 [.inr 0, .inl c, .inl r]) [] I E := by
  refine k_GT_isRegion_0 r1 r2 (fun hI => ⟨fun q1 => ?_, fun q1 => ⟨fun q2 => ?_, fun q2 => ?_⟩⟩)
  · exact ga_bF (decide_eq_false (fun q => q1 q.1)) h
  · exact ga_bF (decide_eq_false (fun q => q2 q.2)) h
  · exact ga_bT (decide_eq_true ⟨q1, q2⟩) h
theorem s_GT_placeTowards {c to step : Int} (h0 : 0 ≤ c ∧ c ≤ 1000) (h1 : 0 ≤ to ∧ to ≤ 1000) (h2 : 1 ≤ step ∧ step ≤ 1000) (h : E (some (.inl (ns_tw c to step))) I) : ga_W G (d + 1) mt_GT_placeTowards 0 (ga_en 3 [.inl c, .inl to, .inl step]) [] I E := by
  unfold ns_tw at h
  refine k_GT_placeTowards_0 ⟨by omega, by omega⟩ ⟨by omega, by omega⟩ (fun hI => ⟨fun q => ⟨⟨by omega, by omega⟩, ?_⟩, fun q => ⟨⟨by omega, by omega⟩, ?_⟩⟩)
  · rw [if_neg (by omega)] at h; exact h
  · rw [if_pos (by omega)] at h; exact h
def gx_bp (I : ga_I) : ga_I := gx_bl (gx_bl I 344 (gp_fi (I 4) (I 5) (I 6) (I 3 0).toNat (I 48 0) (I 47 0))) 345 (gp_fi (I 8) (I 9) (I 10) (I 7 0).toNat (I 48 1) (I 47 1))
theorem gx_bl_o {I : ga_I} {l a : Nat} {v : Int × Int × Int × Int} (h : a ≠ l) : gx_bl I l v a = I a := by
  unfold gx_bl
  rw [ga_up_fn h, ga_up_fn h, ga_up_fn h, ga_up_fn h]
theorem gl_v_bl (I : ga_I) (l : Nat) (v : Int × Int × Int × Int) : gl_v (gx_bl I l v) l = v := by
  unfold gl_v gx_bl
  rw [ga_up_nj (b := 0) (by omega), ga_up_nj (b := 0) (by omega), ga_up_nj (b := 0) (by omega), ga_up_at, ga_up_nj (b := 1) (by omega), ga_up_nj (b := 1) (by omega), ga_up_at, ga_up_nj (b := 2) (by omega), ga_up_at, ga_up_at]
theorem gl_v_o {I J : ga_I} {l : Nat} (h : J l = I l) : gl_v J l = gl_v I l := by unfold gl_v; rw [h]
theorem gx_bp_o {I : ga_I} {a : Nat} (h : a ≠ 344 ∧ a ≠ 345) : gx_bp I a = I a := by
  unfold gx_bp
  rw [gx_bl_o h.2, gx_bl_o h.1]
theorem gx_bp_v (I : ga_I) : gl_v (gx_bp I) 344 = gp_fi (I 4) (I 5) (I 6) (I 3 0).toNat (I 48 0) (I 47 0) ∧ gl_v (gx_bp I) 345 = gp_fi (I 8) (I 9) (I 10) (I 7 0).toNat (I 48 1) (I 47 1) := by
  unfold gx_bp
  refine ⟨?_, gl_v_bl _ _ _⟩
  rw [gl_v_o (gx_bl_o (by omega)), gl_v_bl]
theorem s_GT_blendAtPoint (h0 : gb_ok I 3) (h1 : gb_ok I 7) (z0 : 0 ≤ I 48 0 ∧ I 48 0 ≤ 10) (z1 : 0 ≤ I 48 1 ∧ I 48 1 ≤ 10) (c0 : 0 ≤ I 47 0 ∧ I 47 0 ≤ 1000) (c1 : 0 ≤ I 47 1 ∧ I 47 1 ≤ 1000) (h : E none (gx_bp I)) : ga_W G (d + 3) mt_GT_blendAtPoint 0 (ga_en 1 [.inr 0]) [] I E := by
  refine k_GT_blendAtPoint_0 (fun hI => ⟨h0, by omega, c0, fun I1 e1 => ?_⟩)
  have o : ∀ a, a ≠ 344 → I1 a = I a := fun a ha => by rw [e1, gx_bl_o ha]
  refine ⟨?_, by rw [o 48 (by omega)]; omega, by rw [o 47 (by omega)]; exact c1, fun I2 e2 => ?_⟩
  · unfold gb_ok; rw [o 7 (by omega), o (7 + 1) (by omega), o (7 + 2) (by omega), o (7 + 3) (by omega)]; exact h1
  · rw [o 48 (by omega), o 47 (by omega), o 7 (by omega), o (7 + 1) (by omega), o (7 + 2) (by omega), o (7 + 3) (by omega), e1] at e2
    rw [e2]
    exact h
/-- the value that the blends give -/
def gv_i (I : ga_I) (g : Int) : Int := gp_va (gl_v I 344) (gl_v I 345) (fun c r => I 11 ((c * 7 + r) * 3 + g).toNat)
def gx_nv (I : ga_I) (o : Nat) : ga_I := ga_up (ga_up (ga_up I o 0 (gv_i I 0)) o 1 (gv_i I 1)) o 2 (gv_i I 2)
end TE
theorem k_GT_isEdit_0 {G : ga_G} {d : Nat} {I : ga_I} {E : Option ga_V → ga_I → Prop} {v1 : Int} {v2 : Int} {v3 : Int} {v4 : Int} {v5 : Int} (r1 : ga_rg v1) (r2 : ga_rg v2) (r3 : ga_rg v3) (r4 : ga_rg v4) (r5 : ga_rg v5)
    (h : ga_RG I → ((¬ (0 ≤ v1 ∧ v1 ≤ 2)) → E (some (.inl 0)) I) ∧ ((0 ≤ v1 ∧ v1 ≤ 2) → ((¬ ((0 ≤ v2 ∧ v2 ≤ I 3 0) ∧ (0 ≤ v3 ∧ v3 ≤ I 7 0))) → E (some (.inl 0)) I) ∧ (((0 ≤ v2 ∧ v2 ≤ I 3 0) ∧ (0 ≤ v3 ∧ v3 ≤ I 7 0)) → ((¬ (0 ≤ v4 ∧ v4 ≤ 2)) → E (some (.inl 0)) I) ∧ ((0 ≤ v4 ∧ v4 ≤ 2) → ((¬ ((0 : Int) ≤ v5 ∧ v5 ≤ (9999 : Int))) → E (some (.inl 0)) I) ∧ (((0 : Int) ≤ v5 ∧ v5 ≤ (9999 : Int)) → E (some (.inl 1)) I))))) :
    ga_W G (d + 2) mt_GT_isEdit 0 (ga_en 6 [.inr 0, .inl v1, .inl v2, .inl v3, .inl v4, .inl v5]) [] I E := by
  show ga_W G (d + 2) mt_GT_isEdit 0 [some (.inr 0), some (.inl v1), some (.inl v2), some (.inl v3), some (.inl v4), some (.inl v5)] [] I E
  refine gw_RG (fun hI1 => ?_)
  have h := h hI1
  refine gw_iload_n 1 d_GT_isEdit_0 rfl rfl ?_
  refine gw_invS (as := [.inl v1]) (rest := []) (d' := (d + 1)) d_GT_isEdit_1 lk_GT_136 rfl (Nat.le_of_ble_eq_true rfl) (Nat.le_of_ble_eq_true rfl) rfl rfl (s_GT_isOperator r1 ?_)
  show ga_W G (d + 2) mt_GT_isEdit 4 [some (.inr 0), some (.inl v1), some (.inl v2), some (.inl v3), some (.inl v4), some (.inl v5)] [.inl (ga_bb (decide (0 ≤ v1 ∧ v1 ≤ 2)))] I E
  refine gw_ifb_eq 40 d_GT_isEdit_4 (by decide) (fun hc => ?_) (fun hc => ?_)
  · have h := h.1 (of_decide_eq_false hc)
    refine gw_iconst d_GT_isEdit_40 ?_
    exact gw_zreturn d_GT_isEdit_41 rfl (by decide) h
  · have h := h.2 (of_decide_eq_true hc)
    refine gw_aload_n 0 d_GT_isEdit_7 rfl rfl ?_
    refine gw_iload_n 2 d_GT_isEdit_8 rfl rfl ?_
    refine gw_iload_n 3 d_GT_isEdit_9 rfl rfl ?_
    refine gw_invV (as := [.inl v2, .inl v3]) (k := 0) (rest := []) (d' := (d + 1)) d_GT_isEdit_10 lk_GT_178 (ga_rcv (ga_oG) rfl rfl) rfl (Nat.le_of_ble_eq_true rfl) (Nat.le_of_ble_eq_true rfl) rfl rfl (s_GT_isRegion r2 r3 ?_)
    show ga_W G (d + 2) mt_GT_isEdit 13 [some (.inr 0), some (.inl v1), some (.inl v2), some (.inl v3), some (.inl v4), some (.inl v5)] [.inl (ga_bb (decide ((0 ≤ v2 ∧ v2 ≤ I 3 0) ∧ (0 ≤ v3 ∧ v3 ≤ I 7 0))))] I E
    refine gw_ifb_eq 40 d_GT_isEdit_13 (by decide) (fun hc => ?_) (fun hc => ?_)
    · have h := h.1 (of_decide_eq_false hc)
      refine gw_iconst d_GT_isEdit_40 ?_
      exact gw_zreturn d_GT_isEdit_41 rfl (by decide) h
    · have h := h.2 (of_decide_eq_true hc)
      refine gw_iload 4 d_GT_isEdit_16 rfl ?_
      refine gw_invS (as := [.inl v4]) (rest := []) (d' := (d + 1)) d_GT_isEdit_18 lk_GT_164 rfl (Nat.le_of_ble_eq_true rfl) (Nat.le_of_ble_eq_true rfl) rfl rfl (s_GT_isGain r4 ?_)
      show ga_W G (d + 2) mt_GT_isEdit 21 [some (.inr 0), some (.inl v1), some (.inl v2), some (.inl v3), some (.inl v4), some (.inl v5)] [.inl (ga_bb (decide (0 ≤ v4 ∧ v4 ≤ 2)))] I E
      refine gw_ifb_eq 40 d_GT_isEdit_21 (by decide) (fun hc => ?_) (fun hc => ?_)
      · have h := h.1 (of_decide_eq_false hc)
        refine gw_iconst d_GT_isEdit_40 ?_
        exact gw_zreturn d_GT_isEdit_41 rfl (by decide) h
      · have h := h.2 (of_decide_eq_true hc)
        refine gw_iload 5 d_GT_isEdit_24 rfl ?_
        refine gw_iconst d_GT_isEdit_26 ?_
        refine gw_sipush d_GT_isEdit_27 (by decide +kernel) ?_
        refine gw_invS (as := [.inl v5, .inl 0, .inl 9999]) (rest := []) (d' := (d + 1)) d_GT_isEdit_30 lk_GT_65 rfl (Nat.le_of_ble_eq_true rfl) (Nat.le_of_ble_eq_true rfl) rfl rfl (s_GT_isIn r5 ⟨by decide, by decide⟩ ⟨by decide, by decide⟩ ?_)
        show ga_W G (d + 2) mt_GT_isEdit 33 [some (.inr 0), some (.inl v1), some (.inl v2), some (.inl v3), some (.inl v4), some (.inl v5)] [.inl (ga_bb (decide ((0 : Int) ≤ v5 ∧ v5 ≤ (9999 : Int))))] I E
        refine gw_ifb_eq 40 d_GT_isEdit_33 (by decide) (fun hc => ?_) (fun hc => ?_)
        · have h := h.1 (of_decide_eq_false hc)
          refine gw_iconst d_GT_isEdit_40 ?_
          exact gw_zreturn d_GT_isEdit_41 rfl (by decide) h
        · have h := h.2 (of_decide_eq_true hc)
          refine gw_iconst d_GT_isEdit_36 ?_
          refine gw_goto 41 d_GT_isEdit_37 (by decide) ?_
          exact gw_zreturn d_GT_isEdit_41 rfl (by decide) h

theorem k_GT_blendedValue_0 {G : ga_G} {d : Nat} {I : ga_I} {E : Option ga_V → ga_I → Prop} {v1 : Int} 
    (h : ga_RG I → (ga_rg ((I 344 3) * (I 345 3))) ∧ (((((I 344 3) * (I 345 3)) ≤ 0) → E (some (.inl 0)) I) ∧ ((¬ (((I 344 3) * (I 345 3)) ≤ 0)) → (gp_vk (gl_v I 344)) ∧ ((gp_vk (gl_v I 345)) ∧ ((0 ≤ v1 ∧ v1 ≤ 2) ∧ ((∀ z1 : Int, z1 = gp_nu (gl_v I 344) (gl_v I 345) (fun c r => I (2 + 9) ((c * 7 + r) * 3 + v1).toNat) → (ga_rg z1) ∧ ((0 < ((I 344 3) * (I 345 3))) ∧ (E (some (.inl (Int.tdiv z1 ((I 344 3) * (I 345 3))))) I))))))))) :
    ga_W G (d + 2) mt_GT_blendedValue 0 (ga_en 3 [.inr 0, .inl v1]) [] I E := by
  show ga_W G (d + 2) mt_GT_blendedValue 0 [some (.inr 0), some (.inl v1), none] [] I E
  refine gw_RG (fun hI1 => ?_)
  have h := h hI1
  refine gw_aload_n 0 d_GT_blendedValue_0 rfl rfl ?_
  refine gw_getR d_GT_blendedValue_1 fl_GT_47 (ga_oG) rfl ?_
  refine gw_getI d_GT_blendedValue_4 fl_GT_280 (ga_l344) rfl ?_
  refine gw_aload_n 0 d_GT_blendedValue_7 rfl rfl ?_
  refine gw_getR d_GT_blendedValue_8 fl_GT_51 (ga_oG) rfl ?_
  refine gw_getI d_GT_blendedValue_11 fl_GT_280 (ga_l345) rfl ?_
  refine gw_imul d_GT_blendedValue_14 ?_
  refine gw_istore_n 2 d_GT_blendedValue_15 rfl (Nat.le_of_ble_eq_true rfl) rfl ?_
  refine gw_iload_n 2 d_GT_blendedValue_16 rfl rfl ?_
  obtain ⟨g1, h⟩ := h
  refine gw_if_le 44 d_GT_blendedValue_17 (by decide) g1 (fun hc => ?_) (fun hc => ?_)
  · have h := h.1 hc
    refine gw_iconst d_GT_blendedValue_44 ?_
    exact gw_ireturn d_GT_blendedValue_45 rfl h
  · have h := h.2 hc
    refine gw_aload_n 0 d_GT_blendedValue_20 rfl rfl ?_
    refine gw_getR d_GT_blendedValue_21 fl_GT_12 (ga_oG) rfl ?_
    refine gw_getR d_GT_blendedValue_24 fl_GT_77 (ga_s1.1) rfl ?_
    refine gw_aload_n 0 d_GT_blendedValue_27 rfl rfl ?_
    refine gw_getR d_GT_blendedValue_28 fl_GT_47 (ga_oG) rfl ?_
    refine gw_aload_n 0 d_GT_blendedValue_31 rfl rfl ?_
    refine gw_getR d_GT_blendedValue_32 fl_GT_51 (ga_oG) rfl ?_
    refine gw_iload_n 1 d_GT_blendedValue_35 rfl rfl ?_
    obtain ⟨g2, h⟩ := h
    obtain ⟨g3, h⟩ := h
    obtain ⟨g4, h⟩ := h
    refine gw_invV (as := [.inr 344, .inr 345, .inl v1]) (k := 2) (rest := []) (d' := (d + 1)) d_GT_blendedValue_36 lk_GT_298 (ga_rcv (ga_s1.2.1.1) rfl rfl) rfl (Nat.le_of_ble_eq_true rfl) (Nat.le_of_ble_eq_true rfl) rfl rfl (s_Table_numerator ga_s1.2.1 ga_l344 ga_l345 g2 g3 g4 ?_)
    show ga_W G (d + 2) mt_GT_blendedValue 39 [some (.inr 0), some (.inl v1), some (.inl ((I 344 3) * (I 345 3)))] [.inl (gp_nu (gl_v I 344) (gl_v I 345) (fun c r => I (2 + 9) ((c * 7 + r) * 3 + v1).toNat))] I E
    refine gw_nz (z := gp_nu (gl_v I 344) (gl_v I 345) (fun c r => I (2 + 9) ((c * 7 + r) * 3 + v1).toNat)) (fun z1 q1 => ?_)
    have h := h z1 q1
    refine gw_iload_n 2 d_GT_blendedValue_39 rfl rfl ?_
    obtain ⟨g5, h⟩ := h
    obtain ⟨g6, h⟩ := h
    refine gw_idiv d_GT_blendedValue_40 g5 g1 g6 ?_
    refine gw_goto 45 d_GT_blendedValue_41 (by decide) ?_
    exact gw_ireturn d_GT_blendedValue_45 rfl h

section TE
variable {G : ga_G} {d : Nat} {I : ga_I} {E : Option ga_V → ga_I → Prop}
theorem s_GT_isEdit {op c r i z : Int} (r1 : ga_rg op) (r2 : ga_rg c) (r3 : ga_rg r) (r4 : ga_rg i) (r5 : ga_rg z) (h : E (some (.inl (ga_bb (decide ((0 ≤ op ∧ op ≤ 2) ∧ ((0 ≤ c ∧ c ≤ I 3 0) ∧ (0 ≤ r ∧ r ≤ I 7 0)) ∧ (0 ≤ i ∧ i ≤ 2) ∧ (0 ≤ z ∧ z ≤ 9999)))))) I) : ga_W G (d + 2) mt_GT_isEdit 0 (ga_en 6 [.inr 0, .inl op, .inl c, .inl r, .inl i, .inl z]) [] I E := by
  refine k_GT_isEdit_0 r1 r2 r3 r4 r5 (fun hI => ⟨fun q1 => ?_, fun q1 => ⟨fun q2 => ?_, fun q2 => ⟨fun q3 => ?_, fun q3 => ⟨fun q4 => ?_, fun q4 => ?_⟩⟩⟩⟩)
  · exact ga_bF (decide_eq_false (fun q => q1 q.1)) h
  · exact ga_bF (decide_eq_false (fun q => q2 q.2.1)) h
  · exact ga_bF (decide_eq_false (fun q => q3 q.2.2.1)) h
  · exact ga_bF (decide_eq_false (fun q => q4 q.2.2.2)) h
  · exact ga_bT (decide_eq_true ⟨q1, q2, q3, q4⟩) h
theorem gr_gn_f {I : ga_I} {g : Int} (hg : 0 ≤ g ∧ g ≤ 2) (h : gr_gn I 2) : ∀ a b : Int, 0 ≤ a → a ≤ 6 → 0 ≤ b → b ≤ 6 → 0 ≤ I 11 ((a * 7 + b) * 3 + g).toNat ∧ I 11 ((a * 7 + b) * 3 + g).toNat ≤ 9999 := fun a b h1 h2 h3 h4 => h _ (by omega)
theorem gv_i_bd {I : ga_I} {g : Int} (h1 : gp_vk (gl_v I 344)) (h2 : gp_vk (gl_v I 345)) (hg : 0 ≤ g ∧ g ≤ 2) (h : gr_gn I 2) : 0 ≤ gv_i I g ∧ gv_i I g ≤ 9999 := gp_va_bd h1 h2 (gr_gn_f hg h)
theorem s_GT_blendedValue {g : Int} (h1 : gp_vk (gl_v I 344)) (h2 : gp_vk (gl_v I 345)) (hg : 0 ≤ g ∧ g ≤ 2) (hm : gr_gn I 2) (h : E (some (.inl (gv_i I g))) I) : ga_W G (d + 2) mt_GT_blendedValue 0 (ga_en 3 [.inr 0, .inl g]) [] I E := by
  have hn := gp_nu_bd h1 h2 (gr_gn_f hg hm)
  have a1 : 1 ≤ I 344 3 ∧ I 344 3 ≤ 200 := h1.2.2.2
  have a2 : 1 ≤ I 345 3 ∧ I 345 3 ≤ 200 := h2.2.2.2
  have p1 : 0 < I 344 3 * I 345 3 := Int.mul_pos (by omega) (by omega)
  have p2 : I 344 3 * I 345 3 ≤ 200 * 200 := Int.mul_le_mul a1.2 a2.2 (by omega) (by omega)
  refine k_GT_blendedValue_0 (fun hI => ⟨⟨by omega, by omega⟩, fun q => by exfalso; omega, fun q => ⟨h1, h2, hg, fun z1 f1 => ⟨?_, p1, ?_⟩⟩⟩)
  · rw [f1]
    obtain ⟨n1, n2, n3⟩ := hn
    have u : ga_rg (gp_nu (gl_v I 344) (gl_v I 345) (fun c r => I 11 ((c * 7 + r) * 3 + g).toNat)) := by constructor <;> omega
    exact u
  · rw [f1]; exact h
end TE
theorem k_GT_noteValues_0 {G : ga_G} {d : Nat} {I : ga_I} {E : Option ga_V → ga_I → Prop} {o1 n1 : Nat} 
    (h : ga_RG I → ga_W G (d + 3) mt_GT_noteValues 2 [some (.inr 0), some (.inr o1), some (.inl 0)] [] I E) :
    ga_W G (d + 3) mt_GT_noteValues 0 (ga_en 3 [.inr 0, .inr o1]) [] I E := by
  show ga_W G (d + 3) mt_GT_noteValues 0 [some (.inr 0), some (.inr o1), none] [] I E
  refine gw_RG (fun hI1 => ?_)
  have h := h hI1
  refine gw_iconst d_GT_noteValues_0 ?_
  refine gw_istore_n 2 d_GT_noteValues_1 rfl (Nat.le_of_ble_eq_true rfl) rfl ?_
  exact gw_le h (by exact ⟨rfl, ⟨rfl, ⟨rfl, trivial⟩⟩⟩)
theorem k_GT_noteValues_2 {G : ga_G} {d : Nat} {I : ga_I} {E : Option ga_V → ga_I → Prop} {o1 n1 : Nat} {v2 : Int} (ho1 : ga_arr o1 0 n1) (r2 : ga_rg v2)
    (h : ga_RG I → (ga_rg (n1 : Int)) ∧ ((((n1 : Int) ≤ v2) → E none I) ∧ ((¬ ((n1 : Int) ≤ v2)) → (gp_vk (gl_v I 344)) ∧ ((gp_vk (gl_v I 345)) ∧ ((0 ≤ v2 ∧ v2 ≤ 2) ∧ ((gr_gn I 2) ∧ ((0 ≤ v2) ∧ ((v2 < n1) ∧ ((∀ I1 : ga_I, I1 = (ga_up I o1 v2.toNat (ga_wr (gv_i I v2))) → ga_W G (d + 3) mt_GT_noteValues 2 [some (.inr 0), some (.inr o1), some (.inl (v2 + 1))] [] I1 E)))))))))) :
    ga_W G (d + 3) mt_GT_noteValues 2 [some (.inr 0), some (.inr o1), some (.inl v2)] [] I E := by
  refine gw_RG (fun hI1 => ?_)
  have h := h hI1
  refine gw_iload_n 2 d_GT_noteValues_2 rfl rfl ?_
  refine gw_aload_n 1 d_GT_noteValues_3 rfl rfl ?_
  refine gw_alenZ (z := (n1 : Int)) d_GT_noteValues_4 (ho1) (by decide) rfl ?_
  obtain ⟨g1, h⟩ := h
  refine gw_icmp_ge 22 d_GT_noteValues_5 (by decide) r2 g1 (fun hc => ?_) (fun hc => ?_)
  · have h := h.1 hc
    exact gw_return d_GT_noteValues_22 rfl h
  · have h := h.2 hc
    refine gw_aload_n 1 d_GT_noteValues_8 rfl rfl ?_
    refine gw_iload_n 2 d_GT_noteValues_9 rfl rfl ?_
    refine gw_aload_n 0 d_GT_noteValues_10 rfl rfl ?_
    refine gw_iload_n 2 d_GT_noteValues_11 rfl rfl ?_
    obtain ⟨g2, h⟩ := h
    obtain ⟨g3, h⟩ := h
    obtain ⟨g4, h⟩ := h
    obtain ⟨g5, h⟩ := h
    refine gw_invV (as := [.inl v2]) (k := 0) (rest := [.inl v2, .inr o1]) (d' := (d + 2)) d_GT_noteValues_12 lk_GT_295 (ga_rcv (ga_oG) rfl rfl) rfl (Nat.le_of_ble_eq_true rfl) (Nat.le_of_ble_eq_true rfl) rfl rfl (s_GT_blendedValue g2 g3 g4 g5 ?_)
    show ga_W G (d + 3) mt_GT_noteValues 15 [some (.inr 0), some (.inr o1), some (.inl v2)] [.inl (gv_i I v2), .inl v2, .inr o1] I E
    obtain ⟨g6, h⟩ := h
    obtain ⟨g7, h⟩ := h
    refine gw_iast d_GT_noteValues_15 (ho1) g6 g7 ?_
    refine gw_nm (J := (ga_up I o1 v2.toNat (ga_wr (gv_i I v2)))) (fun I1 q1 => ?_)
    have h := h I1 q1
    refine gw_RG (fun hI2 => ?_)
    refine gw_iinc 2 d_GT_noteValues_16 rfl rfl ?_
    refine gw_goto 2 d_GT_noteValues_19 (by decide) ?_
    exact gw_le h (by exact ⟨rfl, ⟨rfl, ⟨rfl, trivial⟩⟩⟩)

theorem k_GT_greatestDifference_0 {G : ga_G} {d : Nat} {I : ga_I} {E : Option ga_V → ga_I → Prop}  
    (h : ga_RG I → ga_W G (d + 1) mt_GT_greatestDifference 4 [some (.inr 0), some (.inl 0), some (.inl 0)] [] I E) :
    ga_W G (d + 1) mt_GT_greatestDifference 0 (ga_en 3 [.inr 0]) [] I E := by
  show ga_W G (d + 1) mt_GT_greatestDifference 0 [some (.inr 0), none, none] [] I E
  refine gw_RG (fun hI1 => ?_)
  have h := h hI1
  refine gw_iconst d_GT_greatestDifference_0 ?_
  refine gw_istore_n 1 d_GT_greatestDifference_1 rfl (Nat.le_of_ble_eq_true rfl) rfl ?_
  refine gw_iconst d_GT_greatestDifference_2 ?_
  refine gw_istore_n 2 d_GT_greatestDifference_3 rfl (Nat.le_of_ble_eq_true rfl) rfl ?_
  exact gw_le h (by exact ⟨rfl, ⟨rfl, ⟨rfl, trivial⟩⟩⟩)
theorem k_GT_greatestDifference_4 {G : ga_G} {d : Nat} {I : ga_I} {E : Option ga_V → ga_I → Prop} {v1 : Int} {v2 : Int} (r1 : ga_rg v1) (r2 : ga_rg v2)
    (h : ga_RG I → ((3 ≤ v2) → E (some (.inl v1)) I) ∧ ((¬ (3 ≤ v2)) → (0 ≤ v2) ∧ ((v2 < 3) ∧ ((ga_rg ((I 347 v2.toNat) - (I 346 v2.toNat))) ∧ ((ga_rg (((I 347 v2.toNat) - (I 346 v2.toNat)).natAbs : Int)) ∧ (ga_W G (d + 1) mt_GT_greatestDifference 4 [some (.inr 0), some (.inl (max v1 (((I 347 v2.toNat) - (I 346 v2.toNat)).natAbs : Int))), some (.inl (v2 + 1))] [] I E)))))) :
    ga_W G (d + 1) mt_GT_greatestDifference 4 [some (.inr 0), some (.inl v1), some (.inl v2)] [] I E := by
  refine gw_RG (fun hI1 => ?_)
  have h := h hI1
  refine gw_iload_n 2 d_GT_greatestDifference_4 rfl rfl ?_
  refine gw_iconst d_GT_greatestDifference_5 ?_
  refine gw_icmp_ge 36 d_GT_greatestDifference_6 (by decide) r2 ⟨by decide, by decide⟩ (fun hc => ?_) (fun hc => ?_)
  · have h := h.1 hc
    refine gw_iload_n 1 d_GT_greatestDifference_36 rfl rfl ?_
    exact gw_ireturn d_GT_greatestDifference_37 rfl h
  · have h := h.2 hc
    refine gw_iload_n 1 d_GT_greatestDifference_9 rfl rfl ?_
    refine gw_aload_n 0 d_GT_greatestDifference_10 rfl rfl ?_
    refine gw_getR d_GT_greatestDifference_11 fl_GT_58 (ga_oG) rfl ?_
    refine gw_iload_n 2 d_GT_greatestDifference_14 rfl rfl ?_
    obtain ⟨g1, h⟩ := h
    obtain ⟨g2, h⟩ := h
    refine gw_iald d_GT_greatestDifference_15 (ga_a347) g1 g2 ?_
    refine gw_aload_n 0 d_GT_greatestDifference_16 rfl rfl ?_
    refine gw_getR d_GT_greatestDifference_17 fl_GT_54 (ga_oG) rfl ?_
    refine gw_iload_n 2 d_GT_greatestDifference_20 rfl rfl ?_
    refine gw_iald d_GT_greatestDifference_21 (ga_a346) g1 g2 ?_
    refine gw_isub d_GT_greatestDifference_22 ?_
    obtain ⟨g3, h⟩ := h
    refine gw_mabs d_GT_greatestDifference_23 lk_GT_337 g3 (by omega) (Nat.le_of_ble_eq_true rfl) ?_
    obtain ⟨g4, h⟩ := h
    refine gw_mmax d_GT_greatestDifference_26 lk_GT_340 r1 g4 (by omega) (Nat.le_of_ble_eq_true rfl) ?_
    refine gw_istore_n 1 d_GT_greatestDifference_29 rfl (Nat.le_of_ble_eq_true rfl) rfl ?_
    refine gw_iinc 2 d_GT_greatestDifference_30 rfl rfl ?_
    refine gw_goto 4 d_GT_greatestDifference_33 (by decide) ?_
    exact gw_le h (by exact ⟨rfl, ⟨rfl, ⟨rfl, trivial⟩⟩⟩)

section TE
variable {G : ga_G} {d : Nat} {I : ga_I} {E : Option ga_V → ga_I → Prop}
theorem s_GT_noteValues {o : Nat} (ho : o = 346 ∨ o = 347) (h1 : gp_vk (gl_v I 344)) (h2 : gp_vk (gl_v I 345)) (hm : gr_gn I 2) (h : E none (gx_nv I o)) : ga_W G (d + 3) mt_GT_noteValues 0 (ga_en 3 [.inr 0, .inr o]) [] I E := by
  have hA : ga_arr o 0 3 := by
    rcases ho with e | e <;> subst e
    · exact ga_a346
    · exact ga_a347
  have step : ∀ (J : ga_I) (g : Int), 0 ≤ g → g ≤ 2 → (∀ a, a ≠ o → J a = I a) → ga_W G (d + 3) mt_GT_noteValues 2 [some (.inr 0), some (.inr o), some (.inl (g + 1))] [] (ga_up J o g.toNat (gv_i I g)) E → ga_W G (d + 3) mt_GT_noteValues 2 [some (.inr 0), some (.inr o), some (.inl g)] [] J E := fun J g g0 g2 hJ K => by
    have e1 : gl_v J 344 = gl_v I 344 := gl_v_o (hJ 344 (by omega))
    have e2 : gl_v J 345 = gl_v I 345 := gl_v_o (hJ 345 (by omega))
    have e3 : gv_i J g = gv_i I g := by unfold gv_i; rw [e1, e2, hJ 11 (by omega)]
    have hb := gv_i_bd h1 h2 ⟨g0, g2⟩ hm
    refine k_GT_noteValues_2 hA ⟨by omega, by omega⟩ (fun hI => ⟨⟨by omega, by omega⟩, fun q => by exfalso; omega, fun q => ⟨by rw [e1]; exact h1, by rw [e2]; exact h2, by omega, by unfold gr_gn; rw [hJ (2 + 9) (by omega)]; exact hm, by omega, by omega, fun J2 e => ?_⟩⟩)
    rw [e3, ga_wr_eq ⟨by omega, by omega⟩] at e
    rw [e]
    exact K
  refine k_GT_noteValues_0 (n1 := 3) (fun hI => ?_)
  refine step I 0 (by omega) (by omega) (fun _ _ => rfl) ?_
  refine step _ (0 + 1) (by omega) (by omega) (fun a ha => by rw [ga_up_fn ha]) ?_
  refine step _ (0 + 1 + 1) (by omega) (by omega) (fun a ha => by rw [ga_up_fn ha, ga_up_fn ha]) ?_
  exact k_GT_noteValues_2 hA ⟨by omega, by omega⟩ (fun hI => ⟨⟨by omega, by omega⟩, fun q => h, fun q => by exfalso; omega⟩)
theorem s_GT_greatestDifference (hb : ∀ i : Nat, i < 3 → (0 ≤ I 346 i ∧ I 346 i ≤ 9999) ∧ (0 ≤ I 347 i ∧ I 347 i ≤ 9999)) (h : E (some (.inl (gp_j3 ((I 347 0 - I 346 0).natAbs : Int) ((I 347 1 - I 346 1).natAbs : Int) ((I 347 2 - I 346 2).natAbs : Int)))) I) : ga_W G (d + 1) mt_GT_greatestDifference 0 (ga_en 3 [.inr 0]) [] I E := by
  have b0 := hb 0 (by omega)
  have b1 := hb 1 (by omega)
  have b2 := hb 2 (by omega)
  have step : ∀ (w : Int) (g : Nat), g < 3 → (0 ≤ w ∧ w ≤ 9999) → ga_W G (d + 1) mt_GT_greatestDifference 4 [some (.inr 0), some (.inl (max w ((I 347 g - I 346 g).natAbs : Int))), some (.inl ((g : Int) + 1))] [] I E → ga_W G (d + 1) mt_GT_greatestDifference 4 [some (.inr 0), some (.inl w), some (.inl (g : Int))] [] I E := fun w g hg hw K => by
    have bg := hb g hg
    refine k_GT_greatestDifference_4 ⟨by omega, by omega⟩ ⟨by omega, by omega⟩ (fun hI => ⟨fun q => by exfalso; omega, fun q => ⟨by omega, by omega, ?_⟩⟩)
    rw [Int.toNat_natCast]
    exact ⟨⟨by omega, by omega⟩, ⟨by omega, by omega⟩, K⟩
  unfold gp_j3 at h
  refine k_GT_greatestDifference_0 (fun hI => ?_)
  refine step 0 0 (by omega) (by omega) ?_
  refine step _ 1 (by omega) (by omega) ?_
  refine step _ 2 (by omega) (by omega) ?_
  refine k_GT_greatestDifference_4 ?_ ⟨by omega, by omega⟩ (fun hI => ⟨fun q => h, fun q => by exfalso; omega⟩)
  constructor <;> omega
end TE
theorem k_GT_carryOutMove_0 {G : ga_G} {d : Nat} {I : ga_I} {E : Option ga_V → ga_I → Prop} {v1 : Int} {v2 : Int} (r1 : ga_rg v1) (r2 : ga_rg v2)
    (h : ga_RG I → (gr_pt I 1) ∧ ((0 ≤ v1 ∧ v1 ≤ 1000) ∧ ((0 ≤ v2 ∧ v2 ≤ 1000) ∧ (((¬ (((v1 - I (1 + 46) 0).natAbs : Int) < I 1 7 ∧ ((v2 - I (1 + 46) 1).natAbs : Int) < I 1 7)) → (gb_ok I 3) ∧ ((gb_ok I 7) ∧ ((0 ≤ I 48 0 ∧ I 48 0 ≤ 10) ∧ ((0 ≤ I 48 1 ∧ I 48 1 ≤ 10) ∧ ((0 ≤ I 47 0 ∧ I 47 0 ≤ 1000) ∧ ((0 ≤ I 47 1 ∧ I 47 1 ≤ 1000) ∧ ((∀ I1 : ga_I, I1 = (gx_bp I) → (346 = 346 ∨ 346 = 347) ∧ ((gp_vk (gl_v I1 344)) ∧ ((gp_vk (gl_v I1 345)) ∧ ((gr_gn I1 2) ∧ ((∀ I2 : ga_I, I2 = (gx_nv I1 346) → (gb_ok I2 (1 + 2)) ∧ ((gb_ok I2 (1 + 6)) ∧ ((-10 ≤ I2 (1 + 47) 0 ∧ I2 (1 + 47) 0 ≤ 10) ∧ ((-10 ≤ I2 (1 + 47) 1 ∧ I2 (1 + 47) 1 ≤ 10) ∧ ((∀ I3 : ga_I, I3 = (gx_pp I2 1 v1 v2) → (gb_ok I3 3) ∧ ((gb_ok I3 7) ∧ ((0 ≤ I3 48 0 ∧ I3 48 0 ≤ 10) ∧ ((0 ≤ I3 48 1 ∧ I3 48 1 ≤ 10) ∧ ((0 ≤ I3 47 0 ∧ I3 47 0 ≤ 1000) ∧ ((0 ≤ I3 47 1 ∧ I3 47 1 ≤ 1000) ∧ ((∀ I4 : ga_I, I4 = (gx_bp I3) → (347 = 346 ∨ 347 = 347) ∧ ((gp_vk (gl_v I4 344)) ∧ ((gp_vk (gl_v I4 345)) ∧ ((gr_gn I4 2) ∧ ((∀ I5 : ga_I, I5 = (gx_nv I4 347) → (∀ i : Nat, i < 3 → (0 ≤ I5 346 i ∧ I5 346 i ≤ 9999) ∧ (0 ≤ I5 347 i ∧ I5 347 i ≤ 9999)) ∧ ((∀ z1 : Int, z1 = gp_j3 ((I5 347 0 - I5 346 0).natAbs : Int) ((I5 347 1 - I5 346 1).natAbs : Int) ((I5 347 2 - I5 346 2).natAbs : Int) → (gr_P I5 (1 + 48)) ∧ ((347 < 1 ∨ 1 + 54 ≤ 347) ∧ ((ga_rg z1) ∧ ((∀ I6 : ga_I, gr_ne I5 I6 1 347 z1 → (∀ I7 : ga_I, I7 = (ga_up I6 1 10 (ga_wr ((I6 1 10) + 1))) → E (some (.inl z1)) I7))))))))))))))))))))))))))))))))))))) ∧ ((((v1 - I (1 + 46) 0).natAbs : Int) < I 1 7 ∧ ((v2 - I (1 + 46) 1).natAbs : Int) < I 1 7) → (∀ I8 : ga_I, I8 = (ga_up I 1 9 (ga_wr ((I 1 9) + 1))) → E (some (.inl (-2000000009))) I8)))))) :
    ga_W G (d + 4) mt_GT_carryOutMove 0 (ga_en 4 [.inr 0, .inl v1, .inl v2]) [] I E := by
  show ga_W G (d + 4) mt_GT_carryOutMove 0 [some (.inr 0), some (.inl v1), some (.inl v2), none] [] I E
  refine gw_RG (fun hI1 => ?_)
  have h := h hI1
  refine gw_aload_n 0 d_GT_carryOutMove_0 rfl rfl ?_
  refine gw_getR d_GT_carryOutMove_1 fl_GT_12 (ga_oG) rfl ?_
  refine gw_iload_n 1 d_GT_carryOutMove_4 rfl rfl ?_
  refine gw_iload_n 2 d_GT_carryOutMove_5 rfl rfl ?_
  obtain ⟨g1, h⟩ := h
  obtain ⟨g2, h⟩ := h
  obtain ⟨g3, h⟩ := h
  refine gw_invV (as := [.inl v1, .inl v2]) (k := 1) (rest := []) (d' := (d + 3)) d_GT_carryOutMove_6 lk_GT_304 (ga_rcv (ga_s1.1) rfl rfl) rfl (Nat.le_of_ble_eq_true rfl) (Nat.le_of_ble_eq_true rfl) rfl rfl (s_State_ignores ga_s1 g1 g2 g3 ?_)
  show ga_W G (d + 4) mt_GT_carryOutMove 9 [some (.inr 0), some (.inl v1), some (.inl v2), none] [.inl (ga_bb (decide (((v1 - I (1 + 46) 0).natAbs : Int) < I 1 7 ∧ ((v2 - I (1 + 46) 1).natAbs : Int) < I 1 7)))] I E
  refine gw_ifb_eq 28 d_GT_carryOutMove_9 (by decide) (fun hc => ?_) (fun hc => ?_)
  · have h := h.1 (of_decide_eq_false hc)
    refine gw_aload_n 0 d_GT_carryOutMove_28 rfl rfl ?_
    obtain ⟨g4, h⟩ := h
    obtain ⟨g5, h⟩ := h
    obtain ⟨g6, h⟩ := h
    obtain ⟨g7, h⟩ := h
    obtain ⟨g8, h⟩ := h
    obtain ⟨g9, h⟩ := h
    refine gw_invV (as := []) (k := 0) (rest := []) (d' := (d + 3)) d_GT_carryOutMove_29 lk_GT_266 (ga_rcv (ga_oG) rfl rfl) rfl (Nat.le_of_ble_eq_true rfl) (Nat.le_of_ble_eq_true rfl) rfl rfl (s_GT_blendAtPoint g4 g5 g6 g7 g8 g9 ?_)
    show ga_W G (d + 4) mt_GT_carryOutMove 32 [some (.inr 0), some (.inl v1), some (.inl v2), none] [] (gx_bp I) E
    refine gw_nm (fun I1 q1 => ?_)
    have h := h I1 q1
    refine gw_RG (fun hI2 => ?_)
    refine gw_aload_n 0 d_GT_carryOutMove_32 rfl rfl ?_
    refine gw_aload_n 0 d_GT_carryOutMove_33 rfl rfl ?_
    refine gw_getR d_GT_carryOutMove_34 fl_GT_54 (ga_oG) rfl ?_
    obtain ⟨g10, h⟩ := h
    obtain ⟨g11, h⟩ := h
    obtain ⟨g12, h⟩ := h
    obtain ⟨g13, h⟩ := h
    refine gw_invV (as := [.inr 346]) (k := 0) (rest := []) (d' := (d + 3)) d_GT_carryOutMove_37 lk_GT_310 (ga_rcv (ga_oG) rfl rfl) rfl (Nat.le_of_ble_eq_true rfl) (Nat.le_of_ble_eq_true rfl) rfl rfl (s_GT_noteValues g10 g11 g12 g13 ?_)
    show ga_W G (d + 4) mt_GT_carryOutMove 40 [some (.inr 0), some (.inl v1), some (.inl v2), none] [] (gx_nv I1 346) E
    refine gw_nm (fun I2 q2 => ?_)
    have h := h I2 q2
    refine gw_RG (fun hI3 => ?_)
    refine gw_aload_n 0 d_GT_carryOutMove_40 rfl rfl ?_
    refine gw_getR d_GT_carryOutMove_41 fl_GT_12 (ga_oG) rfl ?_
    refine gw_iload_n 1 d_GT_carryOutMove_44 rfl rfl ?_
    refine gw_iload_n 2 d_GT_carryOutMove_45 rfl rfl ?_
    obtain ⟨g14, h⟩ := h
    obtain ⟨g15, h⟩ := h
    obtain ⟨g16, h⟩ := h
    obtain ⟨g17, h⟩ := h
    refine gw_invV (as := [.inl v1, .inl v2]) (k := 1) (rest := []) (d' := (d + 3)) d_GT_carryOutMove_46 lk_GT_343 (ga_rcv (ga_s1.1) rfl rfl) rfl (Nat.le_of_ble_eq_true rfl) (Nat.le_of_ble_eq_true rfl) rfl rfl (s_State_putPoint ga_s1 g14 g15 g16 g17 r1 r2 ?_)
    show ga_W G (d + 4) mt_GT_carryOutMove 49 [some (.inr 0), some (.inl v1), some (.inl v2), none] [] (gx_pp I2 1 v1 v2) E
    refine gw_nm (fun I3 q3 => ?_)
    have h := h I3 q3
    refine gw_RG (fun hI4 => ?_)
    refine gw_aload_n 0 d_GT_carryOutMove_49 rfl rfl ?_
    obtain ⟨g18, h⟩ := h
    obtain ⟨g19, h⟩ := h
    obtain ⟨g20, h⟩ := h
    obtain ⟨g21, h⟩ := h
    obtain ⟨g22, h⟩ := h
    obtain ⟨g23, h⟩ := h
    refine gw_invV (as := []) (k := 0) (rest := []) (d' := (d + 3)) d_GT_carryOutMove_50 lk_GT_266 (ga_rcv (ga_oG) rfl rfl) rfl (Nat.le_of_ble_eq_true rfl) (Nat.le_of_ble_eq_true rfl) rfl rfl (s_GT_blendAtPoint g18 g19 g20 g21 g22 g23 ?_)
    show ga_W G (d + 4) mt_GT_carryOutMove 53 [some (.inr 0), some (.inl v1), some (.inl v2), none] [] (gx_bp I3) E
    refine gw_nm (fun I4 q4 => ?_)
    have h := h I4 q4
    refine gw_RG (fun hI5 => ?_)
    refine gw_aload_n 0 d_GT_carryOutMove_53 rfl rfl ?_
    refine gw_aload_n 0 d_GT_carryOutMove_54 rfl rfl ?_
    refine gw_getR d_GT_carryOutMove_55 fl_GT_58 (ga_oG) rfl ?_
    obtain ⟨g24, h⟩ := h
    obtain ⟨g25, h⟩ := h
    obtain ⟨g26, h⟩ := h
    obtain ⟨g27, h⟩ := h
    refine gw_invV (as := [.inr 347]) (k := 0) (rest := []) (d' := (d + 3)) d_GT_carryOutMove_58 lk_GT_310 (ga_rcv (ga_oG) rfl rfl) rfl (Nat.le_of_ble_eq_true rfl) (Nat.le_of_ble_eq_true rfl) rfl rfl (s_GT_noteValues g24 g25 g26 g27 ?_)
    show ga_W G (d + 4) mt_GT_carryOutMove 61 [some (.inr 0), some (.inl v1), some (.inl v2), none] [] (gx_nv I4 347) E
    refine gw_nm (fun I5 q5 => ?_)
    have h := h I5 q5
    refine gw_RG (fun hI6 => ?_)
    refine gw_aload_n 0 d_GT_carryOutMove_61 rfl rfl ?_
    obtain ⟨g28, h⟩ := h
    refine gw_invV (as := []) (k := 0) (rest := []) (d' := (d + 3)) d_GT_carryOutMove_62 lk_GT_318 (ga_rcv (ga_oG) rfl rfl) rfl (Nat.le_of_ble_eq_true rfl) (Nat.le_of_ble_eq_true rfl) rfl rfl (s_GT_greatestDifference g28 ?_)
    show ga_W G (d + 4) mt_GT_carryOutMove 65 [some (.inr 0), some (.inl v1), some (.inl v2), none] [.inl (gp_j3 ((I5 347 0 - I5 346 0).natAbs : Int) ((I5 347 1 - I5 346 1).natAbs : Int) ((I5 347 2 - I5 346 2).natAbs : Int))] I5 E
    refine gw_nz (z := gp_j3 ((I5 347 0 - I5 346 0).natAbs : Int) ((I5 347 1 - I5 346 1).natAbs : Int) ((I5 347 2 - I5 346 2).natAbs : Int)) (fun z1 q6 => ?_)
    have h := h z1 q6
    refine gw_istore_n 3 d_GT_carryOutMove_65 rfl (Nat.le_of_ble_eq_true rfl) rfl ?_
    refine gw_aload_n 0 d_GT_carryOutMove_66 rfl rfl ?_
    refine gw_getR d_GT_carryOutMove_67 fl_GT_12 (ga_oG) rfl ?_
    refine gw_aload_n 0 d_GT_carryOutMove_70 rfl rfl ?_
    refine gw_getR d_GT_carryOutMove_71 fl_GT_58 (ga_oG) rfl ?_
    refine gw_iload_n 3 d_GT_carryOutMove_74 rfl rfl ?_
    obtain ⟨g29, h⟩ := h
    obtain ⟨g30, h⟩ := h
    obtain ⟨g31, h⟩ := h
    refine gw_invV (as := [.inr 347, .inl z1]) (k := 1) (rest := []) (d' := (d + 3)) d_GT_carryOutMove_75 lk_GT_346 (ga_rcv (ga_s1.1) rfl rfl) rfl (Nat.le_of_ble_eq_true rfl) (Nat.le_of_ble_eq_true rfl) rfl rfl (s_State_noteEntry ga_s1 ga_a347 g29 g30 g31 (fun I6 q7 => ?_))
    have h := h I6 q7
    show ga_W G (d + 4) mt_GT_carryOutMove 78 [some (.inr 0), some (.inl v1), some (.inl v2), some (.inl z1)] [] I6 E
    refine gw_RG (fun hI7 => ?_)
    refine gw_aload_n 0 d_GT_carryOutMove_78 rfl rfl ?_
    refine gw_getR d_GT_carryOutMove_79 fl_GT_12 (ga_oG) rfl ?_
    refine gw_dup d_GT_carryOutMove_82 ?_
    refine gw_getI d_GT_carryOutMove_83 fl_GT_260 (ga_s1.1) rfl ?_
    refine gw_iconst d_GT_carryOutMove_86 ?_
    refine gw_iadd d_GT_carryOutMove_87 ?_
    refine gw_putI d_GT_carryOutMove_88 fp_GT_260 (ga_s1.1) rfl ?_
    refine gw_nm (J := (ga_up I6 1 10 (ga_wr ((I6 1 10) + 1)))) (fun I7 q8 => ?_)
    have h := h I7 q8
    refine gw_RG (fun hI8 => ?_)
    refine gw_iload_n 3 d_GT_carryOutMove_91 rfl rfl ?_
    exact gw_ireturn d_GT_carryOutMove_92 rfl h
  · have h := h.2 (of_decide_eq_true hc)
    refine gw_aload_n 0 d_GT_carryOutMove_12 rfl rfl ?_
    refine gw_getR d_GT_carryOutMove_13 fl_GT_12 (ga_oG) rfl ?_
    refine gw_dup d_GT_carryOutMove_16 ?_
    refine gw_getI d_GT_carryOutMove_17 fl_GT_257 (ga_s1.1) rfl ?_
    refine gw_iconst d_GT_carryOutMove_20 ?_
    refine gw_iadd d_GT_carryOutMove_21 ?_
    refine gw_putI d_GT_carryOutMove_22 fp_GT_257 (ga_s1.1) rfl ?_
    refine gw_nm (J := (ga_up I 1 9 (ga_wr ((I 1 9) + 1)))) (fun I8 q9 => ?_)
    have h := h I8 q9
    refine gw_RG (fun hI9 => ?_)
    refine gw_ldc (n := (-2000000009)) d_GT_carryOutMove_25 kw_GT_181 (by decide +kernel) ?_
    exact gw_ireturn d_GT_carryOutMove_27 rfl h

