/-! the reference: rows kept, chatters -/
theorem k_Mo_act_0 {G : ga_G} {d : Nat} {I : ga_I} {E : Option ga_V → ga_I → Prop}  
    (h : ga_RG I → (((I 348 4) ≠ 5) → ga_W G d mt_Mo_act 51 [some (.inr 348), some (.inl 0)] [] I E) ∧ (((I 348 4) = 5) → ga_W G d mt_Mo_act 10 [some (.inr 348), some (.inl 0)] [] I E)) :
    ga_W G d mt_Mo_act 0 (ga_en 2 [.inr 348]) [] I E := by
  show ga_W G d mt_Mo_act 0 [some (.inr 348), none] [] I E
  refine gw_RG (fun hI1 => ?_)
  have h := h hI1
  refine gw_aload_n 0 d_Mo_act_0 rfl rfl ?_
  refine gw_getI d_Mo_act_1 fl_Mo_44 (ga_oM) rfl ?_
  refine gw_iconst d_Mo_act_4 ?_
  refine gw_icmp_ne 49 d_Mo_act_5 (by decide) (hI1 _ _) ⟨by decide, by decide⟩ (fun hc => ?_) (fun hc => ?_)
  · have h := h.1 hc
    refine gw_iconst d_Mo_act_49 ?_
    refine gw_istore_n 1 d_Mo_act_50 rfl (Nat.le_of_ble_eq_true rfl) rfl ?_
    exact gw_le h (by exact ⟨rfl, ⟨rfl, trivial⟩⟩)
  · have h := h.2 hc
    refine gw_iconst d_Mo_act_8 ?_
    refine gw_istore_n 1 d_Mo_act_9 rfl (Nat.le_of_ble_eq_true rfl) rfl ?_
    exact gw_le h (by exact ⟨rfl, ⟨rfl, trivial⟩⟩)
theorem k_Mo_act_10 {G : ga_G} {d : Nat} {I : ga_I} {E : Option ga_V → ga_I → Prop} {v1 : Int} (r1 : ga_rg v1)
    (h : ga_RG I → ((4480 ≤ v1) → ga_W G d mt_Mo_act 51 [some (.inr 348), some (.inl 0)] [] (ga_up I 348 4 (ga_wr ((I 348 4) - 1))) E) ∧ ((¬ (4480 ≤ v1)) → (0 ≤ (v1 + 1120)) ∧ (((v1 + 1120) < 5600) ∧ ((0 ≤ v1) ∧ ((v1 < 5600) ∧ (ga_W G d mt_Mo_act 10 [some (.inr 348), some (.inl (v1 + 1))] [] (ga_up I 351 v1.toNat (I 351 (v1 + 1120).toNat)) E)))))) :
    ga_W G d mt_Mo_act 10 [some (.inr 348), some (.inl v1)] [] I E := by
  refine gw_RG (fun hI1 => ?_)
  have h := h hI1
  refine gw_iload_n 1 d_Mo_act_10 rfl rfl ?_
  refine gw_sipush d_Mo_act_11 (by decide +kernel) ?_
  refine gw_icmp_ge 39 d_Mo_act_14 (by decide) r1 ⟨by decide, by decide⟩ (fun hc => ?_) (fun hc => ?_)
  · have h := h.1 hc
    refine gw_aload_n 0 d_Mo_act_39 rfl rfl ?_
    refine gw_dup d_Mo_act_40 ?_
    refine gw_getI d_Mo_act_41 fl_Mo_44 (ga_oM) rfl ?_
    refine gw_iconst d_Mo_act_44 ?_
    refine gw_isub d_Mo_act_45 ?_
    refine gw_putI d_Mo_act_46 fp_Mo_44 (ga_oM) rfl ?_
    refine gw_RG (fun hI2 => ?_)
    refine gw_iconst d_Mo_act_49 ?_
    refine gw_istore_n 1 d_Mo_act_50 rfl (Nat.le_of_ble_eq_true rfl) rfl ?_
    exact gw_le h (by exact ⟨rfl, ⟨rfl, trivial⟩⟩)
  · have h := h.2 hc
    refine gw_aload_n 0 d_Mo_act_17 rfl rfl ?_
    refine gw_getR d_Mo_act_18 fl_Mo_16 (ga_oM) rfl ?_
    refine gw_iload_n 1 d_Mo_act_21 rfl rfl ?_
    refine gw_aload_n 0 d_Mo_act_22 rfl rfl ?_
    refine gw_getR d_Mo_act_23 fl_Mo_16 (ga_oM) rfl ?_
    refine gw_iload_n 1 d_Mo_act_26 rfl rfl ?_
    refine gw_sipush d_Mo_act_27 (by decide +kernel) ?_
    refine gw_iadd d_Mo_act_30 ?_
    obtain ⟨g1, h⟩ := h
    obtain ⟨g2, h⟩ := h
    refine gw_iald d_Mo_act_31 (ga_aM3) g1 g2 ?_
    obtain ⟨g3, h⟩ := h
    obtain ⟨g4, h⟩ := h
    refine gw_iast d_Mo_act_32 (ga_aM3) g3 g4 ?_
    show ga_W G d mt_Mo_act 33 [some (.inr 348), some (.inl v1)] [] (ga_up I 351 v1.toNat (ga_wr (I 351 (v1 + 1120).toNat))) E
    rw [ga_wr_eq (z := (I 351 (v1 + 1120).toNat)) (hI1 _ _)]
    refine gw_RG (fun hI3 => ?_)
    refine gw_iinc 1 d_Mo_act_33 rfl rfl ?_
    refine gw_goto 10 d_Mo_act_36 (by decide) ?_
    exact gw_le h (by exact ⟨rfl, ⟨rfl, trivial⟩⟩)
theorem k_Mo_act_51 {G : ga_G} {d : Nat} {I : ga_I} {E : Option ga_V → ga_I → Prop} {v1 : Int} (r1 : ga_rg v1)
    (h : ga_RG I → ((1120 ≤ v1) → E none (ga_up I 348 4 (ga_wr ((I 348 4) + 1)))) ∧ ((¬ (1120 ≤ v1)) → (0 ≤ v1) ∧ ((v1 < 1120) ∧ ((0 ≤ ((1120 * (I 348 4)) + v1)) ∧ ((((1120 * (I 348 4)) + v1) < 5600) ∧ (ga_W G d mt_Mo_act 51 [some (.inr 348), some (.inl (v1 + 1))] [] (ga_up I 351 ((1120 * (I 348 4)) + v1).toNat (I 349 v1.toNat)) E)))))) :
    ga_W G d mt_Mo_act 51 [some (.inr 348), some (.inl v1)] [] I E := by
  refine gw_RG (fun hI1 => ?_)
  have h := h hI1
  refine gw_iload_n 1 d_Mo_act_51 rfl rfl ?_
  refine gw_sipush d_Mo_act_52 (by decide +kernel) ?_
  refine gw_icmp_ge 85 d_Mo_act_55 (by decide) r1 ⟨by decide, by decide⟩ (fun hc => ?_) (fun hc => ?_)
  · have h := h.1 hc
    refine gw_aload_n 0 d_Mo_act_85 rfl rfl ?_
    refine gw_dup d_Mo_act_86 ?_
    refine gw_getI d_Mo_act_87 fl_Mo_44 (ga_oM) rfl ?_
    refine gw_iconst d_Mo_act_90 ?_
    refine gw_iadd d_Mo_act_91 ?_
    refine gw_putI d_Mo_act_92 fp_Mo_44 (ga_oM) rfl ?_
    refine gw_RG (fun hI2 => ?_)
    exact gw_return d_Mo_act_95 rfl h
  · have h := h.2 hc
    refine gw_aload_n 0 d_Mo_act_58 rfl rfl ?_
    refine gw_getR d_Mo_act_59 fl_Mo_16 (ga_oM) rfl ?_
    refine gw_sipush d_Mo_act_62 (by decide +kernel) ?_
    refine gw_aload_n 0 d_Mo_act_65 rfl rfl ?_
    refine gw_getI d_Mo_act_66 fl_Mo_44 (ga_oM) rfl ?_
    refine gw_imul d_Mo_act_69 ?_
    refine gw_iload_n 1 d_Mo_act_70 rfl rfl ?_
    refine gw_iadd d_Mo_act_71 ?_
    refine gw_aload_n 0 d_Mo_act_72 rfl rfl ?_
    refine gw_getR d_Mo_act_73 fl_Mo_7 (ga_oM) rfl ?_
    refine gw_iload_n 1 d_Mo_act_76 rfl rfl ?_
    obtain ⟨g1, h⟩ := h
    obtain ⟨g2, h⟩ := h
    refine gw_iald d_Mo_act_77 (ga_aM1) g1 g2 ?_
    obtain ⟨g3, h⟩ := h
    obtain ⟨g4, h⟩ := h
    refine gw_iast d_Mo_act_78 (ga_aM3) g3 g4 ?_
    show ga_W G d mt_Mo_act 79 [some (.inr 348), some (.inl v1)] [] (ga_up I 351 ((1120 * (I 348 4)) + v1).toNat (ga_wr (I 349 v1.toNat))) E
    rw [ga_wr_eq (z := (I 349 v1.toNat)) (hI1 _ _)]
    refine gw_RG (fun hI3 => ?_)
    refine gw_iinc 1 d_Mo_act_79 rfl rfl ?_
    refine gw_goto 51 d_Mo_act_82 (by decide) ?_
    exact gw_le h (by exact ⟨rfl, ⟨rfl, trivial⟩⟩)

theorem k_Mo_hold_0 {G : ga_G} {d : Nat} {I : ga_I} {E : Option ga_V → ga_I → Prop}  
    (h : ga_RG I → ga_W G d mt_Mo_hold 2 [some (.inr 348), some (.inl 0)] [] I E) :
    ga_W G d mt_Mo_hold 0 (ga_en 2 [.inr 348]) [] I E := by
  show ga_W G d mt_Mo_hold 0 [some (.inr 348), none] [] I E
  refine gw_RG (fun hI1 => ?_)
  have h := h hI1
  refine gw_iconst d_Mo_hold_0 ?_
  refine gw_istore_n 1 d_Mo_hold_1 rfl (Nat.le_of_ble_eq_true rfl) rfl ?_
  exact gw_le h (by exact ⟨rfl, ⟨rfl, trivial⟩⟩)
theorem k_Mo_hold_2 {G : ga_G} {d : Nat} {I : ga_I} {E : Option ga_V → ga_I → Prop} {v1 : Int} (r1 : ga_rg v1)
    (h : ga_RG I → ((1120 ≤ v1) → E none I) ∧ ((¬ (1120 ≤ v1)) → (0 ≤ v1) ∧ ((v1 < 1120) ∧ (ga_W G d mt_Mo_hold 2 [some (.inr 348), some (.inl (v1 + 1))] [] (ga_up I 350 v1.toNat (I 349 v1.toNat)) E)))) :
    ga_W G d mt_Mo_hold 2 [some (.inr 348), some (.inl v1)] [] I E := by
  refine gw_RG (fun hI1 => ?_)
  have h := h hI1
  refine gw_iload_n 1 d_Mo_hold_2 rfl rfl ?_
  refine gw_sipush d_Mo_hold_3 (by decide +kernel) ?_
  refine gw_icmp_ge 27 d_Mo_hold_6 (by decide) r1 ⟨by decide, by decide⟩ (fun hc => ?_) (fun hc => ?_)
  · have h := h.1 hc
    exact gw_return d_Mo_hold_27 rfl h
  · have h := h.2 hc
    refine gw_aload_n 0 d_Mo_hold_9 rfl rfl ?_
    refine gw_getR d_Mo_hold_10 fl_Mo_13 (ga_oM) rfl ?_
    refine gw_iload_n 1 d_Mo_hold_13 rfl rfl ?_
    refine gw_aload_n 0 d_Mo_hold_14 rfl rfl ?_
    refine gw_getR d_Mo_hold_15 fl_Mo_7 (ga_oM) rfl ?_
    refine gw_iload_n 1 d_Mo_hold_18 rfl rfl ?_
    obtain ⟨g1, h⟩ := h
    obtain ⟨g2, h⟩ := h
    refine gw_iald d_Mo_hold_19 (ga_aM1) g1 g2 ?_
    refine gw_iast d_Mo_hold_20 (ga_aM2) g1 g2 ?_
    show ga_W G d mt_Mo_hold 21 [some (.inr 348), some (.inl v1)] [] (ga_up I 350 v1.toNat (ga_wr (I 349 v1.toNat))) E
    rw [ga_wr_eq (z := (I 349 v1.toNat)) (hI1 _ _)]
    refine gw_RG (fun hI2 => ?_)
    refine gw_iinc 1 d_Mo_hold_21 rfl rfl ?_
    refine gw_goto 2 d_Mo_hold_24 (by decide) ?_
    exact gw_le h (by exact ⟨rfl, ⟨rfl, trivial⟩⟩)

theorem k_Mo_release_0 {G : ga_G} {d : Nat} {I : ga_I} {E : Option ga_V → ga_I → Prop}  
    (h : ga_RG I → ga_W G d mt_Mo_release 2 [some (.inr 348), some (.inl 0)] [] I E) :
    ga_W G d mt_Mo_release 0 (ga_en 2 [.inr 348]) [] I E := by
  show ga_W G d mt_Mo_release 0 [some (.inr 348), none] [] I E
  refine gw_RG (fun hI1 => ?_)
  have h := h hI1
  refine gw_iconst d_Mo_release_0 ?_
  refine gw_istore_n 1 d_Mo_release_1 rfl (Nat.le_of_ble_eq_true rfl) rfl ?_
  exact gw_le h (by exact ⟨rfl, ⟨rfl, trivial⟩⟩)
theorem k_Mo_release_2 {G : ga_G} {d : Nat} {I : ga_I} {E : Option ga_V → ga_I → Prop} {v1 : Int} (r1 : ga_rg v1)
    (h : ga_RG I → ((1120 ≤ v1) → E none I) ∧ ((¬ (1120 ≤ v1)) → (0 ≤ v1) ∧ ((v1 < 1120) ∧ (ga_W G d mt_Mo_release 2 [some (.inr 348), some (.inl (v1 + 1))] [] (ga_up I 349 v1.toNat (I 350 v1.toNat)) E)))) :
    ga_W G d mt_Mo_release 2 [some (.inr 348), some (.inl v1)] [] I E := by
  refine gw_RG (fun hI1 => ?_)
  have h := h hI1
  refine gw_iload_n 1 d_Mo_release_2 rfl rfl ?_
  refine gw_sipush d_Mo_release_3 (by decide +kernel) ?_
  refine gw_icmp_ge 27 d_Mo_release_6 (by decide) r1 ⟨by decide, by decide⟩ (fun hc => ?_) (fun hc => ?_)
  · have h := h.1 hc
    exact gw_return d_Mo_release_27 rfl h
  · have h := h.2 hc
    refine gw_aload_n 0 d_Mo_release_9 rfl rfl ?_
    refine gw_getR d_Mo_release_10 fl_Mo_7 (ga_oM) rfl ?_
    refine gw_iload_n 1 d_Mo_release_13 rfl rfl ?_
    refine gw_aload_n 0 d_Mo_release_14 rfl rfl ?_
    refine gw_getR d_Mo_release_15 fl_Mo_13 (ga_oM) rfl ?_
    refine gw_iload_n 1 d_Mo_release_18 rfl rfl ?_
    obtain ⟨g1, h⟩ := h
    obtain ⟨g2, h⟩ := h
    refine gw_iald d_Mo_release_19 (ga_aM2) g1 g2 ?_
    refine gw_iast d_Mo_release_20 (ga_aM1) g1 g2 ?_
    show ga_W G d mt_Mo_release 21 [some (.inr 348), some (.inl v1)] [] (ga_up I 349 v1.toNat (ga_wr (I 350 v1.toNat))) E
    rw [ga_wr_eq (z := (I 350 v1.toNat)) (hI1 _ _)]
    refine gw_RG (fun hI2 => ?_)
    refine gw_iinc 1 d_Mo_release_21 rfl rfl ?_
    refine gw_goto 2 d_Mo_release_24 (by decide) ?_
    exact gw_le h (by exact ⟨rfl, ⟨rfl, trivial⟩⟩)

theorem k_Mo_exchange_0 {G : ga_G} {d : Nat} {I : ga_I} {E : Option ga_V → ga_I → Prop}  
    (h : ga_RG I → ga_W G d mt_Mo_exchange 2 [some (.inr 348), some (.inl 0), none] [] I E) :
    ga_W G d mt_Mo_exchange 0 (ga_en 3 [.inr 348]) [] I E := by
  show ga_W G d mt_Mo_exchange 0 [some (.inr 348), none, none] [] I E
  refine gw_RG (fun hI1 => ?_)
  have h := h hI1
  refine gw_iconst d_Mo_exchange_0 ?_
  refine gw_istore_n 1 d_Mo_exchange_1 rfl (Nat.le_of_ble_eq_true rfl) rfl ?_
  exact gw_le h (by exact ⟨rfl, ⟨rfl, trivial⟩⟩)
theorem k_Mo_exchange_2 {G : ga_G} {d : Nat} {I : ga_I} {E : Option ga_V → ga_I → Prop} {v1 : Int} (r1 : ga_rg v1)
    (h : ga_RG I → ((1120 ≤ v1) → E none I) ∧ ((¬ (1120 ≤ v1)) → (0 ≤ v1) ∧ ((v1 < 1120) ∧ (ga_W G d mt_Mo_exchange 2 [some (.inr 348), some (.inl (v1 + 1)), none] [] (ga_up (ga_up I 349 v1.toNat (I 350 v1.toNat)) 350 v1.toNat (I 349 v1.toNat)) E)))) :
    ga_W G d mt_Mo_exchange 2 [some (.inr 348), some (.inl v1), none] [] I E := by
  refine gw_RG (fun hI1 => ?_)
  have h := h hI1
  refine gw_iload_n 1 d_Mo_exchange_2 rfl rfl ?_
  refine gw_sipush d_Mo_exchange_3 (by decide +kernel) ?_
  refine gw_icmp_ge 41 d_Mo_exchange_6 (by decide) r1 ⟨by decide, by decide⟩ (fun hc => ?_) (fun hc => ?_)
  · have h := h.1 hc
    exact gw_return d_Mo_exchange_41 rfl h
  · have h := h.2 hc
    refine gw_aload_n 0 d_Mo_exchange_9 rfl rfl ?_
    refine gw_getR d_Mo_exchange_10 fl_Mo_7 (ga_oM) rfl ?_
    refine gw_iload_n 1 d_Mo_exchange_13 rfl rfl ?_
    obtain ⟨g1, h⟩ := h
    obtain ⟨g2, h⟩ := h
    refine gw_iald d_Mo_exchange_14 (ga_aM1) g1 g2 ?_
    refine gw_istore_n 2 d_Mo_exchange_15 rfl (Nat.le_of_ble_eq_true rfl) rfl ?_
    refine gw_aload_n 0 d_Mo_exchange_16 rfl rfl ?_
    refine gw_getR d_Mo_exchange_17 fl_Mo_7 (ga_oM) rfl ?_
    refine gw_iload_n 1 d_Mo_exchange_20 rfl rfl ?_
    refine gw_aload_n 0 d_Mo_exchange_21 rfl rfl ?_
    refine gw_getR d_Mo_exchange_22 fl_Mo_13 (ga_oM) rfl ?_
    refine gw_iload_n 1 d_Mo_exchange_25 rfl rfl ?_
    refine gw_iald d_Mo_exchange_26 (ga_aM2) g1 g2 ?_
    refine gw_iast d_Mo_exchange_27 (ga_aM1) g1 g2 ?_
    show ga_W G d mt_Mo_exchange 28 [some (.inr 348), some (.inl v1), some (.inl (I 349 v1.toNat))] [] (ga_up I 349 v1.toNat (ga_wr (I 350 v1.toNat))) E
    rw [ga_wr_eq (z := (I 350 v1.toNat)) (hI1 _ _)]
    refine gw_RG (fun hI2 => ?_)
    refine gw_aload_n 0 d_Mo_exchange_28 rfl rfl ?_
    refine gw_getR d_Mo_exchange_29 fl_Mo_13 (ga_oM) rfl ?_
    refine gw_iload_n 1 d_Mo_exchange_32 rfl rfl ?_
    refine gw_iload_n 2 d_Mo_exchange_33 rfl rfl ?_
    refine gw_iast d_Mo_exchange_34 (ga_aM2) g1 g2 ?_
    show ga_W G d mt_Mo_exchange 35 [some (.inr 348), some (.inl v1), some (.inl (I 349 v1.toNat))] [] (ga_up (ga_up I 349 v1.toNat (I 350 v1.toNat)) 350 v1.toNat (ga_wr (I 349 v1.toNat))) E
    rw [ga_wr_eq (z := (I 349 v1.toNat)) (hI1 _ _)]
    refine gw_RG (fun hI3 => ?_)
    refine gw_iinc 1 d_Mo_exchange_35 rfl rfl ?_
    refine gw_goto 2 d_Mo_exchange_38 (by decide) ?_
    exact gw_le h (by exact ⟨rfl, ⟨rfl, trivial⟩⟩)

theorem k_Mo_clearRegions_0 {G : ga_G} {d : Nat} {I : ga_I} {E : Option ga_V → ga_I → Prop}  
    (h : ga_RG I → ga_W G d mt_Mo_clearRegions 2 [some (.inr 348), some (.inl 0), none] [] I E) :
    ga_W G d mt_Mo_clearRegions 0 (ga_en 3 [.inr 348]) [] I E := by
  show ga_W G d mt_Mo_clearRegions 0 [some (.inr 348), none, none] [] I E
  refine gw_RG (fun hI1 => ?_)
  have h := h hI1
  refine gw_iconst d_Mo_clearRegions_0 ?_
  refine gw_istore_n 1 d_Mo_clearRegions_1 rfl (Nat.le_of_ble_eq_true rfl) rfl ?_
  exact gw_le h (by exact ⟨rfl, ⟨rfl, trivial⟩⟩)
theorem k_Mo_clearRegions_2 {G : ga_G} {d : Nat} {I : ga_I} {E : Option ga_V → ga_I → Prop} {v1 : Int} (r1 : ga_rg v1)
    (h : ga_RG I → ((49 ≤ v1) → E none I) ∧ ((¬ (49 ≤ v1)) → ga_W G d mt_Mo_clearRegions 10 [some (.inr 348), some (.inl v1), some (.inl 0)] [] I E)) :
    ga_W G d mt_Mo_clearRegions 2 [some (.inr 348), some (.inl v1), none] [] I E := by
  refine gw_RG (fun hI1 => ?_)
  have h := h hI1
  refine gw_iload_n 1 d_Mo_clearRegions_2 rfl rfl ?_
  refine gw_bipush d_Mo_clearRegions_3 (by decide +kernel) ?_
  refine gw_icmp_ge 55 d_Mo_clearRegions_5 (by decide) r1 ⟨by decide, by decide⟩ (fun hc => ?_) (fun hc => ?_)
  · have h := h.1 hc
    exact gw_return d_Mo_clearRegions_55 rfl h
  · have h := h.2 hc
    refine gw_iconst d_Mo_clearRegions_8 ?_
    refine gw_istore_n 2 d_Mo_clearRegions_9 rfl (Nat.le_of_ble_eq_true rfl) rfl ?_
    exact gw_le h (by exact ⟨rfl, ⟨rfl, ⟨rfl, trivial⟩⟩⟩)
theorem k_Mo_clearRegions_10 {G : ga_G} {d : Nat} {I : ga_I} {E : Option ga_V → ga_I → Prop} {v1 : Int} {v2 : Int} (r2 : ga_rg v2)
    (h : ga_RG I → ((3 ≤ v2) → (0 ≤ ((38 + (4 * v1)) + 3)) ∧ ((((38 + (4 * v1)) + 3) < 1120) ∧ (ga_W G d mt_Mo_clearRegions 2 [some (.inr 348), some (.inl (v1 + 1)), none] [] (ga_up I 349 ((38 + (4 * v1)) + 3).toNat (-1)) E))) ∧ ((¬ (3 ≤ v2)) → (0 ≤ ((38 + (4 * v1)) + v2)) ∧ ((((38 + (4 * v1)) + v2) < 1120) ∧ (ga_W G d mt_Mo_clearRegions 10 [some (.inr 348), some (.inl v1), some (.inl (v2 + 1))] [] (ga_up I 349 ((38 + (4 * v1)) + v2).toNat 0) E)))) :
    ga_W G d mt_Mo_clearRegions 10 [some (.inr 348), some (.inl v1), some (.inl v2)] [] I E := by
  refine gw_RG (fun hI1 => ?_)
  have h := h hI1
  refine gw_iload_n 2 d_Mo_clearRegions_10 rfl rfl ?_
  refine gw_iconst d_Mo_clearRegions_11 ?_
  refine gw_icmp_ge 35 d_Mo_clearRegions_12 (by decide) r2 ⟨by decide, by decide⟩ (fun hc => ?_) (fun hc => ?_)
  · have h := h.1 hc
    refine gw_aload_n 0 d_Mo_clearRegions_35 rfl rfl ?_
    refine gw_getR d_Mo_clearRegions_36 fl_Mo_7 (ga_oM) rfl ?_
    refine gw_bipush d_Mo_clearRegions_39 (by decide +kernel) ?_
    refine gw_iconst d_Mo_clearRegions_41 ?_
    refine gw_iload_n 1 d_Mo_clearRegions_42 rfl rfl ?_
    refine gw_imul d_Mo_clearRegions_43 ?_
    refine gw_iadd d_Mo_clearRegions_44 ?_
    refine gw_iconst d_Mo_clearRegions_45 ?_
    refine gw_iadd d_Mo_clearRegions_46 ?_
    refine gw_iconst d_Mo_clearRegions_47 ?_
    obtain ⟨g1, h⟩ := h
    obtain ⟨g2, h⟩ := h
    refine gw_iast d_Mo_clearRegions_48 (ga_aM1) g1 g2 ?_
    show ga_W G d mt_Mo_clearRegions 49 [some (.inr 348), some (.inl v1), some (.inl v2)] [] (ga_up I 349 ((38 + (4 * v1)) + 3).toNat (ga_wr (-1))) E
    rw [ga_wr_eq (z := (-1)) ⟨by decide, by decide⟩]
    refine gw_RG (fun hI2 => ?_)
    refine gw_iinc 1 d_Mo_clearRegions_49 rfl rfl ?_
    refine gw_goto 2 d_Mo_clearRegions_52 (by decide) ?_
    exact gw_le h (by exact ⟨rfl, ⟨rfl, trivial⟩⟩)
  · have h := h.2 hc
    refine gw_aload_n 0 d_Mo_clearRegions_15 rfl rfl ?_
    refine gw_getR d_Mo_clearRegions_16 fl_Mo_7 (ga_oM) rfl ?_
    refine gw_bipush d_Mo_clearRegions_19 (by decide +kernel) ?_
    refine gw_iconst d_Mo_clearRegions_21 ?_
    refine gw_iload_n 1 d_Mo_clearRegions_22 rfl rfl ?_
    refine gw_imul d_Mo_clearRegions_23 ?_
    refine gw_iadd d_Mo_clearRegions_24 ?_
    refine gw_iload_n 2 d_Mo_clearRegions_25 rfl rfl ?_
    refine gw_iadd d_Mo_clearRegions_26 ?_
    refine gw_iconst d_Mo_clearRegions_27 ?_
    obtain ⟨g3, h⟩ := h
    obtain ⟨g4, h⟩ := h
    refine gw_iast d_Mo_clearRegions_28 (ga_aM1) g3 g4 ?_
    show ga_W G d mt_Mo_clearRegions 29 [some (.inr 348), some (.inl v1), some (.inl v2)] [] (ga_up I 349 ((38 + (4 * v1)) + v2).toNat (ga_wr 0)) E
    rw [ga_wr_eq (z := 0) ⟨by decide, by decide⟩]
    refine gw_RG (fun hI3 => ?_)
    refine gw_iinc 2 d_Mo_clearRegions_29 rfl rfl ?_
    refine gw_goto 10 d_Mo_clearRegions_32 (by decide) ?_
    exact gw_le h (by exact ⟨rfl, ⟨rfl, ⟨rfl, trivial⟩⟩⟩)

theorem k_Mo_snapshots_0 {G : ga_G} {d : Nat} {I : ga_I} {E : Option ga_V → ga_I → Prop}  
    (h : ga_RG I → E (some (.inl (((I 349 415) + (I 349 650)) + (I 349 885)))) I) :
    ga_W G d mt_Mo_snapshots 0 (ga_en 1 [.inr 348]) [] I E := by
  show ga_W G d mt_Mo_snapshots 0 [some (.inr 348)] [] I E
  refine gw_RG (fun hI1 => ?_)
  have h := h hI1
  refine gw_aload_n 0 d_Mo_snapshots_0 rfl rfl ?_
  refine gw_getR d_Mo_snapshots_1 fl_Mo_7 (ga_oM) rfl ?_
  refine gw_sipush d_Mo_snapshots_4 (by decide +kernel) ?_
  refine gw_iald d_Mo_snapshots_7 (ga_aM1) (by decide) (by decide) ?_
  refine gw_aload_n 0 d_Mo_snapshots_8 rfl rfl ?_
  refine gw_getR d_Mo_snapshots_9 fl_Mo_7 (ga_oM) rfl ?_
  refine gw_sipush d_Mo_snapshots_12 (by decide +kernel) ?_
  refine gw_iald d_Mo_snapshots_15 (ga_aM1) (by decide) (by decide) ?_
  refine gw_iadd d_Mo_snapshots_16 ?_
  refine gw_aload_n 0 d_Mo_snapshots_17 rfl rfl ?_
  refine gw_getR d_Mo_snapshots_18 fl_Mo_7 (ga_oM) rfl ?_
  refine gw_sipush d_Mo_snapshots_21 (by decide +kernel) ?_
  refine gw_iald d_Mo_snapshots_24 (ga_aM1) (by decide) (by decide) ?_
  refine gw_iadd d_Mo_snapshots_25 ?_
  exact gw_ireturn d_Mo_snapshots_26 rfl h

section ML
variable {G : ga_G} {d : Nat} {I : ga_I} {E : Option ga_V → ga_I → Prop}
def av_sh (v : Nat → Int) (m : Nat) : Nat → Int := fun j => if j < m then v (j + 1120) else v j
def av_cp (v s : Nat → Int) (a m : Nat) : Nat → Int := fun j => if a ≤ j ∧ j < a + m then s (j - a) else v j
theorem av_cp_0 (v s : Nat → Int) (a : Nat) : av_cp v s a 0 = v := funext fun j => by unfold av_cp; rw [if_neg (by omega)]
theorem av_cp_s {v s : Nat → Int} {a m j : Nat} {z : Int} (hj : j = a + m) (hz : z = s m) : ns_up (av_cp v s a m) j z = av_cp v s a (m + 1) := by
  subst hj hz
  funext i
  unfold ns_up av_cp
  by_cases h : i = a + m
  · rw [if_pos h, if_pos (by omega)]; congr 1; omega
  · rw [if_neg h]
    by_cases q : a ≤ i ∧ i < a + m
    · rw [if_pos q, if_pos (by omega)]
    · rw [if_neg q, if_neg (by omega)]
theorem av_sh_0 (v : Nat → Int) : av_sh v 0 = v := funext fun j => by unfold av_sh; rw [if_neg (by omega)]
theorem av_sh_s {v : Nat → Int} {m : Nat} : ns_up (av_sh v m) m (av_sh v m (m + 1120)) = av_sh v (m + 1) := by
  funext i
  unfold ns_up av_sh
  rw [if_neg (by omega : ¬ m + 1120 < m)]
  by_cases h : i = m
  · rw [if_pos h, if_pos (by omega), h]
  · rw [if_neg h]
    by_cases q : i < m
    · rw [if_pos q, if_pos (by omega)]
    · rw [if_neg q, if_neg (by omega)]
def ac_v (v s : Nat → Int) (m : Int) : Nat → Int := if m = 5 then av_cp (av_sh v 4480) s 4480 1120 else av_cp v s (1120 * m).toNat 1120
def mx_ac (I : ga_I) : ga_I := ga_up (ga_uc I 351 (ac_v (I 351) (I 349) (I 348 4))) 348 4 (min (I 348 4 + 1) 5)
theorem l_Mo_act2 (I : ga_I) {m : Int} (hm : 0 ≤ m ∧ m ≤ 4) (v : Nat → Int) (h4 : I 348 4 = m) (h : E none (ga_up (ga_uc I 351 (av_cp v (I 349) (1120 * m).toNat 1120)) 348 4 (m + 1))) :
    ∀ (j k : Nat), k + j = 1120 → ga_W G d mt_Mo_act 51 [some (.inr 348), some (.inl (k : Int))] [] (ga_uc I 351 (av_cp v (I 349) (1120 * m).toNat k)) E := by
  have e4 : ∀ f, ga_uc I 351 f 348 4 = m := fun f => by rw [ga_uc_ne (by omega)]; exact h4
  intro j
  induction j with
  | zero =>
    intro k hk
    refine k_Mo_act_51 ⟨by omega, by omega⟩ (fun hI => ⟨fun q => ?_, fun q => by exfalso; omega⟩)
    rw [e4, ga_wr_eq ⟨by omega, by omega⟩, show k = 1120 by omega]
    exact h
  | succ j ih =>
    intro k hk
    have e := ih (k + 1) (by omega)
    refine k_Mo_act_51 ⟨by omega, by omega⟩ (fun hI => ⟨fun q => by exfalso; omega, fun q => ?_⟩)
    rw [e4]
    refine ⟨by omega, by omega, by omega, by omega, ?_⟩
    refine gw_eq e rfl ?_
    rw [ga_up_uc, ga_uc_uc, ga_uc_at, ga_uc_ne (by omega), av_cp_s (by omega) (by rw [Int.toNat_natCast])]
theorem l_Mo_act (I : ga_I) (h4 : I 348 4 = 5) (h : E none (mx_ac I)) :
    ∀ (j k : Nat), k + j = 4480 → ga_W G d mt_Mo_act 10 [some (.inr 348), some (.inl (k : Int))] [] (ga_uc I 351 (av_sh (I 351) k)) E := by
  have e4 : ∀ f, ga_uc I 351 f 348 4 = 5 := fun f => by rw [ga_uc_ne (by omega)]; exact h4
  intro j
  induction j with
  | zero =>
    intro k hk
    refine k_Mo_act_10 ⟨by omega, by omega⟩ (fun hI => ⟨fun q => ?_, fun q => by exfalso; omega⟩)
    rw [e4, ga_wr_eq ⟨by omega, by omega⟩, show k = 4480 by omega]
    have e := l_Mo_act2 (G := G) (d := d) (E := E) (ga_up (ga_uc I 351 (av_sh (I 351) 4480)) 348 4 (5 - 1)) (m := 4) (by omega) (av_sh (I 351) 4480) (ga_up_at) ?_ 1120 0 (by omega)
    · refine gw_eq e rfl ?_
      rw [av_cp_0]
      funext a
      by_cases q : a = 351
      · rw [q, ga_uc_at, ga_up_fn (by omega), ga_uc_at]
      · rw [ga_uc_ne q]
    · rw [ga_up_fn (by omega), ga_uc_ne (by omega)]
      refine cast ?_ h
      congr 1
      unfold mx_ac ac_v
      rw [h4, if_pos rfl]
      funext a b
      by_cases q : a = 348 ∧ b = 4
      · rw [q.1, q.2, ga_up_at, ga_up_at]; rfl
      · unfold ga_up
        rw [if_neg q, if_neg q]
        by_cases w : a = 351
        · rw [w, ga_uc_at, ga_uc_at]; rfl
        · rw [ga_uc_ne w, ga_uc_ne w, if_neg q, ga_uc_ne w]
  | succ j ih =>
    intro k hk
    have e := ih (k + 1) (by omega)
    refine k_Mo_act_10 ⟨by omega, by omega⟩ (fun hI => ⟨fun q => by exfalso; omega, fun q => ⟨by omega, by omega, by omega, by omega, ?_⟩⟩)
    refine gw_eq e rfl ?_
    rw [ga_up_uc, ga_uc_uc, ga_uc_at, Int.toNat_natCast, show ((k : Int) + 1120).toNat = k + 1120 by omega, av_sh_s]
theorem s_Mo_act (hm : 0 ≤ I 348 4 ∧ I 348 4 ≤ 5) (h : E none (mx_ac I)) : ga_W G d mt_Mo_act 0 (ga_en 2 [.inr 348]) [] I E := by
  refine k_Mo_act_0 (fun hI => ⟨fun q => ?_, fun q => ?_⟩)
  · have e := l_Mo_act2 (G := G) (d := d) (E := E) I (m := I 348 4) (by omega) (I 351) rfl ?_ 1120 0 (by omega)
    · rw [av_cp_0, ga_uc_id] at e
      exact e
    · unfold mx_ac ac_v at h
      rw [if_neg q, show min (I 348 4 + 1) 5 = I 348 4 + 1 by omega] at h
      exact h
  · have e := l_Mo_act (G := G) (d := d) (E := E) I q h 4480 0 (by omega)
    rw [av_sh_0, ga_uc_id] at e
    exact e
theorem l_Mo_hold (I : ga_I) (h : E none (ga_uc I 350 (av_cp (I 350) (I 349) 0 1120))) : ∀ (j k : Nat), k + j = 1120 → ga_W G d mt_Mo_hold 2 [some (.inr 348), some (.inl (k : Int))] [] (ga_uc I 350 (av_cp (I 350) (I 349) 0 k)) E := by
  intro j
  induction j with
  | zero =>
    intro k hk
    refine k_Mo_hold_2 ⟨by omega, by omega⟩ (fun hI => ⟨fun q => ?_, fun q => by exfalso; omega⟩)
    rw [show k = 1120 by omega]; exact h
  | succ j ih =>
    intro k hk
    have e := ih (k + 1) (by omega)
    refine k_Mo_hold_2 ⟨by omega, by omega⟩ (fun hI => ⟨fun q => by exfalso; omega, fun q => ⟨by omega, by omega, ?_⟩⟩)
    refine gw_eq e rfl ?_
    rw [ga_up_uc, ga_uc_uc, ga_uc_at, ga_uc_ne (by omega), av_cp_s (by omega) (by rw [Int.toNat_natCast])]
theorem s_Mo_hold (h : E none (ga_uc I 350 (av_cp (I 350) (I 349) 0 1120))) : ga_W G d mt_Mo_hold 0 (ga_en 2 [.inr 348]) [] I E := by
  have e := l_Mo_hold (G := G) (d := d) (E := E) I h 1120 0 (by omega)
  rw [av_cp_0, ga_uc_id] at e
  exact k_Mo_hold_0 (fun _ => e)
theorem l_Mo_release (I : ga_I) (h : E none (ga_uc I 349 (av_cp (I 349) (I 350) 0 1120))) : ∀ (j k : Nat), k + j = 1120 → ga_W G d mt_Mo_release 2 [some (.inr 348), some (.inl (k : Int))] [] (ga_uc I 349 (av_cp (I 349) (I 350) 0 k)) E := by
  intro j
  induction j with
  | zero =>
    intro k hk
    refine k_Mo_release_2 ⟨by omega, by omega⟩ (fun hI => ⟨fun q => ?_, fun q => by exfalso; omega⟩)
    rw [show k = 1120 by omega]; exact h
  | succ j ih =>
    intro k hk
    have e := ih (k + 1) (by omega)
    refine k_Mo_release_2 ⟨by omega, by omega⟩ (fun hI => ⟨fun q => by exfalso; omega, fun q => ⟨by omega, by omega, ?_⟩⟩)
    refine gw_eq e rfl ?_
    rw [ga_up_uc, ga_uc_uc, ga_uc_at, ga_uc_ne (by omega), av_cp_s (by omega) (by rw [Int.toNat_natCast])]
theorem s_Mo_release (h : E none (ga_uc I 349 (av_cp (I 349) (I 350) 0 1120))) : ga_W G d mt_Mo_release 0 (ga_en 2 [.inr 348]) [] I E := by
  have e := l_Mo_release (G := G) (d := d) (E := E) I h 1120 0 (by omega)
  rw [av_cp_0, ga_uc_id] at e
  exact k_Mo_release_0 (fun _ => e)
def mx_ex (I : ga_I) (m : Nat) : ga_I := ga_uc (ga_uc I 349 (av_cp (I 349) (I 350) 0 m)) 350 (av_cp (I 350) (I 349) 0 m)
theorem l_Mo_exchange (I : ga_I) (h : E none (mx_ex I 1120)) : ∀ (j k : Nat), k + j = 1120 → ga_W G d mt_Mo_exchange 2 [some (.inr 348), some (.inl (k : Int)), none] [] (mx_ex I k) E := by
  intro j
  induction j with
  | zero =>
    intro k hk
    refine k_Mo_exchange_2 ⟨by omega, by omega⟩ (fun hI => ⟨fun q => ?_, fun q => by exfalso; omega⟩)
    rw [show k = 1120 by omega]; exact h
  | succ j ih =>
    intro k hk
    have e := ih (k + 1) (by omega)
    refine k_Mo_exchange_2 ⟨by omega, by omega⟩ (fun hI => ⟨fun q => by exfalso; omega, fun q => ⟨by omega, by omega, ?_⟩⟩)
    refine gw_eq e rfl ?_
    have e9 : mx_ex I k 349 = av_cp (I 349) (I 350) 0 k := by unfold mx_ex; rw [ga_uc_ne (by omega), ga_uc_at]
    have e0 : mx_ex I k 350 = av_cp (I 350) (I 349) 0 k := by unfold mx_ex; rw [ga_uc_at]
    have x9 : mx_ex I k 349 k = I 349 k := by rw [e9]; unfold av_cp; rw [if_neg (by omega)]
    have x0 : mx_ex I k 350 k = I 350 k := by rw [e0]; unfold av_cp; rw [if_neg (by omega)]
    rw [Int.toNat_natCast, x9, x0]
    funext a
    rw [ga_up_uc, ga_up_uc]
    by_cases q : a = 350
    · rw [q, ga_uc_at, ga_uc_ne (by omega), e0, av_cp_s (by omega) rfl]; unfold mx_ex; rw [ga_uc_at]
    · rw [ga_uc_ne q]
      by_cases w : a = 349
      · rw [w, ga_uc_at, e9, av_cp_s (by omega) rfl]; unfold mx_ex; rw [ga_uc_ne (by omega), ga_uc_at]
      · rw [ga_uc_ne w]; unfold mx_ex; rw [ga_uc_ne q, ga_uc_ne w, ga_uc_ne q, ga_uc_ne w]
theorem s_Mo_exchange (h : E none (mx_ex I 1120)) : ga_W G d mt_Mo_exchange 0 (ga_en 3 [.inr 348]) [] I E := by
  have e := l_Mo_exchange (G := G) (d := d) (E := E) I h 1120 0 (by omega)
  unfold mx_ex at e
  rw [av_cp_0, av_cp_0, ga_uc_id, ga_uc_id] at e
  exact k_Mo_exchange_0 (fun _ => e)
def ns_c3 (i : Nat) : Int := if i = 3 then -1 else 0
/-- the regions emptied: of region g on, and of the g-th region i numbers -/
def ns_cl (s : Nat → Int) (g i : Nat) : Nat → Int := fun j => if 38 ≤ j ∧ j < 234 ∧ ((j - 38) / 4 < g ∨ ((j - 38) / 4 = g ∧ (j - 38) % 4 < i)) then ns_c3 ((j - 38) % 4) else s j
theorem ns_cl_0 (s : Nat → Int) : ns_cl s 0 0 = s := funext fun j => by unfold ns_cl; rw [if_neg (by omega)]
theorem ns_cl_4 (s : Nat → Int) (g : Nat) : ns_cl s g 4 = ns_cl s (g + 1) 0 := funext fun j => by
  unfold ns_cl
  by_cases q : 38 ≤ j ∧ j < 234 ∧ ((j - 38) / 4 < g ∨ ((j - 38) / 4 = g ∧ (j - 38) % 4 < 4))
  · rw [if_pos q, if_pos (by omega)]
  · rw [if_neg q, if_neg (by omega)]
theorem ns_cl_s {s : Nat → Int} {g i j : Nat} {z : Int} (hg : g < 49) (hi : i < 4) (hj : j = 38 + 4 * g + i) (hz : z = ns_c3 i) : ns_up (ns_cl s g i) j z = ns_cl s g (i + 1) := by
  subst hj hz
  funext j
  unfold ns_up ns_cl
  by_cases h : j = 38 + 4 * g + i
  · rw [if_pos h, if_pos (by omega)]; congr 1; omega
  · rw [if_neg h]
    by_cases q : 38 ≤ j ∧ j < 234 ∧ ((j - 38) / 4 < g ∨ ((j - 38) / 4 = g ∧ (j - 38) % 4 < i))
    · rw [if_pos q, if_pos (by omega)]
    · rw [if_neg q, if_neg (by omega)]
theorem l_Mo_clearRegions2 (I : ga_I) {g : Nat} (hg : g < 49) (K : ga_W G d mt_Mo_clearRegions 2 [some (.inr 348), some (.inl ((g : Int) + 1)), none] [] (ga_uc I 349 (ns_cl (I 349) (g + 1) 0)) E) :
    ∀ (j i : Nat), i + j = 3 → ga_W G d mt_Mo_clearRegions 10 [some (.inr 348), some (.inl (g : Int)), some (.inl (i : Int))] [] (ga_uc I 349 (ns_cl (I 349) g i)) E := by
  intro j
  induction j with
  | zero =>
    intro i hi
    refine k_Mo_clearRegions_10 ⟨by omega, by omega⟩ (fun hI => ⟨fun q => ⟨by omega, by omega, ?_⟩, fun q => by exfalso; omega⟩)
    refine gw_eq K rfl ?_
    rw [ga_up_uc, ga_uc_uc, ga_uc_at, ← ns_cl_4, ns_cl_s hg (by omega) (by omega) (by unfold ns_c3; rw [if_pos (by omega)]), show i + 1 = 4 by omega]
  | succ j ih =>
    intro i hi
    have e := ih (i + 1) (by omega)
    refine k_Mo_clearRegions_10 ⟨by omega, by omega⟩ (fun hI => ⟨fun q => by exfalso; omega, fun q => ⟨by omega, by omega, ?_⟩⟩)
    refine gw_eq e rfl ?_
    rw [ga_up_uc, ga_uc_uc, ga_uc_at, ns_cl_s hg (by omega) (by omega) (by unfold ns_c3; rw [if_neg (by omega)])]
theorem l_Mo_clearRegions (I : ga_I) (h : E none (ga_uc I 349 (ns_cl (I 349) 49 0))) : ∀ (j g : Nat), g + j = 49 → ga_W G d mt_Mo_clearRegions 2 [some (.inr 348), some (.inl (g : Int)), none] [] (ga_uc I 349 (ns_cl (I 349) g 0)) E := by
  intro j
  induction j with
  | zero =>
    intro g hg
    refine k_Mo_clearRegions_2 ⟨by omega, by omega⟩ (fun hI => ⟨fun q => ?_, fun q => by exfalso; omega⟩)
    rw [show g = 49 by omega]; exact h
  | succ j ih =>
    intro g hg
    have e := ih (g + 1) (by omega)
    refine k_Mo_clearRegions_2 ⟨by omega, by omega⟩ (fun hI => ⟨fun q => by exfalso; omega, fun q => ?_⟩)
    exact l_Mo_clearRegions2 I (by omega) e 3 0 (by omega)
theorem s_Mo_clearRegions (h : E none (ga_uc I 349 (ns_cl (I 349) 49 0))) : ga_W G d mt_Mo_clearRegions 0 (ga_en 3 [.inr 348]) [] I E := by
  have e := l_Mo_clearRegions (G := G) (d := d) (E := E) I h 49 0 (by omega)
  rw [ns_cl_0, ga_uc_id] at e
  exact k_Mo_clearRegions_0 (fun _ => e)
theorem s_Mo_snapshots (h : E (some (.inl (I 349 415 + I 349 650 + I 349 885))) I) : ga_W G d mt_Mo_snapshots 0 (ga_en 1 [.inr 348]) [] I E := k_Mo_snapshots_0 (fun _ => h)
end ML
theorem k_Mo_chatters_0 {G : ga_G} {d : Nat} {I : ga_I} {E : Option ga_V → ga_I → Prop} {v1 : Int} {v2 : Int} {v3 : Int} {v4 : Int} {v5 : Int} 
    (h : ga_RG I → ga_W G (d + 3) mt_Mo_chatters 9 [some (.inr 348), some (.inl v1), none, some (.inl v3), some (.inl v4), some (.inl v5), some (.inl v2), some (.inl 0), some (.inl 0), none] [] I E) :
    ga_W G (d + 3) mt_Mo_chatters 0 (ga_en 10 [.inr 348, .inl v1, .inl v2, .inl v3, .inl v4, .inl v5]) [] I E := by
  show ga_W G (d + 3) mt_Mo_chatters 0 [some (.inr 348), some (.inl v1), some (.inl v2), some (.inl v3), some (.inl v4), some (.inl v5), none, none, none, none] [] I E
  refine gw_RG (fun hI1 => ?_)
  have h := h hI1
  refine gw_iload_n 2 d_Mo_chatters_0 rfl rfl ?_
  refine gw_istore 6 d_Mo_chatters_1 (Nat.le_of_ble_eq_true rfl) rfl ?_
  refine gw_iconst d_Mo_chatters_3 ?_
  refine gw_istore 7 d_Mo_chatters_4 (Nat.le_of_ble_eq_true rfl) rfl ?_
  refine gw_iconst d_Mo_chatters_6 ?_
  refine gw_istore 8 d_Mo_chatters_7 (Nat.le_of_ble_eq_true rfl) rfl ?_
  exact gw_le h (by exact ⟨rfl, ⟨rfl, ⟨rfl, ⟨rfl, ⟨rfl, ⟨rfl, ⟨rfl, ⟨rfl, trivial⟩⟩⟩⟩⟩⟩⟩⟩)
theorem k_Mo_chatters_9 {G : ga_G} {d : Nat} {I : ga_I} {E : Option ga_V → ga_I → Prop} {v1 : Int} {v3 : Int} {v4 : Int} {v5 : Int} {v6 : Int} {v7 : Int} {v8 : Int} (r5 : ga_rg v5) (r6 : ga_rg v6) (r8 : ga_rg v8)
    (h : ga_RG I → ((v5 ≤ v8) → E (some (.inl v7)) I) ∧ ((¬ (v5 ≤ v8)) → (ga_rg (Int.tmod v8 2)) ∧ ((((Int.tmod v8 2) ≠ 0) → (mo_ok I v1) ∧ ((mo_n I) ∧ ((0 ≤ v1 ∧ v1 ≤ 1) ∧ ((0 ≤ v6 ∧ v6 ≤ gp_ct (gp_sk (ms_q (I 349) v1)) (ms_n (I 349) v1).toNat) ∧ ((ga_rg (v3 - v4)) ∧ ((∀ z1 : Int, z1 = gp_za (ms_p (I 349) v1) (ms_q (I 349) v1) (ms_r (I 349) v1) (ms_n (I 349) v1).toNat v6 (v3 - v4) → (ga_rg z1) ∧ (((z1 = v6) → ga_W G (d + 3) mt_Mo_chatters 9 [some (.inr 348), some (.inl v1), none, some (.inl v3), some (.inl v4), some (.inl v5), some (.inl z1), some (.inl (v7 + 0)), some (.inl (v8 + 1)), none] [] I E) ∧ ((¬ (z1 = v6)) → ga_W G (d + 3) mt_Mo_chatters 9 [some (.inr 348), some (.inl v1), none, some (.inl v3), some (.inl v4), some (.inl v5), some (.inl z1), some (.inl (v7 + 1)), some (.inl (v8 + 1)), none] [] I E))))))))) ∧ (((Int.tmod v8 2) = 0) → (mo_ok I v1) ∧ ((mo_n I) ∧ ((0 ≤ v1 ∧ v1 ≤ 1) ∧ ((0 ≤ v6 ∧ v6 ≤ gp_ct (gp_sk (ms_q (I 349) v1)) (ms_n (I 349) v1).toNat) ∧ ((ga_rg (v3 + v4)) ∧ ((∀ z2 : Int, z2 = gp_za (ms_p (I 349) v1) (ms_q (I 349) v1) (ms_r (I 349) v1) (ms_n (I 349) v1).toNat v6 (v3 + v4) → (ga_rg z2) ∧ (((z2 = v6) → ga_W G (d + 3) mt_Mo_chatters 9 [some (.inr 348), some (.inl v1), none, some (.inl v3), some (.inl v4), some (.inl v5), some (.inl z2), some (.inl (v7 + 0)), some (.inl (v8 + 1)), none] [] I E) ∧ ((¬ (z2 = v6)) → ga_W G (d + 3) mt_Mo_chatters 9 [some (.inr 348), some (.inl v1), none, some (.inl v3), some (.inl v4), some (.inl v5), some (.inl z2), some (.inl (v7 + 1)), some (.inl (v8 + 1)), none] [] I E)))))))))))) :
    ga_W G (d + 3) mt_Mo_chatters 9 [some (.inr 348), some (.inl v1), none, some (.inl v3), some (.inl v4), some (.inl v5), some (.inl v6), some (.inl v7), some (.inl v8), none] [] I E := by
  refine gw_RG (fun hI1 => ?_)
  have h := h hI1
  refine gw_iload 8 d_Mo_chatters_9 rfl ?_
  refine gw_iload 5 d_Mo_chatters_11 rfl ?_
  refine gw_icmp_ge 70 d_Mo_chatters_13 (by decide) r8 r5 (fun hc => ?_) (fun hc => ?_)
  · have h := h.1 hc
    refine gw_iload 7 d_Mo_chatters_70 rfl ?_
    exact gw_ireturn d_Mo_chatters_72 rfl h
  · have h := h.2 hc
    refine gw_aload_n 0 d_Mo_chatters_16 rfl rfl ?_
    refine gw_iload_n 1 d_Mo_chatters_17 rfl rfl ?_
    refine gw_iload 6 d_Mo_chatters_18 rfl ?_
    refine gw_iload 8 d_Mo_chatters_20 rfl ?_
    refine gw_iconst d_Mo_chatters_22 ?_
    refine gw_irem d_Mo_chatters_23 r8 ⟨by decide, by decide⟩ (by decide) ?_
    obtain ⟨g1, h⟩ := h
    refine gw_if_ne 34 d_Mo_chatters_24 (by decide) g1 (fun hc => ?_) (fun hc => ?_)
    · have h := h.1 hc
      refine gw_iload_n 3 d_Mo_chatters_34 rfl rfl ?_
      refine gw_iload 4 d_Mo_chatters_35 rfl ?_
      refine gw_isub d_Mo_chatters_37 ?_
      obtain ⟨g2, h⟩ := h
      obtain ⟨g3, h⟩ := h
      obtain ⟨g4, h⟩ := h
      obtain ⟨g5, h⟩ := h
      obtain ⟨g6, h⟩ := h
      refine gw_invV (as := [.inl v1, .inl v6, .inl (v3 - v4)]) (k := 348) (rest := []) (d' := (d + 2)) d_Mo_chatters_38 lk_Mo_160 (ga_rcv (ga_oM) rfl rfl) rfl (Nat.le_of_ble_eq_true rfl) (Nat.le_of_ble_eq_true rfl) rfl rfl (s_Mo_zoneBehind g2 g3 g4 g5 g6 ?_)
      show ga_W G (d + 3) mt_Mo_chatters 41 [some (.inr 348), some (.inl v1), none, some (.inl v3), some (.inl v4), some (.inl v5), some (.inl v6), some (.inl v7), some (.inl v8), none] [.inl (gp_za (ms_p (I 349) v1) (ms_q (I 349) v1) (ms_r (I 349) v1) (ms_n (I 349) v1).toNat v6 (v3 - v4))] I E
      refine gw_nz (z := gp_za (ms_p (I 349) v1) (ms_q (I 349) v1) (ms_r (I 349) v1) (ms_n (I 349) v1).toNat v6 (v3 - v4)) (fun z1 q1 => ?_)
      have h := h z1 q1
      refine gw_istore 9 d_Mo_chatters_41 (Nat.le_of_ble_eq_true rfl) rfl ?_
      refine gw_iload 7 d_Mo_chatters_43 rfl ?_
      refine gw_iload 9 d_Mo_chatters_45 rfl ?_
      refine gw_iload 6 d_Mo_chatters_47 rfl ?_
      obtain ⟨g7, h⟩ := h
      refine gw_icmp_eq 56 d_Mo_chatters_49 (by decide) g7 r6 (fun hc => ?_) (fun hc => ?_)
      · have h := h.1 hc
        refine gw_iconst d_Mo_chatters_56 ?_
        refine gw_iadd d_Mo_chatters_57 ?_
        refine gw_istore 7 d_Mo_chatters_58 (Nat.le_of_ble_eq_true rfl) rfl ?_
        refine gw_iload 9 d_Mo_chatters_60 rfl ?_
        refine gw_istore 6 d_Mo_chatters_62 (Nat.le_of_ble_eq_true rfl) rfl ?_
        refine gw_iinc 8 d_Mo_chatters_64 rfl rfl ?_
        refine gw_goto 9 d_Mo_chatters_67 (by decide) ?_
        exact gw_le h (by exact ⟨rfl, ⟨rfl, ⟨rfl, ⟨rfl, ⟨rfl, ⟨rfl, ⟨rfl, ⟨rfl, trivial⟩⟩⟩⟩⟩⟩⟩⟩)
      · have h := h.2 hc
        refine gw_iconst d_Mo_chatters_52 ?_
        refine gw_goto 57 d_Mo_chatters_53 (by decide) ?_
        refine gw_iadd d_Mo_chatters_57 ?_
        refine gw_istore 7 d_Mo_chatters_58 (Nat.le_of_ble_eq_true rfl) rfl ?_
        refine gw_iload 9 d_Mo_chatters_60 rfl ?_
        refine gw_istore 6 d_Mo_chatters_62 (Nat.le_of_ble_eq_true rfl) rfl ?_
        refine gw_iinc 8 d_Mo_chatters_64 rfl rfl ?_
        refine gw_goto 9 d_Mo_chatters_67 (by decide) ?_
        exact gw_le h (by exact ⟨rfl, ⟨rfl, ⟨rfl, ⟨rfl, ⟨rfl, ⟨rfl, ⟨rfl, ⟨rfl, trivial⟩⟩⟩⟩⟩⟩⟩⟩)
    · have h := h.2 hc
      refine gw_iload_n 3 d_Mo_chatters_27 rfl rfl ?_
      refine gw_iload 4 d_Mo_chatters_28 rfl ?_
      refine gw_iadd d_Mo_chatters_30 ?_
      refine gw_goto 38 d_Mo_chatters_31 (by decide) ?_
      obtain ⟨g8, h⟩ := h
      obtain ⟨g9, h⟩ := h
      obtain ⟨g10, h⟩ := h
      obtain ⟨g11, h⟩ := h
      obtain ⟨g12, h⟩ := h
      refine gw_invV (as := [.inl v1, .inl v6, .inl (v3 + v4)]) (k := 348) (rest := []) (d' := (d + 2)) d_Mo_chatters_38 lk_Mo_160 (ga_rcv (ga_oM) rfl rfl) rfl (Nat.le_of_ble_eq_true rfl) (Nat.le_of_ble_eq_true rfl) rfl rfl (s_Mo_zoneBehind g8 g9 g10 g11 g12 ?_)
      show ga_W G (d + 3) mt_Mo_chatters 41 [some (.inr 348), some (.inl v1), none, some (.inl v3), some (.inl v4), some (.inl v5), some (.inl v6), some (.inl v7), some (.inl v8), none] [.inl (gp_za (ms_p (I 349) v1) (ms_q (I 349) v1) (ms_r (I 349) v1) (ms_n (I 349) v1).toNat v6 (v3 + v4))] I E
      refine gw_nz (z := gp_za (ms_p (I 349) v1) (ms_q (I 349) v1) (ms_r (I 349) v1) (ms_n (I 349) v1).toNat v6 (v3 + v4)) (fun z2 q2 => ?_)
      have h := h z2 q2
      refine gw_istore 9 d_Mo_chatters_41 (Nat.le_of_ble_eq_true rfl) rfl ?_
      refine gw_iload 7 d_Mo_chatters_43 rfl ?_
      refine gw_iload 9 d_Mo_chatters_45 rfl ?_
      refine gw_iload 6 d_Mo_chatters_47 rfl ?_
      obtain ⟨g13, h⟩ := h
      refine gw_icmp_eq 56 d_Mo_chatters_49 (by decide) g13 r6 (fun hc => ?_) (fun hc => ?_)
      · have h := h.1 hc
        refine gw_iconst d_Mo_chatters_56 ?_
        refine gw_iadd d_Mo_chatters_57 ?_
        refine gw_istore 7 d_Mo_chatters_58 (Nat.le_of_ble_eq_true rfl) rfl ?_
        refine gw_iload 9 d_Mo_chatters_60 rfl ?_
        refine gw_istore 6 d_Mo_chatters_62 (Nat.le_of_ble_eq_true rfl) rfl ?_
        refine gw_iinc 8 d_Mo_chatters_64 rfl rfl ?_
        refine gw_goto 9 d_Mo_chatters_67 (by decide) ?_
        exact gw_le h (by exact ⟨rfl, ⟨rfl, ⟨rfl, ⟨rfl, ⟨rfl, ⟨rfl, ⟨rfl, ⟨rfl, trivial⟩⟩⟩⟩⟩⟩⟩⟩)
      · have h := h.2 hc
        refine gw_iconst d_Mo_chatters_52 ?_
        refine gw_goto 57 d_Mo_chatters_53 (by decide) ?_
        refine gw_iadd d_Mo_chatters_57 ?_
        refine gw_istore 7 d_Mo_chatters_58 (Nat.le_of_ble_eq_true rfl) rfl ?_
        refine gw_iload 9 d_Mo_chatters_60 rfl ?_
        refine gw_istore 6 d_Mo_chatters_62 (Nat.le_of_ble_eq_true rfl) rfl ?_
        refine gw_iinc 8 d_Mo_chatters_64 rfl rfl ?_
        refine gw_goto 9 d_Mo_chatters_67 (by decide) ?_
        exact gw_le h (by exact ⟨rfl, ⟨rfl, ⟨rfl, ⟨rfl, ⟨rfl, ⟨rfl, ⟨rfl, ⟨rfl, trivial⟩⟩⟩⟩⟩⟩⟩⟩)

section ML
variable {G : ga_G} {d : Nat} {I : ga_I} {E : Option ga_V → ga_I → Prop}
theorem l_Mo_chatters {ax z x y : Int} (hok : mo_ok I ax) (hmn : mo_n I) (ha : 0 ≤ ax ∧ ax ≤ 1) {n t : Nat} (hn : (ms_n (I 349) ax).toNat = n) (hz : 0 ≤ z ∧ z ≤ gp_ct (gp_sk (ms_q (I 349) ax)) n) (ht : t ≤ 100) (h1 : ga_rg (x + y)) (h2 : ga_rg (x - y)) (h : E (some (.inl (gp_zc (ms_p (I 349) ax) (ms_q (I 349) ax) (ms_r (I 349) ax) n z x y t).1)) I) :
    ∀ (m b : Nat), b + m = t → ga_W G (d + 3) mt_Mo_chatters 9 [some (.inr 348), some (.inl ax), none, some (.inl x), some (.inl y), some (.inl (t : Int)), some (.inl (gp_zc (ms_p (I 349) ax) (ms_q (I 349) ax) (ms_r (I 349) ax) n z x y b).2), some (.inl (gp_zc (ms_p (I 349) ax) (ms_q (I 349) ax) (ms_r (I 349) ax) n z x y b).1), some (.inl (b : Int)), none] [] I E := by
  have h6 := hok.2.1
  have hN := gp_ct_le (gp_sk (ms_q (I 349) ax)) n
  intro m
  induction m with
  | zero =>
    intro b hb
    have hd := gp_zc_zn (ms_p (I 349) ax) (ms_q (I 349) ax) (ms_r (I 349) ax) n z x y hz b
    refine k_Mo_chatters_9 ⟨by omega, by omega⟩ ⟨by omega, by omega⟩ ⟨by omega, by omega⟩ (fun hI => ⟨fun h1 => ?_, fun h1 => by exfalso; omega⟩)
    rwa [show t = b by omega] at h
  | succ m ih =>
    intro b hb
    have e := ih (b + 1) (by omega)
    have hd := gp_zc_zn (ms_p (I 349) ax) (ms_q (I 349) ax) (ms_r (I 349) ax) n z x y hz b
    have hd2 := gp_zc_zn (ms_p (I 349) ax) (ms_q (I 349) ax) (ms_r (I 349) ax) n z x y hz (b + 1)
    have hm : Int.tmod (b : Int) 2 = ((b % 2 : Nat) : Int) := by rw [Int.tmod_eq_emod_of_nonneg (by omega)]; omega
    refine k_Mo_chatters_9 ⟨by omega, by omega⟩ ⟨by omega, by omega⟩ ⟨by omega, by omega⟩ (fun hI => ⟨fun h1 => by exfalso; omega, fun h3 => ⟨?_, fun h4 => ⟨hok, hmn, ha, by rw [hn]; exact hd.1, h2, fun z1 e1 => ⟨?_, fun h5 => ?_, fun h5 => ?_⟩⟩, fun h4 => ⟨hok, hmn, ha, by rw [hn]; exact hd.1, h1, fun z1 e1 => ⟨?_, fun h5 => ?_, fun h5 => ?_⟩⟩⟩⟩)
    · rw [hm]; constructor <;> omega
    all_goals rw [hn] at e1
    · have hb2 : ¬ b % 2 = 0 := by rw [hm] at h4; omega
      simp only [gp_zc, if_neg hb2] at hd2
      rw [e1]
      constructor <;> omega
    · have hb2 : ¬ b % 2 = 0 := by rw [hm] at h4; omega
      simp only [gp_zc, if_neg hb2] at e
      rw [← e1, if_pos h5] at e
      rw [Int.add_zero]
      exact e
    · have hb2 : ¬ b % 2 = 0 := by rw [hm] at h4; omega
      simp only [gp_zc, if_neg hb2] at e
      rw [← e1, if_neg h5] at e
      exact e
    · have hb2 : b % 2 = 0 := by rw [hm] at h4; omega
      simp only [gp_zc, if_pos hb2] at hd2
      rw [e1]
      constructor <;> omega
    · have hb2 : b % 2 = 0 := by rw [hm] at h4; omega
      simp only [gp_zc, if_pos hb2] at e
      rw [← e1, if_pos h5] at e
      rw [Int.add_zero]
      exact e
    · have hb2 : b % 2 = 0 := by rw [hm] at h4; omega
      simp only [gp_zc, if_pos hb2] at e
      rw [← e1, if_neg h5] at e
      exact e
theorem s_Mo_chatters {ax z x y t : Int} (hok : mo_ok I ax) (hmn : mo_n I) (ha : 0 ≤ ax ∧ ax ≤ 1) (hz : 0 ≤ z ∧ z ≤ gp_ct (gp_sk (ms_q (I 349) ax)) (ms_n (I 349) ax).toNat) (ht : 0 ≤ t ∧ t ≤ 100) (h1 : ga_rg (x + y)) (h2 : ga_rg (x - y)) (h : E (some (.inl (gp_zc (ms_p (I 349) ax) (ms_q (I 349) ax) (ms_r (I 349) ax) (ms_n (I 349) ax).toNat z x y t.toNat).1)) I) : ga_W G (d + 3) mt_Mo_chatters 0 (ga_en 10 [.inr 348, .inl ax, .inl z, .inl x, .inl y, .inl t]) [] I E := by
  refine k_Mo_chatters_0 (fun _ => ?_)
  have e := l_Mo_chatters (G := G) (d := d) hok hmn ha rfl hz (t := t.toNat) (by omega) h1 h2 h t.toNat 0 (by omega)
  rw [show ((t.toNat : Nat) : Int) = t by omega] at e
  exact e
end ML
theorem k_Mo_valueThere_0 {G : ga_G} {d : Nat} {I : ga_I} {E : Option ga_V → ga_I → Prop} {v1 : Int} {v2 : Int} {v3 : Int} (r1 : ga_rg v1) (r2 : ga_rg v2)
    (h : ga_RG I → (mo_n I) ∧ ((0 ≤ (0 : Int) ∧ (0 : Int) ≤ 1) ∧ ((∀ z1 : Int, z1 = gp_zo (ms_p (I 349) (0 : Int)) (ms_q (I 349) (0 : Int)) v1 (ms_n (I 349) (0 : Int)).toNat → (mo_ok I (0 : Int)) ∧ ((0 ≤ z1 ∧ z1 ≤ 10) ∧ ((0 ≤ v1 ∧ v1 ≤ 1000) ∧ ((∀ I1 : ga_I, I1 = (mx_lo I (0 : Int) (gp_fi (ms_p (I 349) (0 : Int)) (ms_q (I 349) (0 : Int)) (ms_r (I 349) (0 : Int)) (ms_n (I 349) (0 : Int)).toNat z1 v1)) → (mo_n I1) ∧ ((0 ≤ (1 : Int) ∧ (1 : Int) ≤ 1) ∧ ((∀ z2 : Int, z2 = gp_zo (ms_p (I1 349) (1 : Int)) (ms_q (I1 349) (1 : Int)) v2 (ms_n (I1 349) (1 : Int)).toNat → (mo_ok I1 (1 : Int)) ∧ ((0 ≤ z2 ∧ z2 ≤ 10) ∧ ((0 ≤ v2 ∧ v2 ≤ 1000) ∧ ((∀ I2 : ga_I, I2 = (mx_lo I1 (1 : Int) (gp_fi (ms_p (I1 349) (1 : Int)) (ms_q (I1 349) (1 : Int)) (ms_r (I1 349) (1 : Int)) (ms_n (I1 349) (1 : Int)).toNat z2 v2)) → (gp_vk (mo_v I2 0)) ∧ ((gp_vk (mo_v I2 1)) ∧ ((0 ≤ v3 ∧ v3 ≤ 2) ∧ ((mo_g I2) ∧ ((∀ z3 : Int, z3 = gp_va (mo_v I2 0) (mo_v I2 1) (fun c r => I2 349 (38 + 4 * (7 * c + r) + v3).toNat) → E (some (.inl z3)) I2)))))))))))))))))))) :
    ga_W G (d + 3) mt_Mo_valueThere 0 (ga_en 4 [.inr 348, .inl v1, .inl v2, .inl v3]) [] I E := by
  show ga_W G (d + 3) mt_Mo_valueThere 0 [some (.inr 348), some (.inl v1), some (.inl v2), some (.inl v3)] [] I E
  refine gw_RG (fun hI1 => ?_)
  have h := h hI1
  refine gw_aload_n 0 d_Mo_valueThere_0 rfl rfl ?_
  refine gw_iconst d_Mo_valueThere_1 ?_
  refine gw_aload_n 0 d_Mo_valueThere_2 rfl rfl ?_
  refine gw_iconst d_Mo_valueThere_3 ?_
  refine gw_iload_n 1 d_Mo_valueThere_4 rfl rfl ?_
  obtain ⟨g1, h⟩ := h
  obtain ⟨g2, h⟩ := h
  refine gw_invV (as := [.inl 0, .inl v1]) (k := 348) (rest := [.inl 0, .inr 348]) (d' := (d + 2)) d_Mo_valueThere_5 lk_Mo_68 (ga_rcv (ga_oM) rfl rfl) rfl (Nat.le_of_ble_eq_true rfl) (Nat.le_of_ble_eq_true rfl) rfl rfl (s_Mo_zoneOf g1 g2 r1 ?_)
  show ga_W G (d + 3) mt_Mo_valueThere 8 [some (.inr 348), some (.inl v1), some (.inl v2), some (.inl v3)] [.inl (gp_zo (ms_p (I 349) (0 : Int)) (ms_q (I 349) (0 : Int)) v1 (ms_n (I 349) (0 : Int)).toNat), .inl 0, .inr 348] I E
  refine gw_nz (z := gp_zo (ms_p (I 349) (0 : Int)) (ms_q (I 349) (0 : Int)) v1 (ms_n (I 349) (0 : Int)).toNat) (fun z1 q1 => ?_)
  have h := h z1 q1
  refine gw_iload_n 1 d_Mo_valueThere_8 rfl rfl ?_
  obtain ⟨g3, h⟩ := h
  obtain ⟨g4, h⟩ := h
  obtain ⟨g5, h⟩ := h
  refine gw_invV (as := [.inl 0, .inl z1, .inl v1]) (k := 348) (rest := []) (d' := (d + 2)) d_Mo_valueThere_9 lk_Mo_74 (ga_rcv (ga_oM) rfl rfl) rfl (Nat.le_of_ble_eq_true rfl) (Nat.le_of_ble_eq_true rfl) rfl rfl (s_Mo_locate g3 g1 g2 g4 g5 ?_)
  show ga_W G (d + 3) mt_Mo_valueThere 12 [some (.inr 348), some (.inl v1), some (.inl v2), some (.inl v3)] [] (mx_lo I (0 : Int) (gp_fi (ms_p (I 349) (0 : Int)) (ms_q (I 349) (0 : Int)) (ms_r (I 349) (0 : Int)) (ms_n (I 349) (0 : Int)).toNat z1 v1)) E
  refine gw_nm (fun I1 q2 => ?_)
  have h := h I1 q2
  refine gw_RG (fun hI2 => ?_)
  refine gw_aload_n 0 d_Mo_valueThere_12 rfl rfl ?_
  refine gw_iconst d_Mo_valueThere_13 ?_
  refine gw_aload_n 0 d_Mo_valueThere_14 rfl rfl ?_
  refine gw_iconst d_Mo_valueThere_15 ?_
  refine gw_iload_n 2 d_Mo_valueThere_16 rfl rfl ?_
  obtain ⟨g6, h⟩ := h
  obtain ⟨g7, h⟩ := h
  refine gw_invV (as := [.inl 1, .inl v2]) (k := 348) (rest := [.inl 1, .inr 348]) (d' := (d + 2)) d_Mo_valueThere_17 lk_Mo_68 (ga_rcv (ga_oM) rfl rfl) rfl (Nat.le_of_ble_eq_true rfl) (Nat.le_of_ble_eq_true rfl) rfl rfl (s_Mo_zoneOf g6 g7 r2 ?_)
  show ga_W G (d + 3) mt_Mo_valueThere 20 [some (.inr 348), some (.inl v1), some (.inl v2), some (.inl v3)] [.inl (gp_zo (ms_p (I1 349) (1 : Int)) (ms_q (I1 349) (1 : Int)) v2 (ms_n (I1 349) (1 : Int)).toNat), .inl 1, .inr 348] I1 E
  refine gw_nz (z := gp_zo (ms_p (I1 349) (1 : Int)) (ms_q (I1 349) (1 : Int)) v2 (ms_n (I1 349) (1 : Int)).toNat) (fun z2 q3 => ?_)
  have h := h z2 q3
  refine gw_iload_n 2 d_Mo_valueThere_20 rfl rfl ?_
  obtain ⟨g8, h⟩ := h
  obtain ⟨g9, h⟩ := h
  obtain ⟨g10, h⟩ := h
  refine gw_invV (as := [.inl 1, .inl z2, .inl v2]) (k := 348) (rest := []) (d' := (d + 2)) d_Mo_valueThere_21 lk_Mo_74 (ga_rcv (ga_oM) rfl rfl) rfl (Nat.le_of_ble_eq_true rfl) (Nat.le_of_ble_eq_true rfl) rfl rfl (s_Mo_locate g8 g6 g7 g9 g10 ?_)
  show ga_W G (d + 3) mt_Mo_valueThere 24 [some (.inr 348), some (.inl v1), some (.inl v2), some (.inl v3)] [] (mx_lo I1 (1 : Int) (gp_fi (ms_p (I1 349) (1 : Int)) (ms_q (I1 349) (1 : Int)) (ms_r (I1 349) (1 : Int)) (ms_n (I1 349) (1 : Int)).toNat z2 v2)) E
  refine gw_nm (fun I2 q4 => ?_)
  have h := h I2 q4
  refine gw_RG (fun hI3 => ?_)
  refine gw_aload_n 0 d_Mo_valueThere_24 rfl rfl ?_
  refine gw_iload_n 3 d_Mo_valueThere_25 rfl rfl ?_
  obtain ⟨g11, h⟩ := h
  obtain ⟨g12, h⟩ := h
  obtain ⟨g13, h⟩ := h
  obtain ⟨g14, h⟩ := h
  refine gw_invV (as := [.inl v3]) (k := 348) (rest := []) (d' := (d + 2)) d_Mo_valueThere_26 lk_Mo_157 (ga_rcv (ga_oM) rfl rfl) rfl (Nat.le_of_ble_eq_true rfl) (Nat.le_of_ble_eq_true rfl) rfl rfl (s_Mo_value g11 g12 g13 g14 ?_)
  show ga_W G (d + 3) mt_Mo_valueThere 29 [some (.inr 348), some (.inl v1), some (.inl v2), some (.inl v3)] [.inl (gp_va (mo_v I2 0) (mo_v I2 1) (fun c r => I2 349 (38 + 4 * (7 * c + r) + v3).toNat))] I2 E
  refine gw_nz (z := gp_va (mo_v I2 0) (mo_v I2 1) (fun c r => I2 349 (38 + 4 * (7 * c + r) + v3).toNat)) (fun z3 q5 => ?_)
  have h := h z3 q5
  exact gw_ireturn d_Mo_valueThere_29 rfl h

section ML
variable {G : ga_G} {d : Nat} {I : ga_I} {E : Option ga_V → ga_I → Prop}
def mp_vt (s : Nat → Int) (x y g : Int) : Int := mp_va s g (ns_zo s 0 x) x (ns_zo s 1 y) y
def gr_vt (I J : ga_I) : Prop := ∀ a, a < 353 ∨ 357 ≤ a → J a = I a
theorem mo_v_lo1 (J : ga_I) (v : Int × Int × Int × Int) : mo_v (mx_lo J 1 v) 0 = mo_v J 0 := by
  unfold mo_v mx_lo
  rw [ga_up_nj (a := 353) (by decide), ga_up_nj (a := 353) (by decide), ga_up_nj (a := 353) (by decide), ga_up_nj (a := 353) (by decide), ga_up_nj (a := 354) (by decide), ga_up_nj (a := 354) (by decide), ga_up_nj (a := 354) (by decide), ga_up_nj (a := 354) (by decide), ga_up_nj (a := 355) (by decide), ga_up_nj (a := 355) (by decide), ga_up_nj (a := 355) (by decide), ga_up_nj (a := 355) (by decide), ga_up_nj (a := 356) (by decide), ga_up_nj (a := 356) (by decide), ga_up_nj (a := 356) (by decide), ga_up_nj (a := 356) (by decide)]
theorem mo_v_0 (J : ga_I) (v : Int × Int × Int × Int) : mo_v (mx_lo J 0 v) 0 = v := rfl
theorem mo_v_1 (J : ga_I) (v : Int × Int × Int × Int) : mo_v (mx_lo J 1 v) 1 = v := rfl
theorem s_Mo_valueThere {x y g : Int} (h0 : mo_ok I 0) (h1 : mo_ok I 1) (hm : mo_g I) (hx : 0 ≤ x ∧ x ≤ 1000) (hy : 0 ≤ y ∧ y ≤ 1000) (hg : 0 ≤ g ∧ g ≤ 2) (h : ∀ J : ga_I, gr_vt I J → E (some (.inl (mp_vt (I 349) x y g))) J) : ga_W G (d + 3) mt_Mo_valueThere 0 (ga_en 4 [.inr 348, .inl x, .inl y, .inl g]) [] I E := by
  have n0 := h0.2.1
  have n1 := h1.2.1
  refine k_Mo_valueThere_0 ⟨by omega, by omega⟩ ⟨by omega, by omega⟩ (fun hI => ⟨mo_n_of h0 h1, by omega, fun z1 e1 => ?_⟩)
  have b1 := gp_zo_bd (ms_p (I 349) 0) (ms_q (I 349) 0) x (ms_n (I 349) 0).toNat
  rw [← e1] at b1
  refine ⟨h0, by omega, hx, fun I1 f1 => ?_⟩
  have s1 : I1 349 = I 349 := by rw [f1, mx_lo_s _ _ _ (by omega)]
  refine ⟨by unfold mo_n; rw [s1]; exact mo_n_of h0 h1, by omega, fun z2 e2 => ?_⟩
  have b2 := gp_zo_bd (ms_p (I1 349) 1) (ms_q (I1 349) 1) y (ms_n (I1 349) 1).toNat
  rw [← e2, s1] at b2
  rw [s1] at e2
  refine ⟨by unfold mo_ok; rw [s1]; exact h1, by omega, hy, fun I2 f2 => ?_⟩
  have s2 : I2 349 = I 349 := by rw [f2, mx_lo_s _ _ _ (by omega), s1]
  have v0 : mo_v I2 0 = mp_f (I 349) 0 (ns_zo (I 349) 0 x) x := by
    rw [f2, mo_v_lo1, f1, mo_v_0, e1]; rfl
  have v1 : mo_v I2 1 = mp_f (I 349) 1 (ns_zo (I 349) 1 y) y := by
    rw [f2, mo_v_1, s1, e2]; rfl
  refine ⟨by rw [v0]; exact mp_f_k h0 hx, by rw [v1]; exact mp_f_k h1 hy, hg, mo_g_of (fun j _ _ => by rw [s2]) hm, fun z3 e3 => ?_⟩
  have hh := h I2 (fun a ha => by rw [f2, mx_lo_s _ _ _ ha, f1, mx_lo_s _ _ _ ha])
  rw [v0, v1, s2] at e3
  rw [e3]
  exact hh
end ML
