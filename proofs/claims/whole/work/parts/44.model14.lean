theorem k_Mo_count_0 {G : ga_G} {d : Nat} {I : ga_I} {E : Option ga_V → ga_I → Prop} {v1 : Int} (r1 : ga_rg v1)
    (h : ga_RG I → (∀ I1 : ga_I, I1 = (ga_up I 348 0 0) → (v1 = 0 → (∀ z1 : Int, z1 = (ms_n (I1 349) 0 + 1) * (ms_n (I1 349) 1 + 1) → E (some (.inl z1)) I1)) ∧ (v1 = 1 → E (some (.inl (I1 349 238))) I1) ∧ (v1 = 2 → (0 ≤ ((234 + v1) - 2)) ∧ ((((234 + v1) - 2) < 1120) ∧ (E (some (.inl (I1 349 ((234 + v1) - 2).toNat))) I1))) ∧ (v1 = 3 → (0 ≤ ((234 + v1) - 2)) ∧ ((((234 + v1) - 2) < 1120) ∧ (E (some (.inl (I1 349 ((234 + v1) - 2).toNat))) I1))) ∧ (v1 = 4 → (0 ≤ ((236 + v1) - 4)) ∧ ((((236 + v1) - 4) < 1120) ∧ (E (some (.inl (I1 349 ((236 + v1) - 4).toNat))) I1))) ∧ (v1 = 5 → (0 ≤ ((236 + v1) - 4)) ∧ ((((236 + v1) - 4) < 1120) ∧ (E (some (.inl (I1 349 ((236 + v1) - 4).toNat))) I1))) ∧ (v1 = 6 → E (some (.inl (I1 349 254))) I1) ∧ (v1 = 7 → E (some (.inl (I1 349 239))) I1) ∧ (v1 = 8 → E (some (.inl (I1 349 240))) I1) ∧ (v1 = 9 → E (some (.inl (I1 348 4))) I1) ∧ (v1 = 10 → E (some (.inl (I1 348 6))) I1) ∧ (v1 = 11 → (∀ z2 : Int, z2 = I1 349 415 + I1 349 650 + I1 349 885 → E (some (.inl z2)) I1)) ∧ ((v1 < 0 ∨ 11 < v1) → E (some (.inl (-2000000001))) I1))) :
    ga_W G (d + 2) mt_Mo_count 0 (ga_en 2 [.inr 348, .inl v1]) [] I E := by
  show ga_W G (d + 2) mt_Mo_count 0 [some (.inr 348), some (.inl v1)] [] I E
  refine gw_RG (fun hI1 => ?_)
  have h := h hI1
  refine gw_aload_n 0 d_Mo_count_0 rfl rfl ?_
  refine gw_iconst d_Mo_count_1 ?_
  refine gw_putI d_Mo_count_2 fp_Mo_37 (ga_oM) rfl ?_
  show ga_W G (d + 2) mt_Mo_count 5 [some (.inr 348), some (.inl v1)] [] (ga_up I 348 0 (ga_wr 0)) E
  rw [ga_wr_eq (z := 0) ⟨by decide, by decide⟩]
  refine gw_nm (J := (ga_up I 348 0 0)) (fun I1 q1 => ?_)
  have h := h I1 q1
  refine gw_RG (fun hI2 => ?_)
  refine gw_iload_n 1 d_Mo_count_5 rfl rfl ?_
  refine gw_tsw d_Mo_count_6 r1 (fun hlo hhi => ?_) (fun hx => ⟨150, by decide, ?_⟩)
  · have hq : v1 = 0 ∨ v1 = 1 ∨ v1 = 2 ∨ v1 = 3 ∨ v1 = 4 ∨ v1 = 5 ∨ v1 = 6 ∨ v1 = 7 ∨ v1 = 8 ∨ v1 = 9 ∨ v1 = 10 ∨ v1 = 11 := by omega
    rcases hq with hq | hq | hq | hq | hq | hq | hq | hq | hq | hq | hq | hq
    · refine ⟨68, 62, ?_, by decide, ?_⟩
      · rw [hq]; rfl
      have h := h.1 hq
      refine gw_aload_n 0 d_Mo_count_68 rfl rfl ?_
      refine gw_invV (as := []) (k := 348) (rest := []) (d' := (d + 1)) d_Mo_count_69 lk_Mo_188 (ga_rcv (ga_oM) rfl rfl) rfl (Nat.le_of_ble_eq_true rfl) (Nat.le_of_ble_eq_true rfl) rfl rfl (s_Mo_regions  ?_)
      show ga_W G (d + 2) mt_Mo_count 72 [some (.inr 348), some (.inl v1)] [.inl ((ms_n (I1 349) 0 + 1) * (ms_n (I1 349) 1 + 1))] I1 E
      refine gw_nz (z := (ms_n (I1 349) 0 + 1) * (ms_n (I1 349) 1 + 1)) (fun z1 q2 => ?_)
      have h := h z1 q2
      exact gw_ireturn d_Mo_count_72 rfl h
    · refine ⟨73, 67, ?_, by decide, ?_⟩
      · rw [hq]; rfl
      have h := h.2.1 hq
      refine gw_aload_n 0 d_Mo_count_73 rfl rfl ?_
      refine gw_getR d_Mo_count_74 fl_Mo_7 (ga_oM) rfl ?_
      refine gw_sipush d_Mo_count_77 (by decide +kernel) ?_
      refine gw_iald d_Mo_count_80 (ga_aM1) (by decide) (by decide) ?_
      exact gw_ireturn d_Mo_count_81 rfl h
    · refine ⟨82, 76, ?_, by decide, ?_⟩
      · rw [hq]; rfl
      have h := h.2.2.1 hq
      refine gw_aload_n 0 d_Mo_count_82 rfl rfl ?_
      refine gw_getR d_Mo_count_83 fl_Mo_7 (ga_oM) rfl ?_
      refine gw_sipush d_Mo_count_86 (by decide +kernel) ?_
      refine gw_iload_n 1 d_Mo_count_89 rfl rfl ?_
      refine gw_iadd d_Mo_count_90 ?_
      refine gw_iconst d_Mo_count_91 ?_
      refine gw_isub d_Mo_count_92 ?_
      obtain ⟨g1, h⟩ := h
      obtain ⟨g2, h⟩ := h
      refine gw_iald d_Mo_count_93 (ga_aM1) g1 g2 ?_
      exact gw_ireturn d_Mo_count_94 rfl h
    · refine ⟨82, 76, ?_, by decide, ?_⟩
      · rw [hq]; rfl
      have h := h.2.2.2.1 hq
      refine gw_aload_n 0 d_Mo_count_82 rfl rfl ?_
      refine gw_getR d_Mo_count_83 fl_Mo_7 (ga_oM) rfl ?_
      refine gw_sipush d_Mo_count_86 (by decide +kernel) ?_
      refine gw_iload_n 1 d_Mo_count_89 rfl rfl ?_
      refine gw_iadd d_Mo_count_90 ?_
      refine gw_iconst d_Mo_count_91 ?_
      refine gw_isub d_Mo_count_92 ?_
      obtain ⟨g3, h⟩ := h
      obtain ⟨g4, h⟩ := h
      refine gw_iald d_Mo_count_93 (ga_aM1) g3 g4 ?_
      exact gw_ireturn d_Mo_count_94 rfl h
    · refine ⟨95, 89, ?_, by decide, ?_⟩
      · rw [hq]; rfl
      have h := h.2.2.2.2.1 hq
      refine gw_aload_n 0 d_Mo_count_95 rfl rfl ?_
      refine gw_getR d_Mo_count_96 fl_Mo_7 (ga_oM) rfl ?_
      refine gw_sipush d_Mo_count_99 (by decide +kernel) ?_
      refine gw_iload_n 1 d_Mo_count_102 rfl rfl ?_
      refine gw_iadd d_Mo_count_103 ?_
      refine gw_iconst d_Mo_count_104 ?_
      refine gw_isub d_Mo_count_105 ?_
      obtain ⟨g5, h⟩ := h
      obtain ⟨g6, h⟩ := h
      refine gw_iald d_Mo_count_106 (ga_aM1) g5 g6 ?_
      exact gw_ireturn d_Mo_count_107 rfl h
    · refine ⟨95, 89, ?_, by decide, ?_⟩
      · rw [hq]; rfl
      have h := h.2.2.2.2.2.1 hq
      refine gw_aload_n 0 d_Mo_count_95 rfl rfl ?_
      refine gw_getR d_Mo_count_96 fl_Mo_7 (ga_oM) rfl ?_
      refine gw_sipush d_Mo_count_99 (by decide +kernel) ?_
      refine gw_iload_n 1 d_Mo_count_102 rfl rfl ?_
      refine gw_iadd d_Mo_count_103 ?_
      refine gw_iconst d_Mo_count_104 ?_
      refine gw_isub d_Mo_count_105 ?_
      obtain ⟨g7, h⟩ := h
      obtain ⟨g8, h⟩ := h
      refine gw_iald d_Mo_count_106 (ga_aM1) g7 g8 ?_
      exact gw_ireturn d_Mo_count_107 rfl h
    · refine ⟨108, 102, ?_, by decide, ?_⟩
      · rw [hq]; rfl
      have h := h.2.2.2.2.2.2.1 hq
      refine gw_aload_n 0 d_Mo_count_108 rfl rfl ?_
      refine gw_getR d_Mo_count_109 fl_Mo_7 (ga_oM) rfl ?_
      refine gw_sipush d_Mo_count_112 (by decide +kernel) ?_
      refine gw_iald d_Mo_count_115 (ga_aM1) (by decide) (by decide) ?_
      exact gw_ireturn d_Mo_count_116 rfl h
    · refine ⟨117, 111, ?_, by decide, ?_⟩
      · rw [hq]; rfl
      have h := h.2.2.2.2.2.2.2.1 hq
      refine gw_aload_n 0 d_Mo_count_117 rfl rfl ?_
      refine gw_getR d_Mo_count_118 fl_Mo_7 (ga_oM) rfl ?_
      refine gw_sipush d_Mo_count_121 (by decide +kernel) ?_
      refine gw_iald d_Mo_count_124 (ga_aM1) (by decide) (by decide) ?_
      exact gw_ireturn d_Mo_count_125 rfl h
    · refine ⟨126, 120, ?_, by decide, ?_⟩
      · rw [hq]; rfl
      have h := h.2.2.2.2.2.2.2.2.1 hq
      refine gw_aload_n 0 d_Mo_count_126 rfl rfl ?_
      refine gw_getR d_Mo_count_127 fl_Mo_7 (ga_oM) rfl ?_
      refine gw_sipush d_Mo_count_130 (by decide +kernel) ?_
      refine gw_iald d_Mo_count_133 (ga_aM1) (by decide) (by decide) ?_
      exact gw_ireturn d_Mo_count_134 rfl h
    · refine ⟨135, 129, ?_, by decide, ?_⟩
      · rw [hq]; rfl
      have h := h.2.2.2.2.2.2.2.2.2.1 hq
      refine gw_aload_n 0 d_Mo_count_135 rfl rfl ?_
      refine gw_getI d_Mo_count_136 fl_Mo_44 (ga_oM) rfl ?_
      exact gw_ireturn d_Mo_count_139 rfl h
    · refine ⟨140, 134, ?_, by decide, ?_⟩
      · rw [hq]; rfl
      have h := h.2.2.2.2.2.2.2.2.2.2.1 hq
      refine gw_aload_n 0 d_Mo_count_140 rfl rfl ?_
      refine gw_getI d_Mo_count_141 fl_Mo_191 (ga_oM) rfl ?_
      exact gw_ireturn d_Mo_count_144 rfl h
    · refine ⟨145, 139, ?_, by decide, ?_⟩
      · rw [hq]; rfl
      have h := h.2.2.2.2.2.2.2.2.2.2.2.1 hq
      refine gw_aload_n 0 d_Mo_count_145 rfl rfl ?_
      refine gw_invV (as := []) (k := 348) (rest := []) (d' := (d + 1)) d_Mo_count_146 lk_Mo_230 (ga_rcv (ga_oM) rfl rfl) rfl (Nat.le_of_ble_eq_true rfl) (Nat.le_of_ble_eq_true rfl) rfl rfl (s_Mo_snapshots  ?_)
      show ga_W G (d + 2) mt_Mo_count 149 [some (.inr 348), some (.inl v1)] [.inl (I1 349 415 + I1 349 650 + I1 349 885)] I1 E
      refine gw_nz (z := I1 349 415 + I1 349 650 + I1 349 885) (fun z2 q3 => ?_)
      have h := h z2 q3
      exact gw_ireturn d_Mo_count_149 rfl h
  · have h := h.2.2.2.2.2.2.2.2.2.2.2.2 hx
    refine gw_ldc (n := (-2000000001)) d_Mo_count_150 kw_Mo_112 (by decide +kernel) ?_
    exact gw_ireturn d_Mo_count_152 rfl h

theorem k_Mo_axis_0 {G : ga_G} {d : Nat} {I : ga_I} {E : Option ga_V → ga_I → Prop} {v1 : Int} {v2 : Int} (r1 : ga_rg v1) (r2 : ga_rg v2)
    (h : ga_RG I → (∀ I1 : ga_I, I1 = (ga_up I 348 0 0) → ((¬ (0 ≤ v1 ∧ v1 ≤ 1)) → E (some (.inl (-2000000001))) I1) ∧ ((0 ≤ v1 ∧ v1 ≤ 1) → (((0 : Int) ≤ v2 ∧ v2 ≤ (5 : Int)) → (mo_ok I1 0) ∧ ((mo_ok I1 1) ∧ ((mo_pz I1) ∧ ((∀ I2 : ga_I, I2 = (mx_lp I1) → (v2 = 0 → (0 ≤ v1 ∧ v1 ≤ 1) ∧ (E (some (.inl (ms_n (I2 349) v1))) I2)) ∧ (v2 = 1 → (mo_n I2) ∧ ((0 ≤ v1 ∧ v1 ≤ 1) ∧ ((∀ z1 : Int, z1 = gp_ct (gp_sk (ms_q (I2 349) v1)) (ms_n (I2 349) v1).toNat → E (some (.inl (z1 + 1))) I2)))) ∧ (v2 = 2 → (0 ≤ v1) ∧ ((v1 < 2) ∧ (E (some (.inl (I2 353 v1.toNat))) I2))) ∧ (v2 = 3 → (0 ≤ v1) ∧ ((v1 < 2) ∧ (E (some (.inl (I2 354 v1.toNat))) I2))) ∧ (v2 = 4 → (0 ≤ v1) ∧ ((v1 < 2) ∧ (E (some (.inl (I2 355 v1.toNat))) I2))) ∧ ((v2 < 0 ∨ 4 < v2) → (0 ≤ v1) ∧ ((v1 < 2) ∧ (E (some (.inl (I2 356 v1.toNat))) I2)))))))) ∧ ((¬ ((0 : Int) ≤ v2 ∧ v2 ≤ (5 : Int))) → E (some (.inl (-2000000001))) I1)))) :
    ga_W G (d + 4) mt_Mo_axis 0 (ga_en 3 [.inr 348, .inl v1, .inl v2]) [] I E := by
  show ga_W G (d + 4) mt_Mo_axis 0 [some (.inr 348), some (.inl v1), some (.inl v2)] [] I E
  refine gw_RG (fun hI1 => ?_)
  have h := h hI1
  refine gw_aload_n 0 d_Mo_axis_0 rfl rfl ?_
  refine gw_iconst d_Mo_axis_1 ?_
  refine gw_putI d_Mo_axis_2 fp_Mo_37 (ga_oM) rfl ?_
  show ga_W G (d + 4) mt_Mo_axis 5 [some (.inr 348), some (.inl v1), some (.inl v2)] [] (ga_up I 348 0 (ga_wr 0)) E
  rw [ga_wr_eq (z := 0) ⟨by decide, by decide⟩]
  refine gw_nm (J := (ga_up I 348 0 0)) (fun I1 q1 => ?_)
  have h := h I1 q1
  refine gw_RG (fun hI2 => ?_)
  refine gw_iload_n 1 d_Mo_axis_5 rfl rfl ?_
  refine gw_invS (as := [.inl v1]) (rest := []) (d' := (d + 3)) d_Mo_axis_6 lk_Mo_51 rfl (Nat.le_of_ble_eq_true rfl) (Nat.le_of_ble_eq_true rfl) rfl rfl (s_Mo_isAxis r1 ?_)
  show ga_W G (d + 4) mt_Mo_axis 9 [some (.inr 348), some (.inl v1), some (.inl v2)] [.inl (ga_bb (decide (0 ≤ v1 ∧ v1 ≤ 1)))] I1 E
  refine gw_ifb_eq 21 d_Mo_axis_9 (by decide) (fun hc => ?_) (fun hc => ?_)
  · have h := h.1 (of_decide_eq_false hc)
    refine gw_ldc (n := (-2000000001)) d_Mo_axis_21 kw_Mo_112 (by decide +kernel) ?_
    exact gw_ireturn d_Mo_axis_23 rfl h
  · have h := h.2 (of_decide_eq_true hc)
    refine gw_iload_n 2 d_Mo_axis_12 rfl rfl ?_
    refine gw_iconst d_Mo_axis_13 ?_
    refine gw_iconst d_Mo_axis_14 ?_
    refine gw_invS (as := [.inl v2, .inl 0, .inl 5]) (rest := []) (d' := (d + 3)) d_Mo_axis_15 lk_Mo_47 rfl (Nat.le_of_ble_eq_true rfl) (Nat.le_of_ble_eq_true rfl) rfl rfl (s_Mo_in r2 ⟨by decide, by decide⟩ ⟨by decide, by decide⟩ ?_)
    show ga_W G (d + 4) mt_Mo_axis 18 [some (.inr 348), some (.inl v1), some (.inl v2)] [.inl (ga_bb (decide ((0 : Int) ≤ v2 ∧ v2 ≤ (5 : Int))))] I1 E
    refine gw_ifb_ne 24 d_Mo_axis_18 (by decide) (fun hc => ?_) (fun hc => ?_)
    · have h := h.1 (of_decide_eq_true hc)
      refine gw_aload_n 0 d_Mo_axis_24 rfl rfl ?_
      obtain ⟨g1, h⟩ := h
      obtain ⟨g2, h⟩ := h
      obtain ⟨g3, h⟩ := h
      refine gw_invV (as := []) (k := 348) (rest := []) (d' := (d + 3)) d_Mo_axis_25 lk_Mo_154 (ga_rcv (ga_oM) rfl rfl) rfl (Nat.le_of_ble_eq_true rfl) (Nat.le_of_ble_eq_true rfl) rfl rfl (s_Mo_locatePoint g1 g2 g3 ?_)
      show ga_W G (d + 4) mt_Mo_axis 28 [some (.inr 348), some (.inl v1), some (.inl v2)] [] (mx_lp I1) E
      refine gw_nm (fun I2 q2 => ?_)
      have h := h I2 q2
      refine gw_RG (fun hI3 => ?_)
      refine gw_iload_n 2 d_Mo_axis_28 rfl rfl ?_
      refine gw_tsw d_Mo_axis_29 r2 (fun hlo hhi => ?_) (fun hx => ⟨99, by decide, ?_⟩)
      · have hq : v2 = 0 ∨ v2 = 1 ∨ v2 = 2 ∨ v2 = 3 ∨ v2 = 4 := by omega
        rcases hq with hq | hq | hq | hq | hq
        · refine ⟨64, 35, ?_, by decide, ?_⟩
          · rw [hq]; rfl
          have h := h.1 hq
          refine gw_aload_n 0 d_Mo_axis_64 rfl rfl ?_
          refine gw_iload_n 1 d_Mo_axis_65 rfl rfl ?_
          obtain ⟨g4, h⟩ := h
          refine gw_invV (as := [.inl v1]) (k := 348) (rest := []) (d' := (d + 3)) d_Mo_axis_66 lk_Mo_55 (ga_rcv (ga_oM) rfl rfl) rfl (Nat.le_of_ble_eq_true rfl) (Nat.le_of_ble_eq_true rfl) rfl rfl (s_Mo_borders g4 ?_)
          show ga_W G (d + 4) mt_Mo_axis 69 [some (.inr 348), some (.inl v1), some (.inl v2)] [.inl (ms_n (I2 349) v1)] I2 E
          exact gw_ireturn d_Mo_axis_69 rfl h
        · refine ⟨70, 41, ?_, by decide, ?_⟩
          · rw [hq]; rfl
          have h := h.2.1 hq
          refine gw_aload_n 0 d_Mo_axis_70 rfl rfl ?_
          refine gw_iload_n 1 d_Mo_axis_71 rfl rfl ?_
          obtain ⟨g5, h⟩ := h
          obtain ⟨g6, h⟩ := h
          refine gw_invV (as := [.inl v1]) (k := 348) (rest := []) (d' := (d + 3)) d_Mo_axis_72 lk_Mo_233 (ga_rcv (ga_oM) rfl rfl) rfl (Nat.le_of_ble_eq_true rfl) (Nat.le_of_ble_eq_true rfl) rfl rfl (s_Mo_stickyMany g5 g6 ?_)
          show ga_W G (d + 4) mt_Mo_axis 75 [some (.inr 348), some (.inl v1), some (.inl v2)] [.inl (gp_ct (gp_sk (ms_q (I2 349) v1)) (ms_n (I2 349) v1).toNat)] I2 E
          refine gw_nz (z := gp_ct (gp_sk (ms_q (I2 349) v1)) (ms_n (I2 349) v1).toNat) (fun z1 q3 => ?_)
          have h := h z1 q3
          refine gw_iconst d_Mo_axis_75 ?_
          refine gw_iadd d_Mo_axis_76 ?_
          exact gw_ireturn d_Mo_axis_77 rfl h
        · refine ⟨78, 49, ?_, by decide, ?_⟩
          · rw [hq]; rfl
          have h := h.2.2.1 hq
          refine gw_aload_n 0 d_Mo_axis_78 rfl rfl ?_
          refine gw_getR d_Mo_axis_79 fl_Mo_22 (ga_oM) rfl ?_
          refine gw_iload_n 1 d_Mo_axis_82 rfl rfl ?_
          obtain ⟨g7, h⟩ := h
          obtain ⟨g8, h⟩ := h
          refine gw_iald d_Mo_axis_83 (ga_aM5) g7 g8 ?_
          exact gw_ireturn d_Mo_axis_84 rfl h
        · refine ⟨85, 56, ?_, by decide, ?_⟩
          · rw [hq]; rfl
          have h := h.2.2.2.1 hq
          refine gw_aload_n 0 d_Mo_axis_85 rfl rfl ?_
          refine gw_getR d_Mo_axis_86 fl_Mo_25 (ga_oM) rfl ?_
          refine gw_iload_n 1 d_Mo_axis_89 rfl rfl ?_
          obtain ⟨g9, h⟩ := h
          obtain ⟨g10, h⟩ := h
          refine gw_iald d_Mo_axis_90 (ga_aM6) g9 g10 ?_
          exact gw_ireturn d_Mo_axis_91 rfl h
        · refine ⟨92, 63, ?_, by decide, ?_⟩
          · rw [hq]; rfl
          have h := h.2.2.2.2.1 hq
          refine gw_aload_n 0 d_Mo_axis_92 rfl rfl ?_
          refine gw_getR d_Mo_axis_93 fl_Mo_28 (ga_oM) rfl ?_
          refine gw_iload_n 1 d_Mo_axis_96 rfl rfl ?_
          obtain ⟨g11, h⟩ := h
          obtain ⟨g12, h⟩ := h
          refine gw_iald d_Mo_axis_97 (ga_aM7) g11 g12 ?_
          exact gw_ireturn d_Mo_axis_98 rfl h
      · have h := h.2.2.2.2.2 hx
        refine gw_aload_n 0 d_Mo_axis_99 rfl rfl ?_
        refine gw_getR d_Mo_axis_100 fl_Mo_31 (ga_oM) rfl ?_
        refine gw_iload_n 1 d_Mo_axis_103 rfl rfl ?_
        obtain ⟨g13, h⟩ := h
        obtain ⟨g14, h⟩ := h
        refine gw_iald d_Mo_axis_104 (ga_aM8) g13 g14 ?_
        exact gw_ireturn d_Mo_axis_105 rfl h
    · have h := h.2 (of_decide_eq_false hc)
      refine gw_ldc (n := (-2000000001)) d_Mo_axis_21 kw_Mo_112 (by decide +kernel) ?_
      exact gw_ireturn d_Mo_axis_23 rfl h

theorem k_Mo_border_0 {G : ga_G} {d : Nat} {I : ga_I} {E : Option ga_V → ga_I → Prop} {v1 : Int} {v2 : Int} {v3 : Int} (r1 : ga_rg v1) (r2 : ga_rg v2) (r3 : ga_rg v3)
    (h : ga_RG I → (∀ I1 : ga_I, I1 = (ga_up I 348 0 0) → ((¬ (0 ≤ v1 ∧ v1 ≤ 1)) → E (some (.inl (-2000000001))) I1) ∧ ((0 ≤ v1 ∧ v1 ≤ 1) → ((v2 < 0) → E (some (.inl (-2000000001))) I1) ∧ ((¬ (v2 < 0)) → (((0 : Int) ≤ v3 ∧ v3 ≤ (2 : Int)) → (0 ≤ v1 ∧ v1 ≤ 1) ∧ ((((ms_n (I1 349) v1) ≤ v2) → E (some (.inl (-2000000009))) I1) ∧ ((¬ ((ms_n (I1 349) v1) ≤ v2)) → (0 ≤ v2 ∧ v2 ≤ 6) ∧ ((0 ≤ v3 ∧ v3 ≤ 2) ∧ (E (some (.inl (ms_b (I1 349) v1 v2 v3))) I1))))) ∧ ((¬ ((0 : Int) ≤ v3 ∧ v3 ≤ (2 : Int))) → E (some (.inl (-2000000001))) I1))))) :
    ga_W G (d + 2) mt_Mo_border 0 (ga_en 4 [.inr 348, .inl v1, .inl v2, .inl v3]) [] I E := by
  show ga_W G (d + 2) mt_Mo_border 0 [some (.inr 348), some (.inl v1), some (.inl v2), some (.inl v3)] [] I E
  refine gw_RG (fun hI1 => ?_)
  have h := h hI1
  refine gw_aload_n 0 d_Mo_border_0 rfl rfl ?_
  refine gw_iconst d_Mo_border_1 ?_
  refine gw_putI d_Mo_border_2 fp_Mo_37 (ga_oM) rfl ?_
  show ga_W G (d + 2) mt_Mo_border 5 [some (.inr 348), some (.inl v1), some (.inl v2), some (.inl v3)] [] (ga_up I 348 0 (ga_wr 0)) E
  rw [ga_wr_eq (z := 0) ⟨by decide, by decide⟩]
  refine gw_nm (J := (ga_up I 348 0 0)) (fun I1 q1 => ?_)
  have h := h I1 q1
  refine gw_RG (fun hI2 => ?_)
  refine gw_iload_n 1 d_Mo_border_5 rfl rfl ?_
  refine gw_invS (as := [.inl v1]) (rest := []) (d' := (d + 1)) d_Mo_border_6 lk_Mo_51 rfl (Nat.le_of_ble_eq_true rfl) (Nat.le_of_ble_eq_true rfl) rfl rfl (s_Mo_isAxis r1 ?_)
  show ga_W G (d + 2) mt_Mo_border 9 [some (.inr 348), some (.inl v1), some (.inl v2), some (.inl v3)] [.inl (ga_bb (decide (0 ≤ v1 ∧ v1 ≤ 1)))] I1 E
  refine gw_ifb_eq 25 d_Mo_border_9 (by decide) (fun hc => ?_) (fun hc => ?_)
  · have h := h.1 (of_decide_eq_false hc)
    refine gw_ldc (n := (-2000000001)) d_Mo_border_25 kw_Mo_112 (by decide +kernel) ?_
    exact gw_ireturn d_Mo_border_27 rfl h
  · have h := h.2 (of_decide_eq_true hc)
    refine gw_iload_n 2 d_Mo_border_12 rfl rfl ?_
    refine gw_if_lt 25 d_Mo_border_13 (by decide) r2 (fun hc => ?_) (fun hc => ?_)
    · have h := h.1 hc
      refine gw_ldc (n := (-2000000001)) d_Mo_border_25 kw_Mo_112 (by decide +kernel) ?_
      exact gw_ireturn d_Mo_border_27 rfl h
    · have h := h.2 hc
      refine gw_iload_n 3 d_Mo_border_16 rfl rfl ?_
      refine gw_iconst d_Mo_border_17 ?_
      refine gw_iconst d_Mo_border_18 ?_
      refine gw_invS (as := [.inl v3, .inl 0, .inl 2]) (rest := []) (d' := (d + 1)) d_Mo_border_19 lk_Mo_47 rfl (Nat.le_of_ble_eq_true rfl) (Nat.le_of_ble_eq_true rfl) rfl rfl (s_Mo_in r3 ⟨by decide, by decide⟩ ⟨by decide, by decide⟩ ?_)
      show ga_W G (d + 2) mt_Mo_border 22 [some (.inr 348), some (.inl v1), some (.inl v2), some (.inl v3)] [.inl (ga_bb (decide ((0 : Int) ≤ v3 ∧ v3 ≤ (2 : Int))))] I1 E
      refine gw_ifb_ne 28 d_Mo_border_22 (by decide) (fun hc => ?_) (fun hc => ?_)
      · have h := h.1 (of_decide_eq_true hc)
        refine gw_iload_n 2 d_Mo_border_28 rfl rfl ?_
        refine gw_aload_n 0 d_Mo_border_29 rfl rfl ?_
        refine gw_iload_n 1 d_Mo_border_30 rfl rfl ?_
        obtain ⟨g1, h⟩ := h
        refine gw_invV (as := [.inl v1]) (k := 348) (rest := [.inl v2]) (d' := (d + 1)) d_Mo_border_31 lk_Mo_55 (ga_rcv (ga_oM) rfl rfl) rfl (Nat.le_of_ble_eq_true rfl) (Nat.le_of_ble_eq_true rfl) rfl rfl (s_Mo_borders g1 ?_)
        show ga_W G (d + 2) mt_Mo_border 34 [some (.inr 348), some (.inl v1), some (.inl v2), some (.inl v3)] [.inl (ms_n (I1 349) v1), .inl v2] I1 E
        refine gw_icmp_ge 47 d_Mo_border_34 (by decide) r2 (hI2 _ _) (fun hc => ?_) (fun hc => ?_)
        · have h := h.1 hc
          refine gw_ldc (n := (-2000000009)) d_Mo_border_47 kw_Mo_67 (by decide +kernel) ?_
          exact gw_ireturn d_Mo_border_49 rfl h
        · have h := h.2 hc
          refine gw_aload_n 0 d_Mo_border_37 rfl rfl ?_
          refine gw_iload_n 1 d_Mo_border_38 rfl rfl ?_
          refine gw_iload_n 2 d_Mo_border_39 rfl rfl ?_
          refine gw_iload_n 3 d_Mo_border_40 rfl rfl ?_
          obtain ⟨g2, h⟩ := h
          obtain ⟨g3, h⟩ := h
          refine gw_invV (as := [.inl v1, .inl v2, .inl v3]) (k := 348) (rest := []) (d' := (d + 1)) d_Mo_border_41 lk_Mo_63 (ga_rcv (ga_oM) rfl rfl) rfl (Nat.le_of_ble_eq_true rfl) (Nat.le_of_ble_eq_true rfl) rfl rfl (s_Mo_ofBorder g1 g2 g3 ?_)
          show ga_W G (d + 2) mt_Mo_border 44 [some (.inr 348), some (.inl v1), some (.inl v2), some (.inl v3)] [.inl (ms_b (I1 349) v1 v2 v3)] I1 E
          refine gw_goto 49 d_Mo_border_44 (by decide) ?_
          exact gw_ireturn d_Mo_border_49 rfl h
      · have h := h.2 (of_decide_eq_false hc)
        refine gw_ldc (n := (-2000000001)) d_Mo_border_25 kw_Mo_112 (by decide +kernel) ?_
        exact gw_ireturn d_Mo_border_27 rfl h

theorem k_Mo_region_0 {G : ga_G} {d : Nat} {I : ga_I} {E : Option ga_V → ga_I → Prop} {v1 : Int} {v2 : Int} {v3 : Int} (r1 : ga_rg v1) (r2 : ga_rg v2) (r3 : ga_rg v3)
    (h : ga_RG I → (∀ I1 : ga_I, I1 = (ga_up I 348 0 0) → ((¬ ((0 ≤ v1 ∧ v1 ≤ ms_n (I1 349) 0) ∧ (0 ≤ v2 ∧ v2 ≤ ms_n (I1 349) 1))) → E (some (.inl (-2000000001))) I1) ∧ (((0 ≤ v1 ∧ v1 ≤ ms_n (I1 349) 0) ∧ (0 ≤ v2 ∧ v2 ≤ ms_n (I1 349) 1)) → (((0 : Int) ≤ v3 ∧ v3 ≤ (3 : Int)) → (0 ≤ ((38 + 4 * (7 * v1 + v2)) + v3)) ∧ ((((38 + 4 * (7 * v1 + v2)) + v3) < 1120) ∧ (((v3 ≠ 3) → E (some (.inl (I1 349 ((38 + 4 * (7 * v1 + v2)) + v3).toNat))) I1) ∧ ((v3 = 3) → (((I1 349 ((38 + 4 * (7 * v1 + v2)) + v3).toNat) ≠ (-1)) → E (some (.inl (I1 349 ((38 + 4 * (7 * v1 + v2)) + v3).toNat))) I1) ∧ (((I1 349 ((38 + 4 * (7 * v1 + v2)) + v3).toNat) = (-1)) → E (some (.inl (-2000000009))) I1))))) ∧ ((¬ ((0 : Int) ≤ v3 ∧ v3 ≤ (3 : Int))) → E (some (.inl (-2000000001))) I1)))) :
    ga_W G (d + 2) mt_Mo_region 0 (ga_en 5 [.inr 348, .inl v1, .inl v2, .inl v3]) [] I E := by
  show ga_W G (d + 2) mt_Mo_region 0 [some (.inr 348), some (.inl v1), some (.inl v2), some (.inl v3), none] [] I E
  refine gw_RG (fun hI1 => ?_)
  have h := h hI1
  refine gw_aload_n 0 d_Mo_region_0 rfl rfl ?_
  refine gw_iconst d_Mo_region_1 ?_
  refine gw_putI d_Mo_region_2 fp_Mo_37 (ga_oM) rfl ?_
  show ga_W G (d + 2) mt_Mo_region 5 [some (.inr 348), some (.inl v1), some (.inl v2), some (.inl v3), none] [] (ga_up I 348 0 (ga_wr 0)) E
  rw [ga_wr_eq (z := 0) ⟨by decide, by decide⟩]
  refine gw_nm (J := (ga_up I 348 0 0)) (fun I1 q1 => ?_)
  have h := h I1 q1
  refine gw_RG (fun hI2 => ?_)
  refine gw_aload_n 0 d_Mo_region_5 rfl rfl ?_
  refine gw_iload_n 1 d_Mo_region_6 rfl rfl ?_
  refine gw_iload_n 2 d_Mo_region_7 rfl rfl ?_
  refine gw_invV (as := [.inl v1, .inl v2]) (k := 348) (rest := []) (d' := (d + 1)) d_Mo_region_8 lk_Mo_137 (ga_rcv (ga_oM) rfl rfl) rfl (Nat.le_of_ble_eq_true rfl) (Nat.le_of_ble_eq_true rfl) rfl rfl (s_Mo_isRegion r1 r2 ?_)
  show ga_W G (d + 2) mt_Mo_region 11 [some (.inr 348), some (.inl v1), some (.inl v2), some (.inl v3), none] [.inl (ga_bb (decide ((0 ≤ v1 ∧ v1 ≤ ms_n (I1 349) 0) ∧ (0 ≤ v2 ∧ v2 ≤ ms_n (I1 349) 1))))] I1 E
  refine gw_ifb_eq 23 d_Mo_region_11 (by decide) (fun hc => ?_) (fun hc => ?_)
  · have h := h.1 (of_decide_eq_false hc)
    refine gw_ldc (n := (-2000000001)) d_Mo_region_23 kw_Mo_112 (by decide +kernel) ?_
    exact gw_ireturn d_Mo_region_25 rfl h
  · have h := h.2 (of_decide_eq_true hc)
    refine gw_iload_n 3 d_Mo_region_14 rfl rfl ?_
    refine gw_iconst d_Mo_region_15 ?_
    refine gw_iconst d_Mo_region_16 ?_
    refine gw_invS (as := [.inl v3, .inl 0, .inl 3]) (rest := []) (d' := (d + 1)) d_Mo_region_17 lk_Mo_47 rfl (Nat.le_of_ble_eq_true rfl) (Nat.le_of_ble_eq_true rfl) rfl rfl (s_Mo_in r3 ⟨by decide, by decide⟩ ⟨by decide, by decide⟩ ?_)
    show ga_W G (d + 2) mt_Mo_region 20 [some (.inr 348), some (.inl v1), some (.inl v2), some (.inl v3), none] [.inl (ga_bb (decide ((0 : Int) ≤ v3 ∧ v3 ≤ (3 : Int))))] I1 E
    refine gw_ifb_ne 26 d_Mo_region_20 (by decide) (fun hc => ?_) (fun hc => ?_)
    · have h := h.1 (of_decide_eq_true hc)
      refine gw_aload_n 0 d_Mo_region_26 rfl rfl ?_
      refine gw_getR d_Mo_region_27 fl_Mo_7 (ga_oM) rfl ?_
      refine gw_iload_n 1 d_Mo_region_30 rfl rfl ?_
      refine gw_iload_n 2 d_Mo_region_31 rfl rfl ?_
      refine gw_invS (as := [.inl v1, .inl v2]) (rest := [.inr 349]) (d' := (d + 1)) d_Mo_region_32 lk_Mo_59 rfl (Nat.le_of_ble_eq_true rfl) (Nat.le_of_ble_eq_true rfl) rfl rfl (s_Mo_at  ?_)
      show ga_W G (d + 2) mt_Mo_region 35 [some (.inr 348), some (.inl v1), some (.inl v2), some (.inl v3), none] [.inl (38 + 4 * (7 * v1 + v2)), .inr 349] I1 E
      refine gw_iload_n 3 d_Mo_region_35 rfl rfl ?_
      refine gw_iadd d_Mo_region_36 ?_
      obtain ⟨g1, h⟩ := h
      obtain ⟨g2, h⟩ := h
      refine gw_iald d_Mo_region_37 (ga_aM1) g1 g2 ?_
      refine gw_istore 4 d_Mo_region_38 (Nat.le_of_ble_eq_true rfl) rfl ?_
      refine gw_iload_n 3 d_Mo_region_40 rfl rfl ?_
      refine gw_iconst d_Mo_region_41 ?_
      refine gw_icmp_ne 56 d_Mo_region_42 (by decide) r3 ⟨by decide, by decide⟩ (fun hc => ?_) (fun hc => ?_)
      · have h := h.1 hc
        refine gw_iload 4 d_Mo_region_56 rfl ?_
        exact gw_ireturn d_Mo_region_58 rfl h
      · have h := h.2 hc
        refine gw_iload 4 d_Mo_region_45 rfl ?_
        refine gw_iconst d_Mo_region_47 ?_
        refine gw_icmp_ne 56 d_Mo_region_48 (by decide) (hI2 _ _) ⟨by decide, by decide⟩ (fun hc => ?_) (fun hc => ?_)
        · have h := h.1 hc
          refine gw_iload 4 d_Mo_region_56 rfl ?_
          exact gw_ireturn d_Mo_region_58 rfl h
        · have h := h.2 hc
          refine gw_ldc (n := (-2000000009)) d_Mo_region_51 kw_Mo_67 (by decide +kernel) ?_
          refine gw_goto 58 d_Mo_region_53 (by decide) ?_
          exact gw_ireturn d_Mo_region_58 rfl h
    · have h := h.2 (of_decide_eq_false hc)
      refine gw_ldc (n := (-2000000001)) d_Mo_region_23 kw_Mo_112 (by decide +kernel) ?_
      exact gw_ireturn d_Mo_region_25 rfl h

theorem k_Mo_operator_0 {G : ga_G} {d : Nat} {I : ga_I} {E : Option ga_V → ga_I → Prop} {v1 : Int} {v2 : Int} (r1 : ga_rg v1) (r2 : ga_rg v2)
    (h : ga_RG I → (∀ I1 : ga_I, I1 = (ga_up I 348 0 0) → ((¬ (0 ≤ v1 ∧ v1 ≤ 2)) → E (some (.inl (-2000000001))) I1) ∧ ((0 ≤ v1 ∧ v1 ≤ 2) → (((0 : Int) ≤ v2 ∧ v2 ≤ (3 : Int)) → ((v2 ≠ 2) → ((v2 ≠ 3) → (0 ≤ ((241 + (3 * v1)) + v2)) ∧ ((((241 + (3 * v1)) + v2) < 1120) ∧ (E (some (.inl (I1 349 ((241 + (3 * v1)) + v2).toNat))) I1))) ∧ ((v2 = 3) → (0 ≤ ((241 + (3 * v1)) + 2)) ∧ ((((241 + (3 * v1)) + 2) < 1120) ∧ (E (some (.inl (I1 349 ((241 + (3 * v1)) + 2).toNat))) I1)))) ∧ ((v2 = 2) → (mo_n I1) ∧ ((∀ z1 : Int, z1 = gp_tt (mp_lk (I1 349) v1) ((ms_n (I1 349) 0).toNat + 1) ((ms_n (I1 349) 1).toNat + 1) → E (some (.inl z1)) I1)))) ∧ ((¬ ((0 : Int) ≤ v2 ∧ v2 ≤ (3 : Int))) → E (some (.inl (-2000000001))) I1)))) :
    ga_W G (d + 2) mt_Mo_operator 0 (ga_en 3 [.inr 348, .inl v1, .inl v2]) [] I E := by
  show ga_W G (d + 2) mt_Mo_operator 0 [some (.inr 348), some (.inl v1), some (.inl v2)] [] I E
  refine gw_RG (fun hI1 => ?_)
  have h := h hI1
  refine gw_aload_n 0 d_Mo_operator_0 rfl rfl ?_
  refine gw_iconst d_Mo_operator_1 ?_
  refine gw_putI d_Mo_operator_2 fp_Mo_37 (ga_oM) rfl ?_
  show ga_W G (d + 2) mt_Mo_operator 5 [some (.inr 348), some (.inl v1), some (.inl v2)] [] (ga_up I 348 0 (ga_wr 0)) E
  rw [ga_wr_eq (z := 0) ⟨by decide, by decide⟩]
  refine gw_nm (J := (ga_up I 348 0 0)) (fun I1 q1 => ?_)
  have h := h I1 q1
  refine gw_RG (fun hI2 => ?_)
  refine gw_iload_n 1 d_Mo_operator_5 rfl rfl ?_
  refine gw_invS (as := [.inl v1]) (rest := []) (d' := (d + 1)) d_Mo_operator_6 lk_Mo_134 rfl (Nat.le_of_ble_eq_true rfl) (Nat.le_of_ble_eq_true rfl) rfl rfl (s_Mo_isOperator r1 ?_)
  show ga_W G (d + 2) mt_Mo_operator 9 [some (.inr 348), some (.inl v1), some (.inl v2)] [.inl (ga_bb (decide (0 ≤ v1 ∧ v1 ≤ 2)))] I1 E
  refine gw_ifb_eq 21 d_Mo_operator_9 (by decide) (fun hc => ?_) (fun hc => ?_)
  · have h := h.1 (of_decide_eq_false hc)
    refine gw_ldc (n := (-2000000001)) d_Mo_operator_21 kw_Mo_112 (by decide +kernel) ?_
    exact gw_ireturn d_Mo_operator_23 rfl h
  · have h := h.2 (of_decide_eq_true hc)
    refine gw_iload_n 2 d_Mo_operator_12 rfl rfl ?_
    refine gw_iconst d_Mo_operator_13 ?_
    refine gw_iconst d_Mo_operator_14 ?_
    refine gw_invS (as := [.inl v2, .inl 0, .inl 3]) (rest := []) (d' := (d + 1)) d_Mo_operator_15 lk_Mo_47 rfl (Nat.le_of_ble_eq_true rfl) (Nat.le_of_ble_eq_true rfl) rfl rfl (s_Mo_in r2 ⟨by decide, by decide⟩ ⟨by decide, by decide⟩ ?_)
    show ga_W G (d + 2) mt_Mo_operator 18 [some (.inr 348), some (.inl v1), some (.inl v2)] [.inl (ga_bb (decide ((0 : Int) ≤ v2 ∧ v2 ≤ (3 : Int))))] I1 E
    refine gw_ifb_ne 24 d_Mo_operator_18 (by decide) (fun hc => ?_) (fun hc => ?_)
    · have h := h.1 (of_decide_eq_true hc)
      refine gw_iload_n 2 d_Mo_operator_24 rfl rfl ?_
      refine gw_iconst d_Mo_operator_25 ?_
      refine gw_icmp_ne 37 d_Mo_operator_26 (by decide) r2 ⟨by decide, by decide⟩ (fun hc => ?_) (fun hc => ?_)
      · have h := h.1 hc
        refine gw_aload_n 0 d_Mo_operator_37 rfl rfl ?_
        refine gw_getR d_Mo_operator_38 fl_Mo_7 (ga_oM) rfl ?_
        refine gw_sipush d_Mo_operator_41 (by decide +kernel) ?_
        refine gw_iconst d_Mo_operator_44 ?_
        refine gw_iload_n 1 d_Mo_operator_45 rfl rfl ?_
        refine gw_imul d_Mo_operator_46 ?_
        refine gw_iadd d_Mo_operator_47 ?_
        refine gw_iload_n 2 d_Mo_operator_48 rfl rfl ?_
        refine gw_iconst d_Mo_operator_49 ?_
        refine gw_icmp_ne 57 d_Mo_operator_50 (by decide) r2 ⟨by decide, by decide⟩ (fun hc => ?_) (fun hc => ?_)
        · have h := h.1 hc
          refine gw_iload_n 2 d_Mo_operator_57 rfl rfl ?_
          refine gw_iadd d_Mo_operator_58 ?_
          obtain ⟨g1, h⟩ := h
          obtain ⟨g2, h⟩ := h
          refine gw_iald d_Mo_operator_59 (ga_aM1) g1 g2 ?_
          exact gw_ireturn d_Mo_operator_60 rfl h
        · have h := h.2 hc
          refine gw_iconst d_Mo_operator_53 ?_
          refine gw_goto 58 d_Mo_operator_54 (by decide) ?_
          refine gw_iadd d_Mo_operator_58 ?_
          obtain ⟨g3, h⟩ := h
          obtain ⟨g4, h⟩ := h
          refine gw_iald d_Mo_operator_59 (ga_aM1) g3 g4 ?_
          exact gw_ireturn d_Mo_operator_60 rfl h
      · have h := h.2 hc
        refine gw_aload_n 0 d_Mo_operator_29 rfl rfl ?_
        refine gw_iload_n 1 d_Mo_operator_30 rfl rfl ?_
        obtain ⟨g5, h⟩ := h
        refine gw_invV (as := [.inl v1]) (k := 348) (rest := []) (d' := (d + 1)) d_Mo_operator_31 lk_Mo_151 (ga_rcv (ga_oM) rfl rfl) rfl (Nat.le_of_ble_eq_true rfl) (Nat.le_of_ble_eq_true rfl) rfl rfl (s_Mo_locksOf g5 r1 ?_)
        show ga_W G (d + 2) mt_Mo_operator 34 [some (.inr 348), some (.inl v1), some (.inl v2)] [.inl (gp_tt (mp_lk (I1 349) v1) ((ms_n (I1 349) 0).toNat + 1) ((ms_n (I1 349) 1).toNat + 1))] I1 E
        refine gw_nz (z := gp_tt (mp_lk (I1 349) v1) ((ms_n (I1 349) 0).toNat + 1) ((ms_n (I1 349) 1).toNat + 1)) (fun z1 q2 => ?_)
        have h := h z1 q2
        refine gw_goto 60 d_Mo_operator_34 (by decide) ?_
        exact gw_ireturn d_Mo_operator_60 rfl h
    · have h := h.2 (of_decide_eq_false hc)
      refine gw_ldc (n := (-2000000001)) d_Mo_operator_21 kw_Mo_112 (by decide +kernel) ?_
      exact gw_ireturn d_Mo_operator_23 rfl h

theorem k_Mo_account_0 {G : ga_G} {d : Nat} {I : ga_I} {E : Option ga_V → ga_I → Prop} {v1 : Int} (r1 : ga_rg v1)
    (h : ga_RG I → (∀ I1 : ga_I, I1 = (ga_up I 348 0 0) → (((0 : Int) ≤ v1 ∧ v1 ≤ (4 : Int)) → ((4 ≤ v1) → E (some (.inl ((((I1 349 250) + (I1 349 251)) + (I1 349 252)) + (I1 349 253)))) I1) ∧ ((¬ (4 ≤ v1)) → (0 ≤ (250 + v1)) ∧ (((250 + v1) < 1120) ∧ (E (some (.inl (I1 349 (250 + v1).toNat))) I1)))) ∧ ((¬ ((0 : Int) ≤ v1 ∧ v1 ≤ (4 : Int))) → E (some (.inl (-2000000001))) I1))) :
    ga_W G (d + 1) mt_Mo_account 0 (ga_en 2 [.inr 348, .inl v1]) [] I E := by
  show ga_W G (d + 1) mt_Mo_account 0 [some (.inr 348), some (.inl v1)] [] I E
  refine gw_RG (fun hI1 => ?_)
  have h := h hI1
  refine gw_aload_n 0 d_Mo_account_0 rfl rfl ?_
  refine gw_iconst d_Mo_account_1 ?_
  refine gw_putI d_Mo_account_2 fp_Mo_37 (ga_oM) rfl ?_
  show ga_W G (d + 1) mt_Mo_account 5 [some (.inr 348), some (.inl v1)] [] (ga_up I 348 0 (ga_wr 0)) E
  rw [ga_wr_eq (z := 0) ⟨by decide, by decide⟩]
  refine gw_nm (J := (ga_up I 348 0 0)) (fun I1 q1 => ?_)
  have h := h I1 q1
  refine gw_RG (fun hI2 => ?_)
  refine gw_iload_n 1 d_Mo_account_5 rfl rfl ?_
  refine gw_iconst d_Mo_account_6 ?_
  refine gw_iconst d_Mo_account_7 ?_
  refine gw_invS (as := [.inl v1, .inl 0, .inl 4]) (rest := []) (d' := d) d_Mo_account_8 lk_Mo_47 rfl (Nat.le_of_ble_eq_true rfl) (Nat.le_of_ble_eq_true rfl) rfl rfl (s_Mo_in r1 ⟨by decide, by decide⟩ ⟨by decide, by decide⟩ ?_)
  show ga_W G (d + 1) mt_Mo_account 11 [some (.inr 348), some (.inl v1)] [.inl (ga_bb (decide ((0 : Int) ≤ v1 ∧ v1 ≤ (4 : Int))))] I1 E
  refine gw_ifb_ne 17 d_Mo_account_11 (by decide) (fun hc => ?_) (fun hc => ?_)
  · have h := h.1 (of_decide_eq_true hc)
    refine gw_iload_n 1 d_Mo_account_17 rfl rfl ?_
    refine gw_iconst d_Mo_account_18 ?_
    refine gw_icmp_ge 35 d_Mo_account_19 (by decide) r1 ⟨by decide, by decide⟩ (fun hc => ?_) (fun hc => ?_)
    · have h := h.1 hc
      refine gw_aload_n 0 d_Mo_account_35 rfl rfl ?_
      refine gw_getR d_Mo_account_36 fl_Mo_7 (ga_oM) rfl ?_
      refine gw_sipush d_Mo_account_39 (by decide +kernel) ?_
      refine gw_iald d_Mo_account_42 (ga_aM1) (by decide) (by decide) ?_
      refine gw_aload_n 0 d_Mo_account_43 rfl rfl ?_
      refine gw_getR d_Mo_account_44 fl_Mo_7 (ga_oM) rfl ?_
      refine gw_sipush d_Mo_account_47 (by decide +kernel) ?_
      refine gw_iald d_Mo_account_50 (ga_aM1) (by decide) (by decide) ?_
      refine gw_iadd d_Mo_account_51 ?_
      refine gw_aload_n 0 d_Mo_account_52 rfl rfl ?_
      refine gw_getR d_Mo_account_53 fl_Mo_7 (ga_oM) rfl ?_
      refine gw_sipush d_Mo_account_56 (by decide +kernel) ?_
      refine gw_iald d_Mo_account_59 (ga_aM1) (by decide) (by decide) ?_
      refine gw_iadd d_Mo_account_60 ?_
      refine gw_aload_n 0 d_Mo_account_61 rfl rfl ?_
      refine gw_getR d_Mo_account_62 fl_Mo_7 (ga_oM) rfl ?_
      refine gw_sipush d_Mo_account_65 (by decide +kernel) ?_
      refine gw_iald d_Mo_account_68 (ga_aM1) (by decide) (by decide) ?_
      refine gw_iadd d_Mo_account_69 ?_
      exact gw_ireturn d_Mo_account_70 rfl h
    · have h := h.2 hc
      refine gw_aload_n 0 d_Mo_account_22 rfl rfl ?_
      refine gw_getR d_Mo_account_23 fl_Mo_7 (ga_oM) rfl ?_
      refine gw_sipush d_Mo_account_26 (by decide +kernel) ?_
      refine gw_iload_n 1 d_Mo_account_29 rfl rfl ?_
      refine gw_iadd d_Mo_account_30 ?_
      obtain ⟨g1, h⟩ := h
      obtain ⟨g2, h⟩ := h
      refine gw_iald d_Mo_account_31 (ga_aM1) g1 g2 ?_
      refine gw_goto 70 d_Mo_account_32 (by decide) ?_
      exact gw_ireturn d_Mo_account_70 rfl h
  · have h := h.2 (of_decide_eq_false hc)
    refine gw_ldc (n := (-2000000001)) d_Mo_account_14 kw_Mo_112 (by decide +kernel) ?_
    exact gw_ireturn d_Mo_account_16 rfl h

theorem k_Mo_gain_0 {G : ga_G} {d : Nat} {I : ga_I} {E : Option ga_V → ga_I → Prop} {v1 : Int} {v2 : Int} (r1 : ga_rg v1) (r2 : ga_rg v2)
    (h : ga_RG I → (∀ I1 : ga_I, I1 = (ga_up I 348 0 0) → ((¬ ((0 : Int) ≤ v1 ∧ v1 ≤ (2 : Int))) → E (some (.inl (-2000000001))) I1) ∧ (((0 : Int) ≤ v1 ∧ v1 ≤ (2 : Int)) → (((0 : Int) ≤ v2 ∧ v2 ≤ (2 : Int)) → (mo_ok I1 0) ∧ ((mo_ok I1 1) ∧ ((mo_pz I1) ∧ ((∀ I2 : ga_I, I2 = (mx_lp I1) → ((v2 ≠ 0) → ((v2 ≠ 1) → E (some (.inl (I2 356 0 * I2 356 1))) I2) ∧ ((v2 = 1) → (gp_vk (mo_v I2 0)) ∧ ((gp_vk (mo_v I2 1)) ∧ ((0 ≤ v1 ∧ v1 ≤ 2) ∧ ((∀ z1 : Int, z1 = gp_nu (mo_v I2 0) (mo_v I2 1) (fun c r => I2 349 (38 + 4 * (7 * c + r) + v1).toNat) → E (some (.inl z1)) I2)))))) ∧ ((v2 = 0) → (gp_vk (mo_v I2 0)) ∧ ((gp_vk (mo_v I2 1)) ∧ ((0 ≤ v1 ∧ v1 ≤ 2) ∧ ((mo_g I2) ∧ ((∀ z2 : Int, z2 = gp_va (mo_v I2 0) (mo_v I2 1) (fun c r => I2 349 (38 + 4 * (7 * c + r) + v1).toNat) → E (some (.inl z2)) I2))))))))))) ∧ ((¬ ((0 : Int) ≤ v2 ∧ v2 ≤ (2 : Int))) → E (some (.inl (-2000000001))) I1)))) :
    ga_W G (d + 4) mt_Mo_gain 0 (ga_en 3 [.inr 348, .inl v1, .inl v2]) [] I E := by
  show ga_W G (d + 4) mt_Mo_gain 0 [some (.inr 348), some (.inl v1), some (.inl v2)] [] I E
  refine gw_RG (fun hI1 => ?_)
  have h := h hI1
  refine gw_aload_n 0 d_Mo_gain_0 rfl rfl ?_
  refine gw_iconst d_Mo_gain_1 ?_
  refine gw_putI d_Mo_gain_2 fp_Mo_37 (ga_oM) rfl ?_
  show ga_W G (d + 4) mt_Mo_gain 5 [some (.inr 348), some (.inl v1), some (.inl v2)] [] (ga_up I 348 0 (ga_wr 0)) E
  rw [ga_wr_eq (z := 0) ⟨by decide, by decide⟩]
  refine gw_nm (J := (ga_up I 348 0 0)) (fun I1 q1 => ?_)
  have h := h I1 q1
  refine gw_RG (fun hI2 => ?_)
  refine gw_iload_n 1 d_Mo_gain_5 rfl rfl ?_
  refine gw_iconst d_Mo_gain_6 ?_
  refine gw_iconst d_Mo_gain_7 ?_
  refine gw_invS (as := [.inl v1, .inl 0, .inl 2]) (rest := []) (d' := (d + 3)) d_Mo_gain_8 lk_Mo_47 rfl (Nat.le_of_ble_eq_true rfl) (Nat.le_of_ble_eq_true rfl) rfl rfl (s_Mo_in r1 ⟨by decide, by decide⟩ ⟨by decide, by decide⟩ ?_)
  show ga_W G (d + 4) mt_Mo_gain 11 [some (.inr 348), some (.inl v1), some (.inl v2)] [.inl (ga_bb (decide ((0 : Int) ≤ v1 ∧ v1 ≤ (2 : Int))))] I1 E
  refine gw_ifb_eq 23 d_Mo_gain_11 (by decide) (fun hc => ?_) (fun hc => ?_)
  · have h := h.1 (of_decide_eq_false hc)
    refine gw_ldc (n := (-2000000001)) d_Mo_gain_23 kw_Mo_112 (by decide +kernel) ?_
    exact gw_ireturn d_Mo_gain_25 rfl h
  · have h := h.2 (of_decide_eq_true hc)
    refine gw_iload_n 2 d_Mo_gain_14 rfl rfl ?_
    refine gw_iconst d_Mo_gain_15 ?_
    refine gw_iconst d_Mo_gain_16 ?_
    refine gw_invS (as := [.inl v2, .inl 0, .inl 2]) (rest := []) (d' := (d + 3)) d_Mo_gain_17 lk_Mo_47 rfl (Nat.le_of_ble_eq_true rfl) (Nat.le_of_ble_eq_true rfl) rfl rfl (s_Mo_in r2 ⟨by decide, by decide⟩ ⟨by decide, by decide⟩ ?_)
    show ga_W G (d + 4) mt_Mo_gain 20 [some (.inr 348), some (.inl v1), some (.inl v2)] [.inl (ga_bb (decide ((0 : Int) ≤ v2 ∧ v2 ≤ (2 : Int))))] I1 E
    refine gw_ifb_ne 26 d_Mo_gain_20 (by decide) (fun hc => ?_) (fun hc => ?_)
    · have h := h.1 (of_decide_eq_true hc)
      refine gw_aload_n 0 d_Mo_gain_26 rfl rfl ?_
      obtain ⟨g1, h⟩ := h
      obtain ⟨g2, h⟩ := h
      obtain ⟨g3, h⟩ := h
      refine gw_invV (as := []) (k := 348) (rest := []) (d' := (d + 3)) d_Mo_gain_27 lk_Mo_154 (ga_rcv (ga_oM) rfl rfl) rfl (Nat.le_of_ble_eq_true rfl) (Nat.le_of_ble_eq_true rfl) rfl rfl (s_Mo_locatePoint g1 g2 g3 ?_)
      show ga_W G (d + 4) mt_Mo_gain 30 [some (.inr 348), some (.inl v1), some (.inl v2)] [] (mx_lp I1) E
      refine gw_nm (fun I2 q2 => ?_)
      have h := h I2 q2
      refine gw_RG (fun hI3 => ?_)
      refine gw_iload_n 2 d_Mo_gain_30 rfl rfl ?_
      refine gw_if_ne 42 d_Mo_gain_31 (by decide) r2 (fun hc => ?_) (fun hc => ?_)
      · have h := h.1 hc
        refine gw_iload_n 2 d_Mo_gain_42 rfl rfl ?_
        refine gw_iconst d_Mo_gain_43 ?_
        refine gw_icmp_ne 55 d_Mo_gain_44 (by decide) r2 ⟨by decide, by decide⟩ (fun hc => ?_) (fun hc => ?_)
        · have h := h.1 hc
          refine gw_aload_n 0 d_Mo_gain_55 rfl rfl ?_
          refine gw_invV (as := []) (k := 348) (rest := []) (d' := (d + 3)) d_Mo_gain_56 lk_Mo_81 (ga_rcv (ga_oM) rfl rfl) rfl (Nat.le_of_ble_eq_true rfl) (Nat.le_of_ble_eq_true rfl) rfl rfl (s_Mo_denominator  ?_)
          show ga_W G (d + 4) mt_Mo_gain 59 [some (.inr 348), some (.inl v1), some (.inl v2)] [.inl (I2 356 0 * I2 356 1)] I2 E
          exact gw_ireturn d_Mo_gain_59 rfl h
        · have h := h.2 hc
          refine gw_aload_n 0 d_Mo_gain_47 rfl rfl ?_
          refine gw_iload_n 1 d_Mo_gain_48 rfl rfl ?_
          obtain ⟨g4, h⟩ := h
          obtain ⟨g5, h⟩ := h
          obtain ⟨g6, h⟩ := h
          refine gw_invV (as := [.inl v1]) (k := 348) (rest := []) (d' := (d + 3)) d_Mo_gain_49 lk_Mo_78 (ga_rcv (ga_oM) rfl rfl) rfl (Nat.le_of_ble_eq_true rfl) (Nat.le_of_ble_eq_true rfl) rfl rfl (s_Mo_numerator g4 g5 g6 ?_)
          show ga_W G (d + 4) mt_Mo_gain 52 [some (.inr 348), some (.inl v1), some (.inl v2)] [.inl (gp_nu (mo_v I2 0) (mo_v I2 1) (fun c r => I2 349 (38 + 4 * (7 * c + r) + v1).toNat))] I2 E
          refine gw_nz (z := gp_nu (mo_v I2 0) (mo_v I2 1) (fun c r => I2 349 (38 + 4 * (7 * c + r) + v1).toNat)) (fun z1 q3 => ?_)
          have h := h z1 q3
          refine gw_goto 59 d_Mo_gain_52 (by decide) ?_
          exact gw_ireturn d_Mo_gain_59 rfl h
      · have h := h.2 hc
        refine gw_aload_n 0 d_Mo_gain_34 rfl rfl ?_
        refine gw_iload_n 1 d_Mo_gain_35 rfl rfl ?_
        obtain ⟨g7, h⟩ := h
        obtain ⟨g8, h⟩ := h
        obtain ⟨g9, h⟩ := h
        obtain ⟨g10, h⟩ := h
        refine gw_invV (as := [.inl v1]) (k := 348) (rest := []) (d' := (d + 3)) d_Mo_gain_36 lk_Mo_157 (ga_rcv (ga_oM) rfl rfl) rfl (Nat.le_of_ble_eq_true rfl) (Nat.le_of_ble_eq_true rfl) rfl rfl (s_Mo_value g7 g8 g9 g10 ?_)
        show ga_W G (d + 4) mt_Mo_gain 39 [some (.inr 348), some (.inl v1), some (.inl v2)] [.inl (gp_va (mo_v I2 0) (mo_v I2 1) (fun c r => I2 349 (38 + 4 * (7 * c + r) + v1).toNat))] I2 E
        refine gw_nz (z := gp_va (mo_v I2 0) (mo_v I2 1) (fun c r => I2 349 (38 + 4 * (7 * c + r) + v1).toNat)) (fun z2 q4 => ?_)
        have h := h z2 q4
        refine gw_goto 59 d_Mo_gain_39 (by decide) ?_
        exact gw_ireturn d_Mo_gain_59 rfl h
    · have h := h.2 (of_decide_eq_false hc)
      refine gw_ldc (n := (-2000000001)) d_Mo_gain_23 kw_Mo_112 (by decide +kernel) ?_
      exact gw_ireturn d_Mo_gain_25 rfl h

theorem k_Mo_trail_0 {G : ga_G} {d : Nat} {I : ga_I} {E : Option ga_V → ga_I → Prop} {v1 : Int} {v2 : Int} (r1 : ga_rg v1) (r2 : ga_rg v2)
    (h : ga_RG I → (∀ I1 : ga_I, I1 = (ga_up I 348 0 0) → ((v1 < 0) → E (some (.inl (-2000000001))) I1) ∧ ((¬ (v1 < 0)) → (((0 : Int) ≤ v2 ∧ v2 ≤ (7 : Int)) → (((I1 349 254) ≤ v1) → E (some (.inl (-2000000009))) I1) ∧ ((¬ ((I1 349 254) ≤ v1)) → (0 ≤ ((255 + (8 * (((I1 349 254) - 1) - v1))) + v2)) ∧ ((((255 + (8 * (((I1 349 254) - 1) - v1))) + v2) < 1120) ∧ (E (some (.inl (I1 349 ((255 + (8 * (((I1 349 254) - 1) - v1))) + v2).toNat))) I1)))) ∧ ((¬ ((0 : Int) ≤ v2 ∧ v2 ≤ (7 : Int))) → E (some (.inl (-2000000001))) I1)))) :
    ga_W G (d + 1) mt_Mo_trail 0 (ga_en 3 [.inr 348, .inl v1, .inl v2]) [] I E := by
  show ga_W G (d + 1) mt_Mo_trail 0 [some (.inr 348), some (.inl v1), some (.inl v2)] [] I E
  refine gw_RG (fun hI1 => ?_)
  have h := h hI1
  refine gw_aload_n 0 d_Mo_trail_0 rfl rfl ?_
  refine gw_iconst d_Mo_trail_1 ?_
  refine gw_putI d_Mo_trail_2 fp_Mo_37 (ga_oM) rfl ?_
  show ga_W G (d + 1) mt_Mo_trail 5 [some (.inr 348), some (.inl v1), some (.inl v2)] [] (ga_up I 348 0 (ga_wr 0)) E
  rw [ga_wr_eq (z := 0) ⟨by decide, by decide⟩]
  refine gw_nm (J := (ga_up I 348 0 0)) (fun I1 q1 => ?_)
  have h := h I1 q1
  refine gw_RG (fun hI2 => ?_)
  refine gw_iload_n 1 d_Mo_trail_5 rfl rfl ?_
  refine gw_if_lt 19 d_Mo_trail_6 (by decide) r1 (fun hc => ?_) (fun hc => ?_)
  · have h := h.1 hc
    refine gw_ldc (n := (-2000000001)) d_Mo_trail_19 kw_Mo_112 (by decide +kernel) ?_
    exact gw_ireturn d_Mo_trail_21 rfl h
  · have h := h.2 hc
    refine gw_iload_n 2 d_Mo_trail_9 rfl rfl ?_
    refine gw_iconst d_Mo_trail_10 ?_
    refine gw_bipush d_Mo_trail_11 (by decide +kernel) ?_
    refine gw_invS (as := [.inl v2, .inl 0, .inl 7]) (rest := []) (d' := d) d_Mo_trail_13 lk_Mo_47 rfl (Nat.le_of_ble_eq_true rfl) (Nat.le_of_ble_eq_true rfl) rfl rfl (s_Mo_in r2 ⟨by decide, by decide⟩ ⟨by decide, by decide⟩ ?_)
    show ga_W G (d + 1) mt_Mo_trail 16 [some (.inr 348), some (.inl v1), some (.inl v2)] [.inl (ga_bb (decide ((0 : Int) ≤ v2 ∧ v2 ≤ (7 : Int))))] I1 E
    refine gw_ifb_ne 22 d_Mo_trail_16 (by decide) (fun hc => ?_) (fun hc => ?_)
    · have h := h.1 (of_decide_eq_true hc)
      refine gw_iload_n 1 d_Mo_trail_22 rfl rfl ?_
      refine gw_aload_n 0 d_Mo_trail_23 rfl rfl ?_
      refine gw_getR d_Mo_trail_24 fl_Mo_7 (ga_oM) rfl ?_
      refine gw_sipush d_Mo_trail_27 (by decide +kernel) ?_
      refine gw_iald d_Mo_trail_30 (ga_aM1) (by decide) (by decide) ?_
      refine gw_icmp_ge 63 d_Mo_trail_31 (by decide) r1 (hI2 _ _) (fun hc => ?_) (fun hc => ?_)
      · have h := h.1 hc
        refine gw_ldc (n := (-2000000009)) d_Mo_trail_63 kw_Mo_67 (by decide +kernel) ?_
        exact gw_ireturn d_Mo_trail_65 rfl h
      · have h := h.2 hc
        refine gw_aload_n 0 d_Mo_trail_34 rfl rfl ?_
        refine gw_getR d_Mo_trail_35 fl_Mo_7 (ga_oM) rfl ?_
        refine gw_sipush d_Mo_trail_38 (by decide +kernel) ?_
        refine gw_bipush d_Mo_trail_41 (by decide +kernel) ?_
        refine gw_aload_n 0 d_Mo_trail_43 rfl rfl ?_
        refine gw_getR d_Mo_trail_44 fl_Mo_7 (ga_oM) rfl ?_
        refine gw_sipush d_Mo_trail_47 (by decide +kernel) ?_
        refine gw_iald d_Mo_trail_50 (ga_aM1) (by decide) (by decide) ?_
        refine gw_iconst d_Mo_trail_51 ?_
        refine gw_isub d_Mo_trail_52 ?_
        refine gw_iload_n 1 d_Mo_trail_53 rfl rfl ?_
        refine gw_isub d_Mo_trail_54 ?_
        refine gw_imul d_Mo_trail_55 ?_
        refine gw_iadd d_Mo_trail_56 ?_
        refine gw_iload_n 2 d_Mo_trail_57 rfl rfl ?_
        refine gw_iadd d_Mo_trail_58 ?_
        obtain ⟨g1, h⟩ := h
        obtain ⟨g2, h⟩ := h
        refine gw_iald d_Mo_trail_59 (ga_aM1) g1 g2 ?_
        refine gw_goto 65 d_Mo_trail_60 (by decide) ?_
        exact gw_ireturn d_Mo_trail_65 rfl h
    · have h := h.2 (of_decide_eq_false hc)
      refine gw_ldc (n := (-2000000001)) d_Mo_trail_19 kw_Mo_112 (by decide +kernel) ?_
      exact gw_ireturn d_Mo_trail_21 rfl h

theorem k_Mo_refusal_0 {G : ga_G} {d : Nat} {I : ga_I} {E : Option ga_V → ga_I → Prop} {v1 : Int} {v2 : Int} {v3 : Int} {v4 : Int} {v5 : Int} (r1 : ga_rg v1) (r2 : ga_rg v2) (r3 : ga_rg v3) (r4 : ga_rg v4) (r5 : ga_rg v5)
    (h : ga_RG I → (∀ I1 : ga_I, I1 = (ga_up I 348 0 0) → ((¬ ((0 ≤ v1 ∧ v1 ≤ 2) ∧ ((0 ≤ v2 ∧ v2 ≤ ms_n (I1 349) 0) ∧ (0 ≤ v3 ∧ v3 ≤ ms_n (I1 349) 1)) ∧ (0 ≤ v4 ∧ v4 ≤ 2) ∧ (0 ≤ v5 ∧ v5 ≤ 9999))) → E (some (.inl (-2000000001))) I1) ∧ (((0 ≤ v1 ∧ v1 ≤ 2) ∧ ((0 ≤ v2 ∧ v2 ≤ ms_n (I1 349) 0) ∧ (0 ≤ v3 ∧ v3 ≤ ms_n (I1 349) 1)) ∧ (0 ≤ v4 ∧ v4 ≤ 2) ∧ (0 ≤ v5 ∧ v5 ≤ 9999)) → (0 ≤ v1 ∧ v1 ≤ 2) ∧ ((0 ≤ v2 ∧ v2 ≤ 6) ∧ ((0 ≤ v3 ∧ v3 ≤ 6) ∧ ((0 ≤ v4 ∧ v4 ≤ 2) ∧ ((0 ≤ v5 ∧ v5 ≤ 9999) ∧ ((mo_g I1) ∧ ((∀ z1 : Int, z1 = mp_ra (I1 349 (38 + 4 * (7 * v2 + v3) + 3).toNat) (I1 349 (38 + 4 * (7 * v2 + v3) + v4).toNat) (I1 349 (241 + 3 * v1).toNat) (I1 349 (241 + 3 * v1 + 1).toNat) v1 v5 → E (some (.inl z1)) I1)))))))))) :
    ga_W G (d + 3) mt_Mo_refusal 0 (ga_en 6 [.inr 348, .inl v1, .inl v2, .inl v3, .inl v4, .inl v5]) [] I E := by
  show ga_W G (d + 3) mt_Mo_refusal 0 [some (.inr 348), some (.inl v1), some (.inl v2), some (.inl v3), some (.inl v4), some (.inl v5)] [] I E
  refine gw_RG (fun hI1 => ?_)
  have h := h hI1
  refine gw_aload_n 0 d_Mo_refusal_0 rfl rfl ?_
  refine gw_iconst d_Mo_refusal_1 ?_
  refine gw_putI d_Mo_refusal_2 fp_Mo_37 (ga_oM) rfl ?_
  show ga_W G (d + 3) mt_Mo_refusal 5 [some (.inr 348), some (.inl v1), some (.inl v2), some (.inl v3), some (.inl v4), some (.inl v5)] [] (ga_up I 348 0 (ga_wr 0)) E
  rw [ga_wr_eq (z := 0) ⟨by decide, by decide⟩]
  refine gw_nm (J := (ga_up I 348 0 0)) (fun I1 q1 => ?_)
  have h := h I1 q1
  refine gw_RG (fun hI2 => ?_)
  refine gw_aload_n 0 d_Mo_refusal_5 rfl rfl ?_
  refine gw_iload_n 1 d_Mo_refusal_6 rfl rfl ?_
  refine gw_iload_n 2 d_Mo_refusal_7 rfl rfl ?_
  refine gw_iload_n 3 d_Mo_refusal_8 rfl rfl ?_
  refine gw_iload 4 d_Mo_refusal_9 rfl ?_
  refine gw_iload 5 d_Mo_refusal_11 rfl ?_
  refine gw_invV (as := [.inl v1, .inl v2, .inl v3, .inl v4, .inl v5]) (k := 348) (rest := []) (d' := (d + 2)) d_Mo_refusal_13 lk_Mo_140 (ga_rcv (ga_oM) rfl rfl) rfl (Nat.le_of_ble_eq_true rfl) (Nat.le_of_ble_eq_true rfl) rfl rfl (s_Mo_isEdit r1 r2 r3 r4 r5 ?_)
  show ga_W G (d + 3) mt_Mo_refusal 16 [some (.inr 348), some (.inl v1), some (.inl v2), some (.inl v3), some (.inl v4), some (.inl v5)] [.inl (ga_bb (decide ((0 ≤ v1 ∧ v1 ≤ 2) ∧ ((0 ≤ v2 ∧ v2 ≤ ms_n (I1 349) 0) ∧ (0 ≤ v3 ∧ v3 ≤ ms_n (I1 349) 1)) ∧ (0 ≤ v4 ∧ v4 ≤ 2) ∧ (0 ≤ v5 ∧ v5 ≤ 9999))))] I1 E
  refine gw_ifb_eq 33 d_Mo_refusal_16 (by decide) (fun hc => ?_) (fun hc => ?_)
  · have h := h.1 (of_decide_eq_false hc)
    refine gw_ldc (n := (-2000000001)) d_Mo_refusal_33 kw_Mo_112 (by decide +kernel) ?_
    exact gw_ireturn d_Mo_refusal_35 rfl h
  · have h := h.2 (of_decide_eq_true hc)
    refine gw_aload_n 0 d_Mo_refusal_19 rfl rfl ?_
    refine gw_iload_n 1 d_Mo_refusal_20 rfl rfl ?_
    refine gw_iload_n 2 d_Mo_refusal_21 rfl rfl ?_
    refine gw_iload_n 3 d_Mo_refusal_22 rfl rfl ?_
    refine gw_iload 4 d_Mo_refusal_23 rfl ?_
    refine gw_iload 5 d_Mo_refusal_25 rfl ?_
    obtain ⟨g1, h⟩ := h
    obtain ⟨g2, h⟩ := h
    obtain ⟨g3, h⟩ := h
    obtain ⟨g4, h⟩ := h
    obtain ⟨g5, h⟩ := h
    obtain ⟨g6, h⟩ := h
    refine gw_invV (as := [.inl v1, .inl v2, .inl v3, .inl v4, .inl v5]) (k := 348) (rest := []) (d' := (d + 2)) d_Mo_refusal_27 lk_Mo_144 (ga_rcv (ga_oM) rfl rfl) rfl (Nat.le_of_ble_eq_true rfl) (Nat.le_of_ble_eq_true rfl) rfl rfl (s_Mo_refusalOf g1 g2 g3 g4 g5 g6 ?_)
    show ga_W G (d + 3) mt_Mo_refusal 30 [some (.inr 348), some (.inl v1), some (.inl v2), some (.inl v3), some (.inl v4), some (.inl v5)] [.inl (mp_ra (I1 349 (38 + 4 * (7 * v2 + v3) + 3).toNat) (I1 349 (38 + 4 * (7 * v2 + v3) + v4).toNat) (I1 349 (241 + 3 * v1).toNat) (I1 349 (241 + 3 * v1 + 1).toNat) v1 v5)] I1 E
    refine gw_nz (z := mp_ra (I1 349 (38 + 4 * (7 * v2 + v3) + 3).toNat) (I1 349 (38 + 4 * (7 * v2 + v3) + v4).toNat) (I1 349 (241 + 3 * v1).toNat) (I1 349 (241 + 3 * v1 + 1).toNat) v1 v5) (fun z1 q2 => ?_)
    have h := h z1 q2
    refine gw_goto 35 d_Mo_refusal_30 (by decide) ?_
    exact gw_ireturn d_Mo_refusal_35 rfl h

theorem k_Mo_effect_0 {G : ga_G} {d : Nat} {I : ga_I} {E : Option ga_V → ga_I → Prop} {v1 : Int} {v2 : Int} (r1 : ga_rg v1) (r2 : ga_rg v2)
    (h : ga_RG I → (∀ I1 : ga_I, I1 = (ga_up I 348 0 0) → ((¬ (0 ≤ v1 ∧ v1 ≤ 1000)) → E (some (.inl (-2000000001))) I1) ∧ ((0 ≤ v1 ∧ v1 ≤ 1000) → ((0 ≤ v2 ∧ v2 ≤ 1000) → (0 ≤ v1 ∧ v1 ≤ 1000) ∧ ((0 ≤ v2 ∧ v2 ≤ 1000) ∧ ((mo_pz I1) ∧ (((¬ (((v1 - I1 349 234).natAbs : Int) < I1 349 238 ∧ ((v2 - I1 349 235).natAbs : Int) < I1 349 238)) → (∀ I2 : ga_I, I2 = (ga_uc I1 350 (av_cp (I1 350) (I1 349) 0 1120)) → (mo_ok I2 0) ∧ ((mo_ok I2 1) ∧ ((mo_pz I2) ∧ ((mo_g I2) ∧ ((∀ I3 : ga_I, I3 = (mx_nv I2) → (mo_ok I3 0) ∧ ((mo_ok I3 1) ∧ ((mo_zn I3) ∧ ((∀ I4 : ga_I, I4 = (mx_go I3 v1 v2) → (((I4 349 236) = (I2 349 236)) → (((I4 349 237) = (I2 349 237)) → (mo_ok I4 0) ∧ ((mo_ok I4 1) ∧ ((mo_pz I4) ∧ ((mo_g I4) ∧ ((mo_ah I4) ∧ ((∀ I5 : ga_I, I5 = (mx_lp I4) → (ga_rg (gp_j3 ((mp_pv (I4 349) 0 - I4 357 0).natAbs : Int) ((mp_pv (I4 349) 1 - I4 357 1).natAbs : Int) ((mp_pv (I4 349) 2 - I4 357 2).natAbs : Int))) ∧ ((((gp_j3 ((mp_pv (I4 349) 0 - I4 357 0).natAbs : Int) ((mp_pv (I4 349) 1 - I4 357 1).natAbs : Int) ((mp_pv (I4 349) 2 - I4 357 2).natAbs : Int)) ≤ 0) → (∀ I6 : ga_I, I6 = (ga_uc I5 349 (av_cp (I5 349) (I5 350) 0 1120)) → E (some (.inl (((1 + 0) + 0) + 0))) I6)) ∧ ((¬ ((gp_j3 ((mp_pv (I4 349) 0 - I4 357 0).natAbs : Int) ((mp_pv (I4 349) 1 - I4 357 1).natAbs : Int) ((mp_pv (I4 349) 2 - I4 357 2).natAbs : Int)) ≤ 0)) → (∀ I7 : ga_I, I7 = (ga_uc I5 349 (av_cp (I5 349) (I5 350) 0 1120)) → E (some (.inl (((1 + 0) + 0) + 8))) I7)))))))))) ∧ ((¬ ((I4 349 237) = (I2 349 237))) → (mo_ok I4 0) ∧ ((mo_ok I4 1) ∧ ((mo_pz I4) ∧ ((mo_g I4) ∧ ((mo_ah I4) ∧ ((∀ I8 : ga_I, I8 = (mx_lp I4) → (ga_rg (gp_j3 ((mp_pv (I4 349) 0 - I4 357 0).natAbs : Int) ((mp_pv (I4 349) 1 - I4 357 1).natAbs : Int) ((mp_pv (I4 349) 2 - I4 357 2).natAbs : Int))) ∧ ((((gp_j3 ((mp_pv (I4 349) 0 - I4 357 0).natAbs : Int) ((mp_pv (I4 349) 1 - I4 357 1).natAbs : Int) ((mp_pv (I4 349) 2 - I4 357 2).natAbs : Int)) ≤ 0) → (∀ I9 : ga_I, I9 = (ga_uc I8 349 (av_cp (I8 349) (I8 350) 0 1120)) → E (some (.inl (((1 + 0) + 4) + 0))) I9)) ∧ ((¬ ((gp_j3 ((mp_pv (I4 349) 0 - I4 357 0).natAbs : Int) ((mp_pv (I4 349) 1 - I4 357 1).natAbs : Int) ((mp_pv (I4 349) 2 - I4 357 2).natAbs : Int)) ≤ 0)) → (∀ I10 : ga_I, I10 = (ga_uc I8 349 (av_cp (I8 349) (I8 350) 0 1120)) → E (some (.inl (((1 + 0) + 4) + 8))) I10))))))))))) ∧ ((¬ ((I4 349 236) = (I2 349 236))) → (((I4 349 237) = (I2 349 237)) → (mo_ok I4 0) ∧ ((mo_ok I4 1) ∧ ((mo_pz I4) ∧ ((mo_g I4) ∧ ((mo_ah I4) ∧ ((∀ I11 : ga_I, I11 = (mx_lp I4) → (ga_rg (gp_j3 ((mp_pv (I4 349) 0 - I4 357 0).natAbs : Int) ((mp_pv (I4 349) 1 - I4 357 1).natAbs : Int) ((mp_pv (I4 349) 2 - I4 357 2).natAbs : Int))) ∧ ((((gp_j3 ((mp_pv (I4 349) 0 - I4 357 0).natAbs : Int) ((mp_pv (I4 349) 1 - I4 357 1).natAbs : Int) ((mp_pv (I4 349) 2 - I4 357 2).natAbs : Int)) ≤ 0) → (∀ I12 : ga_I, I12 = (ga_uc I11 349 (av_cp (I11 349) (I11 350) 0 1120)) → E (some (.inl (((1 + 2) + 0) + 0))) I12)) ∧ ((¬ ((gp_j3 ((mp_pv (I4 349) 0 - I4 357 0).natAbs : Int) ((mp_pv (I4 349) 1 - I4 357 1).natAbs : Int) ((mp_pv (I4 349) 2 - I4 357 2).natAbs : Int)) ≤ 0)) → (∀ I13 : ga_I, I13 = (ga_uc I11 349 (av_cp (I11 349) (I11 350) 0 1120)) → E (some (.inl (((1 + 2) + 0) + 8))) I13)))))))))) ∧ ((¬ ((I4 349 237) = (I2 349 237))) → (mo_ok I4 0) ∧ ((mo_ok I4 1) ∧ ((mo_pz I4) ∧ ((mo_g I4) ∧ ((mo_ah I4) ∧ ((∀ I14 : ga_I, I14 = (mx_lp I4) → (ga_rg (gp_j3 ((mp_pv (I4 349) 0 - I4 357 0).natAbs : Int) ((mp_pv (I4 349) 1 - I4 357 1).natAbs : Int) ((mp_pv (I4 349) 2 - I4 357 2).natAbs : Int))) ∧ ((((gp_j3 ((mp_pv (I4 349) 0 - I4 357 0).natAbs : Int) ((mp_pv (I4 349) 1 - I4 357 1).natAbs : Int) ((mp_pv (I4 349) 2 - I4 357 2).natAbs : Int)) ≤ 0) → (∀ I15 : ga_I, I15 = (ga_uc I14 349 (av_cp (I14 349) (I14 350) 0 1120)) → E (some (.inl (((1 + 2) + 4) + 0))) I15)) ∧ ((¬ ((gp_j3 ((mp_pv (I4 349) 0 - I4 357 0).natAbs : Int) ((mp_pv (I4 349) 1 - I4 357 1).natAbs : Int) ((mp_pv (I4 349) 2 - I4 357 2).natAbs : Int)) ≤ 0)) → (∀ I16 : ga_I, I16 = (ga_uc I14 349 (av_cp (I14 349) (I14 350) 0 1120)) → E (some (.inl (((1 + 2) + 4) + 8))) I16)))))))))))))))))))))) ∧ ((((v1 - I1 349 234).natAbs : Int) < I1 349 238 ∧ ((v2 - I1 349 235).natAbs : Int) < I1 349 238) → E (some (.inl 0)) I1))))) ∧ ((¬ (0 ≤ v2 ∧ v2 ≤ 1000)) → E (some (.inl (-2000000001))) I1)))) :
    ga_W G (d + 5) mt_Mo_effect 0 (ga_en 6 [.inr 348, .inl v1, .inl v2]) [] I E := by
  show ga_W G (d + 5) mt_Mo_effect 0 [some (.inr 348), some (.inl v1), some (.inl v2), none, none, none] [] I E
  refine gw_RG (fun hI1 => ?_)
  have h := h hI1
  refine gw_aload_n 0 d_Mo_effect_0 rfl rfl ?_
  refine gw_iconst d_Mo_effect_1 ?_
  refine gw_putI d_Mo_effect_2 fp_Mo_37 (ga_oM) rfl ?_
  show ga_W G (d + 5) mt_Mo_effect 5 [some (.inr 348), some (.inl v1), some (.inl v2), none, none, none] [] (ga_up I 348 0 (ga_wr 0)) E
  rw [ga_wr_eq (z := 0) ⟨by decide, by decide⟩]
  refine gw_nm (J := (ga_up I 348 0 0)) (fun I1 q1 => ?_)
  have h := h I1 q1
  refine gw_RG (fun hI2 => ?_)
  refine gw_iload_n 1 d_Mo_effect_5 rfl rfl ?_
  refine gw_invS (as := [.inl v1]) (rest := []) (d' := (d + 4)) d_Mo_effect_6 lk_Mo_179 rfl (Nat.le_of_ble_eq_true rfl) (Nat.le_of_ble_eq_true rfl) rfl rfl (s_Mo_isCoordinate r1 ?_)
  show ga_W G (d + 5) mt_Mo_effect 9 [some (.inr 348), some (.inl v1), some (.inl v2), none, none, none] [.inl (ga_bb (decide (0 ≤ v1 ∧ v1 ≤ 1000)))] I1 E
  refine gw_ifb_eq 19 d_Mo_effect_9 (by decide) (fun hc => ?_) (fun hc => ?_)
  · have h := h.1 (of_decide_eq_false hc)
    refine gw_ldc (n := (-2000000001)) d_Mo_effect_19 kw_Mo_112 (by decide +kernel) ?_
    exact gw_ireturn d_Mo_effect_21 rfl h
  · have h := h.2 (of_decide_eq_true hc)
    refine gw_iload_n 2 d_Mo_effect_12 rfl rfl ?_
    refine gw_invS (as := [.inl v2]) (rest := []) (d' := (d + 4)) d_Mo_effect_13 lk_Mo_179 rfl (Nat.le_of_ble_eq_true rfl) (Nat.le_of_ble_eq_true rfl) rfl rfl (s_Mo_isCoordinate r2 ?_)
    show ga_W G (d + 5) mt_Mo_effect 16 [some (.inr 348), some (.inl v1), some (.inl v2), none, none, none] [.inl (ga_bb (decide (0 ≤ v2 ∧ v2 ≤ 1000)))] I1 E
    refine gw_ifb_ne 22 d_Mo_effect_16 (by decide) (fun hc => ?_) (fun hc => ?_)
    · have h := h.1 (of_decide_eq_true hc)
      refine gw_aload_n 0 d_Mo_effect_22 rfl rfl ?_
      refine gw_iload_n 1 d_Mo_effect_23 rfl rfl ?_
      refine gw_iload_n 2 d_Mo_effect_24 rfl rfl ?_
      obtain ⟨g1, h⟩ := h
      obtain ⟨g2, h⟩ := h
      obtain ⟨g3, h⟩ := h
      refine gw_invV (as := [.inl v1, .inl v2]) (k := 348) (rest := []) (d' := (d + 4)) d_Mo_effect_25 lk_Mo_163 (ga_rcv (ga_oM) rfl rfl) rfl (Nat.le_of_ble_eq_true rfl) (Nat.le_of_ble_eq_true rfl) rfl rfl (s_Mo_isIgnored g1 g2 g3 ?_)
      show ga_W G (d + 5) mt_Mo_effect 28 [some (.inr 348), some (.inl v1), some (.inl v2), none, none, none] [.inl (ga_bb (decide (((v1 - I1 349 234).natAbs : Int) < I1 349 238 ∧ ((v2 - I1 349 235).natAbs : Int) < I1 349 238)))] I1 E
      refine gw_ifb_eq 33 d_Mo_effect_28 (by decide) (fun hc => ?_) (fun hc => ?_)
      · have h := h.1 (of_decide_eq_false hc)
        refine gw_aload_n 0 d_Mo_effect_33 rfl rfl ?_
        refine gw_invV (as := []) (k := 348) (rest := []) (d' := (d + 4)) d_Mo_effect_34 lk_Mo_217 (ga_rcv (ga_oM) rfl rfl) rfl (Nat.le_of_ble_eq_true rfl) (Nat.le_of_ble_eq_true rfl) rfl rfl (s_Mo_hold  ?_)
        show ga_W G (d + 5) mt_Mo_effect 37 [some (.inr 348), some (.inl v1), some (.inl v2), none, none, none] [] (ga_uc I1 350 (av_cp (I1 350) (I1 349) 0 1120)) E
        refine gw_nm (fun I2 q2 => ?_)
        have h := h I2 q2
        refine gw_RG (fun hI3 => ?_)
        refine gw_aload_n 0 d_Mo_effect_37 rfl rfl ?_
        refine gw_getR d_Mo_effect_38 fl_Mo_7 (ga_oM) rfl ?_
        refine gw_sipush d_Mo_effect_41 (by decide +kernel) ?_
        refine gw_iald d_Mo_effect_44 (ga_aM1) (by decide) (by decide) ?_
        refine gw_istore_n 3 d_Mo_effect_45 rfl (Nat.le_of_ble_eq_true rfl) rfl ?_
        refine gw_aload_n 0 d_Mo_effect_46 rfl rfl ?_
        refine gw_getR d_Mo_effect_47 fl_Mo_7 (ga_oM) rfl ?_
        refine gw_sipush d_Mo_effect_50 (by decide +kernel) ?_
        refine gw_iald d_Mo_effect_53 (ga_aM1) (by decide) (by decide) ?_
        refine gw_istore 4 d_Mo_effect_54 (Nat.le_of_ble_eq_true rfl) rfl ?_
        refine gw_aload_n 0 d_Mo_effect_56 rfl rfl ?_
        obtain ⟨g4, h⟩ := h
        obtain ⟨g5, h⟩ := h
        obtain ⟨g6, h⟩ := h
        obtain ⟨g7, h⟩ := h
        refine gw_invV (as := []) (k := 348) (rest := []) (d' := (d + 4)) d_Mo_effect_57 lk_Mo_166 (ga_rcv (ga_oM) rfl rfl) rfl (Nat.le_of_ble_eq_true rfl) (Nat.le_of_ble_eq_true rfl) rfl rfl (s_Mo_noteValues g4 g5 g6 g7 ?_)
        show ga_W G (d + 5) mt_Mo_effect 60 [some (.inr 348), some (.inl v1), some (.inl v2), some (.inl (I2 349 236)), some (.inl (I2 349 237)), none] [] (mx_nv I2) E
        refine gw_nm (fun I3 q3 => ?_)
        have h := h I3 q3
        refine gw_RG (fun hI4 => ?_)
        refine gw_aload_n 0 d_Mo_effect_60 rfl rfl ?_
        refine gw_iload_n 1 d_Mo_effect_61 rfl rfl ?_
        refine gw_iload_n 2 d_Mo_effect_62 rfl rfl ?_
        obtain ⟨g8, h⟩ := h
        obtain ⟨g9, h⟩ := h
        obtain ⟨g10, h⟩ := h
        refine gw_invV (as := [.inl v1, .inl v2]) (k := 348) (rest := []) (d' := (d + 4)) d_Mo_effect_63 lk_Mo_169 (ga_rcv (ga_oM) rfl rfl) rfl (Nat.le_of_ble_eq_true rfl) (Nat.le_of_ble_eq_true rfl) rfl rfl (s_Mo_goTo g8 g9 g10 r1 r2 ?_)
        show ga_W G (d + 5) mt_Mo_effect 66 [some (.inr 348), some (.inl v1), some (.inl v2), some (.inl (I2 349 236)), some (.inl (I2 349 237)), none] [] (mx_go I3 v1 v2) E
        refine gw_nm (fun I4 q4 => ?_)
        have h := h I4 q4
        refine gw_RG (fun hI5 => ?_)
        refine gw_iconst d_Mo_effect_66 ?_
        refine gw_aload_n 0 d_Mo_effect_67 rfl rfl ?_
        refine gw_getR d_Mo_effect_68 fl_Mo_7 (ga_oM) rfl ?_
        refine gw_sipush d_Mo_effect_71 (by decide +kernel) ?_
        refine gw_iald d_Mo_effect_74 (ga_aM1) (by decide) (by decide) ?_
        refine gw_iload_n 3 d_Mo_effect_75 rfl rfl ?_
        refine gw_icmp_eq 83 d_Mo_effect_76 (by decide) (hI5 _ _) (hI3 _ _) (fun hc => ?_) (fun hc => ?_)
        · have h := h.1 hc
          refine gw_iconst d_Mo_effect_83 ?_
          refine gw_iadd d_Mo_effect_84 ?_
          refine gw_aload_n 0 d_Mo_effect_85 rfl rfl ?_
          refine gw_getR d_Mo_effect_86 fl_Mo_7 (ga_oM) rfl ?_
          refine gw_sipush d_Mo_effect_89 (by decide +kernel) ?_
          refine gw_iald d_Mo_effect_92 (ga_aM1) (by decide) (by decide) ?_
          refine gw_iload 4 d_Mo_effect_93 rfl ?_
          refine gw_icmp_eq 102 d_Mo_effect_95 (by decide) (hI5 _ _) (hI3 _ _) (fun hc => ?_) (fun hc => ?_)
          · have h := h.1 hc
            refine gw_iconst d_Mo_effect_102 ?_
            refine gw_iadd d_Mo_effect_103 ?_
            refine gw_aload_n 0 d_Mo_effect_104 rfl rfl ?_
            obtain ⟨g11, h⟩ := h
            obtain ⟨g12, h⟩ := h
            obtain ⟨g13, h⟩ := h
            obtain ⟨g14, h⟩ := h
            obtain ⟨g15, h⟩ := h
            refine gw_invV (as := []) (k := 348) (rest := [.inl ((1 + 0) + 0)]) (d' := (d + 4)) d_Mo_effect_105 lk_Mo_173 (ga_rcv (ga_oM) rfl rfl) rfl (Nat.le_of_ble_eq_true rfl) (Nat.le_of_ble_eq_true rfl) rfl rfl (s_Mo_jump g11 g12 g13 g14 g15 ?_)
            show ga_W G (d + 5) mt_Mo_effect 108 [some (.inr 348), some (.inl v1), some (.inl v2), some (.inl (I2 349 236)), some (.inl (I2 349 237)), none] [.inl (gp_j3 ((mp_pv (I4 349) 0 - I4 357 0).natAbs : Int) ((mp_pv (I4 349) 1 - I4 357 1).natAbs : Int) ((mp_pv (I4 349) 2 - I4 357 2).natAbs : Int)), .inl ((1 + 0) + 0)] (mx_lp I4) E
            refine gw_nm (fun I5 q5 => ?_)
            have h := h I5 q5
            refine gw_RG (fun hI6 => ?_)
            obtain ⟨g16, h⟩ := h
            refine gw_if_le 116 d_Mo_effect_108 (by decide) g16 (fun hc => ?_) (fun hc => ?_)
            · have h := h.1 hc
              refine gw_iconst d_Mo_effect_116 ?_
              refine gw_iadd d_Mo_effect_117 ?_
              refine gw_istore 5 d_Mo_effect_118 (Nat.le_of_ble_eq_true rfl) rfl ?_
              refine gw_aload_n 0 d_Mo_effect_120 rfl rfl ?_
              refine gw_invV (as := []) (k := 348) (rest := []) (d' := (d + 4)) d_Mo_effect_121 lk_Mo_223 (ga_rcv (ga_oM) rfl rfl) rfl (Nat.le_of_ble_eq_true rfl) (Nat.le_of_ble_eq_true rfl) rfl rfl (s_Mo_release  ?_)
              show ga_W G (d + 5) mt_Mo_effect 124 [some (.inr 348), some (.inl v1), some (.inl v2), some (.inl (I2 349 236)), some (.inl (I2 349 237)), some (.inl (((1 + 0) + 0) + 0))] [] (ga_uc I5 349 (av_cp (I5 349) (I5 350) 0 1120)) E
              refine gw_nm (fun I6 q6 => ?_)
              have h := h I6 q6
              refine gw_RG (fun hI7 => ?_)
              refine gw_iload 5 d_Mo_effect_124 rfl ?_
              exact gw_ireturn d_Mo_effect_126 rfl h
            · have h := h.2 hc
              refine gw_bipush d_Mo_effect_111 (by decide +kernel) ?_
              refine gw_goto 117 d_Mo_effect_113 (by decide) ?_
              refine gw_iadd d_Mo_effect_117 ?_
              refine gw_istore 5 d_Mo_effect_118 (Nat.le_of_ble_eq_true rfl) rfl ?_
              refine gw_aload_n 0 d_Mo_effect_120 rfl rfl ?_
              refine gw_invV (as := []) (k := 348) (rest := []) (d' := (d + 4)) d_Mo_effect_121 lk_Mo_223 (ga_rcv (ga_oM) rfl rfl) rfl (Nat.le_of_ble_eq_true rfl) (Nat.le_of_ble_eq_true rfl) rfl rfl (s_Mo_release  ?_)
              show ga_W G (d + 5) mt_Mo_effect 124 [some (.inr 348), some (.inl v1), some (.inl v2), some (.inl (I2 349 236)), some (.inl (I2 349 237)), some (.inl (((1 + 0) + 0) + 8))] [] (ga_uc I5 349 (av_cp (I5 349) (I5 350) 0 1120)) E
              refine gw_nm (fun I7 q7 => ?_)
              have h := h I7 q7
              refine gw_RG (fun hI8 => ?_)
              refine gw_iload 5 d_Mo_effect_124 rfl ?_
              exact gw_ireturn d_Mo_effect_126 rfl h
          · have h := h.2 hc
            refine gw_iconst d_Mo_effect_98 ?_
            refine gw_goto 103 d_Mo_effect_99 (by decide) ?_
            refine gw_iadd d_Mo_effect_103 ?_
            refine gw_aload_n 0 d_Mo_effect_104 rfl rfl ?_
            obtain ⟨g17, h⟩ := h
            obtain ⟨g18, h⟩ := h
            obtain ⟨g19, h⟩ := h
            obtain ⟨g20, h⟩ := h
            obtain ⟨g21, h⟩ := h
            refine gw_invV (as := []) (k := 348) (rest := [.inl ((1 + 0) + 4)]) (d' := (d + 4)) d_Mo_effect_105 lk_Mo_173 (ga_rcv (ga_oM) rfl rfl) rfl (Nat.le_of_ble_eq_true rfl) (Nat.le_of_ble_eq_true rfl) rfl rfl (s_Mo_jump g17 g18 g19 g20 g21 ?_)
            show ga_W G (d + 5) mt_Mo_effect 108 [some (.inr 348), some (.inl v1), some (.inl v2), some (.inl (I2 349 236)), some (.inl (I2 349 237)), none] [.inl (gp_j3 ((mp_pv (I4 349) 0 - I4 357 0).natAbs : Int) ((mp_pv (I4 349) 1 - I4 357 1).natAbs : Int) ((mp_pv (I4 349) 2 - I4 357 2).natAbs : Int)), .inl ((1 + 0) + 4)] (mx_lp I4) E
            refine gw_nm (fun I8 q8 => ?_)
            have h := h I8 q8
            refine gw_RG (fun hI9 => ?_)
            obtain ⟨g22, h⟩ := h
            refine gw_if_le 116 d_Mo_effect_108 (by decide) g22 (fun hc => ?_) (fun hc => ?_)
            · have h := h.1 hc
              refine gw_iconst d_Mo_effect_116 ?_
              refine gw_iadd d_Mo_effect_117 ?_
              refine gw_istore 5 d_Mo_effect_118 (Nat.le_of_ble_eq_true rfl) rfl ?_
              refine gw_aload_n 0 d_Mo_effect_120 rfl rfl ?_
              refine gw_invV (as := []) (k := 348) (rest := []) (d' := (d + 4)) d_Mo_effect_121 lk_Mo_223 (ga_rcv (ga_oM) rfl rfl) rfl (Nat.le_of_ble_eq_true rfl) (Nat.le_of_ble_eq_true rfl) rfl rfl (s_Mo_release  ?_)
              show ga_W G (d + 5) mt_Mo_effect 124 [some (.inr 348), some (.inl v1), some (.inl v2), some (.inl (I2 349 236)), some (.inl (I2 349 237)), some (.inl (((1 + 0) + 4) + 0))] [] (ga_uc I8 349 (av_cp (I8 349) (I8 350) 0 1120)) E
              refine gw_nm (fun I9 q9 => ?_)
              have h := h I9 q9
              refine gw_RG (fun hI10 => ?_)
              refine gw_iload 5 d_Mo_effect_124 rfl ?_
              exact gw_ireturn d_Mo_effect_126 rfl h
            · have h := h.2 hc
              refine gw_bipush d_Mo_effect_111 (by decide +kernel) ?_
              refine gw_goto 117 d_Mo_effect_113 (by decide) ?_
              refine gw_iadd d_Mo_effect_117 ?_
              refine gw_istore 5 d_Mo_effect_118 (Nat.le_of_ble_eq_true rfl) rfl ?_
              refine gw_aload_n 0 d_Mo_effect_120 rfl rfl ?_
              refine gw_invV (as := []) (k := 348) (rest := []) (d' := (d + 4)) d_Mo_effect_121 lk_Mo_223 (ga_rcv (ga_oM) rfl rfl) rfl (Nat.le_of_ble_eq_true rfl) (Nat.le_of_ble_eq_true rfl) rfl rfl (s_Mo_release  ?_)
              show ga_W G (d + 5) mt_Mo_effect 124 [some (.inr 348), some (.inl v1), some (.inl v2), some (.inl (I2 349 236)), some (.inl (I2 349 237)), some (.inl (((1 + 0) + 4) + 8))] [] (ga_uc I8 349 (av_cp (I8 349) (I8 350) 0 1120)) E
              refine gw_nm (fun I10 q10 => ?_)
              have h := h I10 q10
              refine gw_RG (fun hI11 => ?_)
              refine gw_iload 5 d_Mo_effect_124 rfl ?_
              exact gw_ireturn d_Mo_effect_126 rfl h
        · have h := h.2 hc
          refine gw_iconst d_Mo_effect_79 ?_
          refine gw_goto 84 d_Mo_effect_80 (by decide) ?_
          refine gw_iadd d_Mo_effect_84 ?_
          refine gw_aload_n 0 d_Mo_effect_85 rfl rfl ?_
          refine gw_getR d_Mo_effect_86 fl_Mo_7 (ga_oM) rfl ?_
          refine gw_sipush d_Mo_effect_89 (by decide +kernel) ?_
          refine gw_iald d_Mo_effect_92 (ga_aM1) (by decide) (by decide) ?_
          refine gw_iload 4 d_Mo_effect_93 rfl ?_
          refine gw_icmp_eq 102 d_Mo_effect_95 (by decide) (hI5 _ _) (hI3 _ _) (fun hc => ?_) (fun hc => ?_)
          · have h := h.1 hc
            refine gw_iconst d_Mo_effect_102 ?_
            refine gw_iadd d_Mo_effect_103 ?_
            refine gw_aload_n 0 d_Mo_effect_104 rfl rfl ?_
            obtain ⟨g23, h⟩ := h
            obtain ⟨g24, h⟩ := h
            obtain ⟨g25, h⟩ := h
            obtain ⟨g26, h⟩ := h
            obtain ⟨g27, h⟩ := h
            refine gw_invV (as := []) (k := 348) (rest := [.inl ((1 + 2) + 0)]) (d' := (d + 4)) d_Mo_effect_105 lk_Mo_173 (ga_rcv (ga_oM) rfl rfl) rfl (Nat.le_of_ble_eq_true rfl) (Nat.le_of_ble_eq_true rfl) rfl rfl (s_Mo_jump g23 g24 g25 g26 g27 ?_)
            show ga_W G (d + 5) mt_Mo_effect 108 [some (.inr 348), some (.inl v1), some (.inl v2), some (.inl (I2 349 236)), some (.inl (I2 349 237)), none] [.inl (gp_j3 ((mp_pv (I4 349) 0 - I4 357 0).natAbs : Int) ((mp_pv (I4 349) 1 - I4 357 1).natAbs : Int) ((mp_pv (I4 349) 2 - I4 357 2).natAbs : Int)), .inl ((1 + 2) + 0)] (mx_lp I4) E
            refine gw_nm (fun I11 q11 => ?_)
            have h := h I11 q11
            refine gw_RG (fun hI12 => ?_)
            obtain ⟨g28, h⟩ := h
            refine gw_if_le 116 d_Mo_effect_108 (by decide) g28 (fun hc => ?_) (fun hc => ?_)
            · have h := h.1 hc
              refine gw_iconst d_Mo_effect_116 ?_
              refine gw_iadd d_Mo_effect_117 ?_
              refine gw_istore 5 d_Mo_effect_118 (Nat.le_of_ble_eq_true rfl) rfl ?_
              refine gw_aload_n 0 d_Mo_effect_120 rfl rfl ?_
              refine gw_invV (as := []) (k := 348) (rest := []) (d' := (d + 4)) d_Mo_effect_121 lk_Mo_223 (ga_rcv (ga_oM) rfl rfl) rfl (Nat.le_of_ble_eq_true rfl) (Nat.le_of_ble_eq_true rfl) rfl rfl (s_Mo_release  ?_)
              show ga_W G (d + 5) mt_Mo_effect 124 [some (.inr 348), some (.inl v1), some (.inl v2), some (.inl (I2 349 236)), some (.inl (I2 349 237)), some (.inl (((1 + 2) + 0) + 0))] [] (ga_uc I11 349 (av_cp (I11 349) (I11 350) 0 1120)) E
              refine gw_nm (fun I12 q12 => ?_)
              have h := h I12 q12
              refine gw_RG (fun hI13 => ?_)
              refine gw_iload 5 d_Mo_effect_124 rfl ?_
              exact gw_ireturn d_Mo_effect_126 rfl h
            · have h := h.2 hc
              refine gw_bipush d_Mo_effect_111 (by decide +kernel) ?_
              refine gw_goto 117 d_Mo_effect_113 (by decide) ?_
              refine gw_iadd d_Mo_effect_117 ?_
              refine gw_istore 5 d_Mo_effect_118 (Nat.le_of_ble_eq_true rfl) rfl ?_
              refine gw_aload_n 0 d_Mo_effect_120 rfl rfl ?_
              refine gw_invV (as := []) (k := 348) (rest := []) (d' := (d + 4)) d_Mo_effect_121 lk_Mo_223 (ga_rcv (ga_oM) rfl rfl) rfl (Nat.le_of_ble_eq_true rfl) (Nat.le_of_ble_eq_true rfl) rfl rfl (s_Mo_release  ?_)
              show ga_W G (d + 5) mt_Mo_effect 124 [some (.inr 348), some (.inl v1), some (.inl v2), some (.inl (I2 349 236)), some (.inl (I2 349 237)), some (.inl (((1 + 2) + 0) + 8))] [] (ga_uc I11 349 (av_cp (I11 349) (I11 350) 0 1120)) E
              refine gw_nm (fun I13 q13 => ?_)
              have h := h I13 q13
              refine gw_RG (fun hI14 => ?_)
              refine gw_iload 5 d_Mo_effect_124 rfl ?_
              exact gw_ireturn d_Mo_effect_126 rfl h
          · have h := h.2 hc
            refine gw_iconst d_Mo_effect_98 ?_
            refine gw_goto 103 d_Mo_effect_99 (by decide) ?_
            refine gw_iadd d_Mo_effect_103 ?_
            refine gw_aload_n 0 d_Mo_effect_104 rfl rfl ?_
            obtain ⟨g29, h⟩ := h
            obtain ⟨g30, h⟩ := h
            obtain ⟨g31, h⟩ := h
            obtain ⟨g32, h⟩ := h
            obtain ⟨g33, h⟩ := h
            refine gw_invV (as := []) (k := 348) (rest := [.inl ((1 + 2) + 4)]) (d' := (d + 4)) d_Mo_effect_105 lk_Mo_173 (ga_rcv (ga_oM) rfl rfl) rfl (Nat.le_of_ble_eq_true rfl) (Nat.le_of_ble_eq_true rfl) rfl rfl (s_Mo_jump g29 g30 g31 g32 g33 ?_)
            show ga_W G (d + 5) mt_Mo_effect 108 [some (.inr 348), some (.inl v1), some (.inl v2), some (.inl (I2 349 236)), some (.inl (I2 349 237)), none] [.inl (gp_j3 ((mp_pv (I4 349) 0 - I4 357 0).natAbs : Int) ((mp_pv (I4 349) 1 - I4 357 1).natAbs : Int) ((mp_pv (I4 349) 2 - I4 357 2).natAbs : Int)), .inl ((1 + 2) + 4)] (mx_lp I4) E
            refine gw_nm (fun I14 q14 => ?_)
            have h := h I14 q14
            refine gw_RG (fun hI15 => ?_)
            obtain ⟨g34, h⟩ := h
            refine gw_if_le 116 d_Mo_effect_108 (by decide) g34 (fun hc => ?_) (fun hc => ?_)
            · have h := h.1 hc
              refine gw_iconst d_Mo_effect_116 ?_
              refine gw_iadd d_Mo_effect_117 ?_
              refine gw_istore 5 d_Mo_effect_118 (Nat.le_of_ble_eq_true rfl) rfl ?_
              refine gw_aload_n 0 d_Mo_effect_120 rfl rfl ?_
              refine gw_invV (as := []) (k := 348) (rest := []) (d' := (d + 4)) d_Mo_effect_121 lk_Mo_223 (ga_rcv (ga_oM) rfl rfl) rfl (Nat.le_of_ble_eq_true rfl) (Nat.le_of_ble_eq_true rfl) rfl rfl (s_Mo_release  ?_)
              show ga_W G (d + 5) mt_Mo_effect 124 [some (.inr 348), some (.inl v1), some (.inl v2), some (.inl (I2 349 236)), some (.inl (I2 349 237)), some (.inl (((1 + 2) + 4) + 0))] [] (ga_uc I14 349 (av_cp (I14 349) (I14 350) 0 1120)) E
              refine gw_nm (fun I15 q15 => ?_)
              have h := h I15 q15
              refine gw_RG (fun hI16 => ?_)
              refine gw_iload 5 d_Mo_effect_124 rfl ?_
              exact gw_ireturn d_Mo_effect_126 rfl h
            · have h := h.2 hc
              refine gw_bipush d_Mo_effect_111 (by decide +kernel) ?_
              refine gw_goto 117 d_Mo_effect_113 (by decide) ?_
              refine gw_iadd d_Mo_effect_117 ?_
              refine gw_istore 5 d_Mo_effect_118 (Nat.le_of_ble_eq_true rfl) rfl ?_
              refine gw_aload_n 0 d_Mo_effect_120 rfl rfl ?_
              refine gw_invV (as := []) (k := 348) (rest := []) (d' := (d + 4)) d_Mo_effect_121 lk_Mo_223 (ga_rcv (ga_oM) rfl rfl) rfl (Nat.le_of_ble_eq_true rfl) (Nat.le_of_ble_eq_true rfl) rfl rfl (s_Mo_release  ?_)
              show ga_W G (d + 5) mt_Mo_effect 124 [some (.inr 348), some (.inl v1), some (.inl v2), some (.inl (I2 349 236)), some (.inl (I2 349 237)), some (.inl (((1 + 2) + 4) + 8))] [] (ga_uc I14 349 (av_cp (I14 349) (I14 350) 0 1120)) E
              refine gw_nm (fun I16 q16 => ?_)
              have h := h I16 q16
              refine gw_RG (fun hI17 => ?_)
              refine gw_iload 5 d_Mo_effect_124 rfl ?_
              exact gw_ireturn d_Mo_effect_126 rfl h
      · have h := h.2 (of_decide_eq_true hc)
        refine gw_iconst d_Mo_effect_31 ?_
        exact gw_ireturn d_Mo_effect_32 rfl h
    · have h := h.2 (of_decide_eq_false hc)
      refine gw_ldc (n := (-2000000001)) d_Mo_effect_19 kw_Mo_112 (by decide +kernel) ?_
      exact gw_ireturn d_Mo_effect_21 rfl h

theorem k_Mo_valueAt_0 {G : ga_G} {d : Nat} {I : ga_I} {E : Option ga_V → ga_I → Prop} {v1 : Int} {v2 : Int} {v3 : Int} (r1 : ga_rg v1) (r2 : ga_rg v2) (r3 : ga_rg v3)
    (h : ga_RG I → (∀ I1 : ga_I, I1 = (ga_up I 348 0 0) → ((¬ (0 ≤ v1 ∧ v1 ≤ 1000)) → E (some (.inl (-2000000001))) I1) ∧ ((0 ≤ v1 ∧ v1 ≤ 1000) → ((¬ (0 ≤ v2 ∧ v2 ≤ 1000)) → E (some (.inl (-2000000001))) I1) ∧ ((0 ≤ v2 ∧ v2 ≤ 1000) → ((¬ ((0 : Int) ≤ v3 ∧ v3 ≤ (2 : Int))) → E (some (.inl (-2000000001))) I1) ∧ (((0 : Int) ≤ v3 ∧ v3 ≤ (2 : Int)) → (mo_ok I1 0) ∧ ((mo_ok I1 1) ∧ ((mo_g I1) ∧ ((0 ≤ v1 ∧ v1 ≤ 1000) ∧ ((0 ≤ v2 ∧ v2 ≤ 1000) ∧ ((0 ≤ v3 ∧ v3 ≤ 2) ∧ ((∀ I2 : ga_I, gr_vt I1 I2 → E (some (.inl (mp_vt (I1 349) v1 v2 v3))) I2)))))))))))) :
    ga_W G (d + 4) mt_Mo_valueAt 0 (ga_en 4 [.inr 348, .inl v1, .inl v2, .inl v3]) [] I E := by
  show ga_W G (d + 4) mt_Mo_valueAt 0 [some (.inr 348), some (.inl v1), some (.inl v2), some (.inl v3)] [] I E
  refine gw_RG (fun hI1 => ?_)
  have h := h hI1
  refine gw_aload_n 0 d_Mo_valueAt_0 rfl rfl ?_
  refine gw_iconst d_Mo_valueAt_1 ?_
  refine gw_putI d_Mo_valueAt_2 fp_Mo_37 (ga_oM) rfl ?_
  show ga_W G (d + 4) mt_Mo_valueAt 5 [some (.inr 348), some (.inl v1), some (.inl v2), some (.inl v3)] [] (ga_up I 348 0 (ga_wr 0)) E
  rw [ga_wr_eq (z := 0) ⟨by decide, by decide⟩]
  refine gw_nm (J := (ga_up I 348 0 0)) (fun I1 q1 => ?_)
  have h := h I1 q1
  refine gw_RG (fun hI2 => ?_)
  refine gw_iload_n 1 d_Mo_valueAt_5 rfl rfl ?_
  refine gw_invS (as := [.inl v1]) (rest := []) (d' := (d + 3)) d_Mo_valueAt_6 lk_Mo_179 rfl (Nat.le_of_ble_eq_true rfl) (Nat.le_of_ble_eq_true rfl) rfl rfl (s_Mo_isCoordinate r1 ?_)
  show ga_W G (d + 4) mt_Mo_valueAt 9 [some (.inr 348), some (.inl v1), some (.inl v2), some (.inl v3)] [.inl (ga_bb (decide (0 ≤ v1 ∧ v1 ≤ 1000)))] I1 E
  refine gw_ifb_eq 38 d_Mo_valueAt_9 (by decide) (fun hc => ?_) (fun hc => ?_)
  · have h := h.1 (of_decide_eq_false hc)
    refine gw_ldc (n := (-2000000001)) d_Mo_valueAt_38 kw_Mo_112 (by decide +kernel) ?_
    exact gw_ireturn d_Mo_valueAt_40 rfl h
  · have h := h.2 (of_decide_eq_true hc)
    refine gw_iload_n 2 d_Mo_valueAt_12 rfl rfl ?_
    refine gw_invS (as := [.inl v2]) (rest := []) (d' := (d + 3)) d_Mo_valueAt_13 lk_Mo_179 rfl (Nat.le_of_ble_eq_true rfl) (Nat.le_of_ble_eq_true rfl) rfl rfl (s_Mo_isCoordinate r2 ?_)
    show ga_W G (d + 4) mt_Mo_valueAt 16 [some (.inr 348), some (.inl v1), some (.inl v2), some (.inl v3)] [.inl (ga_bb (decide (0 ≤ v2 ∧ v2 ≤ 1000)))] I1 E
    refine gw_ifb_eq 38 d_Mo_valueAt_16 (by decide) (fun hc => ?_) (fun hc => ?_)
    · have h := h.1 (of_decide_eq_false hc)
      refine gw_ldc (n := (-2000000001)) d_Mo_valueAt_38 kw_Mo_112 (by decide +kernel) ?_
      exact gw_ireturn d_Mo_valueAt_40 rfl h
    · have h := h.2 (of_decide_eq_true hc)
      refine gw_iload_n 3 d_Mo_valueAt_19 rfl rfl ?_
      refine gw_iconst d_Mo_valueAt_20 ?_
      refine gw_iconst d_Mo_valueAt_21 ?_
      refine gw_invS (as := [.inl v3, .inl 0, .inl 2]) (rest := []) (d' := (d + 3)) d_Mo_valueAt_22 lk_Mo_47 rfl (Nat.le_of_ble_eq_true rfl) (Nat.le_of_ble_eq_true rfl) rfl rfl (s_Mo_in r3 ⟨by decide, by decide⟩ ⟨by decide, by decide⟩ ?_)
      show ga_W G (d + 4) mt_Mo_valueAt 25 [some (.inr 348), some (.inl v1), some (.inl v2), some (.inl v3)] [.inl (ga_bb (decide ((0 : Int) ≤ v3 ∧ v3 ≤ (2 : Int))))] I1 E
      refine gw_ifb_eq 38 d_Mo_valueAt_25 (by decide) (fun hc => ?_) (fun hc => ?_)
      · have h := h.1 (of_decide_eq_false hc)
        refine gw_ldc (n := (-2000000001)) d_Mo_valueAt_38 kw_Mo_112 (by decide +kernel) ?_
        exact gw_ireturn d_Mo_valueAt_40 rfl h
      · have h := h.2 (of_decide_eq_true hc)
        refine gw_aload_n 0 d_Mo_valueAt_28 rfl rfl ?_
        refine gw_iload_n 1 d_Mo_valueAt_29 rfl rfl ?_
        refine gw_iload_n 2 d_Mo_valueAt_30 rfl rfl ?_
        refine gw_iload_n 3 d_Mo_valueAt_31 rfl rfl ?_
        obtain ⟨g1, h⟩ := h
        obtain ⟨g2, h⟩ := h
        obtain ⟨g3, h⟩ := h
        obtain ⟨g4, h⟩ := h
        obtain ⟨g5, h⟩ := h
        obtain ⟨g6, h⟩ := h
        refine gw_invV (as := [.inl v1, .inl v2, .inl v3]) (k := 348) (rest := []) (d' := (d + 3)) d_Mo_valueAt_32 lk_Mo_236 (ga_rcv (ga_oM) rfl rfl) rfl (Nat.le_of_ble_eq_true rfl) (Nat.le_of_ble_eq_true rfl) rfl rfl (s_Mo_valueThere g1 g2 g3 g4 g5 g6 (fun I2 q2 => ?_))
        have h := h I2 q2
        show ga_W G (d + 4) mt_Mo_valueAt 35 [some (.inr 348), some (.inl v1), some (.inl v2), some (.inl v3)] [.inl (mp_vt (I1 349) v1 v2 v3)] I2 E
        refine gw_RG (fun hI3 => ?_)
        refine gw_goto 40 d_Mo_valueAt_35 (by decide) ?_
        exact gw_ireturn d_Mo_valueAt_40 rfl h

theorem k_Mo_chatter_0 {G : ga_G} {d : Nat} {I : ga_I} {E : Option ga_V → ga_I → Prop} {v1 : Int} {v2 : Int} {v3 : Int} {v4 : Int} (r1 : ga_rg v1) (r2 : ga_rg v2) (r3 : ga_rg v3) (r4 : ga_rg v4)
    (h : ga_RG I → (∀ I1 : ga_I, I1 = (ga_up I 348 0 0) → ((¬ (0 ≤ v1 ∧ v1 ≤ 1)) → E (some (.inl (-2000000001))) I1) ∧ ((0 ≤ v1 ∧ v1 ≤ 1) → ((¬ (0 ≤ v2 ∧ v2 ≤ 1000)) → E (some (.inl (-2000000001))) I1) ∧ ((0 ≤ v2 ∧ v2 ≤ 1000) → ((¬ ((0 : Int) ≤ v3 ∧ v3 ≤ (500 : Int))) → E (some (.inl (-2000000001))) I1) ∧ (((0 : Int) ≤ v3 ∧ v3 ≤ (500 : Int)) → (((1 : Int) ≤ v4 ∧ v4 ≤ (100 : Int)) → (ga_rg (v2 - v3)) ∧ ((ga_rg (v2 + v3)) ∧ (((0 ≤ v2 - v3 ∧ v2 + v3 ≤ 1000) → (0 ≤ (236 + v1)) ∧ (((236 + v1) < 1120) ∧ ((mo_ok I1 v1) ∧ ((mo_n I1) ∧ ((0 ≤ v1 ∧ v1 ≤ 1) ∧ ((0 ≤ (I1 349 (236 + v1).toNat) ∧ (I1 349 (236 + v1).toNat) ≤ gp_ct (gp_sk (ms_q (I1 349) v1)) (ms_n (I1 349) v1).toNat) ∧ ((0 ≤ v4 ∧ v4 ≤ 100) ∧ ((∀ z1 : Int, z1 = (gp_zc (ms_p (I1 349) v1) (ms_q (I1 349) v1) (ms_r (I1 349) v1) (ms_n (I1 349) v1).toNat (I1 349 (236 + v1).toNat) v2 v3 v4.toNat).1 → E (some (.inl z1)) I1))))))))) ∧ ((¬ (0 ≤ v2 - v3 ∧ v2 + v3 ≤ 1000)) → E (some (.inl (-2000000001))) I1)))) ∧ ((¬ ((1 : Int) ≤ v4 ∧ v4 ≤ (100 : Int))) → E (some (.inl (-2000000001))) I1)))))) :
    ga_W G (d + 4) mt_Mo_chatter 0 (ga_en 5 [.inr 348, .inl v1, .inl v2, .inl v3, .inl v4]) [] I E := by
  show ga_W G (d + 4) mt_Mo_chatter 0 [some (.inr 348), some (.inl v1), some (.inl v2), some (.inl v3), some (.inl v4)] [] I E
  refine gw_RG (fun hI1 => ?_)
  have h := h hI1
  refine gw_aload_n 0 d_Mo_chatter_0 rfl rfl ?_
  refine gw_iconst d_Mo_chatter_1 ?_
  refine gw_putI d_Mo_chatter_2 fp_Mo_37 (ga_oM) rfl ?_
  show ga_W G (d + 4) mt_Mo_chatter 5 [some (.inr 348), some (.inl v1), some (.inl v2), some (.inl v3), some (.inl v4)] [] (ga_up I 348 0 (ga_wr 0)) E
  rw [ga_wr_eq (z := 0) ⟨by decide, by decide⟩]
  refine gw_nm (J := (ga_up I 348 0 0)) (fun I1 q1 => ?_)
  have h := h I1 q1
  refine gw_RG (fun hI2 => ?_)
  refine gw_iload_n 1 d_Mo_chatter_5 rfl rfl ?_
  refine gw_invS (as := [.inl v1]) (rest := []) (d' := (d + 3)) d_Mo_chatter_6 lk_Mo_51 rfl (Nat.le_of_ble_eq_true rfl) (Nat.le_of_ble_eq_true rfl) rfl rfl (s_Mo_isAxis r1 ?_)
  show ga_W G (d + 4) mt_Mo_chatter 9 [some (.inr 348), some (.inl v1), some (.inl v2), some (.inl v3), some (.inl v4)] [.inl (ga_bb (decide (0 ≤ v1 ∧ v1 ≤ 1)))] I1 E
  refine gw_ifb_eq 41 d_Mo_chatter_9 (by decide) (fun hc => ?_) (fun hc => ?_)
  · have h := h.1 (of_decide_eq_false hc)
    refine gw_ldc (n := (-2000000001)) d_Mo_chatter_41 kw_Mo_112 (by decide +kernel) ?_
    exact gw_ireturn d_Mo_chatter_43 rfl h
  · have h := h.2 (of_decide_eq_true hc)
    refine gw_iload_n 2 d_Mo_chatter_12 rfl rfl ?_
    refine gw_invS (as := [.inl v2]) (rest := []) (d' := (d + 3)) d_Mo_chatter_13 lk_Mo_179 rfl (Nat.le_of_ble_eq_true rfl) (Nat.le_of_ble_eq_true rfl) rfl rfl (s_Mo_isCoordinate r2 ?_)
    show ga_W G (d + 4) mt_Mo_chatter 16 [some (.inr 348), some (.inl v1), some (.inl v2), some (.inl v3), some (.inl v4)] [.inl (ga_bb (decide (0 ≤ v2 ∧ v2 ≤ 1000)))] I1 E
    refine gw_ifb_eq 41 d_Mo_chatter_16 (by decide) (fun hc => ?_) (fun hc => ?_)
    · have h := h.1 (of_decide_eq_false hc)
      refine gw_ldc (n := (-2000000001)) d_Mo_chatter_41 kw_Mo_112 (by decide +kernel) ?_
      exact gw_ireturn d_Mo_chatter_43 rfl h
    · have h := h.2 (of_decide_eq_true hc)
      refine gw_iload_n 3 d_Mo_chatter_19 rfl rfl ?_
      refine gw_iconst d_Mo_chatter_20 ?_
      refine gw_sipush d_Mo_chatter_21 (by decide +kernel) ?_
      refine gw_invS (as := [.inl v3, .inl 0, .inl 500]) (rest := []) (d' := (d + 3)) d_Mo_chatter_24 lk_Mo_47 rfl (Nat.le_of_ble_eq_true rfl) (Nat.le_of_ble_eq_true rfl) rfl rfl (s_Mo_in r3 ⟨by decide, by decide⟩ ⟨by decide, by decide⟩ ?_)
      show ga_W G (d + 4) mt_Mo_chatter 27 [some (.inr 348), some (.inl v1), some (.inl v2), some (.inl v3), some (.inl v4)] [.inl (ga_bb (decide ((0 : Int) ≤ v3 ∧ v3 ≤ (500 : Int))))] I1 E
      refine gw_ifb_eq 41 d_Mo_chatter_27 (by decide) (fun hc => ?_) (fun hc => ?_)
      · have h := h.1 (of_decide_eq_false hc)
        refine gw_ldc (n := (-2000000001)) d_Mo_chatter_41 kw_Mo_112 (by decide +kernel) ?_
        exact gw_ireturn d_Mo_chatter_43 rfl h
      · have h := h.2 (of_decide_eq_true hc)
        refine gw_iload 4 d_Mo_chatter_30 rfl ?_
        refine gw_iconst d_Mo_chatter_32 ?_
        refine gw_bipush d_Mo_chatter_33 (by decide +kernel) ?_
        refine gw_invS (as := [.inl v4, .inl 1, .inl 100]) (rest := []) (d' := (d + 3)) d_Mo_chatter_35 lk_Mo_47 rfl (Nat.le_of_ble_eq_true rfl) (Nat.le_of_ble_eq_true rfl) rfl rfl (s_Mo_in r4 ⟨by decide, by decide⟩ ⟨by decide, by decide⟩ ?_)
        show ga_W G (d + 4) mt_Mo_chatter 38 [some (.inr 348), some (.inl v1), some (.inl v2), some (.inl v3), some (.inl v4)] [.inl (ga_bb (decide ((1 : Int) ≤ v4 ∧ v4 ≤ (100 : Int))))] I1 E
        refine gw_ifb_ne 44 d_Mo_chatter_38 (by decide) (fun hc => ?_) (fun hc => ?_)
        · have h := h.1 (of_decide_eq_true hc)
          refine gw_iload_n 2 d_Mo_chatter_44 rfl rfl ?_
          refine gw_iload_n 3 d_Mo_chatter_45 rfl rfl ?_
          obtain ⟨g1, h⟩ := h
          obtain ⟨g2, h⟩ := h
          refine gw_invS (as := [.inl v2, .inl v3]) (rest := []) (d' := (d + 3)) d_Mo_chatter_46 lk_Mo_109 rfl (Nat.le_of_ble_eq_true rfl) (Nat.le_of_ble_eq_true rfl) rfl rfl (s_Mo_isInside g1 g2 ?_)
          show ga_W G (d + 4) mt_Mo_chatter 49 [some (.inr 348), some (.inl v1), some (.inl v2), some (.inl v3), some (.inl v4)] [.inl (ga_bb (decide (0 ≤ v2 - v3 ∧ v2 + v3 ≤ 1000)))] I1 E
          refine gw_ifb_ne 55 d_Mo_chatter_49 (by decide) (fun hc => ?_) (fun hc => ?_)
          · have h := h.1 (of_decide_eq_true hc)
            refine gw_aload_n 0 d_Mo_chatter_55 rfl rfl ?_
            refine gw_iload_n 1 d_Mo_chatter_56 rfl rfl ?_
            refine gw_aload_n 0 d_Mo_chatter_57 rfl rfl ?_
            refine gw_getR d_Mo_chatter_58 fl_Mo_7 (ga_oM) rfl ?_
            refine gw_sipush d_Mo_chatter_61 (by decide +kernel) ?_
            refine gw_iload_n 1 d_Mo_chatter_64 rfl rfl ?_
            refine gw_iadd d_Mo_chatter_65 ?_
            obtain ⟨g3, h⟩ := h
            obtain ⟨g4, h⟩ := h
            refine gw_iald d_Mo_chatter_66 (ga_aM1) g3 g4 ?_
            refine gw_iload_n 2 d_Mo_chatter_67 rfl rfl ?_
            refine gw_iload_n 3 d_Mo_chatter_68 rfl rfl ?_
            refine gw_iload 4 d_Mo_chatter_69 rfl ?_
            obtain ⟨g5, h⟩ := h
            obtain ⟨g6, h⟩ := h
            obtain ⟨g7, h⟩ := h
            obtain ⟨g8, h⟩ := h
            obtain ⟨g9, h⟩ := h
            refine gw_invV (as := [.inl v1, .inl (I1 349 (236 + v1).toNat), .inl v2, .inl v3, .inl v4]) (k := 348) (rest := []) (d' := (d + 3)) d_Mo_chatter_71 lk_Mo_239 (ga_rcv (ga_oM) rfl rfl) rfl (Nat.le_of_ble_eq_true rfl) (Nat.le_of_ble_eq_true rfl) rfl rfl (s_Mo_chatters g5 g6 g7 g8 g9 g2 g1 ?_)
            show ga_W G (d + 4) mt_Mo_chatter 74 [some (.inr 348), some (.inl v1), some (.inl v2), some (.inl v3), some (.inl v4)] [.inl ((gp_zc (ms_p (I1 349) v1) (ms_q (I1 349) v1) (ms_r (I1 349) v1) (ms_n (I1 349) v1).toNat (I1 349 (236 + v1).toNat) v2 v3 v4.toNat).1)] I1 E
            refine gw_nz (z := (gp_zc (ms_p (I1 349) v1) (ms_q (I1 349) v1) (ms_r (I1 349) v1) (ms_n (I1 349) v1).toNat (I1 349 (236 + v1).toNat) v2 v3 v4.toNat).1) (fun z1 q2 => ?_)
            have h := h z1 q2
            exact gw_ireturn d_Mo_chatter_74 rfl h
          · have h := h.2 (of_decide_eq_false hc)
            refine gw_ldc (n := (-2000000001)) d_Mo_chatter_52 kw_Mo_112 (by decide +kernel) ?_
            exact gw_ireturn d_Mo_chatter_54 rfl h
        · have h := h.2 (of_decide_eq_false hc)
          refine gw_ldc (n := (-2000000001)) d_Mo_chatter_41 kw_Mo_112 (by decide +kernel) ?_
          exact gw_ireturn d_Mo_chatter_43 rfl h

theorem k_Mo_calmReach_0 {G : ga_G} {d : Nat} {I : ga_I} {E : Option ga_V → ga_I → Prop} {v1 : Int} {v2 : Int} {v3 : Int} (r1 : ga_rg v1) (r2 : ga_rg v2) (r3 : ga_rg v3)
    (h : ga_RG I → (∀ I1 : ga_I, I1 = (ga_up I 348 0 0) → (mo_n I1) ∧ (((¬ ((0 ≤ v1 ∧ v1 ≤ 1) ∧ (0 ≤ v2 ∧ v2 < ms_n (I1 349) v1))) → E (some (.inl (-2000000001))) I1) ∧ (((0 ≤ v1 ∧ v1 ≤ 1) ∧ (0 ≤ v2 ∧ v2 < ms_n (I1 349) v1)) → (((0 : Int) ≤ v3 ∧ v3 ≤ (500 : Int)) → (0 ≤ v1 ∧ v1 ≤ 1) ∧ ((0 ≤ v2 ∧ v2 ≤ 6) ∧ ((0 ≤ (0 : Int) ∧ (0 : Int) ≤ 2) ∧ ((∀ z1 : Int, z1 = ms_b (I1 349) v1 v2 (0 : Int) → (ga_rg (z1 - v3)) ∧ ((ga_rg (z1 + v3)) ∧ (((0 ≤ z1 - v3 ∧ z1 + v3 ≤ 1000) → (0 ≤ (1 : Int) ∧ (1 : Int) ≤ 2) ∧ ((∀ z2 : Int, z2 = ms_b (I1 349) v1 v2 (1 : Int) → ((z2 = 0) → (0 ≤ (2 : Int) ∧ (2 : Int) ≤ 2) ∧ ((∀ z3 : Int, z3 = ms_b (I1 349) v1 v2 (2 : Int) → ga_W G (d + 4) mt_Mo_calmReach 78 [some (.inr 348), some (.inl v1), some (.inl v2), some (.inl v3), some (.inl z1), some (.inl z3), some (.inl (-2000000009)), some (.inl 0)] [] I1 E))) ∧ ((¬ (z2 = 0)) → E (some (.inl (-2000000002))) I1)))) ∧ ((¬ (0 ≤ z1 - v3 ∧ z1 + v3 ≤ 1000)) → E (some (.inl (-2000000001))) I1)))))))) ∧ ((¬ ((0 : Int) ≤ v3 ∧ v3 ≤ (500 : Int))) → E (some (.inl (-2000000001))) I1))))) :
    ga_W G (d + 4) mt_Mo_calmReach 0 (ga_en 8 [.inr 348, .inl v1, .inl v2, .inl v3]) [] I E := by
  show ga_W G (d + 4) mt_Mo_calmReach 0 [some (.inr 348), some (.inl v1), some (.inl v2), some (.inl v3), none, none, none, none] [] I E
  refine gw_RG (fun hI1 => ?_)
  have h := h hI1
  refine gw_aload_n 0 d_Mo_calmReach_0 rfl rfl ?_
  refine gw_iconst d_Mo_calmReach_1 ?_
  refine gw_putI d_Mo_calmReach_2 fp_Mo_37 (ga_oM) rfl ?_
  show ga_W G (d + 4) mt_Mo_calmReach 5 [some (.inr 348), some (.inl v1), some (.inl v2), some (.inl v3), none, none, none, none] [] (ga_up I 348 0 (ga_wr 0)) E
  rw [ga_wr_eq (z := 0) ⟨by decide, by decide⟩]
  refine gw_nm (J := (ga_up I 348 0 0)) (fun I1 q1 => ?_)
  have h := h I1 q1
  refine gw_RG (fun hI2 => ?_)
  refine gw_aload_n 0 d_Mo_calmReach_5 rfl rfl ?_
  refine gw_iload_n 1 d_Mo_calmReach_6 rfl rfl ?_
  refine gw_iload_n 2 d_Mo_calmReach_7 rfl rfl ?_
  obtain ⟨g1, h⟩ := h
  refine gw_invV (as := [.inl v1, .inl v2]) (k := 348) (rest := []) (d' := (d + 3)) d_Mo_calmReach_8 lk_Mo_130 (ga_rcv (ga_oM) rfl rfl) rfl (Nat.le_of_ble_eq_true rfl) (Nat.le_of_ble_eq_true rfl) rfl rfl (s_Mo_isBorder r1 r2 g1 ?_)
  show ga_W G (d + 4) mt_Mo_calmReach 11 [some (.inr 348), some (.inl v1), some (.inl v2), some (.inl v3), none, none, none, none] [.inl (ga_bb (decide ((0 ≤ v1 ∧ v1 ≤ 1) ∧ (0 ≤ v2 ∧ v2 < ms_n (I1 349) v1))))] I1 E
  refine gw_ifb_eq 25 d_Mo_calmReach_11 (by decide) (fun hc => ?_) (fun hc => ?_)
  · have h := h.1 (of_decide_eq_false hc)
    refine gw_ldc (n := (-2000000001)) d_Mo_calmReach_25 kw_Mo_112 (by decide +kernel) ?_
    exact gw_ireturn d_Mo_calmReach_27 rfl h
  · have h := h.2 (of_decide_eq_true hc)
    refine gw_iload_n 3 d_Mo_calmReach_14 rfl rfl ?_
    refine gw_iconst d_Mo_calmReach_15 ?_
    refine gw_sipush d_Mo_calmReach_16 (by decide +kernel) ?_
    refine gw_invS (as := [.inl v3, .inl 0, .inl 500]) (rest := []) (d' := (d + 3)) d_Mo_calmReach_19 lk_Mo_47 rfl (Nat.le_of_ble_eq_true rfl) (Nat.le_of_ble_eq_true rfl) rfl rfl (s_Mo_in r3 ⟨by decide, by decide⟩ ⟨by decide, by decide⟩ ?_)
    show ga_W G (d + 4) mt_Mo_calmReach 22 [some (.inr 348), some (.inl v1), some (.inl v2), some (.inl v3), none, none, none, none] [.inl (ga_bb (decide ((0 : Int) ≤ v3 ∧ v3 ≤ (500 : Int))))] I1 E
    refine gw_ifb_ne 28 d_Mo_calmReach_22 (by decide) (fun hc => ?_) (fun hc => ?_)
    · have h := h.1 (of_decide_eq_true hc)
      refine gw_aload_n 0 d_Mo_calmReach_28 rfl rfl ?_
      refine gw_iload_n 1 d_Mo_calmReach_29 rfl rfl ?_
      refine gw_iload_n 2 d_Mo_calmReach_30 rfl rfl ?_
      refine gw_iconst d_Mo_calmReach_31 ?_
      obtain ⟨g2, h⟩ := h
      obtain ⟨g3, h⟩ := h
      obtain ⟨g4, h⟩ := h
      refine gw_invV (as := [.inl v1, .inl v2, .inl 0]) (k := 348) (rest := []) (d' := (d + 3)) d_Mo_calmReach_32 lk_Mo_63 (ga_rcv (ga_oM) rfl rfl) rfl (Nat.le_of_ble_eq_true rfl) (Nat.le_of_ble_eq_true rfl) rfl rfl (s_Mo_ofBorder g2 g3 g4 ?_)
      show ga_W G (d + 4) mt_Mo_calmReach 35 [some (.inr 348), some (.inl v1), some (.inl v2), some (.inl v3), none, none, none, none] [.inl (ms_b (I1 349) v1 v2 (0 : Int))] I1 E
      refine gw_nz (z := ms_b (I1 349) v1 v2 (0 : Int)) (fun z1 q2 => ?_)
      have h := h z1 q2
      refine gw_istore 4 d_Mo_calmReach_35 (Nat.le_of_ble_eq_true rfl) rfl ?_
      refine gw_iload 4 d_Mo_calmReach_37 rfl ?_
      refine gw_iload_n 3 d_Mo_calmReach_39 rfl rfl ?_
      obtain ⟨g5, h⟩ := h
      obtain ⟨g6, h⟩ := h
      refine gw_invS (as := [.inl z1, .inl v3]) (rest := []) (d' := (d + 3)) d_Mo_calmReach_40 lk_Mo_109 rfl (Nat.le_of_ble_eq_true rfl) (Nat.le_of_ble_eq_true rfl) rfl rfl (s_Mo_isInside g5 g6 ?_)
      show ga_W G (d + 4) mt_Mo_calmReach 43 [some (.inr 348), some (.inl v1), some (.inl v2), some (.inl v3), some (.inl z1), none, none, none] [.inl (ga_bb (decide (0 ≤ z1 - v3 ∧ z1 + v3 ≤ 1000)))] I1 E
      refine gw_ifb_ne 49 d_Mo_calmReach_43 (by decide) (fun hc => ?_) (fun hc => ?_)
      · have h := h.1 (of_decide_eq_true hc)
        refine gw_aload_n 0 d_Mo_calmReach_49 rfl rfl ?_
        refine gw_iload_n 1 d_Mo_calmReach_50 rfl rfl ?_
        refine gw_iload_n 2 d_Mo_calmReach_51 rfl rfl ?_
        refine gw_iconst d_Mo_calmReach_52 ?_
        obtain ⟨g7, h⟩ := h
        refine gw_invV (as := [.inl v1, .inl v2, .inl 1]) (k := 348) (rest := []) (d' := (d + 3)) d_Mo_calmReach_53 lk_Mo_63 (ga_rcv (ga_oM) rfl rfl) rfl (Nat.le_of_ble_eq_true rfl) (Nat.le_of_ble_eq_true rfl) rfl rfl (s_Mo_ofBorder g2 g3 g7 ?_)
        show ga_W G (d + 4) mt_Mo_calmReach 56 [some (.inr 348), some (.inl v1), some (.inl v2), some (.inl v3), some (.inl z1), none, none, none] [.inl (ms_b (I1 349) v1 v2 (1 : Int))] I1 E
        refine gw_nz (z := ms_b (I1 349) v1 v2 (1 : Int)) (fun z2 q3 => ?_)
        have h := h z2 q3
        refine gw_if_eq 62 d_Mo_calmReach_56 (by decide) (by rw [q3]; exact (hI2 _ _)) (fun hc => ?_) (fun hc => ?_)
        · have h := h.1 hc
          refine gw_aload_n 0 d_Mo_calmReach_62 rfl rfl ?_
          refine gw_iload_n 1 d_Mo_calmReach_63 rfl rfl ?_
          refine gw_iload_n 2 d_Mo_calmReach_64 rfl rfl ?_
          refine gw_iconst d_Mo_calmReach_65 ?_
          obtain ⟨g8, h⟩ := h
          refine gw_invV (as := [.inl v1, .inl v2, .inl 2]) (k := 348) (rest := []) (d' := (d + 3)) d_Mo_calmReach_66 lk_Mo_63 (ga_rcv (ga_oM) rfl rfl) rfl (Nat.le_of_ble_eq_true rfl) (Nat.le_of_ble_eq_true rfl) rfl rfl (s_Mo_ofBorder g2 g3 g8 ?_)
          show ga_W G (d + 4) mt_Mo_calmReach 69 [some (.inr 348), some (.inl v1), some (.inl v2), some (.inl v3), some (.inl z1), none, none, none] [.inl (ms_b (I1 349) v1 v2 (2 : Int))] I1 E
          refine gw_nz (z := ms_b (I1 349) v1 v2 (2 : Int)) (fun z3 q4 => ?_)
          have h := h z3 q4
          refine gw_istore 5 d_Mo_calmReach_69 (Nat.le_of_ble_eq_true rfl) rfl ?_
          refine gw_ldc (n := (-2000000009)) d_Mo_calmReach_71 kw_Mo_67 (by decide +kernel) ?_
          refine gw_istore 6 d_Mo_calmReach_73 (Nat.le_of_ble_eq_true rfl) rfl ?_
          refine gw_iconst d_Mo_calmReach_75 ?_
          refine gw_istore 7 d_Mo_calmReach_76 (Nat.le_of_ble_eq_true rfl) rfl ?_
          exact gw_le h (by exact ⟨rfl, ⟨rfl, ⟨rfl, ⟨rfl, ⟨rfl, ⟨rfl, ⟨rfl, ⟨rfl, trivial⟩⟩⟩⟩⟩⟩⟩⟩)
        · have h := h.2 hc
          refine gw_ldc (n := (-2000000002)) d_Mo_calmReach_59 kw_Mo_117 (by decide +kernel) ?_
          exact gw_ireturn d_Mo_calmReach_61 rfl h
      · have h := h.2 (of_decide_eq_false hc)
        refine gw_ldc (n := (-2000000001)) d_Mo_calmReach_46 kw_Mo_112 (by decide +kernel) ?_
        exact gw_ireturn d_Mo_calmReach_48 rfl h
    · have h := h.2 (of_decide_eq_false hc)
      refine gw_ldc (n := (-2000000001)) d_Mo_calmReach_25 kw_Mo_112 (by decide +kernel) ?_
      exact gw_ireturn d_Mo_calmReach_27 rfl h
theorem k_Mo_calmReach_78 {G : ga_G} {d : Nat} {I : ga_I} {E : Option ga_V → ga_I → Prop} {v1 : Int} {v2 : Int} {v3 : Int} {v4 : Int} {v5 : Int} {v6 : Int} {v7 : Int} (r2 : ga_rg v2) (r4 : ga_rg v4) (r5 : ga_rg v5) (r6 : ga_rg v6) (r7 : ga_rg v7)
    (h : ga_RG I → ((100 < v7) → (0 ≤ v1 ∧ v1 ≤ 1) ∧ ((0 ≤ v2 ∧ v2 ≤ 6) ∧ ((∀ I1 : ga_I, I1 = (mx_sb I v1 v2 v4 (0 : Int) v5) → E (some (.inl v6)) I1)))) ∧ ((¬ (100 < v7)) → ((v6 ≠ (-2000000009)) → (0 ≤ v1 ∧ v1 ≤ 1) ∧ ((0 ≤ v2 ∧ v2 ≤ 6) ∧ ((∀ I2 : ga_I, I2 = (mx_sb I v1 v2 v4 (0 : Int) v5) → E (some (.inl v6)) I2)))) ∧ ((v6 = (-2000000009)) → (ga_rg (v4 - v7)) ∧ ((ga_rg (v4 + v7)) ∧ (((¬ (0 ≤ v4 - v7 ∧ v4 + v7 ≤ 1000)) → ga_W G (d + 4) mt_Mo_calmReach 78 [some (.inr 348), some (.inl v1), some (.inl v2), some (.inl v3), some (.inl v4), some (.inl v5), some (.inl v6), some (.inl (v7 + 1))] [] I E) ∧ ((0 ≤ v4 - v7 ∧ v4 + v7 ≤ 1000) → (mo_ok I v1) ∧ ((0 ≤ v1 ∧ v1 ≤ 1) ∧ ((-3000 ≤ v4 ∧ v4 ≤ 3000) ∧ ((-3000 ≤ v7 ∧ v7 ≤ 3000) ∧ ((((!gp_fr (ms_p (I 349) v1) (ms_r (I 349) v1) v4 v7 v2 (ms_n (I 349) v1).toNat) = true) → ga_W G (d + 4) mt_Mo_calmReach 78 [some (.inr 348), some (.inl v1), some (.inl v2), some (.inl v3), some (.inl v4), some (.inl v5), some (.inl v6), some (.inl (v7 + 1))] [] I E) ∧ (((!gp_fr (ms_p (I 349) v1) (ms_r (I 349) v1) v4 v7 v2 (ms_n (I 349) v1).toNat) = false) → (0 ≤ v2 ∧ v2 ≤ 6) ∧ ((∀ I3 : ga_I, I3 = (mx_sb I v1 v2 v4 (0 : Int) v7) → (0 ≤ (234 + v1)) ∧ (((234 + v1) < 1120) ∧ ((mo_n I3) ∧ ((∀ z1 : Int, z1 = gp_zo (ms_p (I3 349) v1) (ms_q (I3 349) v1) (I3 349 (234 + v1).toNat) (ms_n (I3 349) v1).toNat → (mo_ok I3 v1) ∧ ((0 ≤ z1 ∧ z1 ≤ gp_ct (gp_sk (ms_q (I3 349) v1)) (ms_n (I3 349) v1).toNat) ∧ ((0 ≤ (100 : Int) ∧ (100 : Int) ≤ 100) ∧ ((ga_rg (v4 + v3)) ∧ ((ga_rg (v4 - v3)) ∧ ((∀ z2 : Int, z2 = (gp_zc (ms_p (I3 349) v1) (ms_q (I3 349) v1) (ms_r (I3 349) v1) (ms_n (I3 349) v1).toNat z1 v4 v3 (100 : Int).toNat).1 → (ga_rg z2) ∧ (((1 < z2) → ga_W G (d + 4) mt_Mo_calmReach 78 [some (.inr 348), some (.inl v1), some (.inl v2), some (.inl v3), some (.inl v4), some (.inl v5), some (.inl (-2000000009)), some (.inl (v7 + 1))] [] I3 E) ∧ ((¬ (1 < z2)) → ga_W G (d + 4) mt_Mo_calmReach 78 [some (.inr 348), some (.inl v1), some (.inl v2), some (.inl v3), some (.inl v4), some (.inl v5), some (.inl v7), some (.inl (v7 + 1))] [] I3 E))))))))))))))))))))))))) :
    ga_W G (d + 4) mt_Mo_calmReach 78 [some (.inr 348), some (.inl v1), some (.inl v2), some (.inl v3), some (.inl v4), some (.inl v5), some (.inl v6), some (.inl v7)] [] I E := by
  refine gw_RG (fun hI1 => ?_)
  have h := h hI1
  refine gw_iload 7 d_Mo_calmReach_78 rfl ?_
  refine gw_bipush d_Mo_calmReach_80 (by decide +kernel) ?_
  refine gw_icmp_gt 170 d_Mo_calmReach_82 (by decide) r7 ⟨by decide, by decide⟩ (fun hc => ?_) (fun hc => ?_)
  · have h := h.1 hc
    refine gw_aload_n 0 d_Mo_calmReach_170 rfl rfl ?_
    refine gw_iload_n 1 d_Mo_calmReach_171 rfl rfl ?_
    refine gw_iload_n 2 d_Mo_calmReach_172 rfl rfl ?_
    refine gw_iload 4 d_Mo_calmReach_173 rfl ?_
    refine gw_iconst d_Mo_calmReach_175 ?_
    refine gw_iload 5 d_Mo_calmReach_176 rfl ?_
    obtain ⟨g1, h⟩ := h
    obtain ⟨g2, h⟩ := h
    refine gw_invV (as := [.inl v1, .inl v2, .inl v4, .inl 0, .inl v5]) (k := 348) (rest := []) (d' := (d + 3)) d_Mo_calmReach_178 lk_Mo_92 (ga_rcv (ga_oM) rfl rfl) rfl (Nat.le_of_ble_eq_true rfl) (Nat.le_of_ble_eq_true rfl) rfl rfl (s_Mo_setBorder g1 g2 r4 ⟨by decide, by decide⟩ r5 ?_)
    show ga_W G (d + 4) mt_Mo_calmReach 181 [some (.inr 348), some (.inl v1), some (.inl v2), some (.inl v3), some (.inl v4), some (.inl v5), some (.inl v6), some (.inl v7)] [] (mx_sb I v1 v2 v4 (0 : Int) v5) E
    refine gw_nm (fun I1 q1 => ?_)
    have h := h I1 q1
    refine gw_RG (fun hI2 => ?_)
    refine gw_iload 6 d_Mo_calmReach_181 rfl ?_
    exact gw_ireturn d_Mo_calmReach_183 rfl h
  · have h := h.2 hc
    refine gw_iload 6 d_Mo_calmReach_85 rfl ?_
    refine gw_ldc (n := (-2000000009)) d_Mo_calmReach_87 kw_Mo_67 (by decide +kernel) ?_
    refine gw_icmp_ne 170 d_Mo_calmReach_89 (by decide) r6 ⟨by decide, by decide⟩ (fun hc => ?_) (fun hc => ?_)
    · have h := h.1 hc
      refine gw_aload_n 0 d_Mo_calmReach_170 rfl rfl ?_
      refine gw_iload_n 1 d_Mo_calmReach_171 rfl rfl ?_
      refine gw_iload_n 2 d_Mo_calmReach_172 rfl rfl ?_
      refine gw_iload 4 d_Mo_calmReach_173 rfl ?_
      refine gw_iconst d_Mo_calmReach_175 ?_
      refine gw_iload 5 d_Mo_calmReach_176 rfl ?_
      obtain ⟨g3, h⟩ := h
      obtain ⟨g4, h⟩ := h
      refine gw_invV (as := [.inl v1, .inl v2, .inl v4, .inl 0, .inl v5]) (k := 348) (rest := []) (d' := (d + 3)) d_Mo_calmReach_178 lk_Mo_92 (ga_rcv (ga_oM) rfl rfl) rfl (Nat.le_of_ble_eq_true rfl) (Nat.le_of_ble_eq_true rfl) rfl rfl (s_Mo_setBorder g3 g4 r4 ⟨by decide, by decide⟩ r5 ?_)
      show ga_W G (d + 4) mt_Mo_calmReach 181 [some (.inr 348), some (.inl v1), some (.inl v2), some (.inl v3), some (.inl v4), some (.inl v5), some (.inl v6), some (.inl v7)] [] (mx_sb I v1 v2 v4 (0 : Int) v5) E
      refine gw_nm (fun I2 q2 => ?_)
      have h := h I2 q2
      refine gw_RG (fun hI3 => ?_)
      refine gw_iload 6 d_Mo_calmReach_181 rfl ?_
      exact gw_ireturn d_Mo_calmReach_183 rfl h
    · have h := h.2 hc
      refine gw_iload 4 d_Mo_calmReach_92 rfl ?_
      refine gw_iload 7 d_Mo_calmReach_94 rfl ?_
      obtain ⟨g5, h⟩ := h
      obtain ⟨g6, h⟩ := h
      refine gw_invS (as := [.inl v4, .inl v7]) (rest := []) (d' := (d + 3)) d_Mo_calmReach_96 lk_Mo_109 rfl (Nat.le_of_ble_eq_true rfl) (Nat.le_of_ble_eq_true rfl) rfl rfl (s_Mo_isInside g5 g6 ?_)
      show ga_W G (d + 4) mt_Mo_calmReach 99 [some (.inr 348), some (.inl v1), some (.inl v2), some (.inl v3), some (.inl v4), some (.inl v5), some (.inl v6), some (.inl v7)] [.inl (ga_bb (decide (0 ≤ v4 - v7 ∧ v4 + v7 ≤ 1000)))] I E
      refine gw_ifb_eq 164 d_Mo_calmReach_99 (by decide) (fun hc => ?_) (fun hc => ?_)
      · have h := h.1 (of_decide_eq_false hc)
        refine gw_iinc 7 d_Mo_calmReach_164 rfl rfl ?_
        refine gw_goto 78 d_Mo_calmReach_167 (by decide) ?_
        exact gw_le h (by exact ⟨rfl, ⟨rfl, ⟨rfl, ⟨rfl, ⟨rfl, ⟨rfl, ⟨rfl, ⟨rfl, trivial⟩⟩⟩⟩⟩⟩⟩⟩)
      · have h := h.2 (of_decide_eq_true hc)
        refine gw_aload_n 0 d_Mo_calmReach_102 rfl rfl ?_
        refine gw_iload_n 1 d_Mo_calmReach_103 rfl rfl ?_
        refine gw_iload 4 d_Mo_calmReach_104 rfl ?_
        refine gw_iload 7 d_Mo_calmReach_106 rfl ?_
        refine gw_iload_n 2 d_Mo_calmReach_108 rfl rfl ?_
        obtain ⟨g7, h⟩ := h
        obtain ⟨g8, h⟩ := h
        obtain ⟨g9, h⟩ := h
        obtain ⟨g10, h⟩ := h
        refine gw_invV (as := [.inl v1, .inl v4, .inl v7, .inl v2]) (k := 348) (rest := []) (d' := (d + 3)) d_Mo_calmReach_109 lk_Mo_113 (ga_rcv (ga_oM) rfl rfl) rfl (Nat.le_of_ble_eq_true rfl) (Nat.le_of_ble_eq_true rfl) rfl rfl (s_Mo_isOccupied g7 g8 g9 g10 r2 ?_)
        show ga_W G (d + 4) mt_Mo_calmReach 112 [some (.inr 348), some (.inl v1), some (.inl v2), some (.inl v3), some (.inl v4), some (.inl v5), some (.inl v6), some (.inl v7)] [.inl (ga_bb (!gp_fr (ms_p (I 349) v1) (ms_r (I 349) v1) v4 v7 v2 (ms_n (I 349) v1).toNat))] I E
        refine gw_ifb_ne 164 d_Mo_calmReach_112 (by decide) (fun hc => ?_) (fun hc => ?_)
        · have h := h.1 (hc)
          refine gw_iinc 7 d_Mo_calmReach_164 rfl rfl ?_
          refine gw_goto 78 d_Mo_calmReach_167 (by decide) ?_
          exact gw_le h (by exact ⟨rfl, ⟨rfl, ⟨rfl, ⟨rfl, ⟨rfl, ⟨rfl, ⟨rfl, ⟨rfl, trivial⟩⟩⟩⟩⟩⟩⟩⟩)
        · have h := h.2 (hc)
          refine gw_aload_n 0 d_Mo_calmReach_115 rfl rfl ?_
          refine gw_iload_n 1 d_Mo_calmReach_116 rfl rfl ?_
          refine gw_iload_n 2 d_Mo_calmReach_117 rfl rfl ?_
          refine gw_iload 4 d_Mo_calmReach_118 rfl ?_
          refine gw_iconst d_Mo_calmReach_120 ?_
          refine gw_iload 7 d_Mo_calmReach_121 rfl ?_
          obtain ⟨g11, h⟩ := h
          refine gw_invV (as := [.inl v1, .inl v2, .inl v4, .inl 0, .inl v7]) (k := 348) (rest := []) (d' := (d + 3)) d_Mo_calmReach_123 lk_Mo_92 (ga_rcv (ga_oM) rfl rfl) rfl (Nat.le_of_ble_eq_true rfl) (Nat.le_of_ble_eq_true rfl) rfl rfl (s_Mo_setBorder g8 g11 r4 ⟨by decide, by decide⟩ r7 ?_)
          show ga_W G (d + 4) mt_Mo_calmReach 126 [some (.inr 348), some (.inl v1), some (.inl v2), some (.inl v3), some (.inl v4), some (.inl v5), some (.inl v6), some (.inl v7)] [] (mx_sb I v1 v2 v4 (0 : Int) v7) E
          refine gw_nm (fun I3 q3 => ?_)
          have h := h I3 q3
          refine gw_RG (fun hI4 => ?_)
          refine gw_aload_n 0 d_Mo_calmReach_126 rfl rfl ?_
          refine gw_iload_n 1 d_Mo_calmReach_127 rfl rfl ?_
          refine gw_aload_n 0 d_Mo_calmReach_128 rfl rfl ?_
          refine gw_iload_n 1 d_Mo_calmReach_129 rfl rfl ?_
          refine gw_aload_n 0 d_Mo_calmReach_130 rfl rfl ?_
          refine gw_getR d_Mo_calmReach_131 fl_Mo_7 (ga_oM) rfl ?_
          refine gw_sipush d_Mo_calmReach_134 (by decide +kernel) ?_
          refine gw_iload_n 1 d_Mo_calmReach_137 rfl rfl ?_
          refine gw_iadd d_Mo_calmReach_138 ?_
          obtain ⟨g12, h⟩ := h
          obtain ⟨g13, h⟩ := h
          refine gw_iald d_Mo_calmReach_139 (ga_aM1) g12 g13 ?_
          obtain ⟨g14, h⟩ := h
          refine gw_invV (as := [.inl v1, .inl (I3 349 (234 + v1).toNat)]) (k := 348) (rest := [.inl v1, .inr 348]) (d' := (d + 3)) d_Mo_calmReach_140 lk_Mo_68 (ga_rcv (ga_oM) rfl rfl) rfl (Nat.le_of_ble_eq_true rfl) (Nat.le_of_ble_eq_true rfl) rfl rfl (s_Mo_zoneOf g14 g8 (hI4 _ _) ?_)
          show ga_W G (d + 4) mt_Mo_calmReach 143 [some (.inr 348), some (.inl v1), some (.inl v2), some (.inl v3), some (.inl v4), some (.inl v5), some (.inl v6), some (.inl v7)] [.inl (gp_zo (ms_p (I3 349) v1) (ms_q (I3 349) v1) (I3 349 (234 + v1).toNat) (ms_n (I3 349) v1).toNat), .inl v1, .inr 348] I3 E
          refine gw_nz (z := gp_zo (ms_p (I3 349) v1) (ms_q (I3 349) v1) (I3 349 (234 + v1).toNat) (ms_n (I3 349) v1).toNat) (fun z1 q4 => ?_)
          have h := h z1 q4
          refine gw_iload 4 d_Mo_calmReach_143 rfl ?_
          refine gw_iload_n 3 d_Mo_calmReach_145 rfl rfl ?_
          refine gw_bipush d_Mo_calmReach_146 (by decide +kernel) ?_
          obtain ⟨g15, h⟩ := h
          obtain ⟨g16, h⟩ := h
          obtain ⟨g17, h⟩ := h
          obtain ⟨g18, h⟩ := h
          obtain ⟨g19, h⟩ := h
          refine gw_invV (as := [.inl v1, .inl z1, .inl v4, .inl v3, .inl 100]) (k := 348) (rest := []) (d' := (d + 3)) d_Mo_calmReach_148 lk_Mo_239 (ga_rcv (ga_oM) rfl rfl) rfl (Nat.le_of_ble_eq_true rfl) (Nat.le_of_ble_eq_true rfl) rfl rfl (s_Mo_chatters g15 g14 g8 g16 g17 g18 g19 ?_)
          show ga_W G (d + 4) mt_Mo_calmReach 151 [some (.inr 348), some (.inl v1), some (.inl v2), some (.inl v3), some (.inl v4), some (.inl v5), some (.inl v6), some (.inl v7)] [.inl ((gp_zc (ms_p (I3 349) v1) (ms_q (I3 349) v1) (ms_r (I3 349) v1) (ms_n (I3 349) v1).toNat z1 v4 v3 (100 : Int).toNat).1)] I3 E
          refine gw_nz (z := (gp_zc (ms_p (I3 349) v1) (ms_q (I3 349) v1) (ms_r (I3 349) v1) (ms_n (I3 349) v1).toNat z1 v4 v3 (100 : Int).toNat).1) (fun z2 q5 => ?_)
          have h := h z2 q5
          refine gw_iconst d_Mo_calmReach_151 ?_
          obtain ⟨g20, h⟩ := h
          refine gw_icmp_gt 160 d_Mo_calmReach_152 (by decide) g20 ⟨by decide, by decide⟩ (fun hc => ?_) (fun hc => ?_)
          · have h := h.1 hc
            refine gw_ldc (n := (-2000000009)) d_Mo_calmReach_160 kw_Mo_67 (by decide +kernel) ?_
            refine gw_istore 6 d_Mo_calmReach_162 (Nat.le_of_ble_eq_true rfl) rfl ?_
            refine gw_iinc 7 d_Mo_calmReach_164 rfl rfl ?_
            refine gw_goto 78 d_Mo_calmReach_167 (by decide) ?_
            exact gw_le h (by exact ⟨rfl, ⟨rfl, ⟨rfl, ⟨rfl, ⟨rfl, ⟨rfl, ⟨rfl, ⟨rfl, trivial⟩⟩⟩⟩⟩⟩⟩⟩)
          · have h := h.2 hc
            refine gw_iload 7 d_Mo_calmReach_155 rfl ?_
            refine gw_goto 162 d_Mo_calmReach_157 (by decide) ?_
            refine gw_istore 6 d_Mo_calmReach_162 (Nat.le_of_ble_eq_true rfl) rfl ?_
            refine gw_iinc 7 d_Mo_calmReach_164 rfl rfl ?_
            refine gw_goto 78 d_Mo_calmReach_167 (by decide) ?_
            exact gw_le h (by exact ⟨rfl, ⟨rfl, ⟨rfl, ⟨rfl, ⟨rfl, ⟨rfl, ⟨rfl, ⟨rfl, trivial⟩⟩⟩⟩⟩⟩⟩⟩)

theorem k_Mo_steepest_0 {G : ga_G} {d : Nat} {I : ga_I} {E : Option ga_V → ga_I → Prop} {v1 : Int} {v2 : Int} {v3 : Int} (r1 : ga_rg v1) (r2 : ga_rg v2) (r3 : ga_rg v3)
    (h : ga_RG I → (∀ I1 : ga_I, I1 = (ga_up I 348 0 0) → ((¬ (0 ≤ v1 ∧ v1 ≤ 1)) → E (some (.inl (-2000000001))) I1) ∧ ((0 ≤ v1 ∧ v1 ≤ 1) → ((¬ ((0 : Int) ≤ v2 ∧ v2 ≤ (2 : Int))) → E (some (.inl (-2000000001))) I1) ∧ (((0 : Int) ≤ v2 ∧ v2 ≤ (2 : Int)) → (((0 : Int) ≤ v3 ∧ v3 ≤ (1 : Int)) → ((v1 ≠ 0) → (mo_ok I1 0) ∧ ((mo_ok I1 1) ∧ ((mo_g I1) ∧ ((0 ≤ (I1 349 234) ∧ (I1 349 234) ≤ 1000) ∧ ((0 ≤ (0 : Int) ∧ (0 : Int) ≤ 1000) ∧ ((0 ≤ v2 ∧ v2 ≤ 2) ∧ ((∀ I2 : ga_I, gr_vt I1 I2 → ga_W G (d + 4) mt_Mo_steepest 79 [some (.inr 348), some (.inl v1), some (.inl v2), some (.inl v3), some (.inl (-1)), some (.inl 0), some (.inl (mp_vt (I1 349) (I1 349 234) (0 : Int) v2)), some (.inl 0), none] [] I2 E)))))))) ∧ ((v1 = 0) → (mo_ok I1 0) ∧ ((mo_ok I1 1) ∧ ((mo_g I1) ∧ ((0 ≤ (0 : Int) ∧ (0 : Int) ≤ 1000) ∧ ((0 ≤ (I1 349 235) ∧ (I1 349 235) ≤ 1000) ∧ ((0 ≤ v2 ∧ v2 ≤ 2) ∧ ((∀ I3 : ga_I, gr_vt I1 I3 → ga_W G (d + 4) mt_Mo_steepest 79 [some (.inr 348), some (.inl v1), some (.inl v2), some (.inl v3), some (.inl (-1)), some (.inl 0), some (.inl (mp_vt (I1 349) (0 : Int) (I1 349 235) v2)), some (.inl 0), none] [] I3 E))))))))) ∧ ((¬ ((0 : Int) ≤ v3 ∧ v3 ≤ (1 : Int))) → E (some (.inl (-2000000001))) I1))))) :
    ga_W G (d + 4) mt_Mo_steepest 0 (ga_en 9 [.inr 348, .inl v1, .inl v2, .inl v3]) [] I E := by
  show ga_W G (d + 4) mt_Mo_steepest 0 [some (.inr 348), some (.inl v1), some (.inl v2), some (.inl v3), none, none, none, none, none] [] I E
  refine gw_RG (fun hI1 => ?_)
  have h := h hI1
  refine gw_aload_n 0 d_Mo_steepest_0 rfl rfl ?_
  refine gw_iconst d_Mo_steepest_1 ?_
  refine gw_putI d_Mo_steepest_2 fp_Mo_37 (ga_oM) rfl ?_
  show ga_W G (d + 4) mt_Mo_steepest 5 [some (.inr 348), some (.inl v1), some (.inl v2), some (.inl v3), none, none, none, none, none] [] (ga_up I 348 0 (ga_wr 0)) E
  rw [ga_wr_eq (z := 0) ⟨by decide, by decide⟩]
  refine gw_nm (J := (ga_up I 348 0 0)) (fun I1 q1 => ?_)
  have h := h I1 q1
  refine gw_RG (fun hI2 => ?_)
  refine gw_iload_n 1 d_Mo_steepest_5 rfl rfl ?_
  refine gw_invS (as := [.inl v1]) (rest := []) (d' := (d + 3)) d_Mo_steepest_6 lk_Mo_51 rfl (Nat.le_of_ble_eq_true rfl) (Nat.le_of_ble_eq_true rfl) rfl rfl (s_Mo_isAxis r1 ?_)
  show ga_W G (d + 4) mt_Mo_steepest 9 [some (.inr 348), some (.inl v1), some (.inl v2), some (.inl v3), none, none, none, none, none] [.inl (ga_bb (decide (0 ≤ v1 ∧ v1 ≤ 1)))] I1 E
  refine gw_ifb_eq 30 d_Mo_steepest_9 (by decide) (fun hc => ?_) (fun hc => ?_)
  · have h := h.1 (of_decide_eq_false hc)
    refine gw_ldc (n := (-2000000001)) d_Mo_steepest_30 kw_Mo_112 (by decide +kernel) ?_
    exact gw_ireturn d_Mo_steepest_32 rfl h
  · have h := h.2 (of_decide_eq_true hc)
    refine gw_iload_n 2 d_Mo_steepest_12 rfl rfl ?_
    refine gw_iconst d_Mo_steepest_13 ?_
    refine gw_iconst d_Mo_steepest_14 ?_
    refine gw_invS (as := [.inl v2, .inl 0, .inl 2]) (rest := []) (d' := (d + 3)) d_Mo_steepest_15 lk_Mo_47 rfl (Nat.le_of_ble_eq_true rfl) (Nat.le_of_ble_eq_true rfl) rfl rfl (s_Mo_in r2 ⟨by decide, by decide⟩ ⟨by decide, by decide⟩ ?_)
    show ga_W G (d + 4) mt_Mo_steepest 18 [some (.inr 348), some (.inl v1), some (.inl v2), some (.inl v3), none, none, none, none, none] [.inl (ga_bb (decide ((0 : Int) ≤ v2 ∧ v2 ≤ (2 : Int))))] I1 E
    refine gw_ifb_eq 30 d_Mo_steepest_18 (by decide) (fun hc => ?_) (fun hc => ?_)
    · have h := h.1 (of_decide_eq_false hc)
      refine gw_ldc (n := (-2000000001)) d_Mo_steepest_30 kw_Mo_112 (by decide +kernel) ?_
      exact gw_ireturn d_Mo_steepest_32 rfl h
    · have h := h.2 (of_decide_eq_true hc)
      refine gw_iload_n 3 d_Mo_steepest_21 rfl rfl ?_
      refine gw_iconst d_Mo_steepest_22 ?_
      refine gw_iconst d_Mo_steepest_23 ?_
      refine gw_invS (as := [.inl v3, .inl 0, .inl 1]) (rest := []) (d' := (d + 3)) d_Mo_steepest_24 lk_Mo_47 rfl (Nat.le_of_ble_eq_true rfl) (Nat.le_of_ble_eq_true rfl) rfl rfl (s_Mo_in r3 ⟨by decide, by decide⟩ ⟨by decide, by decide⟩ ?_)
      show ga_W G (d + 4) mt_Mo_steepest 27 [some (.inr 348), some (.inl v1), some (.inl v2), some (.inl v3), none, none, none, none, none] [.inl (ga_bb (decide ((0 : Int) ≤ v3 ∧ v3 ≤ (1 : Int))))] I1 E
      refine gw_ifb_ne 33 d_Mo_steepest_27 (by decide) (fun hc => ?_) (fun hc => ?_)
      · have h := h.1 (of_decide_eq_true hc)
        refine gw_iconst d_Mo_steepest_33 ?_
        refine gw_istore 4 d_Mo_steepest_34 (Nat.le_of_ble_eq_true rfl) rfl ?_
        refine gw_iconst d_Mo_steepest_36 ?_
        refine gw_istore 5 d_Mo_steepest_37 (Nat.le_of_ble_eq_true rfl) rfl ?_
        refine gw_iload_n 1 d_Mo_steepest_39 rfl rfl ?_
        refine gw_if_ne 60 d_Mo_steepest_40 (by decide) r1 (fun hc => ?_) (fun hc => ?_)
        · have h := h.1 hc
          refine gw_aload_n 0 d_Mo_steepest_60 rfl rfl ?_
          refine gw_aload_n 0 d_Mo_steepest_61 rfl rfl ?_
          refine gw_getR d_Mo_steepest_62 fl_Mo_7 (ga_oM) rfl ?_
          refine gw_sipush d_Mo_steepest_65 (by decide +kernel) ?_
          refine gw_iald d_Mo_steepest_68 (ga_aM1) (by decide) (by decide) ?_
          refine gw_iconst d_Mo_steepest_69 ?_
          refine gw_iload_n 2 d_Mo_steepest_70 rfl rfl ?_
          obtain ⟨g1, h⟩ := h
          obtain ⟨g2, h⟩ := h
          obtain ⟨g3, h⟩ := h
          obtain ⟨g4, h⟩ := h
          obtain ⟨g5, h⟩ := h
          obtain ⟨g6, h⟩ := h
          refine gw_invV (as := [.inl (I1 349 234), .inl 0, .inl v2]) (k := 348) (rest := []) (d' := (d + 3)) d_Mo_steepest_71 lk_Mo_236 (ga_rcv (ga_oM) rfl rfl) rfl (Nat.le_of_ble_eq_true rfl) (Nat.le_of_ble_eq_true rfl) rfl rfl (s_Mo_valueThere g1 g2 g3 g4 g5 g6 (fun I2 q2 => ?_))
          have h := h I2 q2
          show ga_W G (d + 4) mt_Mo_steepest 74 [some (.inr 348), some (.inl v1), some (.inl v2), some (.inl v3), some (.inl (-1)), some (.inl 0), none, none, none] [.inl (mp_vt (I1 349) (I1 349 234) (0 : Int) v2)] I2 E
          refine gw_RG (fun hI3 => ?_)
          refine gw_istore 6 d_Mo_steepest_74 (Nat.le_of_ble_eq_true rfl) rfl ?_
          refine gw_iconst d_Mo_steepest_76 ?_
          refine gw_istore 7 d_Mo_steepest_77 (Nat.le_of_ble_eq_true rfl) rfl ?_
          exact gw_le h (by exact ⟨rfl, ⟨rfl, ⟨rfl, ⟨rfl, ⟨rfl, ⟨rfl, ⟨rfl, ⟨rfl, trivial⟩⟩⟩⟩⟩⟩⟩⟩)
        · have h := h.2 hc
          refine gw_aload_n 0 d_Mo_steepest_43 rfl rfl ?_
          refine gw_iconst d_Mo_steepest_44 ?_
          refine gw_aload_n 0 d_Mo_steepest_45 rfl rfl ?_
          refine gw_getR d_Mo_steepest_46 fl_Mo_7 (ga_oM) rfl ?_
          refine gw_sipush d_Mo_steepest_49 (by decide +kernel) ?_
          refine gw_iald d_Mo_steepest_52 (ga_aM1) (by decide) (by decide) ?_
          refine gw_iload_n 2 d_Mo_steepest_53 rfl rfl ?_
          obtain ⟨g7, h⟩ := h
          obtain ⟨g8, h⟩ := h
          obtain ⟨g9, h⟩ := h
          obtain ⟨g10, h⟩ := h
          obtain ⟨g11, h⟩ := h
          obtain ⟨g12, h⟩ := h
          refine gw_invV (as := [.inl 0, .inl (I1 349 235), .inl v2]) (k := 348) (rest := []) (d' := (d + 3)) d_Mo_steepest_54 lk_Mo_236 (ga_rcv (ga_oM) rfl rfl) rfl (Nat.le_of_ble_eq_true rfl) (Nat.le_of_ble_eq_true rfl) rfl rfl (s_Mo_valueThere g7 g8 g9 g10 g11 g12 (fun I3 q3 => ?_))
          have h := h I3 q3
          show ga_W G (d + 4) mt_Mo_steepest 57 [some (.inr 348), some (.inl v1), some (.inl v2), some (.inl v3), some (.inl (-1)), some (.inl 0), none, none, none] [.inl (mp_vt (I1 349) (0 : Int) (I1 349 235) v2)] I3 E
          refine gw_RG (fun hI4 => ?_)
          refine gw_goto 74 d_Mo_steepest_57 (by decide) ?_
          refine gw_istore 6 d_Mo_steepest_74 (Nat.le_of_ble_eq_true rfl) rfl ?_
          refine gw_iconst d_Mo_steepest_76 ?_
          refine gw_istore 7 d_Mo_steepest_77 (Nat.le_of_ble_eq_true rfl) rfl ?_
          exact gw_le h (by exact ⟨rfl, ⟨rfl, ⟨rfl, ⟨rfl, ⟨rfl, ⟨rfl, ⟨rfl, ⟨rfl, trivial⟩⟩⟩⟩⟩⟩⟩⟩)
      · have h := h.2 (of_decide_eq_false hc)
        refine gw_ldc (n := (-2000000001)) d_Mo_steepest_30 kw_Mo_112 (by decide +kernel) ?_
        exact gw_ireturn d_Mo_steepest_32 rfl h
theorem k_Mo_steepest_79 {G : ga_G} {d : Nat} {I : ga_I} {E : Option ga_V → ga_I → Prop} {v1 : Int} {v2 : Int} {v3 : Int} {v4 : Int} {v5 : Int} {v6 : Int} {v7 : Int} (r1 : ga_rg v1) (r3 : ga_rg v3) (r4 : ga_rg v4) (r6 : ga_rg v6) (r7 : ga_rg v7)
    (h : ga_RG I → ((1000 ≤ v7) → ((v3 ≠ 0) → E (some (.inl v5)) I) ∧ ((v3 = 0) → E (some (.inl v4)) I)) ∧ ((¬ (1000 ≤ v7)) → ((v1 ≠ 0) → (mo_ok I 0) ∧ ((mo_ok I 1) ∧ ((mo_g I) ∧ ((0 ≤ (I 349 234) ∧ (I 349 234) ≤ 1000) ∧ ((0 ≤ (v7 + 1) ∧ (v7 + 1) ≤ 1000) ∧ ((0 ≤ v2 ∧ v2 ≤ 2) ∧ ((∀ I1 : ga_I, gr_vt I I1 → (ga_rg (mp_vt (I 349) (I 349 234) (v7 + 1) v2)) ∧ ((∀ z1 : Int, z1 = (((mp_vt (I 349) (I 349 234) (v7 + 1) v2) - v6).natAbs : Int) → (ga_rg z1) ∧ (((z1 ≤ v4) → (∀ z2 : Int, z2 = (((mp_vt (I 349) (I 349 234) (v7 + 1) v2) - v6).natAbs : Int) → (ga_rg z2) ∧ (((z2 ≤ v4) → ga_W G (d + 4) mt_Mo_steepest 79 [some (.inr 348), some (.inl v1), some (.inl v2), some (.inl v3), some (.inl v4), some (.inl v5), some (.inl (mp_vt (I 349) (I 349 234) (v7 + 1) v2)), some (.inl (v7 + 1)), none] [] I1 E) ∧ ((¬ (z2 ≤ v4)) → (∀ z3 : Int, z3 = (((mp_vt (I 349) (I 349 234) (v7 + 1) v2) - v6).natAbs : Int) → ga_W G (d + 4) mt_Mo_steepest 79 [some (.inr 348), some (.inl v1), some (.inl v2), some (.inl v3), some (.inl z3), some (.inl v5), some (.inl (mp_vt (I 349) (I 349 234) (v7 + 1) v2)), some (.inl (v7 + 1)), none] [] I1 E))))) ∧ ((¬ (z1 ≤ v4)) → (∀ z4 : Int, z4 = (((mp_vt (I 349) (I 349 234) (v7 + 1) v2) - v6).natAbs : Int) → (ga_rg z4) ∧ (((z4 ≤ v4) → ga_W G (d + 4) mt_Mo_steepest 79 [some (.inr 348), some (.inl v1), some (.inl v2), some (.inl v3), some (.inl v4), some (.inl v7), some (.inl (mp_vt (I 349) (I 349 234) (v7 + 1) v2)), some (.inl (v7 + 1)), none] [] I1 E) ∧ ((¬ (z4 ≤ v4)) → (∀ z5 : Int, z5 = (((mp_vt (I 349) (I 349 234) (v7 + 1) v2) - v6).natAbs : Int) → ga_W G (d + 4) mt_Mo_steepest 79 [some (.inr 348), some (.inl v1), some (.inl v2), some (.inl v3), some (.inl z5), some (.inl v7), some (.inl (mp_vt (I 349) (I 349 234) (v7 + 1) v2)), some (.inl (v7 + 1)), none] [] I1 E)))))))))))))))) ∧ ((v1 = 0) → (mo_ok I 0) ∧ ((mo_ok I 1) ∧ ((mo_g I) ∧ ((0 ≤ (v7 + 1) ∧ (v7 + 1) ≤ 1000) ∧ ((0 ≤ (I 349 235) ∧ (I 349 235) ≤ 1000) ∧ ((0 ≤ v2 ∧ v2 ≤ 2) ∧ ((∀ I2 : ga_I, gr_vt I I2 → (ga_rg (mp_vt (I 349) (v7 + 1) (I 349 235) v2)) ∧ ((∀ z6 : Int, z6 = (((mp_vt (I 349) (v7 + 1) (I 349 235) v2) - v6).natAbs : Int) → (ga_rg z6) ∧ (((z6 ≤ v4) → (∀ z7 : Int, z7 = (((mp_vt (I 349) (v7 + 1) (I 349 235) v2) - v6).natAbs : Int) → (ga_rg z7) ∧ (((z7 ≤ v4) → ga_W G (d + 4) mt_Mo_steepest 79 [some (.inr 348), some (.inl v1), some (.inl v2), some (.inl v3), some (.inl v4), some (.inl v5), some (.inl (mp_vt (I 349) (v7 + 1) (I 349 235) v2)), some (.inl (v7 + 1)), none] [] I2 E) ∧ ((¬ (z7 ≤ v4)) → (∀ z8 : Int, z8 = (((mp_vt (I 349) (v7 + 1) (I 349 235) v2) - v6).natAbs : Int) → ga_W G (d + 4) mt_Mo_steepest 79 [some (.inr 348), some (.inl v1), some (.inl v2), some (.inl v3), some (.inl z8), some (.inl v5), some (.inl (mp_vt (I 349) (v7 + 1) (I 349 235) v2)), some (.inl (v7 + 1)), none] [] I2 E))))) ∧ ((¬ (z6 ≤ v4)) → (∀ z9 : Int, z9 = (((mp_vt (I 349) (v7 + 1) (I 349 235) v2) - v6).natAbs : Int) → (ga_rg z9) ∧ (((z9 ≤ v4) → ga_W G (d + 4) mt_Mo_steepest 79 [some (.inr 348), some (.inl v1), some (.inl v2), some (.inl v3), some (.inl v4), some (.inl v7), some (.inl (mp_vt (I 349) (v7 + 1) (I 349 235) v2)), some (.inl (v7 + 1)), none] [] I2 E) ∧ ((¬ (z9 ≤ v4)) → (∀ z10 : Int, z10 = (((mp_vt (I 349) (v7 + 1) (I 349 235) v2) - v6).natAbs : Int) → ga_W G (d + 4) mt_Mo_steepest 79 [some (.inr 348), some (.inl v1), some (.inl v2), some (.inl v3), some (.inl z10), some (.inl v7), some (.inl (mp_vt (I 349) (v7 + 1) (I 349 235) v2)), some (.inl (v7 + 1)), none] [] I2 E)))))))))))))))))) :
    ga_W G (d + 4) mt_Mo_steepest 79 [some (.inr 348), some (.inl v1), some (.inl v2), some (.inl v3), some (.inl v4), some (.inl v5), some (.inl v6), some (.inl v7), none] [] I E := by
  refine gw_RG (fun hI1 => ?_)
  have h := h hI1
  refine gw_iload 7 d_Mo_steepest_79 rfl ?_
  refine gw_sipush d_Mo_steepest_81 (by decide +kernel) ?_
  refine gw_icmp_ge 187 d_Mo_steepest_84 (by decide) r7 ⟨by decide, by decide⟩ (fun hc => ?_) (fun hc => ?_)
  · have h := h.1 hc
    refine gw_iload_n 3 d_Mo_steepest_187 rfl rfl ?_
    refine gw_if_ne 196 d_Mo_steepest_188 (by decide) r3 (fun hc => ?_) (fun hc => ?_)
    · have h := h.1 hc
      refine gw_iload 5 d_Mo_steepest_196 rfl ?_
      exact gw_ireturn d_Mo_steepest_198 rfl h
    · have h := h.2 hc
      refine gw_iload 4 d_Mo_steepest_191 rfl ?_
      refine gw_goto 198 d_Mo_steepest_193 (by decide) ?_
      exact gw_ireturn d_Mo_steepest_198 rfl h
  · have h := h.2 hc
    refine gw_iload_n 1 d_Mo_steepest_87 rfl rfl ?_
    refine gw_if_ne 111 d_Mo_steepest_88 (by decide) r1 (fun hc => ?_) (fun hc => ?_)
    · have h := h.1 hc
      refine gw_aload_n 0 d_Mo_steepest_111 rfl rfl ?_
      refine gw_aload_n 0 d_Mo_steepest_112 rfl rfl ?_
      refine gw_getR d_Mo_steepest_113 fl_Mo_7 (ga_oM) rfl ?_
      refine gw_sipush d_Mo_steepest_116 (by decide +kernel) ?_
      refine gw_iald d_Mo_steepest_119 (ga_aM1) (by decide) (by decide) ?_
      refine gw_iload 7 d_Mo_steepest_120 rfl ?_
      refine gw_iconst d_Mo_steepest_122 ?_
      refine gw_iadd d_Mo_steepest_123 ?_
      refine gw_iload_n 2 d_Mo_steepest_124 rfl rfl ?_
      obtain ⟨g1, h⟩ := h
      obtain ⟨g2, h⟩ := h
      obtain ⟨g3, h⟩ := h
      obtain ⟨g4, h⟩ := h
      obtain ⟨g5, h⟩ := h
      obtain ⟨g6, h⟩ := h
      refine gw_invV (as := [.inl (I 349 234), .inl (v7 + 1), .inl v2]) (k := 348) (rest := []) (d' := (d + 3)) d_Mo_steepest_125 lk_Mo_236 (ga_rcv (ga_oM) rfl rfl) rfl (Nat.le_of_ble_eq_true rfl) (Nat.le_of_ble_eq_true rfl) rfl rfl (s_Mo_valueThere g1 g2 g3 g4 g5 g6 (fun I1 q1 => ?_))
      have h := h I1 q1
      show ga_W G (d + 4) mt_Mo_steepest 128 [some (.inr 348), some (.inl v1), some (.inl v2), some (.inl v3), some (.inl v4), some (.inl v5), some (.inl v6), some (.inl v7), none] [.inl (mp_vt (I 349) (I 349 234) (v7 + 1) v2)] I1 E
      refine gw_RG (fun hI2 => ?_)
      refine gw_istore 8 d_Mo_steepest_128 (Nat.le_of_ble_eq_true rfl) rfl ?_
      refine gw_iload 8 d_Mo_steepest_130 rfl ?_
      refine gw_iload 6 d_Mo_steepest_132 rfl ?_
      obtain ⟨g7, h⟩ := h
      refine gw_invS (as := [.inl (mp_vt (I 349) (I 349 234) (v7 + 1) v2), .inl v6]) (rest := []) (d' := (d + 3)) d_Mo_steepest_134 lk_Mo_85 rfl (Nat.le_of_ble_eq_true rfl) (Nat.le_of_ble_eq_true rfl) rfl rfl (s_Mo_apart g7 r6 ?_)
      show ga_W G (d + 4) mt_Mo_steepest 137 [some (.inr 348), some (.inl v1), some (.inl v2), some (.inl v3), some (.inl v4), some (.inl v5), some (.inl v6), some (.inl v7), some (.inl (mp_vt (I 349) (I 349 234) (v7 + 1) v2))] [.inl (((mp_vt (I 349) (I 349 234) (v7 + 1) v2) - v6).natAbs : Int)] I1 E
      refine gw_nz (z := (((mp_vt (I 349) (I 349 234) (v7 + 1) v2) - v6).natAbs : Int)) (fun z1 q2 => ?_)
      have h := h z1 q2
      refine gw_iload 4 d_Mo_steepest_137 rfl ?_
      obtain ⟨g8, h⟩ := h
      refine gw_icmp_le 147 d_Mo_steepest_139 (by decide) g8 r4 (fun hc => ?_) (fun hc => ?_)
      · have h := h.1 hc
        refine gw_iload 5 d_Mo_steepest_147 rfl ?_
        refine gw_istore 5 d_Mo_steepest_149 (Nat.le_of_ble_eq_true rfl) rfl ?_
        refine gw_iload 8 d_Mo_steepest_151 rfl ?_
        refine gw_iload 6 d_Mo_steepest_153 rfl ?_
        refine gw_invS (as := [.inl (mp_vt (I 349) (I 349 234) (v7 + 1) v2), .inl v6]) (rest := []) (d' := (d + 3)) d_Mo_steepest_155 lk_Mo_85 rfl (Nat.le_of_ble_eq_true rfl) (Nat.le_of_ble_eq_true rfl) rfl rfl (s_Mo_apart g7 r6 ?_)
        show ga_W G (d + 4) mt_Mo_steepest 158 [some (.inr 348), some (.inl v1), some (.inl v2), some (.inl v3), some (.inl v4), some (.inl v5), some (.inl v6), some (.inl v7), some (.inl (mp_vt (I 349) (I 349 234) (v7 + 1) v2))] [.inl (((mp_vt (I 349) (I 349 234) (v7 + 1) v2) - v6).natAbs : Int)] I1 E
        refine gw_nz (z := (((mp_vt (I 349) (I 349 234) (v7 + 1) v2) - v6).natAbs : Int)) (fun z2 q3 => ?_)
        have h := h z2 q3
        refine gw_iload 4 d_Mo_steepest_158 rfl ?_
        obtain ⟨g9, h⟩ := h
        refine gw_icmp_le 173 d_Mo_steepest_160 (by decide) g9 r4 (fun hc => ?_) (fun hc => ?_)
        · have h := h.1 hc
          refine gw_iload 4 d_Mo_steepest_173 rfl ?_
          refine gw_istore 4 d_Mo_steepest_175 (Nat.le_of_ble_eq_true rfl) rfl ?_
          refine gw_iload 8 d_Mo_steepest_177 rfl ?_
          refine gw_istore 6 d_Mo_steepest_179 (Nat.le_of_ble_eq_true rfl) rfl ?_
          refine gw_iinc 7 d_Mo_steepest_181 rfl rfl ?_
          refine gw_goto 79 d_Mo_steepest_184 (by decide) ?_
          exact gw_le h (by exact ⟨rfl, ⟨rfl, ⟨rfl, ⟨rfl, ⟨rfl, ⟨rfl, ⟨rfl, ⟨rfl, trivial⟩⟩⟩⟩⟩⟩⟩⟩)
        · have h := h.2 hc
          refine gw_iload 8 d_Mo_steepest_163 rfl ?_
          refine gw_iload 6 d_Mo_steepest_165 rfl ?_
          refine gw_invS (as := [.inl (mp_vt (I 349) (I 349 234) (v7 + 1) v2), .inl v6]) (rest := []) (d' := (d + 3)) d_Mo_steepest_167 lk_Mo_85 rfl (Nat.le_of_ble_eq_true rfl) (Nat.le_of_ble_eq_true rfl) rfl rfl (s_Mo_apart g7 r6 ?_)
          show ga_W G (d + 4) mt_Mo_steepest 170 [some (.inr 348), some (.inl v1), some (.inl v2), some (.inl v3), some (.inl v4), some (.inl v5), some (.inl v6), some (.inl v7), some (.inl (mp_vt (I 349) (I 349 234) (v7 + 1) v2))] [.inl (((mp_vt (I 349) (I 349 234) (v7 + 1) v2) - v6).natAbs : Int)] I1 E
          refine gw_nz (z := (((mp_vt (I 349) (I 349 234) (v7 + 1) v2) - v6).natAbs : Int)) (fun z3 q4 => ?_)
          have h := h z3 q4
          refine gw_goto 175 d_Mo_steepest_170 (by decide) ?_
          refine gw_istore 4 d_Mo_steepest_175 (Nat.le_of_ble_eq_true rfl) rfl ?_
          refine gw_iload 8 d_Mo_steepest_177 rfl ?_
          refine gw_istore 6 d_Mo_steepest_179 (Nat.le_of_ble_eq_true rfl) rfl ?_
          refine gw_iinc 7 d_Mo_steepest_181 rfl rfl ?_
          refine gw_goto 79 d_Mo_steepest_184 (by decide) ?_
          exact gw_le h (by exact ⟨rfl, ⟨rfl, ⟨rfl, ⟨rfl, ⟨rfl, ⟨rfl, ⟨rfl, ⟨rfl, trivial⟩⟩⟩⟩⟩⟩⟩⟩)
      · have h := h.2 hc
        refine gw_iload 7 d_Mo_steepest_142 rfl ?_
        refine gw_goto 149 d_Mo_steepest_144 (by decide) ?_
        refine gw_istore 5 d_Mo_steepest_149 (Nat.le_of_ble_eq_true rfl) rfl ?_
        refine gw_iload 8 d_Mo_steepest_151 rfl ?_
        refine gw_iload 6 d_Mo_steepest_153 rfl ?_
        refine gw_invS (as := [.inl (mp_vt (I 349) (I 349 234) (v7 + 1) v2), .inl v6]) (rest := []) (d' := (d + 3)) d_Mo_steepest_155 lk_Mo_85 rfl (Nat.le_of_ble_eq_true rfl) (Nat.le_of_ble_eq_true rfl) rfl rfl (s_Mo_apart g7 r6 ?_)
        show ga_W G (d + 4) mt_Mo_steepest 158 [some (.inr 348), some (.inl v1), some (.inl v2), some (.inl v3), some (.inl v4), some (.inl v7), some (.inl v6), some (.inl v7), some (.inl (mp_vt (I 349) (I 349 234) (v7 + 1) v2))] [.inl (((mp_vt (I 349) (I 349 234) (v7 + 1) v2) - v6).natAbs : Int)] I1 E
        refine gw_nz (z := (((mp_vt (I 349) (I 349 234) (v7 + 1) v2) - v6).natAbs : Int)) (fun z4 q5 => ?_)
        have h := h z4 q5
        refine gw_iload 4 d_Mo_steepest_158 rfl ?_
        obtain ⟨g10, h⟩ := h
        refine gw_icmp_le 173 d_Mo_steepest_160 (by decide) g10 r4 (fun hc => ?_) (fun hc => ?_)
        · have h := h.1 hc
          refine gw_iload 4 d_Mo_steepest_173 rfl ?_
          refine gw_istore 4 d_Mo_steepest_175 (Nat.le_of_ble_eq_true rfl) rfl ?_
          refine gw_iload 8 d_Mo_steepest_177 rfl ?_
          refine gw_istore 6 d_Mo_steepest_179 (Nat.le_of_ble_eq_true rfl) rfl ?_
          refine gw_iinc 7 d_Mo_steepest_181 rfl rfl ?_
          refine gw_goto 79 d_Mo_steepest_184 (by decide) ?_
          exact gw_le h (by exact ⟨rfl, ⟨rfl, ⟨rfl, ⟨rfl, ⟨rfl, ⟨rfl, ⟨rfl, ⟨rfl, trivial⟩⟩⟩⟩⟩⟩⟩⟩)
        · have h := h.2 hc
          refine gw_iload 8 d_Mo_steepest_163 rfl ?_
          refine gw_iload 6 d_Mo_steepest_165 rfl ?_
          refine gw_invS (as := [.inl (mp_vt (I 349) (I 349 234) (v7 + 1) v2), .inl v6]) (rest := []) (d' := (d + 3)) d_Mo_steepest_167 lk_Mo_85 rfl (Nat.le_of_ble_eq_true rfl) (Nat.le_of_ble_eq_true rfl) rfl rfl (s_Mo_apart g7 r6 ?_)
          show ga_W G (d + 4) mt_Mo_steepest 170 [some (.inr 348), some (.inl v1), some (.inl v2), some (.inl v3), some (.inl v4), some (.inl v7), some (.inl v6), some (.inl v7), some (.inl (mp_vt (I 349) (I 349 234) (v7 + 1) v2))] [.inl (((mp_vt (I 349) (I 349 234) (v7 + 1) v2) - v6).natAbs : Int)] I1 E
          refine gw_nz (z := (((mp_vt (I 349) (I 349 234) (v7 + 1) v2) - v6).natAbs : Int)) (fun z5 q6 => ?_)
          have h := h z5 q6
          refine gw_goto 175 d_Mo_steepest_170 (by decide) ?_
          refine gw_istore 4 d_Mo_steepest_175 (Nat.le_of_ble_eq_true rfl) rfl ?_
          refine gw_iload 8 d_Mo_steepest_177 rfl ?_
          refine gw_istore 6 d_Mo_steepest_179 (Nat.le_of_ble_eq_true rfl) rfl ?_
          refine gw_iinc 7 d_Mo_steepest_181 rfl rfl ?_
          refine gw_goto 79 d_Mo_steepest_184 (by decide) ?_
          exact gw_le h (by exact ⟨rfl, ⟨rfl, ⟨rfl, ⟨rfl, ⟨rfl, ⟨rfl, ⟨rfl, ⟨rfl, trivial⟩⟩⟩⟩⟩⟩⟩⟩)
    · have h := h.2 hc
      refine gw_aload_n 0 d_Mo_steepest_91 rfl rfl ?_
      refine gw_iload 7 d_Mo_steepest_92 rfl ?_
      refine gw_iconst d_Mo_steepest_94 ?_
      refine gw_iadd d_Mo_steepest_95 ?_
      refine gw_aload_n 0 d_Mo_steepest_96 rfl rfl ?_
      refine gw_getR d_Mo_steepest_97 fl_Mo_7 (ga_oM) rfl ?_
      refine gw_sipush d_Mo_steepest_100 (by decide +kernel) ?_
      refine gw_iald d_Mo_steepest_103 (ga_aM1) (by decide) (by decide) ?_
      refine gw_iload_n 2 d_Mo_steepest_104 rfl rfl ?_
      obtain ⟨g11, h⟩ := h
      obtain ⟨g12, h⟩ := h
      obtain ⟨g13, h⟩ := h
      obtain ⟨g14, h⟩ := h
      obtain ⟨g15, h⟩ := h
      obtain ⟨g16, h⟩ := h
      refine gw_invV (as := [.inl (v7 + 1), .inl (I 349 235), .inl v2]) (k := 348) (rest := []) (d' := (d + 3)) d_Mo_steepest_105 lk_Mo_236 (ga_rcv (ga_oM) rfl rfl) rfl (Nat.le_of_ble_eq_true rfl) (Nat.le_of_ble_eq_true rfl) rfl rfl (s_Mo_valueThere g11 g12 g13 g14 g15 g16 (fun I2 q7 => ?_))
      have h := h I2 q7
      show ga_W G (d + 4) mt_Mo_steepest 108 [some (.inr 348), some (.inl v1), some (.inl v2), some (.inl v3), some (.inl v4), some (.inl v5), some (.inl v6), some (.inl v7), none] [.inl (mp_vt (I 349) (v7 + 1) (I 349 235) v2)] I2 E
      refine gw_RG (fun hI3 => ?_)
      refine gw_goto 128 d_Mo_steepest_108 (by decide) ?_
      refine gw_istore 8 d_Mo_steepest_128 (Nat.le_of_ble_eq_true rfl) rfl ?_
      refine gw_iload 8 d_Mo_steepest_130 rfl ?_
      refine gw_iload 6 d_Mo_steepest_132 rfl ?_
      obtain ⟨g17, h⟩ := h
      refine gw_invS (as := [.inl (mp_vt (I 349) (v7 + 1) (I 349 235) v2), .inl v6]) (rest := []) (d' := (d + 3)) d_Mo_steepest_134 lk_Mo_85 rfl (Nat.le_of_ble_eq_true rfl) (Nat.le_of_ble_eq_true rfl) rfl rfl (s_Mo_apart g17 r6 ?_)
      show ga_W G (d + 4) mt_Mo_steepest 137 [some (.inr 348), some (.inl v1), some (.inl v2), some (.inl v3), some (.inl v4), some (.inl v5), some (.inl v6), some (.inl v7), some (.inl (mp_vt (I 349) (v7 + 1) (I 349 235) v2))] [.inl (((mp_vt (I 349) (v7 + 1) (I 349 235) v2) - v6).natAbs : Int)] I2 E
      refine gw_nz (z := (((mp_vt (I 349) (v7 + 1) (I 349 235) v2) - v6).natAbs : Int)) (fun z6 q8 => ?_)
      have h := h z6 q8
      refine gw_iload 4 d_Mo_steepest_137 rfl ?_
      obtain ⟨g18, h⟩ := h
      refine gw_icmp_le 147 d_Mo_steepest_139 (by decide) g18 r4 (fun hc => ?_) (fun hc => ?_)
      · have h := h.1 hc
        refine gw_iload 5 d_Mo_steepest_147 rfl ?_
        refine gw_istore 5 d_Mo_steepest_149 (Nat.le_of_ble_eq_true rfl) rfl ?_
        refine gw_iload 8 d_Mo_steepest_151 rfl ?_
        refine gw_iload 6 d_Mo_steepest_153 rfl ?_
        refine gw_invS (as := [.inl (mp_vt (I 349) (v7 + 1) (I 349 235) v2), .inl v6]) (rest := []) (d' := (d + 3)) d_Mo_steepest_155 lk_Mo_85 rfl (Nat.le_of_ble_eq_true rfl) (Nat.le_of_ble_eq_true rfl) rfl rfl (s_Mo_apart g17 r6 ?_)
        show ga_W G (d + 4) mt_Mo_steepest 158 [some (.inr 348), some (.inl v1), some (.inl v2), some (.inl v3), some (.inl v4), some (.inl v5), some (.inl v6), some (.inl v7), some (.inl (mp_vt (I 349) (v7 + 1) (I 349 235) v2))] [.inl (((mp_vt (I 349) (v7 + 1) (I 349 235) v2) - v6).natAbs : Int)] I2 E
        refine gw_nz (z := (((mp_vt (I 349) (v7 + 1) (I 349 235) v2) - v6).natAbs : Int)) (fun z7 q9 => ?_)
        have h := h z7 q9
        refine gw_iload 4 d_Mo_steepest_158 rfl ?_
        obtain ⟨g19, h⟩ := h
        refine gw_icmp_le 173 d_Mo_steepest_160 (by decide) g19 r4 (fun hc => ?_) (fun hc => ?_)
        · have h := h.1 hc
          refine gw_iload 4 d_Mo_steepest_173 rfl ?_
          refine gw_istore 4 d_Mo_steepest_175 (Nat.le_of_ble_eq_true rfl) rfl ?_
          refine gw_iload 8 d_Mo_steepest_177 rfl ?_
          refine gw_istore 6 d_Mo_steepest_179 (Nat.le_of_ble_eq_true rfl) rfl ?_
          refine gw_iinc 7 d_Mo_steepest_181 rfl rfl ?_
          refine gw_goto 79 d_Mo_steepest_184 (by decide) ?_
          exact gw_le h (by exact ⟨rfl, ⟨rfl, ⟨rfl, ⟨rfl, ⟨rfl, ⟨rfl, ⟨rfl, ⟨rfl, trivial⟩⟩⟩⟩⟩⟩⟩⟩)
        · have h := h.2 hc
          refine gw_iload 8 d_Mo_steepest_163 rfl ?_
          refine gw_iload 6 d_Mo_steepest_165 rfl ?_
          refine gw_invS (as := [.inl (mp_vt (I 349) (v7 + 1) (I 349 235) v2), .inl v6]) (rest := []) (d' := (d + 3)) d_Mo_steepest_167 lk_Mo_85 rfl (Nat.le_of_ble_eq_true rfl) (Nat.le_of_ble_eq_true rfl) rfl rfl (s_Mo_apart g17 r6 ?_)
          show ga_W G (d + 4) mt_Mo_steepest 170 [some (.inr 348), some (.inl v1), some (.inl v2), some (.inl v3), some (.inl v4), some (.inl v5), some (.inl v6), some (.inl v7), some (.inl (mp_vt (I 349) (v7 + 1) (I 349 235) v2))] [.inl (((mp_vt (I 349) (v7 + 1) (I 349 235) v2) - v6).natAbs : Int)] I2 E
          refine gw_nz (z := (((mp_vt (I 349) (v7 + 1) (I 349 235) v2) - v6).natAbs : Int)) (fun z8 q10 => ?_)
          have h := h z8 q10
          refine gw_goto 175 d_Mo_steepest_170 (by decide) ?_
          refine gw_istore 4 d_Mo_steepest_175 (Nat.le_of_ble_eq_true rfl) rfl ?_
          refine gw_iload 8 d_Mo_steepest_177 rfl ?_
          refine gw_istore 6 d_Mo_steepest_179 (Nat.le_of_ble_eq_true rfl) rfl ?_
          refine gw_iinc 7 d_Mo_steepest_181 rfl rfl ?_
          refine gw_goto 79 d_Mo_steepest_184 (by decide) ?_
          exact gw_le h (by exact ⟨rfl, ⟨rfl, ⟨rfl, ⟨rfl, ⟨rfl, ⟨rfl, ⟨rfl, ⟨rfl, trivial⟩⟩⟩⟩⟩⟩⟩⟩)
      · have h := h.2 hc
        refine gw_iload 7 d_Mo_steepest_142 rfl ?_
        refine gw_goto 149 d_Mo_steepest_144 (by decide) ?_
        refine gw_istore 5 d_Mo_steepest_149 (Nat.le_of_ble_eq_true rfl) rfl ?_
        refine gw_iload 8 d_Mo_steepest_151 rfl ?_
        refine gw_iload 6 d_Mo_steepest_153 rfl ?_
        refine gw_invS (as := [.inl (mp_vt (I 349) (v7 + 1) (I 349 235) v2), .inl v6]) (rest := []) (d' := (d + 3)) d_Mo_steepest_155 lk_Mo_85 rfl (Nat.le_of_ble_eq_true rfl) (Nat.le_of_ble_eq_true rfl) rfl rfl (s_Mo_apart g17 r6 ?_)
        show ga_W G (d + 4) mt_Mo_steepest 158 [some (.inr 348), some (.inl v1), some (.inl v2), some (.inl v3), some (.inl v4), some (.inl v7), some (.inl v6), some (.inl v7), some (.inl (mp_vt (I 349) (v7 + 1) (I 349 235) v2))] [.inl (((mp_vt (I 349) (v7 + 1) (I 349 235) v2) - v6).natAbs : Int)] I2 E
        refine gw_nz (z := (((mp_vt (I 349) (v7 + 1) (I 349 235) v2) - v6).natAbs : Int)) (fun z9 q11 => ?_)
        have h := h z9 q11
        refine gw_iload 4 d_Mo_steepest_158 rfl ?_
        obtain ⟨g20, h⟩ := h
        refine gw_icmp_le 173 d_Mo_steepest_160 (by decide) g20 r4 (fun hc => ?_) (fun hc => ?_)
        · have h := h.1 hc
          refine gw_iload 4 d_Mo_steepest_173 rfl ?_
          refine gw_istore 4 d_Mo_steepest_175 (Nat.le_of_ble_eq_true rfl) rfl ?_
          refine gw_iload 8 d_Mo_steepest_177 rfl ?_
          refine gw_istore 6 d_Mo_steepest_179 (Nat.le_of_ble_eq_true rfl) rfl ?_
          refine gw_iinc 7 d_Mo_steepest_181 rfl rfl ?_
          refine gw_goto 79 d_Mo_steepest_184 (by decide) ?_
          exact gw_le h (by exact ⟨rfl, ⟨rfl, ⟨rfl, ⟨rfl, ⟨rfl, ⟨rfl, ⟨rfl, ⟨rfl, trivial⟩⟩⟩⟩⟩⟩⟩⟩)
        · have h := h.2 hc
          refine gw_iload 8 d_Mo_steepest_163 rfl ?_
          refine gw_iload 6 d_Mo_steepest_165 rfl ?_
          refine gw_invS (as := [.inl (mp_vt (I 349) (v7 + 1) (I 349 235) v2), .inl v6]) (rest := []) (d' := (d + 3)) d_Mo_steepest_167 lk_Mo_85 rfl (Nat.le_of_ble_eq_true rfl) (Nat.le_of_ble_eq_true rfl) rfl rfl (s_Mo_apart g17 r6 ?_)
          show ga_W G (d + 4) mt_Mo_steepest 170 [some (.inr 348), some (.inl v1), some (.inl v2), some (.inl v3), some (.inl v4), some (.inl v7), some (.inl v6), some (.inl v7), some (.inl (mp_vt (I 349) (v7 + 1) (I 349 235) v2))] [.inl (((mp_vt (I 349) (v7 + 1) (I 349 235) v2) - v6).natAbs : Int)] I2 E
          refine gw_nz (z := (((mp_vt (I 349) (v7 + 1) (I 349 235) v2) - v6).natAbs : Int)) (fun z10 q12 => ?_)
          have h := h z10 q12
          refine gw_goto 175 d_Mo_steepest_170 (by decide) ?_
          refine gw_istore 4 d_Mo_steepest_175 (Nat.le_of_ble_eq_true rfl) rfl ?_
          refine gw_iload 8 d_Mo_steepest_177 rfl ?_
          refine gw_istore 6 d_Mo_steepest_179 (Nat.le_of_ble_eq_true rfl) rfl ?_
          refine gw_iinc 7 d_Mo_steepest_181 rfl rfl ?_
          refine gw_goto 79 d_Mo_steepest_184 (by decide) ?_
          exact gw_le h (by exact ⟨rfl, ⟨rfl, ⟨rfl, ⟨rfl, ⟨rfl, ⟨rfl, ⟨rfl, ⟨rfl, trivial⟩⟩⟩⟩⟩⟩⟩⟩)

