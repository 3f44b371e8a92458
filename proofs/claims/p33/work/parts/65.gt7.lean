theorem k_GT_count_0 {G : ga_G} {d : Nat} {I : ga_I} {E : Option ga_V → ga_I → Prop} {v1 : Int} (r1 : ga_rg v1)
    (h : ga_RG I → (v1 = 0 → (∀ z1 : Int, z1 = ((I (2 + 1) 0) + 1) * ((I (2 + 5) 0) + 1) → E (some (.inl z1)) I)) ∧ (v1 = 1 → E (some (.inl (I 1 7))) I) ∧ (v1 = 2 → E (some (.inl (I 47 0))) I) ∧ (v1 = 3 → E (some (.inl (I 47 1))) I) ∧ (v1 = 4 → E (some (.inl (I 48 0))) I) ∧ (v1 = 5 → E (some (.inl (I 48 1))) I) ∧ (v1 = 6 → E (some (.inl (I 49 0))) I) ∧ (v1 = 7 → E (some (.inl (I 1 9))) I) ∧ (v1 = 8 → E (some (.inl (I 1 10))) I) ∧ (v1 = 9 → E (some (.inl (I 55 0))) I) ∧ (v1 = 10 → E (some (.inl (I 327 0))) I) ∧ (v1 = 11 → (∀ z2 : Int, z2 = gp_ct (fun j => decide (¬ I (1 + 45) j = 0)) 3 → E (some (.inl z2)) I)) ∧ ((v1 < 0 ∨ 11 < v1) → E (some (.inl (-2000000001))) I)) :
    ga_W G (d + 1) mt_GT_count 0 (ga_en 2 [.inr 0, .inl v1]) [] I E := by
  show ga_W G (d + 1) mt_GT_count 0 [some (.inr 0), some (.inl v1)] [] I E
  refine gw_RG (fun hI1 => ?_)
  have h := h hI1
  refine gw_iload_n 1 d_GT_count_0 rfl rfl ?_
  refine gw_tsw d_GT_count_1 r1 (fun hlo hhi => ?_) (fun hx => ⟨174, by decide, ?_⟩)
  · have hq : v1 = 0 ∨ v1 = 1 ∨ v1 = 2 ∨ v1 = 3 ∨ v1 = 4 ∨ v1 = 5 ∨ v1 = 6 ∨ v1 = 7 ∨ v1 = 8 ∨ v1 = 9 ∨ v1 = 10 ∨ v1 = 11 := by omega
    rcases hq with hq | hq | hq | hq | hq | hq | hq | hq | hq | hq | hq | hq
    · refine ⟨64, 63, ?_, by decide, ?_⟩
      · rw [hq]; rfl
      have h := h.1 hq
      refine gw_aload_n 0 d_GT_count_64 rfl rfl ?_
      refine gw_getR d_GT_count_65 fl_GT_12 (ga_oG) rfl ?_
      refine gw_getR d_GT_count_68 fl_GT_77 (ga_s1.1) rfl ?_
      refine gw_invV (as := []) (k := 2) (rest := []) (d' := d) d_GT_count_71 lk_GT_225 (ga_rcv (ga_s1.2.1.1) rfl rfl) rfl (Nat.le_of_ble_eq_true rfl) (Nat.le_of_ble_eq_true rfl) rfl rfl (s_Table_regions ga_s1.2.1 ?_)
      show ga_W G (d + 1) mt_GT_count 74 [some (.inr 0), some (.inl v1)] [.inl (((I (2 + 1) 0) + 1) * ((I (2 + 5) 0) + 1))] I E
      refine gw_nz (z := ((I (2 + 1) 0) + 1) * ((I (2 + 5) 0) + 1)) (fun z1 q1 => ?_)
      have h := h z1 q1
      exact gw_ireturn d_GT_count_74 rfl h
    · refine ⟨75, 74, ?_, by decide, ?_⟩
      · rw [hq]; rfl
      have h := h.2.1 hq
      refine gw_aload_n 0 d_GT_count_75 rfl rfl ?_
      refine gw_getR d_GT_count_76 fl_GT_12 (ga_oG) rfl ?_
      refine gw_getI d_GT_count_79 fl_GT_191 (ga_s1.1) rfl ?_
      exact gw_ireturn d_GT_count_82 rfl h
    · refine ⟨83, 82, ?_, by decide, ?_⟩
      · rw [hq]; rfl
      have h := h.2.2.1 hq
      refine gw_aload_n 0 d_GT_count_83 rfl rfl ?_
      refine gw_getR d_GT_count_84 fl_GT_12 (ga_oG) rfl ?_
      refine gw_getR d_GT_count_87 fl_GT_200 (ga_s1.1) rfl ?_
      refine gw_iconst d_GT_count_90 ?_
      refine gw_iald d_GT_count_91 (ga_s1.2.2.2.2.2.2.1) (by decide) (by decide) ?_
      exact gw_ireturn d_GT_count_92 rfl h
    · refine ⟨93, 92, ?_, by decide, ?_⟩
      · rw [hq]; rfl
      have h := h.2.2.2.1 hq
      refine gw_aload_n 0 d_GT_count_93 rfl rfl ?_
      refine gw_getR d_GT_count_94 fl_GT_12 (ga_oG) rfl ?_
      refine gw_getR d_GT_count_97 fl_GT_200 (ga_s1.1) rfl ?_
      refine gw_iconst d_GT_count_100 ?_
      refine gw_iald d_GT_count_101 (ga_s1.2.2.2.2.2.2.1) (by decide) (by decide) ?_
      exact gw_ireturn d_GT_count_102 rfl h
    · refine ⟨103, 102, ?_, by decide, ?_⟩
      · rw [hq]; rfl
      have h := h.2.2.2.2.1 hq
      refine gw_aload_n 0 d_GT_count_103 rfl rfl ?_
      refine gw_getR d_GT_count_104 fl_GT_12 (ga_oG) rfl ?_
      refine gw_getR d_GT_count_107 fl_GT_207 (ga_s1.1) rfl ?_
      refine gw_iconst d_GT_count_110 ?_
      refine gw_iald d_GT_count_111 (ga_s1.2.2.2.2.2.2.2.1) (by decide) (by decide) ?_
      exact gw_ireturn d_GT_count_112 rfl h
    · refine ⟨113, 112, ?_, by decide, ?_⟩
      · rw [hq]; rfl
      have h := h.2.2.2.2.2.1 hq
      refine gw_aload_n 0 d_GT_count_113 rfl rfl ?_
      refine gw_getR d_GT_count_114 fl_GT_12 (ga_oG) rfl ?_
      refine gw_getR d_GT_count_117 fl_GT_207 (ga_s1.1) rfl ?_
      refine gw_iconst d_GT_count_120 ?_
      refine gw_iald d_GT_count_121 (ga_s1.2.2.2.2.2.2.2.1) (by decide) (by decide) ?_
      exact gw_ireturn d_GT_count_122 rfl h
    · refine ⟨123, 122, ?_, by decide, ?_⟩
      · rw [hq]; rfl
      have h := h.2.2.2.2.2.2.1 hq
      refine gw_aload_n 0 d_GT_count_123 rfl rfl ?_
      refine gw_getR d_GT_count_124 fl_GT_12 (ga_oG) rfl ?_
      refine gw_getR d_GT_count_127 fl_GT_250 (ga_s1.1) rfl ?_
      refine gw_getI d_GT_count_130 fl_GT_254 (ga_s1.2.2.2.2.2.2.2.2.1.1) rfl ?_
      exact gw_ireturn d_GT_count_133 rfl h
    · refine ⟨134, 133, ?_, by decide, ?_⟩
      · rw [hq]; rfl
      have h := h.2.2.2.2.2.2.2.1 hq
      refine gw_aload_n 0 d_GT_count_134 rfl rfl ?_
      refine gw_getR d_GT_count_135 fl_GT_12 (ga_oG) rfl ?_
      refine gw_getI d_GT_count_138 fl_GT_257 (ga_s1.1) rfl ?_
      exact gw_ireturn d_GT_count_141 rfl h
    · refine ⟨142, 141, ?_, by decide, ?_⟩
      · rw [hq]; rfl
      have h := h.2.2.2.2.2.2.2.2.1 hq
      refine gw_aload_n 0 d_GT_count_142 rfl rfl ?_
      refine gw_getR d_GT_count_143 fl_GT_12 (ga_oG) rfl ?_
      refine gw_getI d_GT_count_146 fl_GT_260 (ga_s1.1) rfl ?_
      exact gw_ireturn d_GT_count_149 rfl h
    · refine ⟨150, 149, ?_, by decide, ?_⟩
      · rw [hq]; rfl
      have h := h.2.2.2.2.2.2.2.2.2.1 hq
      refine gw_aload_n 0 d_GT_count_150 rfl rfl ?_
      refine gw_getR d_GT_count_151 fl_GT_19 (ga_oG) rfl ?_
      refine gw_getI d_GT_count_154 fl_GT_231 (ga_oH) rfl ?_
      exact gw_ireturn d_GT_count_157 rfl h
    · refine ⟨158, 157, ?_, by decide, ?_⟩
      · rw [hq]; rfl
      have h := h.2.2.2.2.2.2.2.2.2.2.1 hq
      refine gw_aload_n 0 d_GT_count_158 rfl rfl ?_
      refine gw_getR d_GT_count_159 fl_GT_26 (ga_oG) rfl ?_
      refine gw_getI d_GT_count_162 fl_GT_235 (ga_oX) rfl ?_
      exact gw_ireturn d_GT_count_165 rfl h
    · refine ⟨166, 165, ?_, by decide, ?_⟩
      · rw [hq]; rfl
      have h := h.2.2.2.2.2.2.2.2.2.2.2.1 hq
      refine gw_aload_n 0 d_GT_count_166 rfl rfl ?_
      refine gw_getR d_GT_count_167 fl_GT_12 (ga_oG) rfl ?_
      refine gw_invV (as := []) (k := 1) (rest := []) (d' := d) d_GT_count_170 lk_GT_263 (ga_rcv (ga_s1.1) rfl rfl) rfl (Nat.le_of_ble_eq_true rfl) (Nat.le_of_ble_eq_true rfl) rfl rfl (s_State_placesTaken ga_s1 ?_)
      show ga_W G (d + 1) mt_GT_count 173 [some (.inr 0), some (.inl v1)] [.inl (gp_ct (fun j => decide (¬ I (1 + 45) j = 0)) 3)] I E
      refine gw_nz (z := gp_ct (fun j => decide (¬ I (1 + 45) j = 0)) 3) (fun z2 q2 => ?_)
      have h := h z2 q2
      exact gw_ireturn d_GT_count_173 rfl h
  · have h := h.2.2.2.2.2.2.2.2.2.2.2.2 hx
    refine gw_ldc (n := (-2000000001)) d_GT_count_174 kw_GT_76 (by decide +kernel) ?_
    exact gw_ireturn d_GT_count_176 rfl h

theorem k_GT_axis_0 {G : ga_G} {d : Nat} {I : ga_I} {E : Option ga_V → ga_I → Prop} {v1 : Int} {v2 : Int} (r1 : ga_rg v1) (r2 : ga_rg v2)
    (h : ga_RG I → ((0 ≤ v1 ∧ v1 ≤ 1) → (gb_ok I 3) ∧ ((gb_ok I 7) ∧ ((0 ≤ I 48 0 ∧ I 48 0 ≤ 10) ∧ ((0 ≤ I 48 1 ∧ I 48 1 ≤ 10) ∧ ((0 ≤ I 47 0 ∧ I 47 0 ≤ 1000) ∧ ((0 ≤ I 47 1 ∧ I 47 1 ≤ 1000) ∧ ((∀ I1 : ga_I, I1 = (gx_bp I) → ((v1 ≠ 0) → (v2 = 0 → E (some (.inl (I1 (ga_bo 2 v1) 0))) I1) ∧ (v2 = 1 → (gb_ok I1 (ga_bo 2 v1)) ∧ ((∀ z1 : Int, z1 = gp_zo (I1 ((ga_bo 2 v1) + 1)) (I1 ((ga_bo 2 v1) + 2)) 1000 (I1 (ga_bo 2 v1) 0).toNat + 1 → E (some (.inl z1)) I1))) ∧ (v2 = 2 → E (some (.inl (I1 345 0))) I1) ∧ (v2 = 3 → E (some (.inl (I1 345 1))) I1) ∧ (v2 = 4 → E (some (.inl (I1 345 2))) I1) ∧ (v2 = 5 → E (some (.inl (I1 345 3))) I1) ∧ ((v2 < 0 ∨ 5 < v2) → E (some (.inl (-2000000001))) I1)) ∧ ((v1 = 0) → (v2 = 0 → E (some (.inl (I1 (ga_bo 2 v1) 0))) I1) ∧ (v2 = 1 → (gb_ok I1 (ga_bo 2 v1)) ∧ ((∀ z2 : Int, z2 = gp_zo (I1 ((ga_bo 2 v1) + 1)) (I1 ((ga_bo 2 v1) + 2)) 1000 (I1 (ga_bo 2 v1) 0).toNat + 1 → E (some (.inl z2)) I1))) ∧ (v2 = 2 → E (some (.inl (I1 344 0))) I1) ∧ (v2 = 3 → E (some (.inl (I1 344 1))) I1) ∧ (v2 = 4 → E (some (.inl (I1 344 2))) I1) ∧ (v2 = 5 → E (some (.inl (I1 344 3))) I1) ∧ ((v2 < 0 ∨ 5 < v2) → E (some (.inl (-2000000001))) I1)))))))))) ∧ ((¬ (0 ≤ v1 ∧ v1 ≤ 1)) → E (some (.inl (-2000000001))) I)) :
    ga_W G (d + 4) mt_GT_axis 0 (ga_en 4 [.inr 0, .inl v1, .inl v2]) [] I E := by
  show ga_W G (d + 4) mt_GT_axis 0 [some (.inr 0), some (.inl v1), some (.inl v2), none] [] I E
  refine gw_RG (fun hI1 => ?_)
  have h := h hI1
  refine gw_iload_n 1 d_GT_axis_0 rfl rfl ?_
  refine gw_invS (as := [.inl v1]) (rest := []) (d' := (d + 3)) d_GT_axis_1 lk_GT_61 rfl (Nat.le_of_ble_eq_true rfl) (Nat.le_of_ble_eq_true rfl) rfl rfl (s_GT_isAxis r1 ?_)
  show ga_W G (d + 4) mt_GT_axis 4 [some (.inr 0), some (.inl v1), some (.inl v2), none] [.inl (ga_bb (decide (0 ≤ v1 ∧ v1 ≤ 1)))] I E
  refine gw_ifb_ne 10 d_GT_axis_4 (by decide) (fun hc => ?_) (fun hc => ?_)
  · have h := h.1 (of_decide_eq_true hc)
    refine gw_aload_n 0 d_GT_axis_10 rfl rfl ?_
    obtain ⟨g1, h⟩ := h
    obtain ⟨g2, h⟩ := h
    obtain ⟨g3, h⟩ := h
    obtain ⟨g4, h⟩ := h
    obtain ⟨g5, h⟩ := h
    obtain ⟨g6, h⟩ := h
    refine gw_invV (as := []) (k := 0) (rest := []) (d' := (d + 3)) d_GT_axis_11 lk_GT_266 (ga_rcv (ga_oG) rfl rfl) rfl (Nat.le_of_ble_eq_true rfl) (Nat.le_of_ble_eq_true rfl) rfl rfl (s_GT_blendAtPoint g1 g2 g3 g4 g5 g6 ?_)
    show ga_W G (d + 4) mt_GT_axis 14 [some (.inr 0), some (.inl v1), some (.inl v2), none] [] (gx_bp I) E
    refine gw_nm (fun I1 q1 => ?_)
    have h := h I1 q1
    refine gw_RG (fun hI2 => ?_)
    refine gw_iload_n 1 d_GT_axis_14 rfl rfl ?_
    refine gw_if_ne 25 d_GT_axis_15 (by decide) r1 (fun hc => ?_) (fun hc => ?_)
    · have h := h.1 hc
      refine gw_aload_n 0 d_GT_axis_25 rfl rfl ?_
      refine gw_getR d_GT_axis_26 fl_GT_51 (ga_oG) rfl ?_
      refine gw_astore_n 3 d_GT_axis_29 rfl (Nat.le_of_ble_eq_true rfl) rfl ?_
      refine gw_iload_n 2 d_GT_axis_30 rfl rfl ?_
      refine gw_tsw d_GT_axis_31 r2 (fun hlo hhi => ?_) (fun hx => ⟨118, by decide, ?_⟩)
      · have hq : v2 = 0 ∨ v2 = 1 ∨ v2 = 2 ∨ v2 = 3 ∨ v2 = 4 ∨ v2 = 5 := by omega
        rcases hq with hq | hq | hq | hq | hq | hq
        · refine ⟨68, 37, ?_, by decide, ?_⟩
          · rw [hq]; rfl
          have h := h.1 hq
          refine gw_aload_n 0 d_GT_axis_68 rfl rfl ?_
          refine gw_getR d_GT_axis_69 fl_GT_12 (ga_oG) rfl ?_
          refine gw_getR d_GT_axis_72 fl_GT_77 (ga_s1.1) rfl ?_
          refine gw_iload_n 1 d_GT_axis_75 rfl rfl ?_
          refine gw_invV (as := [.inl v1]) (k := 2) (rest := []) (d' := (d + 3)) d_GT_axis_76 lk_GT_80 (ga_rcv (ga_s1.2.1.1) rfl rfl) rfl (Nat.le_of_ble_eq_true rfl) (Nat.le_of_ble_eq_true rfl) rfl rfl (s_Table_bordersOf ga_s1.2.1 r1 ?_)
          show ga_W G (d + 4) mt_GT_axis 79 [some (.inr 0), some (.inl v1), some (.inl v2), some (.inr 345)] [.inr (ga_bo 2 v1)] I1 E
          refine gw_getI d_GT_axis_79 fl_GT_116 ((ga_bo_B ga_s1.2.1 v1).1) rfl ?_
          exact gw_ireturn d_GT_axis_82 rfl h
        · refine ⟨83, 52, ?_, by decide, ?_⟩
          · rw [hq]; rfl
          have h := h.2.1 hq
          refine gw_aload_n 0 d_GT_axis_83 rfl rfl ?_
          refine gw_getR d_GT_axis_84 fl_GT_12 (ga_oG) rfl ?_
          refine gw_getR d_GT_axis_87 fl_GT_77 (ga_s1.1) rfl ?_
          refine gw_iload_n 1 d_GT_axis_90 rfl rfl ?_
          refine gw_invV (as := [.inl v1]) (k := 2) (rest := []) (d' := (d + 3)) d_GT_axis_91 lk_GT_80 (ga_rcv (ga_s1.2.1.1) rfl rfl) rfl (Nat.le_of_ble_eq_true rfl) (Nat.le_of_ble_eq_true rfl) rfl rfl (s_Table_bordersOf ga_s1.2.1 r1 ?_)
          show ga_W G (d + 4) mt_GT_axis 94 [some (.inr 0), some (.inl v1), some (.inl v2), some (.inr 345)] [.inr (ga_bo 2 v1)] I1 E
          obtain ⟨g7, h⟩ := h
          refine gw_invV (as := []) (k := (ga_bo 2 v1)) (rest := []) (d' := (d + 3)) d_GT_axis_94 lk_GT_269 (ga_rcv ((ga_bo_B ga_s1.2.1 v1).1) rfl rfl) rfl (Nat.le_of_ble_eq_true rfl) (Nat.le_of_ble_eq_true rfl) rfl rfl (s_Borders_zones (ga_bo_B ga_s1.2.1 v1) g7 ?_)
          show ga_W G (d + 4) mt_GT_axis 97 [some (.inr 0), some (.inl v1), some (.inl v2), some (.inr 345)] [.inl (gp_zo (I1 ((ga_bo 2 v1) + 1)) (I1 ((ga_bo 2 v1) + 2)) 1000 (I1 (ga_bo 2 v1) 0).toNat + 1)] I1 E
          refine gw_nz (z := gp_zo (I1 ((ga_bo 2 v1) + 1)) (I1 ((ga_bo 2 v1) + 2)) 1000 (I1 (ga_bo 2 v1) 0).toNat + 1) (fun z1 q2 => ?_)
          have h := h z1 q2
          exact gw_ireturn d_GT_axis_97 rfl h
        · refine ⟨98, 67, ?_, by decide, ?_⟩
          · rw [hq]; rfl
          have h := h.2.2.1 hq
          refine gw_aload_n 3 d_GT_axis_98 rfl rfl ?_
          refine gw_getI d_GT_axis_99 fl_GT_271 (ga_l345) rfl ?_
          exact gw_ireturn d_GT_axis_102 rfl h
        · refine ⟨103, 72, ?_, by decide, ?_⟩
          · rw [hq]; rfl
          have h := h.2.2.2.1 hq
          refine gw_aload_n 3 d_GT_axis_103 rfl rfl ?_
          refine gw_getI d_GT_axis_104 fl_GT_274 (ga_l345) rfl ?_
          exact gw_ireturn d_GT_axis_107 rfl h
        · refine ⟨108, 77, ?_, by decide, ?_⟩
          · rw [hq]; rfl
          have h := h.2.2.2.2.1 hq
          refine gw_aload_n 3 d_GT_axis_108 rfl rfl ?_
          refine gw_getI d_GT_axis_109 fl_GT_277 (ga_l345) rfl ?_
          exact gw_ireturn d_GT_axis_112 rfl h
        · refine ⟨113, 82, ?_, by decide, ?_⟩
          · rw [hq]; rfl
          have h := h.2.2.2.2.2.1 hq
          refine gw_aload_n 3 d_GT_axis_113 rfl rfl ?_
          refine gw_getI d_GT_axis_114 fl_GT_280 (ga_l345) rfl ?_
          exact gw_ireturn d_GT_axis_117 rfl h
      · have h := h.2.2.2.2.2.2 hx
        refine gw_ldc (n := (-2000000001)) d_GT_axis_118 kw_GT_76 (by decide +kernel) ?_
        exact gw_ireturn d_GT_axis_120 rfl h
    · have h := h.2 hc
      refine gw_aload_n 0 d_GT_axis_18 rfl rfl ?_
      refine gw_getR d_GT_axis_19 fl_GT_47 (ga_oG) rfl ?_
      refine gw_goto 29 d_GT_axis_22 (by decide) ?_
      refine gw_astore_n 3 d_GT_axis_29 rfl (Nat.le_of_ble_eq_true rfl) rfl ?_
      refine gw_iload_n 2 d_GT_axis_30 rfl rfl ?_
      refine gw_tsw d_GT_axis_31 r2 (fun hlo hhi => ?_) (fun hx => ⟨118, by decide, ?_⟩)
      · have hq : v2 = 0 ∨ v2 = 1 ∨ v2 = 2 ∨ v2 = 3 ∨ v2 = 4 ∨ v2 = 5 := by omega
        rcases hq with hq | hq | hq | hq | hq | hq
        · refine ⟨68, 37, ?_, by decide, ?_⟩
          · rw [hq]; rfl
          have h := h.1 hq
          refine gw_aload_n 0 d_GT_axis_68 rfl rfl ?_
          refine gw_getR d_GT_axis_69 fl_GT_12 (ga_oG) rfl ?_
          refine gw_getR d_GT_axis_72 fl_GT_77 (ga_s1.1) rfl ?_
          refine gw_iload_n 1 d_GT_axis_75 rfl rfl ?_
          refine gw_invV (as := [.inl v1]) (k := 2) (rest := []) (d' := (d + 3)) d_GT_axis_76 lk_GT_80 (ga_rcv (ga_s1.2.1.1) rfl rfl) rfl (Nat.le_of_ble_eq_true rfl) (Nat.le_of_ble_eq_true rfl) rfl rfl (s_Table_bordersOf ga_s1.2.1 r1 ?_)
          show ga_W G (d + 4) mt_GT_axis 79 [some (.inr 0), some (.inl v1), some (.inl v2), some (.inr 344)] [.inr (ga_bo 2 v1)] I1 E
          refine gw_getI d_GT_axis_79 fl_GT_116 ((ga_bo_B ga_s1.2.1 v1).1) rfl ?_
          exact gw_ireturn d_GT_axis_82 rfl h
        · refine ⟨83, 52, ?_, by decide, ?_⟩
          · rw [hq]; rfl
          have h := h.2.1 hq
          refine gw_aload_n 0 d_GT_axis_83 rfl rfl ?_
          refine gw_getR d_GT_axis_84 fl_GT_12 (ga_oG) rfl ?_
          refine gw_getR d_GT_axis_87 fl_GT_77 (ga_s1.1) rfl ?_
          refine gw_iload_n 1 d_GT_axis_90 rfl rfl ?_
          refine gw_invV (as := [.inl v1]) (k := 2) (rest := []) (d' := (d + 3)) d_GT_axis_91 lk_GT_80 (ga_rcv (ga_s1.2.1.1) rfl rfl) rfl (Nat.le_of_ble_eq_true rfl) (Nat.le_of_ble_eq_true rfl) rfl rfl (s_Table_bordersOf ga_s1.2.1 r1 ?_)
          show ga_W G (d + 4) mt_GT_axis 94 [some (.inr 0), some (.inl v1), some (.inl v2), some (.inr 344)] [.inr (ga_bo 2 v1)] I1 E
          obtain ⟨g8, h⟩ := h
          refine gw_invV (as := []) (k := (ga_bo 2 v1)) (rest := []) (d' := (d + 3)) d_GT_axis_94 lk_GT_269 (ga_rcv ((ga_bo_B ga_s1.2.1 v1).1) rfl rfl) rfl (Nat.le_of_ble_eq_true rfl) (Nat.le_of_ble_eq_true rfl) rfl rfl (s_Borders_zones (ga_bo_B ga_s1.2.1 v1) g8 ?_)
          show ga_W G (d + 4) mt_GT_axis 97 [some (.inr 0), some (.inl v1), some (.inl v2), some (.inr 344)] [.inl (gp_zo (I1 ((ga_bo 2 v1) + 1)) (I1 ((ga_bo 2 v1) + 2)) 1000 (I1 (ga_bo 2 v1) 0).toNat + 1)] I1 E
          refine gw_nz (z := gp_zo (I1 ((ga_bo 2 v1) + 1)) (I1 ((ga_bo 2 v1) + 2)) 1000 (I1 (ga_bo 2 v1) 0).toNat + 1) (fun z2 q3 => ?_)
          have h := h z2 q3
          exact gw_ireturn d_GT_axis_97 rfl h
        · refine ⟨98, 67, ?_, by decide, ?_⟩
          · rw [hq]; rfl
          have h := h.2.2.1 hq
          refine gw_aload_n 3 d_GT_axis_98 rfl rfl ?_
          refine gw_getI d_GT_axis_99 fl_GT_271 (ga_l344) rfl ?_
          exact gw_ireturn d_GT_axis_102 rfl h
        · refine ⟨103, 72, ?_, by decide, ?_⟩
          · rw [hq]; rfl
          have h := h.2.2.2.1 hq
          refine gw_aload_n 3 d_GT_axis_103 rfl rfl ?_
          refine gw_getI d_GT_axis_104 fl_GT_274 (ga_l344) rfl ?_
          exact gw_ireturn d_GT_axis_107 rfl h
        · refine ⟨108, 77, ?_, by decide, ?_⟩
          · rw [hq]; rfl
          have h := h.2.2.2.2.1 hq
          refine gw_aload_n 3 d_GT_axis_108 rfl rfl ?_
          refine gw_getI d_GT_axis_109 fl_GT_277 (ga_l344) rfl ?_
          exact gw_ireturn d_GT_axis_112 rfl h
        · refine ⟨113, 82, ?_, by decide, ?_⟩
          · rw [hq]; rfl
          have h := h.2.2.2.2.2.1 hq
          refine gw_aload_n 3 d_GT_axis_113 rfl rfl ?_
          refine gw_getI d_GT_axis_114 fl_GT_280 (ga_l344) rfl ?_
          exact gw_ireturn d_GT_axis_117 rfl h
      · have h := h.2.2.2.2.2.2 hx
        refine gw_ldc (n := (-2000000001)) d_GT_axis_118 kw_GT_76 (by decide +kernel) ?_
        exact gw_ireturn d_GT_axis_120 rfl h
  · have h := h.2 (of_decide_eq_false hc)
    refine gw_ldc (n := (-2000000001)) d_GT_axis_7 kw_GT_76 (by decide +kernel) ?_
    exact gw_ireturn d_GT_axis_9 rfl h

theorem k_GT_border_0 {G : ga_G} {d : Nat} {I : ga_I} {E : Option ga_V → ga_I → Prop} {v1 : Int} {v2 : Int} {v3 : Int} (r1 : ga_rg v1) (r2 : ga_rg v2) (r3 : ga_rg v3)
    (h : ga_RG I → ((¬ (0 ≤ v1 ∧ v1 ≤ 1)) → E (some (.inl (-2000000001))) I) ∧ ((0 ≤ v1 ∧ v1 ≤ 1) → ((v2 < 0) → E (some (.inl (-2000000001))) I) ∧ ((¬ (v2 < 0)) → (((0 : Int) ≤ v3 ∧ v3 ≤ (2 : Int)) → ((0 ≤ v2 ∧ v2 < I (ga_bo 2 v1) 0) → (v3 = 0 → (gb_ok I (ga_bo 2 v1)) ∧ ((∀ z1 : Int, z1 = gb_at I (ga_bo 2 v1) ((ga_bo 2 v1) + 1) v2 → E (some (.inl z1)) I))) ∧ (v3 = 1 → (gb_ok I (ga_bo 2 v1)) ∧ ((∀ z2 : Int, z2 = gb_at I (ga_bo 2 v1) ((ga_bo 2 v1) + 2) v2 → E (some (.inl z2)) I))) ∧ ((v3 ≠ 0 ∧ v3 ≠ 1) → (gb_ok I (ga_bo 2 v1)) ∧ ((∀ z3 : Int, z3 = gb_at I (ga_bo 2 v1) ((ga_bo 2 v1) + 3) v2 → E (some (.inl z3)) I)))) ∧ ((¬ (0 ≤ v2 ∧ v2 < I (ga_bo 2 v1) 0)) → E (some (.inl (-2000000009))) I)) ∧ ((¬ ((0 : Int) ≤ v3 ∧ v3 ≤ (2 : Int))) → E (some (.inl (-2000000001))) I)))) :
    ga_W G (d + 2) mt_GT_border 0 (ga_en 5 [.inr 0, .inl v1, .inl v2, .inl v3]) [] I E := by
  show ga_W G (d + 2) mt_GT_border 0 [some (.inr 0), some (.inl v1), some (.inl v2), some (.inl v3), none] [] I E
  refine gw_RG (fun hI1 => ?_)
  have h := h hI1
  refine gw_iload_n 1 d_GT_border_0 rfl rfl ?_
  refine gw_invS (as := [.inl v1]) (rest := []) (d' := (d + 1)) d_GT_border_1 lk_GT_61 rfl (Nat.le_of_ble_eq_true rfl) (Nat.le_of_ble_eq_true rfl) rfl rfl (s_GT_isAxis r1 ?_)
  show ga_W G (d + 2) mt_GT_border 4 [some (.inr 0), some (.inl v1), some (.inl v2), some (.inl v3), none] [.inl (ga_bb (decide (0 ≤ v1 ∧ v1 ≤ 1)))] I E
  refine gw_ifb_eq 20 d_GT_border_4 (by decide) (fun hc => ?_) (fun hc => ?_)
  · have h := h.1 (of_decide_eq_false hc)
    refine gw_ldc (n := (-2000000001)) d_GT_border_20 kw_GT_76 (by decide +kernel) ?_
    exact gw_ireturn d_GT_border_22 rfl h
  · have h := h.2 (of_decide_eq_true hc)
    refine gw_iload_n 2 d_GT_border_7 rfl rfl ?_
    refine gw_if_lt 20 d_GT_border_8 (by decide) r2 (fun hc => ?_) (fun hc => ?_)
    · have h := h.1 hc
      refine gw_ldc (n := (-2000000001)) d_GT_border_20 kw_GT_76 (by decide +kernel) ?_
      exact gw_ireturn d_GT_border_22 rfl h
    · have h := h.2 hc
      refine gw_iload_n 3 d_GT_border_11 rfl rfl ?_
      refine gw_iconst d_GT_border_12 ?_
      refine gw_iconst d_GT_border_13 ?_
      refine gw_invS (as := [.inl v3, .inl 0, .inl 2]) (rest := []) (d' := (d + 1)) d_GT_border_14 lk_GT_65 rfl (Nat.le_of_ble_eq_true rfl) (Nat.le_of_ble_eq_true rfl) rfl rfl (s_GT_isIn r3 ⟨by decide, by decide⟩ ⟨by decide, by decide⟩ ?_)
      show ga_W G (d + 2) mt_GT_border 17 [some (.inr 0), some (.inl v1), some (.inl v2), some (.inl v3), none] [.inl (ga_bb (decide ((0 : Int) ≤ v3 ∧ v3 ≤ (2 : Int))))] I E
      refine gw_ifb_ne 23 d_GT_border_17 (by decide) (fun hc => ?_) (fun hc => ?_)
      · have h := h.1 (of_decide_eq_true hc)
        refine gw_aload_n 0 d_GT_border_23 rfl rfl ?_
        refine gw_getR d_GT_border_24 fl_GT_12 (ga_oG) rfl ?_
        refine gw_getR d_GT_border_27 fl_GT_77 (ga_s1.1) rfl ?_
        refine gw_iload_n 1 d_GT_border_30 rfl rfl ?_
        refine gw_invV (as := [.inl v1]) (k := 2) (rest := []) (d' := (d + 1)) d_GT_border_31 lk_GT_80 (ga_rcv (ga_s1.2.1.1) rfl rfl) rfl (Nat.le_of_ble_eq_true rfl) (Nat.le_of_ble_eq_true rfl) rfl rfl (s_Table_bordersOf ga_s1.2.1 r1 ?_)
        show ga_W G (d + 2) mt_GT_border 34 [some (.inr 0), some (.inl v1), some (.inl v2), some (.inl v3), none] [.inr (ga_bo 2 v1)] I E
        refine gw_astore 4 d_GT_border_34 (Nat.le_of_ble_eq_true rfl) rfl ?_
        refine gw_aload 4 d_GT_border_36 rfl ?_
        refine gw_iload_n 2 d_GT_border_38 rfl rfl ?_
        refine gw_invV (as := [.inl v2]) (k := (ga_bo 2 v1)) (rest := []) (d' := (d + 1)) d_GT_border_39 lk_GT_283 (ga_rcv ((ga_bo_B ga_s1.2.1 v1).1) rfl rfl) rfl (Nat.le_of_ble_eq_true rfl) (Nat.le_of_ble_eq_true rfl) rfl rfl (s_Borders_has (ga_bo_B ga_s1.2.1 v1) r2 ?_)
        show ga_W G (d + 2) mt_GT_border 42 [some (.inr 0), some (.inl v1), some (.inl v2), some (.inl v3), some (.inr (ga_bo 2 v1))] [.inl (ga_bb (decide (0 ≤ v2 ∧ v2 < I (ga_bo 2 v1) 0)))] I E
        refine gw_ifb_ne 48 d_GT_border_42 (by decide) (fun hc => ?_) (fun hc => ?_)
        · have h := h.1 (of_decide_eq_true hc)
          refine gw_iload_n 3 d_GT_border_48 rfl rfl ?_
          by_cases hq0 : v3 = 0
          · refine gw_lsw (off := 27) (tgt := 76) d_GT_border_49 (by decide) r3 (by rw [hq0]; decide) (by decide) ?_
            have h := h.1 hq0
            refine gw_aload 4 d_GT_border_76 rfl ?_
            refine gw_iload_n 2 d_GT_border_78 rfl rfl ?_
            obtain ⟨g4, h⟩ := h
            refine gw_invV (as := [.inl v2]) (k := (ga_bo 2 v1)) (rest := []) (d' := (d + 1)) d_GT_border_79 lk_GT_120 (ga_rcv ((ga_bo_B ga_s1.2.1 v1).1) rfl rfl) rfl (Nat.le_of_ble_eq_true rfl) (Nat.le_of_ble_eq_true rfl) rfl rfl (s_Borders_positionOf (ga_bo_B ga_s1.2.1 v1) g4 r2 ?_)
            show ga_W G (d + 2) mt_GT_border 82 [some (.inr 0), some (.inl v1), some (.inl v2), some (.inl v3), some (.inr (ga_bo 2 v1))] [.inl (gb_at I (ga_bo 2 v1) ((ga_bo 2 v1) + 1) v2)] I E
            refine gw_nz (z := gb_at I (ga_bo 2 v1) ((ga_bo 2 v1) + 1) v2) (fun z4 q4 => ?_)
            have h := h z4 q4
            exact gw_ireturn d_GT_border_82 rfl h
          by_cases hq1 : v3 = 1
          · refine gw_lsw (off := 34) (tgt := 83) d_GT_border_49 (by decide) r3 (by rw [hq1]; decide) (by decide) ?_
            have h := h.2.1 hq1
            refine gw_aload 4 d_GT_border_83 rfl ?_
            refine gw_iload_n 2 d_GT_border_85 rfl rfl ?_
            obtain ⟨g5, h⟩ := h
            refine gw_invV (as := [.inl v2]) (k := (ga_bo 2 v1)) (rest := []) (d' := (d + 1)) d_GT_border_86 lk_GT_124 (ga_rcv ((ga_bo_B ga_s1.2.1 v1).1) rfl rfl) rfl (Nat.le_of_ble_eq_true rfl) (Nat.le_of_ble_eq_true rfl) rfl rfl (s_Borders_kindOf (ga_bo_B ga_s1.2.1 v1) g5 r2 ?_)
            show ga_W G (d + 2) mt_GT_border 89 [some (.inr 0), some (.inl v1), some (.inl v2), some (.inl v3), some (.inr (ga_bo 2 v1))] [.inl (gb_at I (ga_bo 2 v1) ((ga_bo 2 v1) + 2) v2)] I E
            refine gw_nz (z := gb_at I (ga_bo 2 v1) ((ga_bo 2 v1) + 2) v2) (fun z5 q5 => ?_)
            have h := h z5 q5
            exact gw_ireturn d_GT_border_89 rfl h
          refine gw_lsw (off := 41) (tgt := 90) d_GT_border_49 (by decide) r3 (by simp [Op.lookupswitch.offset, hq0, Ne.symm hq0, hq1, Ne.symm hq1]) (by decide) ?_
          have h := h.2.2 ⟨hq0, hq1⟩
          refine gw_aload 4 d_GT_border_90 rfl ?_
          refine gw_iload_n 2 d_GT_border_92 rfl rfl ?_
          obtain ⟨g6, h⟩ := h
          refine gw_invV (as := [.inl v2]) (k := (ga_bo 2 v1)) (rest := []) (d' := (d + 1)) d_GT_border_93 lk_GT_127 (ga_rcv ((ga_bo_B ga_s1.2.1 v1).1) rfl rfl) rfl (Nat.le_of_ble_eq_true rfl) (Nat.le_of_ble_eq_true rfl) rfl rfl (s_Borders_reachOf (ga_bo_B ga_s1.2.1 v1) g6 r2 ?_)
          show ga_W G (d + 2) mt_GT_border 96 [some (.inr 0), some (.inl v1), some (.inl v2), some (.inl v3), some (.inr (ga_bo 2 v1))] [.inl (gb_at I (ga_bo 2 v1) ((ga_bo 2 v1) + 3) v2)] I E
          refine gw_nz (z := gb_at I (ga_bo 2 v1) ((ga_bo 2 v1) + 3) v2) (fun z6 q6 => ?_)
          have h := h z6 q6
          exact gw_ireturn d_GT_border_96 rfl h
        · have h := h.2 (of_decide_eq_false hc)
          refine gw_ldc (n := (-2000000009)) d_GT_border_45 kw_GT_181 (by decide +kernel) ?_
          exact gw_ireturn d_GT_border_47 rfl h
      · have h := h.2 (of_decide_eq_false hc)
        refine gw_ldc (n := (-2000000001)) d_GT_border_20 kw_GT_76 (by decide +kernel) ?_
        exact gw_ireturn d_GT_border_22 rfl h

theorem k_GT_region_0 {G : ga_G} {d : Nat} {I : ga_I} {E : Option ga_V → ga_I → Prop} {v1 : Int} {v2 : Int} {v3 : Int} (r1 : ga_rg v1) (r2 : ga_rg v2) (r3 : ga_rg v3)
    (h : ga_RG I → ((¬ ((0 ≤ v1 ∧ v1 ≤ I 3 0) ∧ (0 ≤ v2 ∧ v2 ≤ I 7 0))) → E (some (.inl (-2000000001))) I) ∧ (((0 ≤ v1 ∧ v1 ≤ I 3 0) ∧ (0 ≤ v2 ∧ v2 ≤ I 7 0)) → (((0 : Int) ≤ v3 ∧ v3 ≤ (3 : Int)) → ((3 ≤ v3) → (0 ≤ (v1 * 7 + v2) ∧ (v1 * 7 + v2) < 49) ∧ ((∀ z1 : Int, z1 = I (2 + 10) (v1 * 7 + v2).toNat → E (some (.inl z1)) I))) ∧ ((¬ (3 ≤ v3)) → (0 ≤ (v1 * 7 + v2) * 3 + v3 ∧ (v1 * 7 + v2) * 3 + v3 < 147) ∧ ((∀ z2 : Int, z2 = I (2 + 9) ((v1 * 7 + v2) * 3 + v3).toNat → E (some (.inl z2)) I)))) ∧ ((¬ ((0 : Int) ≤ v3 ∧ v3 ≤ (3 : Int))) → E (some (.inl (-2000000001))) I))) :
    ga_W G (d + 2) mt_GT_region 0 (ga_en 5 [.inr 0, .inl v1, .inl v2, .inl v3]) [] I E := by
  show ga_W G (d + 2) mt_GT_region 0 [some (.inr 0), some (.inl v1), some (.inl v2), some (.inl v3), none] [] I E
  refine gw_RG (fun hI1 => ?_)
  have h := h hI1
  refine gw_aload_n 0 d_GT_region_0 rfl rfl ?_
  refine gw_iload_n 1 d_GT_region_1 rfl rfl ?_
  refine gw_iload_n 2 d_GT_region_2 rfl rfl ?_
  refine gw_invV (as := [.inl v1, .inl v2]) (k := 0) (rest := []) (d' := (d + 1)) d_GT_region_3 lk_GT_178 (ga_rcv (ga_oG) rfl rfl) rfl (Nat.le_of_ble_eq_true rfl) (Nat.le_of_ble_eq_true rfl) rfl rfl (s_GT_isRegion r1 r2 ?_)
  show ga_W G (d + 2) mt_GT_region 6 [some (.inr 0), some (.inl v1), some (.inl v2), some (.inl v3), none] [.inl (ga_bb (decide ((0 ≤ v1 ∧ v1 ≤ I 3 0) ∧ (0 ≤ v2 ∧ v2 ≤ I 7 0))))] I E
  refine gw_ifb_eq 18 d_GT_region_6 (by decide) (fun hc => ?_) (fun hc => ?_)
  · have h := h.1 (of_decide_eq_false hc)
    refine gw_ldc (n := (-2000000001)) d_GT_region_18 kw_GT_76 (by decide +kernel) ?_
    exact gw_ireturn d_GT_region_20 rfl h
  · have h := h.2 (of_decide_eq_true hc)
    refine gw_iload_n 3 d_GT_region_9 rfl rfl ?_
    refine gw_iconst d_GT_region_10 ?_
    refine gw_iconst d_GT_region_11 ?_
    refine gw_invS (as := [.inl v3, .inl 0, .inl 3]) (rest := []) (d' := (d + 1)) d_GT_region_12 lk_GT_65 rfl (Nat.le_of_ble_eq_true rfl) (Nat.le_of_ble_eq_true rfl) rfl rfl (s_GT_isIn r3 ⟨by decide, by decide⟩ ⟨by decide, by decide⟩ ?_)
    show ga_W G (d + 2) mt_GT_region 15 [some (.inr 0), some (.inl v1), some (.inl v2), some (.inl v3), none] [.inl (ga_bb (decide ((0 : Int) ≤ v3 ∧ v3 ≤ (3 : Int))))] I E
    refine gw_ifb_ne 21 d_GT_region_15 (by decide) (fun hc => ?_) (fun hc => ?_)
    · have h := h.1 (of_decide_eq_true hc)
      refine gw_iload_n 1 d_GT_region_21 rfl rfl ?_
      refine gw_iload_n 2 d_GT_region_22 rfl rfl ?_
      refine gw_invS (as := [.inl v1, .inl v2]) (rest := []) (d' := (d + 1)) d_GT_region_23 lk_GT_150 rfl (Nat.le_of_ble_eq_true rfl) (Nat.le_of_ble_eq_true rfl) rfl rfl (s_Table_regionAt  ?_)
      show ga_W G (d + 2) mt_GT_region 26 [some (.inr 0), some (.inl v1), some (.inl v2), some (.inl v3), none] [.inl (v1 * 7 + v2)] I E
      refine gw_istore 4 d_GT_region_26 (Nat.le_of_ble_eq_true rfl) rfl ?_
      refine gw_iload_n 3 d_GT_region_28 rfl rfl ?_
      refine gw_iconst d_GT_region_29 ?_
      refine gw_icmp_ge 49 d_GT_region_30 (by decide) r3 ⟨by decide, by decide⟩ (fun hc => ?_) (fun hc => ?_)
      · have h := h.1 hc
        refine gw_aload_n 0 d_GT_region_49 rfl rfl ?_
        refine gw_getR d_GT_region_50 fl_GT_12 (ga_oG) rfl ?_
        refine gw_getR d_GT_region_53 fl_GT_77 (ga_s1.1) rfl ?_
        refine gw_iload 4 d_GT_region_56 rfl ?_
        obtain ⟨g1, h⟩ := h
        refine gw_invV (as := [.inl (v1 * 7 + v2)]) (k := 2) (rest := []) (d' := (d + 1)) d_GT_region_58 lk_GT_182 (ga_rcv (ga_s1.2.1.1) rfl rfl) rfl (Nat.le_of_ble_eq_true rfl) (Nat.le_of_ble_eq_true rfl) rfl rfl (s_Table_lockAt ga_s1.2.1 g1 ?_)
        show ga_W G (d + 2) mt_GT_region 61 [some (.inr 0), some (.inl v1), some (.inl v2), some (.inl v3), some (.inl (v1 * 7 + v2))] [.inl (I (2 + 10) (v1 * 7 + v2).toNat)] I E
        refine gw_nz (z := I (2 + 10) (v1 * 7 + v2).toNat) (fun z1 q1 => ?_)
        have h := h z1 q1
        exact gw_ireturn d_GT_region_61 rfl h
      · have h := h.2 hc
        refine gw_aload_n 0 d_GT_region_33 rfl rfl ?_
        refine gw_getR d_GT_region_34 fl_GT_12 (ga_oG) rfl ?_
        refine gw_getR d_GT_region_37 fl_GT_77 (ga_s1.1) rfl ?_
        refine gw_iload 4 d_GT_region_40 rfl ?_
        refine gw_iload_n 3 d_GT_region_42 rfl rfl ?_
        obtain ⟨g2, h⟩ := h
        refine gw_invV (as := [.inl (v1 * 7 + v2), .inl v3]) (k := 2) (rest := []) (d' := (d + 1)) d_GT_region_43 lk_GT_157 (ga_rcv (ga_s1.2.1.1) rfl rfl) rfl (Nat.le_of_ble_eq_true rfl) (Nat.le_of_ble_eq_true rfl) rfl rfl (s_Table_gainAt ga_s1.2.1 g2 ?_)
        show ga_W G (d + 2) mt_GT_region 46 [some (.inr 0), some (.inl v1), some (.inl v2), some (.inl v3), some (.inl (v1 * 7 + v2))] [.inl (I (2 + 9) ((v1 * 7 + v2) * 3 + v3).toNat)] I E
        refine gw_nz (z := I (2 + 9) ((v1 * 7 + v2) * 3 + v3).toNat) (fun z2 q2 => ?_)
        have h := h z2 q2
        refine gw_goto 61 d_GT_region_46 (by decide) ?_
        exact gw_ireturn d_GT_region_61 rfl h
    · have h := h.2 (of_decide_eq_false hc)
      refine gw_ldc (n := (-2000000001)) d_GT_region_18 kw_GT_76 (by decide +kernel) ?_
      exact gw_ireturn d_GT_region_20 rfl h

theorem k_GT_operator_0 {G : ga_G} {d : Nat} {I : ga_I} {E : Option ga_V → ga_I → Prop} {v1 : Int} {v2 : Int} (r1 : ga_rg v1) (r2 : ga_rg v2)
    (h : ga_RG I → ((0 ≤ v1 ∧ v1 ≤ 2) → (v2 = 0 → (0 ≤ v1) ∧ ((v1 < 3) ∧ (E (some (.inl (I 51 v1.toNat))) I))) ∧ (v2 = 1 → (0 ≤ v1) ∧ ((v1 < 3) ∧ (E (some (.inl (I 52 v1.toNat))) I))) ∧ (v2 = 2 → (gt_n I 2) ∧ ((∀ z1 : Int, z1 = gp_tt (gp_lk (I (2 + 10)) v1) ((I (2 + 1) 0).toNat + 1) ((I (2 + 5) 0).toNat + 1) → E (some (.inl z1)) I))) ∧ (v2 = 3 → (0 ≤ v1) ∧ ((v1 < 3) ∧ (E (some (.inl (I 53 v1.toNat))) I))) ∧ ((v2 < 0 ∨ 3 < v2) → E (some (.inl (-2000000001))) I)) ∧ ((¬ (0 ≤ v1 ∧ v1 ≤ 2)) → E (some (.inl (-2000000001))) I)) :
    ga_W G (d + 2) mt_GT_operator 0 (ga_en 3 [.inr 0, .inl v1, .inl v2]) [] I E := by
  show ga_W G (d + 2) mt_GT_operator 0 [some (.inr 0), some (.inl v1), some (.inl v2)] [] I E
  refine gw_RG (fun hI1 => ?_)
  have h := h hI1
  refine gw_iload_n 1 d_GT_operator_0 rfl rfl ?_
  refine gw_invS (as := [.inl v1]) (rest := []) (d' := (d + 1)) d_GT_operator_1 lk_GT_136 rfl (Nat.le_of_ble_eq_true rfl) (Nat.le_of_ble_eq_true rfl) rfl rfl (s_GT_isOperator r1 ?_)
  show ga_W G (d + 2) mt_GT_operator 4 [some (.inr 0), some (.inl v1), some (.inl v2)] [.inl (ga_bb (decide (0 ≤ v1 ∧ v1 ≤ 2)))] I E
  refine gw_ifb_ne 10 d_GT_operator_4 (by decide) (fun hc => ?_) (fun hc => ?_)
  · have h := h.1 (of_decide_eq_true hc)
    refine gw_iload_n 2 d_GT_operator_10 rfl rfl ?_
    refine gw_tsw d_GT_operator_11 r2 (fun hlo hhi => ?_) (fun hx => ⟨82, by decide, ?_⟩)
    · have hq : v2 = 0 ∨ v2 = 1 ∨ v2 = 2 ∨ v2 = 3 := by omega
      rcases hq with hq | hq | hq | hq
      · refine ⟨40, 29, ?_, by decide, ?_⟩
        · rw [hq]; rfl
        have h := h.1 hq
        refine gw_aload_n 0 d_GT_operator_40 rfl rfl ?_
        refine gw_getR d_GT_operator_41 fl_GT_12 (ga_oG) rfl ?_
        refine gw_getR d_GT_operator_44 fl_GT_140 (ga_s1.1) rfl ?_
        refine gw_iload_n 1 d_GT_operator_47 rfl rfl ?_
        obtain ⟨g1, h⟩ := h
        obtain ⟨g2, h⟩ := h
        refine gw_iald d_GT_operator_48 (ga_s1.2.2.2.2.2.2.2.2.2.1) g1 g2 ?_
        exact gw_ireturn d_GT_operator_49 rfl h
      · refine ⟨50, 39, ?_, by decide, ?_⟩
        · rw [hq]; rfl
        have h := h.2.1 hq
        refine gw_aload_n 0 d_GT_operator_50 rfl rfl ?_
        refine gw_getR d_GT_operator_51 fl_GT_12 (ga_oG) rfl ?_
        refine gw_getR d_GT_operator_54 fl_GT_143 (ga_s1.1) rfl ?_
        refine gw_iload_n 1 d_GT_operator_57 rfl rfl ?_
        obtain ⟨g3, h⟩ := h
        obtain ⟨g4, h⟩ := h
        refine gw_iald d_GT_operator_58 (ga_s1.2.2.2.2.2.2.2.2.2.2.1) g3 g4 ?_
        exact gw_ireturn d_GT_operator_59 rfl h
      · refine ⟨60, 49, ?_, by decide, ?_⟩
        · rw [hq]; rfl
        have h := h.2.2.1 hq
        refine gw_aload_n 0 d_GT_operator_60 rfl rfl ?_
        refine gw_getR d_GT_operator_61 fl_GT_12 (ga_oG) rfl ?_
        refine gw_getR d_GT_operator_64 fl_GT_77 (ga_s1.1) rfl ?_
        refine gw_iload_n 1 d_GT_operator_67 rfl rfl ?_
        obtain ⟨g5, h⟩ := h
        refine gw_invV (as := [.inl v1]) (k := 2) (rest := []) (d' := (d + 1)) d_GT_operator_68 lk_GT_188 (ga_rcv (ga_s1.2.1.1) rfl rfl) rfl (Nat.le_of_ble_eq_true rfl) (Nat.le_of_ble_eq_true rfl) rfl rfl (s_Table_locksOf ga_s1.2.1 g5 r1 ?_)
        show ga_W G (d + 2) mt_GT_operator 71 [some (.inr 0), some (.inl v1), some (.inl v2)] [.inl (gp_tt (gp_lk (I (2 + 10)) v1) ((I (2 + 1) 0).toNat + 1) ((I (2 + 5) 0).toNat + 1))] I E
        refine gw_nz (z := gp_tt (gp_lk (I (2 + 10)) v1) ((I (2 + 1) 0).toNat + 1) ((I (2 + 5) 0).toNat + 1)) (fun z1 q1 => ?_)
        have h := h z1 q1
        exact gw_ireturn d_GT_operator_71 rfl h
      · refine ⟨72, 61, ?_, by decide, ?_⟩
        · rw [hq]; rfl
        have h := h.2.2.2.1 hq
        refine gw_aload_n 0 d_GT_operator_72 rfl rfl ?_
        refine gw_getR d_GT_operator_73 fl_GT_12 (ga_oG) rfl ?_
        refine gw_getR d_GT_operator_76 fl_GT_286 (ga_s1.1) rfl ?_
        refine gw_iload_n 1 d_GT_operator_79 rfl rfl ?_
        obtain ⟨g6, h⟩ := h
        obtain ⟨g7, h⟩ := h
        refine gw_iald d_GT_operator_80 (ga_s1.2.2.2.2.2.2.2.2.2.2.2.1) g6 g7 ?_
        exact gw_ireturn d_GT_operator_81 rfl h
    · have h := h.2.2.2.2 hx
      refine gw_ldc (n := (-2000000001)) d_GT_operator_82 kw_GT_76 (by decide +kernel) ?_
      exact gw_ireturn d_GT_operator_84 rfl h
  · have h := h.2 (of_decide_eq_false hc)
    refine gw_ldc (n := (-2000000001)) d_GT_operator_7 kw_GT_76 (by decide +kernel) ?_
    exact gw_ireturn d_GT_operator_9 rfl h

theorem k_GT_account_0 {G : ga_G} {d : Nat} {I : ga_I} {E : Option ga_V → ga_I → Prop} {v1 : Int} (r1 : ga_rg v1)
    (h : ga_RG I → (((0 : Int) ≤ v1 ∧ v1 ≤ (4 : Int)) → ((v1 ≠ 4) → (0 ≤ v1) ∧ ((v1 < 4) ∧ (E (some (.inl (I 54 v1.toNat))) I))) ∧ ((v1 = 4) → (∀ z1 : Int, z1 = 0 + I (1 + 53) 0 + I (1 + 53) 1 + I (1 + 53) 2 + I (1 + 53) 3 → E (some (.inl z1)) I))) ∧ ((¬ ((0 : Int) ≤ v1 ∧ v1 ≤ (4 : Int))) → E (some (.inl (-2000000001))) I)) :
    ga_W G (d + 1) mt_GT_account 0 (ga_en 2 [.inr 0, .inl v1]) [] I E := by
  show ga_W G (d + 1) mt_GT_account 0 [some (.inr 0), some (.inl v1)] [] I E
  refine gw_RG (fun hI1 => ?_)
  have h := h hI1
  refine gw_iload_n 1 d_GT_account_0 rfl rfl ?_
  refine gw_iconst d_GT_account_1 ?_
  refine gw_iconst d_GT_account_2 ?_
  refine gw_invS (as := [.inl v1, .inl 0, .inl 4]) (rest := []) (d' := d) d_GT_account_3 lk_GT_65 rfl (Nat.le_of_ble_eq_true rfl) (Nat.le_of_ble_eq_true rfl) rfl rfl (s_GT_isIn r1 ⟨by decide, by decide⟩ ⟨by decide, by decide⟩ ?_)
  show ga_W G (d + 1) mt_GT_account 6 [some (.inr 0), some (.inl v1)] [.inl (ga_bb (decide ((0 : Int) ≤ v1 ∧ v1 ≤ (4 : Int))))] I E
  refine gw_ifb_ne 12 d_GT_account_6 (by decide) (fun hc => ?_) (fun hc => ?_)
  · have h := h.1 (of_decide_eq_true hc)
    refine gw_iload_n 1 d_GT_account_12 rfl rfl ?_
    refine gw_iconst d_GT_account_13 ?_
    refine gw_icmp_ne 27 d_GT_account_14 (by decide) r1 ⟨by decide, by decide⟩ (fun hc => ?_) (fun hc => ?_)
    · have h := h.1 hc
      refine gw_aload_n 0 d_GT_account_27 rfl rfl ?_
      refine gw_getR d_GT_account_28 fl_GT_12 (ga_oG) rfl ?_
      refine gw_getR d_GT_account_31 fl_GT_292 (ga_s1.1) rfl ?_
      refine gw_iload_n 1 d_GT_account_34 rfl rfl ?_
      obtain ⟨g1, h⟩ := h
      obtain ⟨g2, h⟩ := h
      refine gw_iald d_GT_account_35 (ga_s1.2.2.2.2.2.2.2.2.2.2.2.2) g1 g2 ?_
      exact gw_ireturn d_GT_account_36 rfl h
    · have h := h.2 hc
      refine gw_aload_n 0 d_GT_account_17 rfl rfl ?_
      refine gw_getR d_GT_account_18 fl_GT_12 (ga_oG) rfl ?_
      refine gw_invV (as := []) (k := 1) (rest := []) (d' := d) d_GT_account_21 lk_GT_289 (ga_rcv (ga_s1.1) rfl rfl) rfl (Nat.le_of_ble_eq_true rfl) (Nat.le_of_ble_eq_true rfl) rfl rfl (s_State_sumOfAccounts ga_s1 ?_)
      show ga_W G (d + 1) mt_GT_account 24 [some (.inr 0), some (.inl v1)] [.inl (0 + I (1 + 53) 0 + I (1 + 53) 1 + I (1 + 53) 2 + I (1 + 53) 3)] I E
      refine gw_nz (z := 0 + I (1 + 53) 0 + I (1 + 53) 1 + I (1 + 53) 2 + I (1 + 53) 3) (fun z1 q1 => ?_)
      have h := h z1 q1
      refine gw_goto 36 d_GT_account_24 (by decide) ?_
      exact gw_ireturn d_GT_account_36 rfl h
  · have h := h.2 (of_decide_eq_false hc)
    refine gw_ldc (n := (-2000000001)) d_GT_account_9 kw_GT_76 (by decide +kernel) ?_
    exact gw_ireturn d_GT_account_11 rfl h

theorem k_GT_gain_0 {G : ga_G} {d : Nat} {I : ga_I} {E : Option ga_V → ga_I → Prop} {v1 : Int} {v2 : Int} (r1 : ga_rg v1) (r2 : ga_rg v2)
    (h : ga_RG I → ((0 ≤ v1 ∧ v1 ≤ 2) → (gb_ok I 3) ∧ ((gb_ok I 7) ∧ ((0 ≤ I 48 0 ∧ I 48 0 ≤ 10) ∧ ((0 ≤ I 48 1 ∧ I 48 1 ≤ 10) ∧ ((0 ≤ I 47 0 ∧ I 47 0 ≤ 1000) ∧ ((0 ≤ I 47 1 ∧ I 47 1 ≤ 1000) ∧ ((∀ I1 : ga_I, I1 = (gx_bp I) → (v2 = 0 → (gp_vk (gl_v I1 344)) ∧ ((gp_vk (gl_v I1 345)) ∧ ((0 ≤ v1 ∧ v1 ≤ 2) ∧ ((gr_gn I1 2) ∧ (E (some (.inl (gv_i I1 v1))) I1))))) ∧ (v2 = 1 → (gp_vk (gl_v I1 344)) ∧ ((gp_vk (gl_v I1 345)) ∧ ((0 ≤ v1 ∧ v1 ≤ 2) ∧ ((∀ z1 : Int, z1 = gp_nu (gl_v I1 344) (gl_v I1 345) (fun c r => I1 (2 + 9) ((c * 7 + r) * 3 + v1).toNat) → E (some (.inl z1)) I1))))) ∧ (v2 = 2 → E (some (.inl ((I1 344 3) * (I1 345 3)))) I1) ∧ ((v2 < 0 ∨ 2 < v2) → E (some (.inl (-2000000001))) I1))))))))) ∧ ((¬ (0 ≤ v1 ∧ v1 ≤ 2)) → E (some (.inl (-2000000001))) I)) :
    ga_W G (d + 4) mt_GT_gain 0 (ga_en 3 [.inr 0, .inl v1, .inl v2]) [] I E := by
  show ga_W G (d + 4) mt_GT_gain 0 [some (.inr 0), some (.inl v1), some (.inl v2)] [] I E
  refine gw_RG (fun hI1 => ?_)
  have h := h hI1
  refine gw_iload_n 1 d_GT_gain_0 rfl rfl ?_
  refine gw_invS (as := [.inl v1]) (rest := []) (d' := (d + 3)) d_GT_gain_1 lk_GT_164 rfl (Nat.le_of_ble_eq_true rfl) (Nat.le_of_ble_eq_true rfl) rfl rfl (s_GT_isGain r1 ?_)
  show ga_W G (d + 4) mt_GT_gain 4 [some (.inr 0), some (.inl v1), some (.inl v2)] [.inl (ga_bb (decide (0 ≤ v1 ∧ v1 ≤ 2)))] I E
  refine gw_ifb_ne 10 d_GT_gain_4 (by decide) (fun hc => ?_) (fun hc => ?_)
  · have h := h.1 (of_decide_eq_true hc)
    refine gw_aload_n 0 d_GT_gain_10 rfl rfl ?_
    obtain ⟨g1, h⟩ := h
    obtain ⟨g2, h⟩ := h
    obtain ⟨g3, h⟩ := h
    obtain ⟨g4, h⟩ := h
    obtain ⟨g5, h⟩ := h
    obtain ⟨g6, h⟩ := h
    refine gw_invV (as := []) (k := 0) (rest := []) (d' := (d + 3)) d_GT_gain_11 lk_GT_266 (ga_rcv (ga_oG) rfl rfl) rfl (Nat.le_of_ble_eq_true rfl) (Nat.le_of_ble_eq_true rfl) rfl rfl (s_GT_blendAtPoint g1 g2 g3 g4 g5 g6 ?_)
    show ga_W G (d + 4) mt_GT_gain 14 [some (.inr 0), some (.inl v1), some (.inl v2)] [] (gx_bp I) E
    refine gw_nm (fun I1 q1 => ?_)
    have h := h I1 q1
    refine gw_RG (fun hI2 => ?_)
    refine gw_iload_n 2 d_GT_gain_14 rfl rfl ?_
    refine gw_tsw d_GT_gain_15 r2 (fun hlo hhi => ?_) (fun hx => ⟨82, by decide, ?_⟩)
    · have hq : v2 = 0 ∨ v2 = 1 ∨ v2 = 2 := by omega
      rcases hq with hq | hq | hq
      · refine ⟨40, 25, ?_, by decide, ?_⟩
        · rw [hq]; rfl
        have h := h.1 hq
        refine gw_aload_n 0 d_GT_gain_40 rfl rfl ?_
        refine gw_iload_n 1 d_GT_gain_41 rfl rfl ?_
        obtain ⟨g7, h⟩ := h
        obtain ⟨g8, h⟩ := h
        obtain ⟨g9, h⟩ := h
        obtain ⟨g10, h⟩ := h
        refine gw_invV (as := [.inl v1]) (k := 0) (rest := []) (d' := (d + 3)) d_GT_gain_42 lk_GT_295 (ga_rcv (ga_oG) rfl rfl) rfl (Nat.le_of_ble_eq_true rfl) (Nat.le_of_ble_eq_true rfl) rfl rfl (s_GT_blendedValue g7 g8 g9 g10 ?_)
        show ga_W G (d + 4) mt_GT_gain 45 [some (.inr 0), some (.inl v1), some (.inl v2)] [.inl (gv_i I1 v1)] I1 E
        exact gw_ireturn d_GT_gain_45 rfl h
      · refine ⟨46, 31, ?_, by decide, ?_⟩
        · rw [hq]; rfl
        have h := h.2.1 hq
        refine gw_aload_n 0 d_GT_gain_46 rfl rfl ?_
        refine gw_getR d_GT_gain_47 fl_GT_12 (ga_oG) rfl ?_
        refine gw_getR d_GT_gain_50 fl_GT_77 (ga_s1.1) rfl ?_
        refine gw_aload_n 0 d_GT_gain_53 rfl rfl ?_
        refine gw_getR d_GT_gain_54 fl_GT_47 (ga_oG) rfl ?_
        refine gw_aload_n 0 d_GT_gain_57 rfl rfl ?_
        refine gw_getR d_GT_gain_58 fl_GT_51 (ga_oG) rfl ?_
        refine gw_iload_n 1 d_GT_gain_61 rfl rfl ?_
        obtain ⟨g11, h⟩ := h
        obtain ⟨g12, h⟩ := h
        obtain ⟨g13, h⟩ := h
        refine gw_invV (as := [.inr 344, .inr 345, .inl v1]) (k := 2) (rest := []) (d' := (d + 3)) d_GT_gain_62 lk_GT_298 (ga_rcv (ga_s1.2.1.1) rfl rfl) rfl (Nat.le_of_ble_eq_true rfl) (Nat.le_of_ble_eq_true rfl) rfl rfl (s_Table_numerator ga_s1.2.1 ga_l344 ga_l345 g11 g12 g13 ?_)
        show ga_W G (d + 4) mt_GT_gain 65 [some (.inr 0), some (.inl v1), some (.inl v2)] [.inl (gp_nu (gl_v I1 344) (gl_v I1 345) (fun c r => I1 (2 + 9) ((c * 7 + r) * 3 + v1).toNat))] I1 E
        refine gw_nz (z := gp_nu (gl_v I1 344) (gl_v I1 345) (fun c r => I1 (2 + 9) ((c * 7 + r) * 3 + v1).toNat)) (fun z1 q2 => ?_)
        have h := h z1 q2
        exact gw_ireturn d_GT_gain_65 rfl h
      · refine ⟨66, 51, ?_, by decide, ?_⟩
        · rw [hq]; rfl
        have h := h.2.2.1 hq
        refine gw_aload_n 0 d_GT_gain_66 rfl rfl ?_
        refine gw_getR d_GT_gain_67 fl_GT_47 (ga_oG) rfl ?_
        refine gw_getI d_GT_gain_70 fl_GT_280 (ga_l344) rfl ?_
        refine gw_aload_n 0 d_GT_gain_73 rfl rfl ?_
        refine gw_getR d_GT_gain_74 fl_GT_51 (ga_oG) rfl ?_
        refine gw_getI d_GT_gain_77 fl_GT_280 (ga_l345) rfl ?_
        refine gw_imul d_GT_gain_80 ?_
        exact gw_ireturn d_GT_gain_81 rfl h
    · have h := h.2.2.2 hx
      refine gw_ldc (n := (-2000000001)) d_GT_gain_82 kw_GT_76 (by decide +kernel) ?_
      exact gw_ireturn d_GT_gain_84 rfl h
  · have h := h.2 (of_decide_eq_false hc)
    refine gw_ldc (n := (-2000000001)) d_GT_gain_7 kw_GT_76 (by decide +kernel) ?_
    exact gw_ireturn d_GT_gain_9 rfl h

theorem k_GT_trail_0 {G : ga_G} {d : Nat} {I : ga_I} {E : Option ga_V → ga_I → Prop} {v1 : Int} {v2 : Int} (r1 : ga_rg v1) (r2 : ga_rg v2)
    (h : ga_RG I → ((v1 < 0) → E (some (.inl (-2000000001))) I) ∧ ((¬ (v1 < 0)) → (((0 : Int) ≤ v2 ∧ v2 ≤ (7 : Int)) → (((I 49 0) ≤ v1) → E (some (.inl (-2000000009))) I) ∧ ((¬ ((I 49 0) ≤ v1)) → (gr_P I 49) ∧ ((0 ≤ v1 ∧ v1 ≤ 20) ∧ ((0 ≤ v2 ∧ v2 < 8) ∧ ((∀ z1 : Int, z1 = I (49 + 1) (((I 49 1) - v1) % 20 * 8 + v2).toNat → E (some (.inl z1)) I)))))) ∧ ((¬ ((0 : Int) ≤ v2 ∧ v2 ≤ (7 : Int))) → E (some (.inl (-2000000001))) I))) :
    ga_W G (d + 2) mt_GT_trail 0 (ga_en 3 [.inr 0, .inl v1, .inl v2]) [] I E := by
  show ga_W G (d + 2) mt_GT_trail 0 [some (.inr 0), some (.inl v1), some (.inl v2)] [] I E
  refine gw_RG (fun hI1 => ?_)
  have h := h hI1
  refine gw_iload_n 1 d_GT_trail_0 rfl rfl ?_
  refine gw_if_lt 14 d_GT_trail_1 (by decide) r1 (fun hc => ?_) (fun hc => ?_)
  · have h := h.1 hc
    refine gw_ldc (n := (-2000000001)) d_GT_trail_14 kw_GT_76 (by decide +kernel) ?_
    exact gw_ireturn d_GT_trail_16 rfl h
  · have h := h.2 hc
    refine gw_iload_n 2 d_GT_trail_4 rfl rfl ?_
    refine gw_iconst d_GT_trail_5 ?_
    refine gw_bipush d_GT_trail_6 (by decide +kernel) ?_
    refine gw_invS (as := [.inl v2, .inl 0, .inl 7]) (rest := []) (d' := (d + 1)) d_GT_trail_8 lk_GT_65 rfl (Nat.le_of_ble_eq_true rfl) (Nat.le_of_ble_eq_true rfl) rfl rfl (s_GT_isIn r2 ⟨by decide, by decide⟩ ⟨by decide, by decide⟩ ?_)
    show ga_W G (d + 2) mt_GT_trail 11 [some (.inr 0), some (.inl v1), some (.inl v2)] [.inl (ga_bb (decide ((0 : Int) ≤ v2 ∧ v2 ≤ (7 : Int))))] I E
    refine gw_ifb_ne 17 d_GT_trail_11 (by decide) (fun hc => ?_) (fun hc => ?_)
    · have h := h.1 (of_decide_eq_true hc)
      refine gw_iload_n 1 d_GT_trail_17 rfl rfl ?_
      refine gw_aload_n 0 d_GT_trail_18 rfl rfl ?_
      refine gw_getR d_GT_trail_19 fl_GT_12 (ga_oG) rfl ?_
      refine gw_getR d_GT_trail_22 fl_GT_250 (ga_s1.1) rfl ?_
      refine gw_getI d_GT_trail_25 fl_GT_254 (ga_s1.2.2.2.2.2.2.2.2.1.1) rfl ?_
      refine gw_icmp_ge 46 d_GT_trail_28 (by decide) r1 (hI1 _ _) (fun hc => ?_) (fun hc => ?_)
      · have h := h.1 hc
        refine gw_ldc (n := (-2000000009)) d_GT_trail_46 kw_GT_181 (by decide +kernel) ?_
        exact gw_ireturn d_GT_trail_48 rfl h
      · have h := h.2 hc
        refine gw_aload_n 0 d_GT_trail_31 rfl rfl ?_
        refine gw_getR d_GT_trail_32 fl_GT_12 (ga_oG) rfl ?_
        refine gw_getR d_GT_trail_35 fl_GT_250 (ga_s1.1) rfl ?_
        refine gw_iload_n 1 d_GT_trail_38 rfl rfl ?_
        refine gw_iload_n 2 d_GT_trail_39 rfl rfl ?_
        obtain ⟨g1, h⟩ := h
        obtain ⟨g2, h⟩ := h
        obtain ⟨g3, h⟩ := h
        refine gw_invV (as := [.inl v1, .inl v2]) (k := 49) (rest := []) (d' := (d + 1)) d_GT_trail_40 lk_GT_301 (ga_rcv (ga_s1.2.2.2.2.2.2.2.2.1.1) rfl rfl) rfl (Nat.le_of_ble_eq_true rfl) (Nat.le_of_ble_eq_true rfl) rfl rfl (s_Path_partOf ga_s1.2.2.2.2.2.2.2.2.1 g1 g2 g3 ?_)
        show ga_W G (d + 2) mt_GT_trail 43 [some (.inr 0), some (.inl v1), some (.inl v2)] [.inl (I (49 + 1) (((I 49 1) - v1) % 20 * 8 + v2).toNat)] I E
        refine gw_nz (z := I (49 + 1) (((I 49 1) - v1) % 20 * 8 + v2).toNat) (fun z1 q1 => ?_)
        have h := h z1 q1
        refine gw_goto 48 d_GT_trail_43 (by decide) ?_
        exact gw_ireturn d_GT_trail_48 rfl h
    · have h := h.2 (of_decide_eq_false hc)
      refine gw_ldc (n := (-2000000001)) d_GT_trail_14 kw_GT_76 (by decide +kernel) ?_
      exact gw_ireturn d_GT_trail_16 rfl h

theorem k_GT_effect_0 {G : ga_G} {d : Nat} {I : ga_I} {E : Option ga_V → ga_I → Prop} {v1 : Int} {v2 : Int} (r1 : ga_rg v1) (r2 : ga_rg v2)
    (h : ga_RG I → ((¬ (0 ≤ v1 ∧ v1 ≤ 1000)) → E (some (.inl (-2000000001))) I) ∧ ((0 ≤ v1 ∧ v1 ≤ 1000) → ((0 ≤ v2 ∧ v2 ≤ 1000) → (gr_pt I 1) ∧ ((0 ≤ v1 ∧ v1 ≤ 1000) ∧ ((0 ≤ v2 ∧ v2 ≤ 1000) ∧ (((¬ (((v1 - I (1 + 46) 0).natAbs : Int) < I 1 7 ∧ ((v2 - I (1 + 46) 1).natAbs : Int) < I 1 7)) → (gb_ok I 3) ∧ ((-10 ≤ (I 48 0) ∧ (I 48 0) ≤ 10) ∧ ((∀ z1 : Int, z1 = gp_za (I (3 + 1)) (I (3 + 2)) (I (3 + 3)) (I 3 0).toNat (I 48 0) v1 → (gb_ok I 7) ∧ ((-10 ≤ (I 48 1) ∧ (I 48 1) ≤ 10) ∧ ((∀ z2 : Int, z2 = gp_za (I (7 + 1)) (I (7 + 2)) (I (7 + 3)) (I 7 0).toNat (I 48 1) v2 → (0 ≤ I 48 0 ∧ I 48 0 ≤ 10) ∧ ((0 ≤ I 48 1 ∧ I 48 1 ≤ 10) ∧ ((0 ≤ I 47 0 ∧ I 47 0 ≤ 1000) ∧ ((0 ≤ I 47 1 ∧ I 47 1 ≤ 1000) ∧ ((∀ I1 : ga_I, I1 = (gx_bp I) → (346 = 346 ∨ 346 = 347) ∧ ((gp_vk (gl_v I1 344)) ∧ ((gp_vk (gl_v I1 345)) ∧ ((gr_gn I1 2) ∧ ((∀ I2 : ga_I, I2 = (gx_nv I1 346) → (gb_ok I2 3) ∧ ((-10 ≤ z1 ∧ z1 ≤ 10) ∧ ((∀ I3 : ga_I, I3 = (gx_bl I2 344 (gp_fi (I2 (3 + 1)) (I2 (3 + 2)) (I2 (3 + 3)) (I2 3 0).toNat z1 v1)) → (gb_ok I3 7) ∧ ((-10 ≤ z2 ∧ z2 ≤ 10) ∧ ((∀ I4 : ga_I, I4 = (gx_bl I3 345 (gp_fi (I3 (7 + 1)) (I3 (7 + 2)) (I3 (7 + 3)) (I3 7 0).toNat z2 v2)) → (347 = 346 ∨ 347 = 347) ∧ ((gp_vk (gl_v I4 344)) ∧ ((gp_vk (gl_v I4 345)) ∧ ((gr_gn I4 2) ∧ ((∀ I5 : ga_I, I5 = (gx_nv I4 347) → (ga_rg z1) ∧ (((z1 = (I5 48 0)) → (ga_rg z2) ∧ (((z2 = (I5 48 1)) → (∀ i : Nat, i < 3 → (0 ≤ I5 346 i ∧ I5 346 i ≤ 9999) ∧ (0 ≤ I5 347 i ∧ I5 347 i ≤ 9999)) ∧ ((∀ z3 : Int, z3 = gp_j3 ((I5 347 0 - I5 346 0).natAbs : Int) ((I5 347 1 - I5 346 1).natAbs : Int) ((I5 347 2 - I5 346 2).natAbs : Int) → (ga_rg z3) ∧ (((z3 = 0) → E (some (.inl (((1 + 0) + 0) + 0))) I5) ∧ ((¬ (z3 = 0)) → E (some (.inl (((1 + 0) + 0) + 8))) I5))))) ∧ ((¬ (z2 = (I5 48 1))) → (∀ i : Nat, i < 3 → (0 ≤ I5 346 i ∧ I5 346 i ≤ 9999) ∧ (0 ≤ I5 347 i ∧ I5 347 i ≤ 9999)) ∧ ((∀ z4 : Int, z4 = gp_j3 ((I5 347 0 - I5 346 0).natAbs : Int) ((I5 347 1 - I5 346 1).natAbs : Int) ((I5 347 2 - I5 346 2).natAbs : Int) → (ga_rg z4) ∧ (((z4 = 0) → E (some (.inl (((1 + 0) + 4) + 0))) I5) ∧ ((¬ (z4 = 0)) → E (some (.inl (((1 + 0) + 4) + 8))) I5))))))) ∧ ((¬ (z1 = (I5 48 0))) → (ga_rg z2) ∧ (((z2 = (I5 48 1)) → (∀ i : Nat, i < 3 → (0 ≤ I5 346 i ∧ I5 346 i ≤ 9999) ∧ (0 ≤ I5 347 i ∧ I5 347 i ≤ 9999)) ∧ ((∀ z5 : Int, z5 = gp_j3 ((I5 347 0 - I5 346 0).natAbs : Int) ((I5 347 1 - I5 346 1).natAbs : Int) ((I5 347 2 - I5 346 2).natAbs : Int) → (ga_rg z5) ∧ (((z5 = 0) → E (some (.inl (((1 + 2) + 0) + 0))) I5) ∧ ((¬ (z5 = 0)) → E (some (.inl (((1 + 2) + 0) + 8))) I5))))) ∧ ((¬ (z2 = (I5 48 1))) → (∀ i : Nat, i < 3 → (0 ≤ I5 346 i ∧ I5 346 i ≤ 9999) ∧ (0 ≤ I5 347 i ∧ I5 347 i ≤ 9999)) ∧ ((∀ z6 : Int, z6 = gp_j3 ((I5 347 0 - I5 346 0).natAbs : Int) ((I5 347 1 - I5 346 1).natAbs : Int) ((I5 347 2 - I5 346 2).natAbs : Int) → (ga_rg z6) ∧ (((z6 = 0) → E (some (.inl (((1 + 2) + 4) + 0))) I5) ∧ ((¬ (z6 = 0)) → E (some (.inl (((1 + 2) + 4) + 8))) I5)))))))))))))))))))))))))))))))))))) ∧ ((((v1 - I (1 + 46) 0).natAbs : Int) < I 1 7 ∧ ((v2 - I (1 + 46) 1).natAbs : Int) < I 1 7) → E (some (.inl 0)) I))))) ∧ ((¬ (0 ≤ v2 ∧ v2 ≤ 1000)) → E (some (.inl (-2000000001))) I))) :
    ga_W G (d + 4) mt_GT_effect 0 (ga_en 5 [.inr 0, .inl v1, .inl v2]) [] I E := by
  show ga_W G (d + 4) mt_GT_effect 0 [some (.inr 0), some (.inl v1), some (.inl v2), none, none] [] I E
  refine gw_RG (fun hI1 => ?_)
  have h := h hI1
  refine gw_iload_n 1 d_GT_effect_0 rfl rfl ?_
  refine gw_invS (as := [.inl v1]) (rest := []) (d' := (d + 3)) d_GT_effect_1 lk_GT_194 rfl (Nat.le_of_ble_eq_true rfl) (Nat.le_of_ble_eq_true rfl) rfl rfl (s_GT_isCoordinate r1 ?_)
  show ga_W G (d + 4) mt_GT_effect 4 [some (.inr 0), some (.inl v1), some (.inl v2), none, none] [.inl (ga_bb (decide (0 ≤ v1 ∧ v1 ≤ 1000)))] I E
  refine gw_ifb_eq 14 d_GT_effect_4 (by decide) (fun hc => ?_) (fun hc => ?_)
  · have h := h.1 (of_decide_eq_false hc)
    refine gw_ldc (n := (-2000000001)) d_GT_effect_14 kw_GT_76 (by decide +kernel) ?_
    exact gw_ireturn d_GT_effect_16 rfl h
  · have h := h.2 (of_decide_eq_true hc)
    refine gw_iload_n 2 d_GT_effect_7 rfl rfl ?_
    refine gw_invS (as := [.inl v2]) (rest := []) (d' := (d + 3)) d_GT_effect_8 lk_GT_194 rfl (Nat.le_of_ble_eq_true rfl) (Nat.le_of_ble_eq_true rfl) rfl rfl (s_GT_isCoordinate r2 ?_)
    show ga_W G (d + 4) mt_GT_effect 11 [some (.inr 0), some (.inl v1), some (.inl v2), none, none] [.inl (ga_bb (decide (0 ≤ v2 ∧ v2 ≤ 1000)))] I E
    refine gw_ifb_ne 17 d_GT_effect_11 (by decide) (fun hc => ?_) (fun hc => ?_)
    · have h := h.1 (of_decide_eq_true hc)
      refine gw_aload_n 0 d_GT_effect_17 rfl rfl ?_
      refine gw_getR d_GT_effect_18 fl_GT_12 (ga_oG) rfl ?_
      refine gw_iload_n 1 d_GT_effect_21 rfl rfl ?_
      refine gw_iload_n 2 d_GT_effect_22 rfl rfl ?_
      obtain ⟨g1, h⟩ := h
      obtain ⟨g2, h⟩ := h
      obtain ⟨g3, h⟩ := h
      refine gw_invV (as := [.inl v1, .inl v2]) (k := 1) (rest := []) (d' := (d + 3)) d_GT_effect_23 lk_GT_304 (ga_rcv (ga_s1.1) rfl rfl) rfl (Nat.le_of_ble_eq_true rfl) (Nat.le_of_ble_eq_true rfl) rfl rfl (s_State_ignores ga_s1 g1 g2 g3 ?_)
      show ga_W G (d + 4) mt_GT_effect 26 [some (.inr 0), some (.inl v1), some (.inl v2), none, none] [.inl (ga_bb (decide (((v1 - I (1 + 46) 0).natAbs : Int) < I 1 7 ∧ ((v2 - I (1 + 46) 1).natAbs : Int) < I 1 7)))] I E
      refine gw_ifb_eq 31 d_GT_effect_26 (by decide) (fun hc => ?_) (fun hc => ?_)
      · have h := h.1 (of_decide_eq_false hc)
        refine gw_aload_n 0 d_GT_effect_31 rfl rfl ?_
        refine gw_getR d_GT_effect_32 fl_GT_12 (ga_oG) rfl ?_
        refine gw_getR d_GT_effect_35 fl_GT_77 (ga_s1.1) rfl ?_
        refine gw_getR d_GT_effect_38 fl_GT_167 (ga_s1.2.1.1) rfl ?_
        refine gw_aload_n 0 d_GT_effect_41 rfl rfl ?_
        refine gw_getR d_GT_effect_42 fl_GT_12 (ga_oG) rfl ?_
        refine gw_getR d_GT_effect_45 fl_GT_207 (ga_s1.1) rfl ?_
        refine gw_iconst d_GT_effect_48 ?_
        refine gw_iald d_GT_effect_49 (ga_s1.2.2.2.2.2.2.2.1) (by decide) (by decide) ?_
        refine gw_iload_n 1 d_GT_effect_50 rfl rfl ?_
        obtain ⟨g4, h⟩ := h
        obtain ⟨g5, h⟩ := h
        refine gw_invV (as := [.inl (I 48 0), .inl v1]) (k := 3) (rest := []) (d' := (d + 3)) d_GT_effect_51 lk_GT_307 (ga_rcv (ga_s1.2.1.2.1.1) rfl rfl) rfl (Nat.le_of_ble_eq_true rfl) (Nat.le_of_ble_eq_true rfl) rfl rfl (s_Borders_zoneAfter ga_s1.2.1.2.1 g4 g5 r1 ?_)
        show ga_W G (d + 4) mt_GT_effect 54 [some (.inr 0), some (.inl v1), some (.inl v2), none, none] [.inl (gp_za (I (3 + 1)) (I (3 + 2)) (I (3 + 3)) (I 3 0).toNat (I 48 0) v1)] I E
        refine gw_nz (z := gp_za (I (3 + 1)) (I (3 + 2)) (I (3 + 3)) (I 3 0).toNat (I 48 0) v1) (fun z1 q1 => ?_)
        have h := h z1 q1
        refine gw_istore_n 3 d_GT_effect_54 rfl (Nat.le_of_ble_eq_true rfl) rfl ?_
        refine gw_aload_n 0 d_GT_effect_55 rfl rfl ?_
        refine gw_getR d_GT_effect_56 fl_GT_12 (ga_oG) rfl ?_
        refine gw_getR d_GT_effect_59 fl_GT_77 (ga_s1.1) rfl ?_
        refine gw_getR d_GT_effect_62 fl_GT_170 (ga_s1.2.1.1) rfl ?_
        refine gw_aload_n 0 d_GT_effect_65 rfl rfl ?_
        refine gw_getR d_GT_effect_66 fl_GT_12 (ga_oG) rfl ?_
        refine gw_getR d_GT_effect_69 fl_GT_207 (ga_s1.1) rfl ?_
        refine gw_iconst d_GT_effect_72 ?_
        refine gw_iald d_GT_effect_73 (ga_s1.2.2.2.2.2.2.2.1) (by decide) (by decide) ?_
        refine gw_iload_n 2 d_GT_effect_74 rfl rfl ?_
        obtain ⟨g6, h⟩ := h
        obtain ⟨g7, h⟩ := h
        refine gw_invV (as := [.inl (I 48 1), .inl v2]) (k := 7) (rest := []) (d' := (d + 3)) d_GT_effect_75 lk_GT_307 (ga_rcv (ga_s1.2.1.2.2.1.1) rfl rfl) rfl (Nat.le_of_ble_eq_true rfl) (Nat.le_of_ble_eq_true rfl) rfl rfl (s_Borders_zoneAfter ga_s1.2.1.2.2.1 g6 g7 r2 ?_)
        show ga_W G (d + 4) mt_GT_effect 78 [some (.inr 0), some (.inl v1), some (.inl v2), some (.inl z1), none] [.inl (gp_za (I (7 + 1)) (I (7 + 2)) (I (7 + 3)) (I 7 0).toNat (I 48 1) v2)] I E
        refine gw_nz (z := gp_za (I (7 + 1)) (I (7 + 2)) (I (7 + 3)) (I 7 0).toNat (I 48 1) v2) (fun z2 q2 => ?_)
        have h := h z2 q2
        refine gw_istore 4 d_GT_effect_78 (Nat.le_of_ble_eq_true rfl) rfl ?_
        refine gw_aload_n 0 d_GT_effect_80 rfl rfl ?_
        obtain ⟨g8, h⟩ := h
        obtain ⟨g9, h⟩ := h
        obtain ⟨g10, h⟩ := h
        obtain ⟨g11, h⟩ := h
        refine gw_invV (as := []) (k := 0) (rest := []) (d' := (d + 3)) d_GT_effect_81 lk_GT_266 (ga_rcv (ga_oG) rfl rfl) rfl (Nat.le_of_ble_eq_true rfl) (Nat.le_of_ble_eq_true rfl) rfl rfl (s_GT_blendAtPoint g4 g6 g8 g9 g10 g11 ?_)
        show ga_W G (d + 4) mt_GT_effect 84 [some (.inr 0), some (.inl v1), some (.inl v2), some (.inl z1), some (.inl z2)] [] (gx_bp I) E
        refine gw_nm (fun I1 q3 => ?_)
        have h := h I1 q3
        refine gw_RG (fun hI2 => ?_)
        refine gw_aload_n 0 d_GT_effect_84 rfl rfl ?_
        refine gw_aload_n 0 d_GT_effect_85 rfl rfl ?_
        refine gw_getR d_GT_effect_86 fl_GT_54 (ga_oG) rfl ?_
        obtain ⟨g12, h⟩ := h
        obtain ⟨g13, h⟩ := h
        obtain ⟨g14, h⟩ := h
        obtain ⟨g15, h⟩ := h
        refine gw_invV (as := [.inr 346]) (k := 0) (rest := []) (d' := (d + 3)) d_GT_effect_89 lk_GT_310 (ga_rcv (ga_oG) rfl rfl) rfl (Nat.le_of_ble_eq_true rfl) (Nat.le_of_ble_eq_true rfl) rfl rfl (s_GT_noteValues g12 g13 g14 g15 ?_)
        show ga_W G (d + 4) mt_GT_effect 92 [some (.inr 0), some (.inl v1), some (.inl v2), some (.inl z1), some (.inl z2)] [] (gx_nv I1 346) E
        refine gw_nm (fun I2 q4 => ?_)
        have h := h I2 q4
        refine gw_RG (fun hI3 => ?_)
        refine gw_aload_n 0 d_GT_effect_92 rfl rfl ?_
        refine gw_getR d_GT_effect_93 fl_GT_47 (ga_oG) rfl ?_
        refine gw_aload_n 0 d_GT_effect_96 rfl rfl ?_
        refine gw_getR d_GT_effect_97 fl_GT_12 (ga_oG) rfl ?_
        refine gw_getR d_GT_effect_100 fl_GT_77 (ga_s1.1) rfl ?_
        refine gw_getR d_GT_effect_103 fl_GT_167 (ga_s1.2.1.1) rfl ?_
        refine gw_iload_n 3 d_GT_effect_106 rfl rfl ?_
        refine gw_iload_n 1 d_GT_effect_107 rfl rfl ?_
        obtain ⟨g16, h⟩ := h
        obtain ⟨g17, h⟩ := h
        refine gw_invV (as := [.inr 3, .inl z1, .inl v1]) (k := 344) (rest := []) (d' := (d + 3)) d_GT_effect_108 lk_GT_314 (ga_rcv (ga_l344) rfl rfl) rfl (Nat.le_of_ble_eq_true rfl) (Nat.le_of_ble_eq_true rfl) rfl rfl (s_Blend_findIn ga_l344 ga_s1.2.1.2.1 g16 g17 g2 ?_)
        show ga_W G (d + 4) mt_GT_effect 111 [some (.inr 0), some (.inl v1), some (.inl v2), some (.inl z1), some (.inl z2)] [] (gx_bl I2 344 (gp_fi (I2 (3 + 1)) (I2 (3 + 2)) (I2 (3 + 3)) (I2 3 0).toNat z1 v1)) E
        refine gw_nm (fun I3 q5 => ?_)
        have h := h I3 q5
        refine gw_RG (fun hI4 => ?_)
        refine gw_aload_n 0 d_GT_effect_111 rfl rfl ?_
        refine gw_getR d_GT_effect_112 fl_GT_51 (ga_oG) rfl ?_
        refine gw_aload_n 0 d_GT_effect_115 rfl rfl ?_
        refine gw_getR d_GT_effect_116 fl_GT_12 (ga_oG) rfl ?_
        refine gw_getR d_GT_effect_119 fl_GT_77 (ga_s1.1) rfl ?_
        refine gw_getR d_GT_effect_122 fl_GT_170 (ga_s1.2.1.1) rfl ?_
        refine gw_iload 4 d_GT_effect_125 rfl ?_
        refine gw_iload_n 2 d_GT_effect_127 rfl rfl ?_
        obtain ⟨g18, h⟩ := h
        obtain ⟨g19, h⟩ := h
        refine gw_invV (as := [.inr 7, .inl z2, .inl v2]) (k := 345) (rest := []) (d' := (d + 3)) d_GT_effect_128 lk_GT_314 (ga_rcv (ga_l345) rfl rfl) rfl (Nat.le_of_ble_eq_true rfl) (Nat.le_of_ble_eq_true rfl) rfl rfl (s_Blend_findIn ga_l345 ga_s1.2.1.2.2.1 g18 g19 g3 ?_)
        show ga_W G (d + 4) mt_GT_effect 131 [some (.inr 0), some (.inl v1), some (.inl v2), some (.inl z1), some (.inl z2)] [] (gx_bl I3 345 (gp_fi (I3 (7 + 1)) (I3 (7 + 2)) (I3 (7 + 3)) (I3 7 0).toNat z2 v2)) E
        refine gw_nm (fun I4 q6 => ?_)
        have h := h I4 q6
        refine gw_RG (fun hI5 => ?_)
        refine gw_aload_n 0 d_GT_effect_131 rfl rfl ?_
        refine gw_aload_n 0 d_GT_effect_132 rfl rfl ?_
        refine gw_getR d_GT_effect_133 fl_GT_58 (ga_oG) rfl ?_
        obtain ⟨g20, h⟩ := h
        obtain ⟨g21, h⟩ := h
        obtain ⟨g22, h⟩ := h
        obtain ⟨g23, h⟩ := h
        refine gw_invV (as := [.inr 347]) (k := 0) (rest := []) (d' := (d + 3)) d_GT_effect_136 lk_GT_310 (ga_rcv (ga_oG) rfl rfl) rfl (Nat.le_of_ble_eq_true rfl) (Nat.le_of_ble_eq_true rfl) rfl rfl (s_GT_noteValues g20 g21 g22 g23 ?_)
        show ga_W G (d + 4) mt_GT_effect 139 [some (.inr 0), some (.inl v1), some (.inl v2), some (.inl z1), some (.inl z2)] [] (gx_nv I4 347) E
        refine gw_nm (fun I5 q7 => ?_)
        have h := h I5 q7
        refine gw_RG (fun hI6 => ?_)
        refine gw_iconst d_GT_effect_139 ?_
        refine gw_iload_n 3 d_GT_effect_140 rfl rfl ?_
        refine gw_aload_n 0 d_GT_effect_141 rfl rfl ?_
        refine gw_getR d_GT_effect_142 fl_GT_12 (ga_oG) rfl ?_
        refine gw_getR d_GT_effect_145 fl_GT_207 (ga_s1.1) rfl ?_
        refine gw_iconst d_GT_effect_148 ?_
        refine gw_iald d_GT_effect_149 (ga_s1.2.2.2.2.2.2.2.1) (by decide) (by decide) ?_
        obtain ⟨g24, h⟩ := h
        refine gw_icmp_eq 157 d_GT_effect_150 (by decide) g24 (hI6 _ _) (fun hc => ?_) (fun hc => ?_)
        · have h := h.1 hc
          refine gw_iconst d_GT_effect_157 ?_
          refine gw_iadd d_GT_effect_158 ?_
          refine gw_iload 4 d_GT_effect_159 rfl ?_
          refine gw_aload_n 0 d_GT_effect_161 rfl rfl ?_
          refine gw_getR d_GT_effect_162 fl_GT_12 (ga_oG) rfl ?_
          refine gw_getR d_GT_effect_165 fl_GT_207 (ga_s1.1) rfl ?_
          refine gw_iconst d_GT_effect_168 ?_
          refine gw_iald d_GT_effect_169 (ga_s1.2.2.2.2.2.2.2.1) (by decide) (by decide) ?_
          obtain ⟨g25, h⟩ := h
          refine gw_icmp_eq 177 d_GT_effect_170 (by decide) g25 (hI6 _ _) (fun hc => ?_) (fun hc => ?_)
          · have h := h.1 hc
            refine gw_iconst d_GT_effect_177 ?_
            refine gw_iadd d_GT_effect_178 ?_
            refine gw_aload_n 0 d_GT_effect_179 rfl rfl ?_
            obtain ⟨g26, h⟩ := h
            refine gw_invV (as := []) (k := 0) (rest := [.inl ((1 + 0) + 0)]) (d' := (d + 3)) d_GT_effect_180 lk_GT_318 (ga_rcv (ga_oG) rfl rfl) rfl (Nat.le_of_ble_eq_true rfl) (Nat.le_of_ble_eq_true rfl) rfl rfl (s_GT_greatestDifference g26 ?_)
            show ga_W G (d + 4) mt_GT_effect 183 [some (.inr 0), some (.inl v1), some (.inl v2), some (.inl z1), some (.inl z2)] [.inl (gp_j3 ((I5 347 0 - I5 346 0).natAbs : Int) ((I5 347 1 - I5 346 1).natAbs : Int) ((I5 347 2 - I5 346 2).natAbs : Int)), .inl ((1 + 0) + 0)] I5 E
            refine gw_nz (z := gp_j3 ((I5 347 0 - I5 346 0).natAbs : Int) ((I5 347 1 - I5 346 1).natAbs : Int) ((I5 347 2 - I5 346 2).natAbs : Int)) (fun z3 q8 => ?_)
            have h := h z3 q8
            obtain ⟨g27, h⟩ := h
            refine gw_if_eq 191 d_GT_effect_183 (by decide) g27 (fun hc => ?_) (fun hc => ?_)
            · have h := h.1 hc
              refine gw_iconst d_GT_effect_191 ?_
              refine gw_iadd d_GT_effect_192 ?_
              exact gw_ireturn d_GT_effect_193 rfl h
            · have h := h.2 hc
              refine gw_bipush d_GT_effect_186 (by decide +kernel) ?_
              refine gw_goto 192 d_GT_effect_188 (by decide) ?_
              refine gw_iadd d_GT_effect_192 ?_
              exact gw_ireturn d_GT_effect_193 rfl h
          · have h := h.2 hc
            refine gw_iconst d_GT_effect_173 ?_
            refine gw_goto 178 d_GT_effect_174 (by decide) ?_
            refine gw_iadd d_GT_effect_178 ?_
            refine gw_aload_n 0 d_GT_effect_179 rfl rfl ?_
            obtain ⟨g28, h⟩ := h
            refine gw_invV (as := []) (k := 0) (rest := [.inl ((1 + 0) + 4)]) (d' := (d + 3)) d_GT_effect_180 lk_GT_318 (ga_rcv (ga_oG) rfl rfl) rfl (Nat.le_of_ble_eq_true rfl) (Nat.le_of_ble_eq_true rfl) rfl rfl (s_GT_greatestDifference g28 ?_)
            show ga_W G (d + 4) mt_GT_effect 183 [some (.inr 0), some (.inl v1), some (.inl v2), some (.inl z1), some (.inl z2)] [.inl (gp_j3 ((I5 347 0 - I5 346 0).natAbs : Int) ((I5 347 1 - I5 346 1).natAbs : Int) ((I5 347 2 - I5 346 2).natAbs : Int)), .inl ((1 + 0) + 4)] I5 E
            refine gw_nz (z := gp_j3 ((I5 347 0 - I5 346 0).natAbs : Int) ((I5 347 1 - I5 346 1).natAbs : Int) ((I5 347 2 - I5 346 2).natAbs : Int)) (fun z4 q9 => ?_)
            have h := h z4 q9
            obtain ⟨g29, h⟩ := h
            refine gw_if_eq 191 d_GT_effect_183 (by decide) g29 (fun hc => ?_) (fun hc => ?_)
            · have h := h.1 hc
              refine gw_iconst d_GT_effect_191 ?_
              refine gw_iadd d_GT_effect_192 ?_
              exact gw_ireturn d_GT_effect_193 rfl h
            · have h := h.2 hc
              refine gw_bipush d_GT_effect_186 (by decide +kernel) ?_
              refine gw_goto 192 d_GT_effect_188 (by decide) ?_
              refine gw_iadd d_GT_effect_192 ?_
              exact gw_ireturn d_GT_effect_193 rfl h
        · have h := h.2 hc
          refine gw_iconst d_GT_effect_153 ?_
          refine gw_goto 158 d_GT_effect_154 (by decide) ?_
          refine gw_iadd d_GT_effect_158 ?_
          refine gw_iload 4 d_GT_effect_159 rfl ?_
          refine gw_aload_n 0 d_GT_effect_161 rfl rfl ?_
          refine gw_getR d_GT_effect_162 fl_GT_12 (ga_oG) rfl ?_
          refine gw_getR d_GT_effect_165 fl_GT_207 (ga_s1.1) rfl ?_
          refine gw_iconst d_GT_effect_168 ?_
          refine gw_iald d_GT_effect_169 (ga_s1.2.2.2.2.2.2.2.1) (by decide) (by decide) ?_
          obtain ⟨g30, h⟩ := h
          refine gw_icmp_eq 177 d_GT_effect_170 (by decide) g30 (hI6 _ _) (fun hc => ?_) (fun hc => ?_)
          · have h := h.1 hc
            refine gw_iconst d_GT_effect_177 ?_
            refine gw_iadd d_GT_effect_178 ?_
            refine gw_aload_n 0 d_GT_effect_179 rfl rfl ?_
            obtain ⟨g31, h⟩ := h
            refine gw_invV (as := []) (k := 0) (rest := [.inl ((1 + 2) + 0)]) (d' := (d + 3)) d_GT_effect_180 lk_GT_318 (ga_rcv (ga_oG) rfl rfl) rfl (Nat.le_of_ble_eq_true rfl) (Nat.le_of_ble_eq_true rfl) rfl rfl (s_GT_greatestDifference g31 ?_)
            show ga_W G (d + 4) mt_GT_effect 183 [some (.inr 0), some (.inl v1), some (.inl v2), some (.inl z1), some (.inl z2)] [.inl (gp_j3 ((I5 347 0 - I5 346 0).natAbs : Int) ((I5 347 1 - I5 346 1).natAbs : Int) ((I5 347 2 - I5 346 2).natAbs : Int)), .inl ((1 + 2) + 0)] I5 E
            refine gw_nz (z := gp_j3 ((I5 347 0 - I5 346 0).natAbs : Int) ((I5 347 1 - I5 346 1).natAbs : Int) ((I5 347 2 - I5 346 2).natAbs : Int)) (fun z5 q10 => ?_)
            have h := h z5 q10
            obtain ⟨g32, h⟩ := h
            refine gw_if_eq 191 d_GT_effect_183 (by decide) g32 (fun hc => ?_) (fun hc => ?_)
            · have h := h.1 hc
              refine gw_iconst d_GT_effect_191 ?_
              refine gw_iadd d_GT_effect_192 ?_
              exact gw_ireturn d_GT_effect_193 rfl h
            · have h := h.2 hc
              refine gw_bipush d_GT_effect_186 (by decide +kernel) ?_
              refine gw_goto 192 d_GT_effect_188 (by decide) ?_
              refine gw_iadd d_GT_effect_192 ?_
              exact gw_ireturn d_GT_effect_193 rfl h
          · have h := h.2 hc
            refine gw_iconst d_GT_effect_173 ?_
            refine gw_goto 178 d_GT_effect_174 (by decide) ?_
            refine gw_iadd d_GT_effect_178 ?_
            refine gw_aload_n 0 d_GT_effect_179 rfl rfl ?_
            obtain ⟨g33, h⟩ := h
            refine gw_invV (as := []) (k := 0) (rest := [.inl ((1 + 2) + 4)]) (d' := (d + 3)) d_GT_effect_180 lk_GT_318 (ga_rcv (ga_oG) rfl rfl) rfl (Nat.le_of_ble_eq_true rfl) (Nat.le_of_ble_eq_true rfl) rfl rfl (s_GT_greatestDifference g33 ?_)
            show ga_W G (d + 4) mt_GT_effect 183 [some (.inr 0), some (.inl v1), some (.inl v2), some (.inl z1), some (.inl z2)] [.inl (gp_j3 ((I5 347 0 - I5 346 0).natAbs : Int) ((I5 347 1 - I5 346 1).natAbs : Int) ((I5 347 2 - I5 346 2).natAbs : Int)), .inl ((1 + 2) + 4)] I5 E
            refine gw_nz (z := gp_j3 ((I5 347 0 - I5 346 0).natAbs : Int) ((I5 347 1 - I5 346 1).natAbs : Int) ((I5 347 2 - I5 346 2).natAbs : Int)) (fun z6 q11 => ?_)
            have h := h z6 q11
            obtain ⟨g34, h⟩ := h
            refine gw_if_eq 191 d_GT_effect_183 (by decide) g34 (fun hc => ?_) (fun hc => ?_)
            · have h := h.1 hc
              refine gw_iconst d_GT_effect_191 ?_
              refine gw_iadd d_GT_effect_192 ?_
              exact gw_ireturn d_GT_effect_193 rfl h
            · have h := h.2 hc
              refine gw_bipush d_GT_effect_186 (by decide +kernel) ?_
              refine gw_goto 192 d_GT_effect_188 (by decide) ?_
              refine gw_iadd d_GT_effect_192 ?_
              exact gw_ireturn d_GT_effect_193 rfl h
      · have h := h.2 (of_decide_eq_true hc)
        refine gw_iconst d_GT_effect_29 ?_
        exact gw_ireturn d_GT_effect_30 rfl h
    · have h := h.2 (of_decide_eq_false hc)
      refine gw_ldc (n := (-2000000001)) d_GT_effect_14 kw_GT_76 (by decide +kernel) ?_
      exact gw_ireturn d_GT_effect_16 rfl h

theorem k_GT_valueAt_0 {G : ga_G} {d : Nat} {I : ga_I} {E : Option ga_V → ga_I → Prop} {v1 : Int} {v2 : Int} {v3 : Int} (r1 : ga_rg v1) (r2 : ga_rg v2) (r3 : ga_rg v3)
    (h : ga_RG I → ((¬ (0 ≤ v1 ∧ v1 ≤ 1000)) → E (some (.inl (-2000000001))) I) ∧ ((0 ≤ v1 ∧ v1 ≤ 1000) → ((¬ (0 ≤ v2 ∧ v2 ≤ 1000)) → E (some (.inl (-2000000001))) I) ∧ ((0 ≤ v2 ∧ v2 ≤ 1000) → ((0 ≤ v3 ∧ v3 ≤ 2) → (gb_ok I 3) ∧ ((0 ≤ v1 ∧ v1 ≤ 1000) ∧ ((∀ I1 : ga_I, I1 = (gx_bl I 344 (gp_fi (I (3 + 1)) (I (3 + 2)) (I (3 + 3)) (I 3 0).toNat (gp_zo (I (3 + 1)) (I (3 + 2)) v1 (I 3 0).toNat) v1)) → (gb_ok I1 7) ∧ ((0 ≤ v2 ∧ v2 ≤ 1000) ∧ ((∀ I2 : ga_I, I2 = (gx_bl I1 345 (gp_fi (I1 (7 + 1)) (I1 (7 + 2)) (I1 (7 + 3)) (I1 7 0).toNat (gp_zo (I1 (7 + 1)) (I1 (7 + 2)) v2 (I1 7 0).toNat) v2)) → (gp_vk (gl_v I2 344)) ∧ ((gp_vk (gl_v I2 345)) ∧ ((0 ≤ v3 ∧ v3 ≤ 2) ∧ ((gr_gn I2 2) ∧ (E (some (.inl (gv_i I2 v3))) I2))))))))))) ∧ ((¬ (0 ≤ v3 ∧ v3 ≤ 2)) → E (some (.inl (-2000000001))) I)))) :
    ga_W G (d + 4) mt_GT_valueAt 0 (ga_en 4 [.inr 0, .inl v1, .inl v2, .inl v3]) [] I E := by
  show ga_W G (d + 4) mt_GT_valueAt 0 [some (.inr 0), some (.inl v1), some (.inl v2), some (.inl v3)] [] I E
  refine gw_RG (fun hI1 => ?_)
  have h := h hI1
  refine gw_iload_n 1 d_GT_valueAt_0 rfl rfl ?_
  refine gw_invS (as := [.inl v1]) (rest := []) (d' := (d + 3)) d_GT_valueAt_1 lk_GT_194 rfl (Nat.le_of_ble_eq_true rfl) (Nat.le_of_ble_eq_true rfl) rfl rfl (s_GT_isCoordinate r1 ?_)
  show ga_W G (d + 4) mt_GT_valueAt 4 [some (.inr 0), some (.inl v1), some (.inl v2), some (.inl v3)] [.inl (ga_bb (decide (0 ≤ v1 ∧ v1 ≤ 1000)))] I E
  refine gw_ifb_eq 21 d_GT_valueAt_4 (by decide) (fun hc => ?_) (fun hc => ?_)
  · have h := h.1 (of_decide_eq_false hc)
    refine gw_ldc (n := (-2000000001)) d_GT_valueAt_21 kw_GT_76 (by decide +kernel) ?_
    exact gw_ireturn d_GT_valueAt_23 rfl h
  · have h := h.2 (of_decide_eq_true hc)
    refine gw_iload_n 2 d_GT_valueAt_7 rfl rfl ?_
    refine gw_invS (as := [.inl v2]) (rest := []) (d' := (d + 3)) d_GT_valueAt_8 lk_GT_194 rfl (Nat.le_of_ble_eq_true rfl) (Nat.le_of_ble_eq_true rfl) rfl rfl (s_GT_isCoordinate r2 ?_)
    show ga_W G (d + 4) mt_GT_valueAt 11 [some (.inr 0), some (.inl v1), some (.inl v2), some (.inl v3)] [.inl (ga_bb (decide (0 ≤ v2 ∧ v2 ≤ 1000)))] I E
    refine gw_ifb_eq 21 d_GT_valueAt_11 (by decide) (fun hc => ?_) (fun hc => ?_)
    · have h := h.1 (of_decide_eq_false hc)
      refine gw_ldc (n := (-2000000001)) d_GT_valueAt_21 kw_GT_76 (by decide +kernel) ?_
      exact gw_ireturn d_GT_valueAt_23 rfl h
    · have h := h.2 (of_decide_eq_true hc)
      refine gw_iload_n 3 d_GT_valueAt_14 rfl rfl ?_
      refine gw_invS (as := [.inl v3]) (rest := []) (d' := (d + 3)) d_GT_valueAt_15 lk_GT_164 rfl (Nat.le_of_ble_eq_true rfl) (Nat.le_of_ble_eq_true rfl) rfl rfl (s_GT_isGain r3 ?_)
      show ga_W G (d + 4) mt_GT_valueAt 18 [some (.inr 0), some (.inl v1), some (.inl v2), some (.inl v3)] [.inl (ga_bb (decide (0 ≤ v3 ∧ v3 ≤ 2)))] I E
      refine gw_ifb_ne 24 d_GT_valueAt_18 (by decide) (fun hc => ?_) (fun hc => ?_)
      · have h := h.1 (of_decide_eq_true hc)
        refine gw_aload_n 0 d_GT_valueAt_24 rfl rfl ?_
        refine gw_getR d_GT_valueAt_25 fl_GT_47 (ga_oG) rfl ?_
        refine gw_aload_n 0 d_GT_valueAt_28 rfl rfl ?_
        refine gw_getR d_GT_valueAt_29 fl_GT_12 (ga_oG) rfl ?_
        refine gw_getR d_GT_valueAt_32 fl_GT_77 (ga_s1.1) rfl ?_
        refine gw_getR d_GT_valueAt_35 fl_GT_167 (ga_s1.2.1.1) rfl ?_
        refine gw_iload_n 1 d_GT_valueAt_38 rfl rfl ?_
        obtain ⟨g1, h⟩ := h
        obtain ⟨g2, h⟩ := h
        refine gw_invV (as := [.inr 3, .inl v1]) (k := 344) (rest := []) (d' := (d + 3)) d_GT_valueAt_39 lk_GT_321 (ga_rcv (ga_l344) rfl rfl) rfl (Nat.le_of_ble_eq_true rfl) (Nat.le_of_ble_eq_true rfl) rfl rfl (s_Blend_findByPosition ga_l344 ga_s1.2.1.2.1 g1 g2 ?_)
        show ga_W G (d + 4) mt_GT_valueAt 42 [some (.inr 0), some (.inl v1), some (.inl v2), some (.inl v3)] [] (gx_bl I 344 (gp_fi (I (3 + 1)) (I (3 + 2)) (I (3 + 3)) (I 3 0).toNat (gp_zo (I (3 + 1)) (I (3 + 2)) v1 (I 3 0).toNat) v1)) E
        refine gw_nm (fun I1 q1 => ?_)
        have h := h I1 q1
        refine gw_RG (fun hI2 => ?_)
        refine gw_aload_n 0 d_GT_valueAt_42 rfl rfl ?_
        refine gw_getR d_GT_valueAt_43 fl_GT_51 (ga_oG) rfl ?_
        refine gw_aload_n 0 d_GT_valueAt_46 rfl rfl ?_
        refine gw_getR d_GT_valueAt_47 fl_GT_12 (ga_oG) rfl ?_
        refine gw_getR d_GT_valueAt_50 fl_GT_77 (ga_s1.1) rfl ?_
        refine gw_getR d_GT_valueAt_53 fl_GT_170 (ga_s1.2.1.1) rfl ?_
        refine gw_iload_n 2 d_GT_valueAt_56 rfl rfl ?_
        obtain ⟨g3, h⟩ := h
        obtain ⟨g4, h⟩ := h
        refine gw_invV (as := [.inr 7, .inl v2]) (k := 345) (rest := []) (d' := (d + 3)) d_GT_valueAt_57 lk_GT_321 (ga_rcv (ga_l345) rfl rfl) rfl (Nat.le_of_ble_eq_true rfl) (Nat.le_of_ble_eq_true rfl) rfl rfl (s_Blend_findByPosition ga_l345 ga_s1.2.1.2.2.1 g3 g4 ?_)
        show ga_W G (d + 4) mt_GT_valueAt 60 [some (.inr 0), some (.inl v1), some (.inl v2), some (.inl v3)] [] (gx_bl I1 345 (gp_fi (I1 (7 + 1)) (I1 (7 + 2)) (I1 (7 + 3)) (I1 7 0).toNat (gp_zo (I1 (7 + 1)) (I1 (7 + 2)) v2 (I1 7 0).toNat) v2)) E
        refine gw_nm (fun I2 q2 => ?_)
        have h := h I2 q2
        refine gw_RG (fun hI3 => ?_)
        refine gw_aload_n 0 d_GT_valueAt_60 rfl rfl ?_
        refine gw_iload_n 3 d_GT_valueAt_61 rfl rfl ?_
        obtain ⟨g5, h⟩ := h
        obtain ⟨g6, h⟩ := h
        obtain ⟨g7, h⟩ := h
        obtain ⟨g8, h⟩ := h
        refine gw_invV (as := [.inl v3]) (k := 0) (rest := []) (d' := (d + 3)) d_GT_valueAt_62 lk_GT_295 (ga_rcv (ga_oG) rfl rfl) rfl (Nat.le_of_ble_eq_true rfl) (Nat.le_of_ble_eq_true rfl) rfl rfl (s_GT_blendedValue g5 g6 g7 g8 ?_)
        show ga_W G (d + 4) mt_GT_valueAt 65 [some (.inr 0), some (.inl v1), some (.inl v2), some (.inl v3)] [.inl (gv_i I2 v3)] I2 E
        exact gw_ireturn d_GT_valueAt_65 rfl h
      · have h := h.2 (of_decide_eq_false hc)
        refine gw_ldc (n := (-2000000001)) d_GT_valueAt_21 kw_GT_76 (by decide +kernel) ?_
        exact gw_ireturn d_GT_valueAt_23 rfl h

theorem k_GT_chatter_0 {G : ga_G} {d : Nat} {I : ga_I} {E : Option ga_V → ga_I → Prop} {v1 : Int} {v2 : Int} {v3 : Int} {v4 : Int} (r1 : ga_rg v1) (r2 : ga_rg v2) (r3 : ga_rg v3) (r4 : ga_rg v4)
    (h : ga_RG I → ((¬ (0 ≤ v1 ∧ v1 ≤ 1)) → E (some (.inl (-2000000001))) I) ∧ ((0 ≤ v1 ∧ v1 ≤ 1) → ((¬ (0 ≤ v2 ∧ v2 ≤ 1000)) → E (some (.inl (-2000000001))) I) ∧ ((0 ≤ v2 ∧ v2 ≤ 1000) → (0 ≤ v2 ∧ v2 ≤ 1000) ∧ (((¬ ((0 ≤ v3 ∧ v3 ≤ 500) ∧ (0 ≤ v2 - v3 ∧ v2 - v3 ≤ 1000) ∧ (0 ≤ v2 + v3 ∧ v2 + v3 ≤ 1000))) → E (some (.inl (-2000000001))) I) ∧ (((0 ≤ v3 ∧ v3 ≤ 500) ∧ (0 ≤ v2 - v3 ∧ v2 - v3 ≤ 1000) ∧ (0 ≤ v2 + v3 ∧ v2 + v3 ≤ 1000)) → (((1 : Int) ≤ v4 ∧ v4 ≤ (100 : Int)) → (0 ≤ v1) ∧ ((v1 < 2) ∧ ((gb_ok I (ga_bo 2 v1)) ∧ ((0 ≤ (I 48 v1.toNat) ∧ (I 48 v1.toNat) ≤ gp_ct (gp_sk (I ((ga_bo 2 v1) + 2))) (I (ga_bo 2 v1) 0).toNat) ∧ ((0 ≤ v4 ∧ v4 ≤ 100) ∧ ((ga_rg (v2 + v3)) ∧ ((ga_rg (v2 - v3)) ∧ ((∀ z1 : Int, z1 = (gp_zc (I ((ga_bo 2 v1) + 1)) (I ((ga_bo 2 v1) + 2)) (I ((ga_bo 2 v1) + 3)) (I (ga_bo 2 v1) 0).toNat (I 48 v1.toNat) v2 v3 v4.toNat).1 → E (some (.inl z1)) I))))))))) ∧ ((¬ ((1 : Int) ≤ v4 ∧ v4 ≤ (100 : Int))) → E (some (.inl (-2000000001))) I)))))) :
    ga_W G (d + 3) mt_GT_chatter 0 (ga_en 6 [.inr 0, .inl v1, .inl v2, .inl v3, .inl v4]) [] I E := by
  show ga_W G (d + 3) mt_GT_chatter 0 [some (.inr 0), some (.inl v1), some (.inl v2), some (.inl v3), some (.inl v4), none] [] I E
  refine gw_RG (fun hI1 => ?_)
  have h := h hI1
  refine gw_iload_n 1 d_GT_chatter_0 rfl rfl ?_
  refine gw_invS (as := [.inl v1]) (rest := []) (d' := (d + 2)) d_GT_chatter_1 lk_GT_61 rfl (Nat.le_of_ble_eq_true rfl) (Nat.le_of_ble_eq_true rfl) rfl rfl (s_GT_isAxis r1 ?_)
  show ga_W G (d + 3) mt_GT_chatter 4 [some (.inr 0), some (.inl v1), some (.inl v2), some (.inl v3), some (.inl v4), none] [.inl (ga_bb (decide (0 ≤ v1 ∧ v1 ≤ 1)))] I E
  refine gw_ifb_eq 33 d_GT_chatter_4 (by decide) (fun hc => ?_) (fun hc => ?_)
  · have h := h.1 (of_decide_eq_false hc)
    refine gw_ldc (n := (-2000000001)) d_GT_chatter_33 kw_GT_76 (by decide +kernel) ?_
    exact gw_ireturn d_GT_chatter_35 rfl h
  · have h := h.2 (of_decide_eq_true hc)
    refine gw_iload_n 2 d_GT_chatter_7 rfl rfl ?_
    refine gw_invS (as := [.inl v2]) (rest := []) (d' := (d + 2)) d_GT_chatter_8 lk_GT_194 rfl (Nat.le_of_ble_eq_true rfl) (Nat.le_of_ble_eq_true rfl) rfl rfl (s_GT_isCoordinate r2 ?_)
    show ga_W G (d + 3) mt_GT_chatter 11 [some (.inr 0), some (.inl v1), some (.inl v2), some (.inl v3), some (.inl v4), none] [.inl (ga_bb (decide (0 ≤ v2 ∧ v2 ≤ 1000)))] I E
    refine gw_ifb_eq 33 d_GT_chatter_11 (by decide) (fun hc => ?_) (fun hc => ?_)
    · have h := h.1 (of_decide_eq_false hc)
      refine gw_ldc (n := (-2000000001)) d_GT_chatter_33 kw_GT_76 (by decide +kernel) ?_
      exact gw_ireturn d_GT_chatter_35 rfl h
    · have h := h.2 (of_decide_eq_true hc)
      refine gw_iload_n 2 d_GT_chatter_14 rfl rfl ?_
      refine gw_iload_n 3 d_GT_chatter_15 rfl rfl ?_
      obtain ⟨g1, h⟩ := h
      refine gw_invS (as := [.inl v2, .inl v3]) (rest := []) (d' := (d + 2)) d_GT_chatter_16 lk_GT_325 rfl (Nat.le_of_ble_eq_true rfl) (Nat.le_of_ble_eq_true rfl) rfl rfl (s_GT_isSwing g1 r3 ?_)
      show ga_W G (d + 3) mt_GT_chatter 19 [some (.inr 0), some (.inl v1), some (.inl v2), some (.inl v3), some (.inl v4), none] [.inl (ga_bb (decide ((0 ≤ v3 ∧ v3 ≤ 500) ∧ (0 ≤ v2 - v3 ∧ v2 - v3 ≤ 1000) ∧ (0 ≤ v2 + v3 ∧ v2 + v3 ≤ 1000))))] I E
      refine gw_ifb_eq 33 d_GT_chatter_19 (by decide) (fun hc => ?_) (fun hc => ?_)
      · have h := h.1 (of_decide_eq_false hc)
        refine gw_ldc (n := (-2000000001)) d_GT_chatter_33 kw_GT_76 (by decide +kernel) ?_
        exact gw_ireturn d_GT_chatter_35 rfl h
      · have h := h.2 (of_decide_eq_true hc)
        refine gw_iload 4 d_GT_chatter_22 rfl ?_
        refine gw_iconst d_GT_chatter_24 ?_
        refine gw_bipush d_GT_chatter_25 (by decide +kernel) ?_
        refine gw_invS (as := [.inl v4, .inl 1, .inl 100]) (rest := []) (d' := (d + 2)) d_GT_chatter_27 lk_GT_65 rfl (Nat.le_of_ble_eq_true rfl) (Nat.le_of_ble_eq_true rfl) rfl rfl (s_GT_isIn r4 ⟨by decide, by decide⟩ ⟨by decide, by decide⟩ ?_)
        show ga_W G (d + 3) mt_GT_chatter 30 [some (.inr 0), some (.inl v1), some (.inl v2), some (.inl v3), some (.inl v4), none] [.inl (ga_bb (decide ((1 : Int) ≤ v4 ∧ v4 ≤ (100 : Int))))] I E
        refine gw_ifb_ne 36 d_GT_chatter_30 (by decide) (fun hc => ?_) (fun hc => ?_)
        · have h := h.1 (of_decide_eq_true hc)
          refine gw_aload_n 0 d_GT_chatter_36 rfl rfl ?_
          refine gw_getR d_GT_chatter_37 fl_GT_12 (ga_oG) rfl ?_
          refine gw_getR d_GT_chatter_40 fl_GT_77 (ga_s1.1) rfl ?_
          refine gw_iload_n 1 d_GT_chatter_43 rfl rfl ?_
          refine gw_invV (as := [.inl v1]) (k := 2) (rest := []) (d' := (d + 2)) d_GT_chatter_44 lk_GT_80 (ga_rcv (ga_s1.2.1.1) rfl rfl) rfl (Nat.le_of_ble_eq_true rfl) (Nat.le_of_ble_eq_true rfl) rfl rfl (s_Table_bordersOf ga_s1.2.1 r1 ?_)
          show ga_W G (d + 3) mt_GT_chatter 47 [some (.inr 0), some (.inl v1), some (.inl v2), some (.inl v3), some (.inl v4), none] [.inr (ga_bo 2 v1)] I E
          refine gw_astore 5 d_GT_chatter_47 (Nat.le_of_ble_eq_true rfl) rfl ?_
          refine gw_aload 5 d_GT_chatter_49 rfl ?_
          refine gw_aload_n 0 d_GT_chatter_51 rfl rfl ?_
          refine gw_getR d_GT_chatter_52 fl_GT_12 (ga_oG) rfl ?_
          refine gw_getR d_GT_chatter_55 fl_GT_207 (ga_s1.1) rfl ?_
          refine gw_iload_n 1 d_GT_chatter_58 rfl rfl ?_
          obtain ⟨g2, h⟩ := h
          obtain ⟨g3, h⟩ := h
          refine gw_iald d_GT_chatter_59 (ga_s1.2.2.2.2.2.2.2.1) g2 g3 ?_
          refine gw_iload_n 2 d_GT_chatter_60 rfl rfl ?_
          refine gw_iload_n 3 d_GT_chatter_61 rfl rfl ?_
          refine gw_iload 4 d_GT_chatter_62 rfl ?_
          obtain ⟨g4, h⟩ := h
          obtain ⟨g5, h⟩ := h
          obtain ⟨g6, h⟩ := h
          obtain ⟨g7, h⟩ := h
          obtain ⟨g8, h⟩ := h
          refine gw_invV (as := [.inl (I 48 v1.toNat), .inl v2, .inl v3, .inl v4]) (k := (ga_bo 2 v1)) (rest := []) (d' := (d + 2)) d_GT_chatter_64 lk_GT_328 (ga_rcv ((ga_bo_B ga_s1.2.1 v1).1) rfl rfl) rfl (Nat.le_of_ble_eq_true rfl) (Nat.le_of_ble_eq_true rfl) rfl rfl (s_Borders_zoneChanges (ga_bo_B ga_s1.2.1 v1) g4 g5 g6 g7 g8 ?_)
          show ga_W G (d + 3) mt_GT_chatter 67 [some (.inr 0), some (.inl v1), some (.inl v2), some (.inl v3), some (.inl v4), some (.inr (ga_bo 2 v1))] [.inl ((gp_zc (I ((ga_bo 2 v1) + 1)) (I ((ga_bo 2 v1) + 2)) (I ((ga_bo 2 v1) + 3)) (I (ga_bo 2 v1) 0).toNat (I 48 v1.toNat) v2 v3 v4.toNat).1)] I E
          refine gw_nz (z := (gp_zc (I ((ga_bo 2 v1) + 1)) (I ((ga_bo 2 v1) + 2)) (I ((ga_bo 2 v1) + 3)) (I (ga_bo 2 v1) 0).toNat (I 48 v1.toNat) v2 v3 v4.toNat).1) (fun z1 q1 => ?_)
          have h := h z1 q1
          exact gw_ireturn d_GT_chatter_67 rfl h
        · have h := h.2 (of_decide_eq_false hc)
          refine gw_ldc (n := (-2000000001)) d_GT_chatter_33 kw_GT_76 (by decide +kernel) ?_
          exact gw_ireturn d_GT_chatter_35 rfl h

theorem k_GT_steepest_0 {G : ga_G} {d : Nat} {I : ga_I} {E : Option ga_V → ga_I → Prop} {v1 : Int} {v2 : Int} {v3 : Int} (r1 : ga_rg v1) (r2 : ga_rg v2) (r3 : ga_rg v3)
    (h : ga_RG I → ((¬ (0 ≤ v1 ∧ v1 ≤ 1)) → E (some (.inl (-2000000001))) I) ∧ ((0 ≤ v1 ∧ v1 ≤ 1) → ((¬ (0 ≤ v2 ∧ v2 ≤ 2)) → E (some (.inl (-2000000001))) I) ∧ ((0 ≤ v2 ∧ v2 ≤ 2) → (((0 : Int) ≤ v3 ∧ v3 ≤ (1 : Int)) → ((v1 ≠ 0) → ((v1 ≠ 0) → (gb_ok I 3) ∧ ((0 ≤ (I 47 0) ∧ (I 47 0) ≤ 1000) ∧ ((∀ I1 : ga_I, I1 = (gx_bl I 344 (gp_fi (I (3 + 1)) (I (3 + 2)) (I (3 + 3)) (I 3 0).toNat (gp_zo (I (3 + 1)) (I (3 + 2)) (I 47 0) (I 3 0).toNat) (I 47 0))) → ((v1 ≠ 0) → (gb_ok I1 7) ∧ ((0 ≤ (0 : Int) ∧ (0 : Int) ≤ 1000) ∧ ((∀ I2 : ga_I, I2 = (gx_bl I1 345 (gp_fi (I1 (7 + 1)) (I1 (7 + 2)) (I1 (7 + 3)) (I1 7 0).toNat (gp_zo (I1 (7 + 1)) (I1 (7 + 2)) (0 : Int) (I1 7 0).toNat) (0 : Int))) → (gp_vk (gl_v I2 344)) ∧ ((gp_vk (gl_v I2 345)) ∧ ((0 ≤ v2 ∧ v2 ≤ 2) ∧ ((gr_gn I2 2) ∧ (ga_W G (d + 4) mt_GT_steepest 140 [some (.inr 0), none, some (.inl v2), some (.inl v3), some (.inr (ga_bo 2 v1)), some (.inr 345), some (.inl (gv_i I2 v2)), some (.inl 0), some (.inl 0), some (.inl 0), none] [] I2 E)))))))) ∧ ((v1 = 0) → (gb_ok I1 7) ∧ ((0 ≤ (I1 47 1) ∧ (I1 47 1) ≤ 1000) ∧ ((∀ I3 : ga_I, I3 = (gx_bl I1 345 (gp_fi (I1 (7 + 1)) (I1 (7 + 2)) (I1 (7 + 3)) (I1 7 0).toNat (gp_zo (I1 (7 + 1)) (I1 (7 + 2)) (I1 47 1) (I1 7 0).toNat) (I1 47 1))) → (gp_vk (gl_v I3 344)) ∧ ((gp_vk (gl_v I3 345)) ∧ ((0 ≤ v2 ∧ v2 ≤ 2) ∧ ((gr_gn I3 2) ∧ (ga_W G (d + 4) mt_GT_steepest 140 [some (.inr 0), none, some (.inl v2), some (.inl v3), some (.inr (ga_bo 2 v1)), some (.inr 345), some (.inl (gv_i I3 v2)), some (.inl 0), some (.inl 0), some (.inl 0), none] [] I3 E)))))))))))) ∧ ((v1 = 0) → (gb_ok I 3) ∧ ((0 ≤ (0 : Int) ∧ (0 : Int) ≤ 1000) ∧ ((∀ I4 : ga_I, I4 = (gx_bl I 344 (gp_fi (I (3 + 1)) (I (3 + 2)) (I (3 + 3)) (I 3 0).toNat (gp_zo (I (3 + 1)) (I (3 + 2)) (0 : Int) (I 3 0).toNat) (0 : Int))) → ((v1 ≠ 0) → (gb_ok I4 7) ∧ ((∀ I5 : ga_I, I5 = (gx_bl I4 345 (gp_fi (I4 (7 + 1)) (I4 (7 + 2)) (I4 (7 + 3)) (I4 7 0).toNat (gp_zo (I4 (7 + 1)) (I4 (7 + 2)) (0 : Int) (I4 7 0).toNat) (0 : Int))) → (gp_vk (gl_v I5 344)) ∧ ((gp_vk (gl_v I5 345)) ∧ ((0 ≤ v2 ∧ v2 ≤ 2) ∧ ((gr_gn I5 2) ∧ (ga_W G (d + 4) mt_GT_steepest 140 [some (.inr 0), none, some (.inl v2), some (.inl v3), some (.inr (ga_bo 2 v1)), some (.inr 345), some (.inl (gv_i I5 v2)), some (.inl 0), some (.inl 0), some (.inl 0), none] [] I5 E))))))) ∧ ((v1 = 0) → (gb_ok I4 7) ∧ ((0 ≤ (I4 47 1) ∧ (I4 47 1) ≤ 1000) ∧ ((∀ I6 : ga_I, I6 = (gx_bl I4 345 (gp_fi (I4 (7 + 1)) (I4 (7 + 2)) (I4 (7 + 3)) (I4 7 0).toNat (gp_zo (I4 (7 + 1)) (I4 (7 + 2)) (I4 47 1) (I4 7 0).toNat) (I4 47 1))) → (gp_vk (gl_v I6 344)) ∧ ((gp_vk (gl_v I6 345)) ∧ ((0 ≤ v2 ∧ v2 ≤ 2) ∧ ((gr_gn I6 2) ∧ (ga_W G (d + 4) mt_GT_steepest 140 [some (.inr 0), none, some (.inl v2), some (.inl v3), some (.inr (ga_bo 2 v1)), some (.inr 345), some (.inl (gv_i I6 v2)), some (.inl 0), some (.inl 0), some (.inl 0), none] [] I6 E))))))))))))) ∧ ((v1 = 0) → ((v1 ≠ 0) → (gb_ok I 3) ∧ ((0 ≤ (I 47 0) ∧ (I 47 0) ≤ 1000) ∧ ((∀ I7 : ga_I, I7 = (gx_bl I 344 (gp_fi (I (3 + 1)) (I (3 + 2)) (I (3 + 3)) (I 3 0).toNat (gp_zo (I (3 + 1)) (I (3 + 2)) (I 47 0) (I 3 0).toNat) (I 47 0))) → ((v1 ≠ 0) → (gb_ok I7 7) ∧ ((0 ≤ (0 : Int) ∧ (0 : Int) ≤ 1000) ∧ ((∀ I8 : ga_I, I8 = (gx_bl I7 345 (gp_fi (I7 (7 + 1)) (I7 (7 + 2)) (I7 (7 + 3)) (I7 7 0).toNat (gp_zo (I7 (7 + 1)) (I7 (7 + 2)) (0 : Int) (I7 7 0).toNat) (0 : Int))) → (gp_vk (gl_v I8 344)) ∧ ((gp_vk (gl_v I8 345)) ∧ ((0 ≤ v2 ∧ v2 ≤ 2) ∧ ((gr_gn I8 2) ∧ (ga_W G (d + 4) mt_GT_steepest 140 [some (.inr 0), none, some (.inl v2), some (.inl v3), some (.inr (ga_bo 2 v1)), some (.inr 344), some (.inl (gv_i I8 v2)), some (.inl 0), some (.inl 0), some (.inl 0), none] [] I8 E)))))))) ∧ ((v1 = 0) → (gb_ok I7 7) ∧ ((0 ≤ (I7 47 1) ∧ (I7 47 1) ≤ 1000) ∧ ((∀ I9 : ga_I, I9 = (gx_bl I7 345 (gp_fi (I7 (7 + 1)) (I7 (7 + 2)) (I7 (7 + 3)) (I7 7 0).toNat (gp_zo (I7 (7 + 1)) (I7 (7 + 2)) (I7 47 1) (I7 7 0).toNat) (I7 47 1))) → (gp_vk (gl_v I9 344)) ∧ ((gp_vk (gl_v I9 345)) ∧ ((0 ≤ v2 ∧ v2 ≤ 2) ∧ ((gr_gn I9 2) ∧ (ga_W G (d + 4) mt_GT_steepest 140 [some (.inr 0), none, some (.inl v2), some (.inl v3), some (.inr (ga_bo 2 v1)), some (.inr 344), some (.inl (gv_i I9 v2)), some (.inl 0), some (.inl 0), some (.inl 0), none] [] I9 E)))))))))))) ∧ ((v1 = 0) → (gb_ok I 3) ∧ ((0 ≤ (0 : Int) ∧ (0 : Int) ≤ 1000) ∧ ((∀ I10 : ga_I, I10 = (gx_bl I 344 (gp_fi (I (3 + 1)) (I (3 + 2)) (I (3 + 3)) (I 3 0).toNat (gp_zo (I (3 + 1)) (I (3 + 2)) (0 : Int) (I 3 0).toNat) (0 : Int))) → ((v1 ≠ 0) → (gb_ok I10 7) ∧ ((∀ I11 : ga_I, I11 = (gx_bl I10 345 (gp_fi (I10 (7 + 1)) (I10 (7 + 2)) (I10 (7 + 3)) (I10 7 0).toNat (gp_zo (I10 (7 + 1)) (I10 (7 + 2)) (0 : Int) (I10 7 0).toNat) (0 : Int))) → (gp_vk (gl_v I11 344)) ∧ ((gp_vk (gl_v I11 345)) ∧ ((0 ≤ v2 ∧ v2 ≤ 2) ∧ ((gr_gn I11 2) ∧ (ga_W G (d + 4) mt_GT_steepest 140 [some (.inr 0), none, some (.inl v2), some (.inl v3), some (.inr (ga_bo 2 v1)), some (.inr 344), some (.inl (gv_i I11 v2)), some (.inl 0), some (.inl 0), some (.inl 0), none] [] I11 E))))))) ∧ ((v1 = 0) → (gb_ok I10 7) ∧ ((0 ≤ (I10 47 1) ∧ (I10 47 1) ≤ 1000) ∧ ((∀ I12 : ga_I, I12 = (gx_bl I10 345 (gp_fi (I10 (7 + 1)) (I10 (7 + 2)) (I10 (7 + 3)) (I10 7 0).toNat (gp_zo (I10 (7 + 1)) (I10 (7 + 2)) (I10 47 1) (I10 7 0).toNat) (I10 47 1))) → (gp_vk (gl_v I12 344)) ∧ ((gp_vk (gl_v I12 345)) ∧ ((0 ≤ v2 ∧ v2 ≤ 2) ∧ ((gr_gn I12 2) ∧ (ga_W G (d + 4) mt_GT_steepest 140 [some (.inr 0), none, some (.inl v2), some (.inl v3), some (.inr (ga_bo 2 v1)), some (.inr 344), some (.inl (gv_i I12 v2)), some (.inl 0), some (.inl 0), some (.inl 0), none] [] I12 E)))))))))))))) ∧ ((¬ ((0 : Int) ≤ v3 ∧ v3 ≤ (1 : Int))) → E (some (.inl (-2000000001))) I)))) :
    ga_W G (d + 4) mt_GT_steepest 0 (ga_en 11 [.inr 0, .inl v1, .inl v2, .inl v3]) [] I E := by
  show ga_W G (d + 4) mt_GT_steepest 0 [some (.inr 0), some (.inl v1), some (.inl v2), some (.inl v3), none, none, none, none, none, none, none] [] I E
  refine gw_RG (fun hI1 => ?_)
  have h := h hI1
  refine gw_iload_n 1 d_GT_steepest_0 rfl rfl ?_
  refine gw_invS (as := [.inl v1]) (rest := []) (d' := (d + 3)) d_GT_steepest_1 lk_GT_61 rfl (Nat.le_of_ble_eq_true rfl) (Nat.le_of_ble_eq_true rfl) rfl rfl (s_GT_isAxis r1 ?_)
  show ga_W G (d + 4) mt_GT_steepest 4 [some (.inr 0), some (.inl v1), some (.inl v2), some (.inl v3), none, none, none, none, none, none, none] [.inl (ga_bb (decide (0 ≤ v1 ∧ v1 ≤ 1)))] I E
  refine gw_ifb_eq 23 d_GT_steepest_4 (by decide) (fun hc => ?_) (fun hc => ?_)
  · have h := h.1 (of_decide_eq_false hc)
    refine gw_ldc (n := (-2000000001)) d_GT_steepest_23 kw_GT_76 (by decide +kernel) ?_
    exact gw_ireturn d_GT_steepest_25 rfl h
  · have h := h.2 (of_decide_eq_true hc)
    refine gw_iload_n 2 d_GT_steepest_7 rfl rfl ?_
    refine gw_invS (as := [.inl v2]) (rest := []) (d' := (d + 3)) d_GT_steepest_8 lk_GT_164 rfl (Nat.le_of_ble_eq_true rfl) (Nat.le_of_ble_eq_true rfl) rfl rfl (s_GT_isGain r2 ?_)
    show ga_W G (d + 4) mt_GT_steepest 11 [some (.inr 0), some (.inl v1), some (.inl v2), some (.inl v3), none, none, none, none, none, none, none] [.inl (ga_bb (decide (0 ≤ v2 ∧ v2 ≤ 2)))] I E
    refine gw_ifb_eq 23 d_GT_steepest_11 (by decide) (fun hc => ?_) (fun hc => ?_)
    · have h := h.1 (of_decide_eq_false hc)
      refine gw_ldc (n := (-2000000001)) d_GT_steepest_23 kw_GT_76 (by decide +kernel) ?_
      exact gw_ireturn d_GT_steepest_25 rfl h
    · have h := h.2 (of_decide_eq_true hc)
      refine gw_iload_n 3 d_GT_steepest_14 rfl rfl ?_
      refine gw_iconst d_GT_steepest_15 ?_
      refine gw_iconst d_GT_steepest_16 ?_
      refine gw_invS (as := [.inl v3, .inl 0, .inl 1]) (rest := []) (d' := (d + 3)) d_GT_steepest_17 lk_GT_65 rfl (Nat.le_of_ble_eq_true rfl) (Nat.le_of_ble_eq_true rfl) rfl rfl (s_GT_isIn r3 ⟨by decide, by decide⟩ ⟨by decide, by decide⟩ ?_)
      show ga_W G (d + 4) mt_GT_steepest 20 [some (.inr 0), some (.inl v1), some (.inl v2), some (.inl v3), none, none, none, none, none, none, none] [.inl (ga_bb (decide ((0 : Int) ≤ v3 ∧ v3 ≤ (1 : Int))))] I E
      refine gw_ifb_ne 26 d_GT_steepest_20 (by decide) (fun hc => ?_) (fun hc => ?_)
      · have h := h.1 (of_decide_eq_true hc)
        refine gw_aload_n 0 d_GT_steepest_26 rfl rfl ?_
        refine gw_getR d_GT_steepest_27 fl_GT_12 (ga_oG) rfl ?_
        refine gw_getR d_GT_steepest_30 fl_GT_77 (ga_s1.1) rfl ?_
        refine gw_iload_n 1 d_GT_steepest_33 rfl rfl ?_
        refine gw_invV (as := [.inl v1]) (k := 2) (rest := []) (d' := (d + 3)) d_GT_steepest_34 lk_GT_80 (ga_rcv (ga_s1.2.1.1) rfl rfl) rfl (Nat.le_of_ble_eq_true rfl) (Nat.le_of_ble_eq_true rfl) rfl rfl (s_Table_bordersOf ga_s1.2.1 r1 ?_)
        show ga_W G (d + 4) mt_GT_steepest 37 [some (.inr 0), some (.inl v1), some (.inl v2), some (.inl v3), none, none, none, none, none, none, none] [.inr (ga_bo 2 v1)] I E
        refine gw_astore 4 d_GT_steepest_37 (Nat.le_of_ble_eq_true rfl) rfl ?_
        refine gw_iload_n 1 d_GT_steepest_39 rfl rfl ?_
        refine gw_if_ne 50 d_GT_steepest_40 (by decide) r1 (fun hc => ?_) (fun hc => ?_)
        · have h := h.1 hc
          refine gw_aload_n 0 d_GT_steepest_50 rfl rfl ?_
          refine gw_getR d_GT_steepest_51 fl_GT_51 (ga_oG) rfl ?_
          refine gw_astore 5 d_GT_steepest_54 (Nat.le_of_ble_eq_true rfl) rfl ?_
          refine gw_aload_n 0 d_GT_steepest_56 rfl rfl ?_
          refine gw_getR d_GT_steepest_57 fl_GT_47 (ga_oG) rfl ?_
          refine gw_aload_n 0 d_GT_steepest_60 rfl rfl ?_
          refine gw_getR d_GT_steepest_61 fl_GT_12 (ga_oG) rfl ?_
          refine gw_getR d_GT_steepest_64 fl_GT_77 (ga_s1.1) rfl ?_
          refine gw_getR d_GT_steepest_67 fl_GT_167 (ga_s1.2.1.1) rfl ?_
          refine gw_iload_n 1 d_GT_steepest_70 rfl rfl ?_
          refine gw_if_ne 78 d_GT_steepest_71 (by decide) r1 (fun hc => ?_) (fun hc => ?_)
          · have h := h.1 hc
            refine gw_aload_n 0 d_GT_steepest_78 rfl rfl ?_
            refine gw_getR d_GT_steepest_79 fl_GT_12 (ga_oG) rfl ?_
            refine gw_getR d_GT_steepest_82 fl_GT_200 (ga_s1.1) rfl ?_
            refine gw_iconst d_GT_steepest_85 ?_
            refine gw_iald d_GT_steepest_86 (ga_s1.2.2.2.2.2.2.1) (by decide) (by decide) ?_
            obtain ⟨g1, h⟩ := h
            obtain ⟨g2, h⟩ := h
            refine gw_invV (as := [.inr 3, .inl (I 47 0)]) (k := 344) (rest := []) (d' := (d + 3)) d_GT_steepest_87 lk_GT_321 (ga_rcv (ga_l344) rfl rfl) rfl (Nat.le_of_ble_eq_true rfl) (Nat.le_of_ble_eq_true rfl) rfl rfl (s_Blend_findByPosition ga_l344 ga_s1.2.1.2.1 g1 g2 ?_)
            show ga_W G (d + 4) mt_GT_steepest 90 [some (.inr 0), some (.inl v1), some (.inl v2), some (.inl v3), some (.inr (ga_bo 2 v1)), some (.inr 345), none, none, none, none, none] [] (gx_bl I 344 (gp_fi (I (3 + 1)) (I (3 + 2)) (I (3 + 3)) (I 3 0).toNat (gp_zo (I (3 + 1)) (I (3 + 2)) (I 47 0) (I 3 0).toNat) (I 47 0))) E
            refine gw_nm (fun I1 q1 => ?_)
            have h := h I1 q1
            refine gw_RG (fun hI2 => ?_)
            refine gw_aload_n 0 d_GT_steepest_90 rfl rfl ?_
            refine gw_getR d_GT_steepest_91 fl_GT_51 (ga_oG) rfl ?_
            refine gw_aload_n 0 d_GT_steepest_94 rfl rfl ?_
            refine gw_getR d_GT_steepest_95 fl_GT_12 (ga_oG) rfl ?_
            refine gw_getR d_GT_steepest_98 fl_GT_77 (ga_s1.1) rfl ?_
            refine gw_getR d_GT_steepest_101 fl_GT_170 (ga_s1.2.1.1) rfl ?_
            refine gw_iload_n 1 d_GT_steepest_104 rfl rfl ?_
            refine gw_if_ne 120 d_GT_steepest_105 (by decide) r1 (fun hc => ?_) (fun hc => ?_)
            · have h := h.1 hc
              refine gw_iconst d_GT_steepest_120 ?_
              obtain ⟨g3, h⟩ := h
              obtain ⟨g4, h⟩ := h
              refine gw_invV (as := [.inr 7, .inl 0]) (k := 345) (rest := []) (d' := (d + 3)) d_GT_steepest_121 lk_GT_321 (ga_rcv (ga_l345) rfl rfl) rfl (Nat.le_of_ble_eq_true rfl) (Nat.le_of_ble_eq_true rfl) rfl rfl (s_Blend_findByPosition ga_l345 ga_s1.2.1.2.2.1 g3 g4 ?_)
              show ga_W G (d + 4) mt_GT_steepest 124 [some (.inr 0), some (.inl v1), some (.inl v2), some (.inl v3), some (.inr (ga_bo 2 v1)), some (.inr 345), none, none, none, none, none] [] (gx_bl I1 345 (gp_fi (I1 (7 + 1)) (I1 (7 + 2)) (I1 (7 + 3)) (I1 7 0).toNat (gp_zo (I1 (7 + 1)) (I1 (7 + 2)) (0 : Int) (I1 7 0).toNat) (0 : Int))) E
              refine gw_nm (fun I2 q2 => ?_)
              have h := h I2 q2
              refine gw_RG (fun hI3 => ?_)
              refine gw_aload_n 0 d_GT_steepest_124 rfl rfl ?_
              refine gw_iload_n 2 d_GT_steepest_125 rfl rfl ?_
              obtain ⟨g5, h⟩ := h
              obtain ⟨g6, h⟩ := h
              obtain ⟨g7, h⟩ := h
              obtain ⟨g8, h⟩ := h
              refine gw_invV (as := [.inl v2]) (k := 0) (rest := []) (d' := (d + 3)) d_GT_steepest_126 lk_GT_295 (ga_rcv (ga_oG) rfl rfl) rfl (Nat.le_of_ble_eq_true rfl) (Nat.le_of_ble_eq_true rfl) rfl rfl (s_GT_blendedValue g5 g6 g7 g8 ?_)
              show ga_W G (d + 4) mt_GT_steepest 129 [some (.inr 0), some (.inl v1), some (.inl v2), some (.inl v3), some (.inr (ga_bo 2 v1)), some (.inr 345), none, none, none, none, none] [.inl (gv_i I2 v2)] I2 E
              refine gw_istore 6 d_GT_steepest_129 (Nat.le_of_ble_eq_true rfl) rfl ?_
              refine gw_iconst d_GT_steepest_131 ?_
              refine gw_istore 7 d_GT_steepest_132 (Nat.le_of_ble_eq_true rfl) rfl ?_
              refine gw_iconst d_GT_steepest_134 ?_
              refine gw_istore 8 d_GT_steepest_135 (Nat.le_of_ble_eq_true rfl) rfl ?_
              refine gw_iconst d_GT_steepest_137 ?_
              refine gw_istore 9 d_GT_steepest_138 (Nat.le_of_ble_eq_true rfl) rfl ?_
              exact gw_le h (by exact ⟨rfl, ⟨rfl, ⟨rfl, ⟨rfl, ⟨rfl, ⟨rfl, ⟨rfl, ⟨rfl, ⟨rfl, trivial⟩⟩⟩⟩⟩⟩⟩⟩⟩)
            · have h := h.2 hc
              refine gw_aload_n 0 d_GT_steepest_108 rfl rfl ?_
              refine gw_getR d_GT_steepest_109 fl_GT_12 (ga_oG) rfl ?_
              refine gw_getR d_GT_steepest_112 fl_GT_200 (ga_s1.1) rfl ?_
              refine gw_iconst d_GT_steepest_115 ?_
              refine gw_iald d_GT_steepest_116 (ga_s1.2.2.2.2.2.2.1) (by decide) (by decide) ?_
              refine gw_goto 121 d_GT_steepest_117 (by decide) ?_
              obtain ⟨g9, h⟩ := h
              obtain ⟨g10, h⟩ := h
              refine gw_invV (as := [.inr 7, .inl (I1 47 1)]) (k := 345) (rest := []) (d' := (d + 3)) d_GT_steepest_121 lk_GT_321 (ga_rcv (ga_l345) rfl rfl) rfl (Nat.le_of_ble_eq_true rfl) (Nat.le_of_ble_eq_true rfl) rfl rfl (s_Blend_findByPosition ga_l345 ga_s1.2.1.2.2.1 g9 g10 ?_)
              show ga_W G (d + 4) mt_GT_steepest 124 [some (.inr 0), some (.inl v1), some (.inl v2), some (.inl v3), some (.inr (ga_bo 2 v1)), some (.inr 345), none, none, none, none, none] [] (gx_bl I1 345 (gp_fi (I1 (7 + 1)) (I1 (7 + 2)) (I1 (7 + 3)) (I1 7 0).toNat (gp_zo (I1 (7 + 1)) (I1 (7 + 2)) (I1 47 1) (I1 7 0).toNat) (I1 47 1))) E
              refine gw_nm (fun I3 q3 => ?_)
              have h := h I3 q3
              refine gw_RG (fun hI4 => ?_)
              refine gw_aload_n 0 d_GT_steepest_124 rfl rfl ?_
              refine gw_iload_n 2 d_GT_steepest_125 rfl rfl ?_
              obtain ⟨g11, h⟩ := h
              obtain ⟨g12, h⟩ := h
              obtain ⟨g13, h⟩ := h
              obtain ⟨g14, h⟩ := h
              refine gw_invV (as := [.inl v2]) (k := 0) (rest := []) (d' := (d + 3)) d_GT_steepest_126 lk_GT_295 (ga_rcv (ga_oG) rfl rfl) rfl (Nat.le_of_ble_eq_true rfl) (Nat.le_of_ble_eq_true rfl) rfl rfl (s_GT_blendedValue g11 g12 g13 g14 ?_)
              show ga_W G (d + 4) mt_GT_steepest 129 [some (.inr 0), some (.inl v1), some (.inl v2), some (.inl v3), some (.inr (ga_bo 2 v1)), some (.inr 345), none, none, none, none, none] [.inl (gv_i I3 v2)] I3 E
              refine gw_istore 6 d_GT_steepest_129 (Nat.le_of_ble_eq_true rfl) rfl ?_
              refine gw_iconst d_GT_steepest_131 ?_
              refine gw_istore 7 d_GT_steepest_132 (Nat.le_of_ble_eq_true rfl) rfl ?_
              refine gw_iconst d_GT_steepest_134 ?_
              refine gw_istore 8 d_GT_steepest_135 (Nat.le_of_ble_eq_true rfl) rfl ?_
              refine gw_iconst d_GT_steepest_137 ?_
              refine gw_istore 9 d_GT_steepest_138 (Nat.le_of_ble_eq_true rfl) rfl ?_
              exact gw_le h (by exact ⟨rfl, ⟨rfl, ⟨rfl, ⟨rfl, ⟨rfl, ⟨rfl, ⟨rfl, ⟨rfl, ⟨rfl, trivial⟩⟩⟩⟩⟩⟩⟩⟩⟩)
          · have h := h.2 hc
            refine gw_iconst d_GT_steepest_74 ?_
            refine gw_goto 87 d_GT_steepest_75 (by decide) ?_
            obtain ⟨g15, h⟩ := h
            obtain ⟨g16, h⟩ := h
            refine gw_invV (as := [.inr 3, .inl 0]) (k := 344) (rest := []) (d' := (d + 3)) d_GT_steepest_87 lk_GT_321 (ga_rcv (ga_l344) rfl rfl) rfl (Nat.le_of_ble_eq_true rfl) (Nat.le_of_ble_eq_true rfl) rfl rfl (s_Blend_findByPosition ga_l344 ga_s1.2.1.2.1 g15 g16 ?_)
            show ga_W G (d + 4) mt_GT_steepest 90 [some (.inr 0), some (.inl v1), some (.inl v2), some (.inl v3), some (.inr (ga_bo 2 v1)), some (.inr 345), none, none, none, none, none] [] (gx_bl I 344 (gp_fi (I (3 + 1)) (I (3 + 2)) (I (3 + 3)) (I 3 0).toNat (gp_zo (I (3 + 1)) (I (3 + 2)) (0 : Int) (I 3 0).toNat) (0 : Int))) E
            refine gw_nm (fun I4 q4 => ?_)
            have h := h I4 q4
            refine gw_RG (fun hI5 => ?_)
            refine gw_aload_n 0 d_GT_steepest_90 rfl rfl ?_
            refine gw_getR d_GT_steepest_91 fl_GT_51 (ga_oG) rfl ?_
            refine gw_aload_n 0 d_GT_steepest_94 rfl rfl ?_
            refine gw_getR d_GT_steepest_95 fl_GT_12 (ga_oG) rfl ?_
            refine gw_getR d_GT_steepest_98 fl_GT_77 (ga_s1.1) rfl ?_
            refine gw_getR d_GT_steepest_101 fl_GT_170 (ga_s1.2.1.1) rfl ?_
            refine gw_iload_n 1 d_GT_steepest_104 rfl rfl ?_
            refine gw_if_ne 120 d_GT_steepest_105 (by decide) r1 (fun hc => ?_) (fun hc => ?_)
            · have h := h.1 hc
              refine gw_iconst d_GT_steepest_120 ?_
              obtain ⟨g17, h⟩ := h
              refine gw_invV (as := [.inr 7, .inl 0]) (k := 345) (rest := []) (d' := (d + 3)) d_GT_steepest_121 lk_GT_321 (ga_rcv (ga_l345) rfl rfl) rfl (Nat.le_of_ble_eq_true rfl) (Nat.le_of_ble_eq_true rfl) rfl rfl (s_Blend_findByPosition ga_l345 ga_s1.2.1.2.2.1 g17 g16 ?_)
              show ga_W G (d + 4) mt_GT_steepest 124 [some (.inr 0), some (.inl v1), some (.inl v2), some (.inl v3), some (.inr (ga_bo 2 v1)), some (.inr 345), none, none, none, none, none] [] (gx_bl I4 345 (gp_fi (I4 (7 + 1)) (I4 (7 + 2)) (I4 (7 + 3)) (I4 7 0).toNat (gp_zo (I4 (7 + 1)) (I4 (7 + 2)) (0 : Int) (I4 7 0).toNat) (0 : Int))) E
              refine gw_nm (fun I5 q5 => ?_)
              have h := h I5 q5
              refine gw_RG (fun hI6 => ?_)
              refine gw_aload_n 0 d_GT_steepest_124 rfl rfl ?_
              refine gw_iload_n 2 d_GT_steepest_125 rfl rfl ?_
              obtain ⟨g18, h⟩ := h
              obtain ⟨g19, h⟩ := h
              obtain ⟨g20, h⟩ := h
              obtain ⟨g21, h⟩ := h
              refine gw_invV (as := [.inl v2]) (k := 0) (rest := []) (d' := (d + 3)) d_GT_steepest_126 lk_GT_295 (ga_rcv (ga_oG) rfl rfl) rfl (Nat.le_of_ble_eq_true rfl) (Nat.le_of_ble_eq_true rfl) rfl rfl (s_GT_blendedValue g18 g19 g20 g21 ?_)
              show ga_W G (d + 4) mt_GT_steepest 129 [some (.inr 0), some (.inl v1), some (.inl v2), some (.inl v3), some (.inr (ga_bo 2 v1)), some (.inr 345), none, none, none, none, none] [.inl (gv_i I5 v2)] I5 E
              refine gw_istore 6 d_GT_steepest_129 (Nat.le_of_ble_eq_true rfl) rfl ?_
              refine gw_iconst d_GT_steepest_131 ?_
              refine gw_istore 7 d_GT_steepest_132 (Nat.le_of_ble_eq_true rfl) rfl ?_
              refine gw_iconst d_GT_steepest_134 ?_
              refine gw_istore 8 d_GT_steepest_135 (Nat.le_of_ble_eq_true rfl) rfl ?_
              refine gw_iconst d_GT_steepest_137 ?_
              refine gw_istore 9 d_GT_steepest_138 (Nat.le_of_ble_eq_true rfl) rfl ?_
              exact gw_le h (by exact ⟨rfl, ⟨rfl, ⟨rfl, ⟨rfl, ⟨rfl, ⟨rfl, ⟨rfl, ⟨rfl, ⟨rfl, trivial⟩⟩⟩⟩⟩⟩⟩⟩⟩)
            · have h := h.2 hc
              refine gw_aload_n 0 d_GT_steepest_108 rfl rfl ?_
              refine gw_getR d_GT_steepest_109 fl_GT_12 (ga_oG) rfl ?_
              refine gw_getR d_GT_steepest_112 fl_GT_200 (ga_s1.1) rfl ?_
              refine gw_iconst d_GT_steepest_115 ?_
              refine gw_iald d_GT_steepest_116 (ga_s1.2.2.2.2.2.2.1) (by decide) (by decide) ?_
              refine gw_goto 121 d_GT_steepest_117 (by decide) ?_
              obtain ⟨g22, h⟩ := h
              obtain ⟨g23, h⟩ := h
              refine gw_invV (as := [.inr 7, .inl (I4 47 1)]) (k := 345) (rest := []) (d' := (d + 3)) d_GT_steepest_121 lk_GT_321 (ga_rcv (ga_l345) rfl rfl) rfl (Nat.le_of_ble_eq_true rfl) (Nat.le_of_ble_eq_true rfl) rfl rfl (s_Blend_findByPosition ga_l345 ga_s1.2.1.2.2.1 g22 g23 ?_)
              show ga_W G (d + 4) mt_GT_steepest 124 [some (.inr 0), some (.inl v1), some (.inl v2), some (.inl v3), some (.inr (ga_bo 2 v1)), some (.inr 345), none, none, none, none, none] [] (gx_bl I4 345 (gp_fi (I4 (7 + 1)) (I4 (7 + 2)) (I4 (7 + 3)) (I4 7 0).toNat (gp_zo (I4 (7 + 1)) (I4 (7 + 2)) (I4 47 1) (I4 7 0).toNat) (I4 47 1))) E
              refine gw_nm (fun I6 q6 => ?_)
              have h := h I6 q6
              refine gw_RG (fun hI7 => ?_)
              refine gw_aload_n 0 d_GT_steepest_124 rfl rfl ?_
              refine gw_iload_n 2 d_GT_steepest_125 rfl rfl ?_
              obtain ⟨g24, h⟩ := h
              obtain ⟨g25, h⟩ := h
              obtain ⟨g26, h⟩ := h
              obtain ⟨g27, h⟩ := h
              refine gw_invV (as := [.inl v2]) (k := 0) (rest := []) (d' := (d + 3)) d_GT_steepest_126 lk_GT_295 (ga_rcv (ga_oG) rfl rfl) rfl (Nat.le_of_ble_eq_true rfl) (Nat.le_of_ble_eq_true rfl) rfl rfl (s_GT_blendedValue g24 g25 g26 g27 ?_)
              show ga_W G (d + 4) mt_GT_steepest 129 [some (.inr 0), some (.inl v1), some (.inl v2), some (.inl v3), some (.inr (ga_bo 2 v1)), some (.inr 345), none, none, none, none, none] [.inl (gv_i I6 v2)] I6 E
              refine gw_istore 6 d_GT_steepest_129 (Nat.le_of_ble_eq_true rfl) rfl ?_
              refine gw_iconst d_GT_steepest_131 ?_
              refine gw_istore 7 d_GT_steepest_132 (Nat.le_of_ble_eq_true rfl) rfl ?_
              refine gw_iconst d_GT_steepest_134 ?_
              refine gw_istore 8 d_GT_steepest_135 (Nat.le_of_ble_eq_true rfl) rfl ?_
              refine gw_iconst d_GT_steepest_137 ?_
              refine gw_istore 9 d_GT_steepest_138 (Nat.le_of_ble_eq_true rfl) rfl ?_
              exact gw_le h (by exact ⟨rfl, ⟨rfl, ⟨rfl, ⟨rfl, ⟨rfl, ⟨rfl, ⟨rfl, ⟨rfl, ⟨rfl, trivial⟩⟩⟩⟩⟩⟩⟩⟩⟩)
        · have h := h.2 hc
          refine gw_aload_n 0 d_GT_steepest_43 rfl rfl ?_
          refine gw_getR d_GT_steepest_44 fl_GT_47 (ga_oG) rfl ?_
          refine gw_goto 54 d_GT_steepest_47 (by decide) ?_
          refine gw_astore 5 d_GT_steepest_54 (Nat.le_of_ble_eq_true rfl) rfl ?_
          refine gw_aload_n 0 d_GT_steepest_56 rfl rfl ?_
          refine gw_getR d_GT_steepest_57 fl_GT_47 (ga_oG) rfl ?_
          refine gw_aload_n 0 d_GT_steepest_60 rfl rfl ?_
          refine gw_getR d_GT_steepest_61 fl_GT_12 (ga_oG) rfl ?_
          refine gw_getR d_GT_steepest_64 fl_GT_77 (ga_s1.1) rfl ?_
          refine gw_getR d_GT_steepest_67 fl_GT_167 (ga_s1.2.1.1) rfl ?_
          refine gw_iload_n 1 d_GT_steepest_70 rfl rfl ?_
          refine gw_if_ne 78 d_GT_steepest_71 (by decide) r1 (fun hc => ?_) (fun hc => ?_)
          · have h := h.1 hc
            refine gw_aload_n 0 d_GT_steepest_78 rfl rfl ?_
            refine gw_getR d_GT_steepest_79 fl_GT_12 (ga_oG) rfl ?_
            refine gw_getR d_GT_steepest_82 fl_GT_200 (ga_s1.1) rfl ?_
            refine gw_iconst d_GT_steepest_85 ?_
            refine gw_iald d_GT_steepest_86 (ga_s1.2.2.2.2.2.2.1) (by decide) (by decide) ?_
            obtain ⟨g28, h⟩ := h
            obtain ⟨g29, h⟩ := h
            refine gw_invV (as := [.inr 3, .inl (I 47 0)]) (k := 344) (rest := []) (d' := (d + 3)) d_GT_steepest_87 lk_GT_321 (ga_rcv (ga_l344) rfl rfl) rfl (Nat.le_of_ble_eq_true rfl) (Nat.le_of_ble_eq_true rfl) rfl rfl (s_Blend_findByPosition ga_l344 ga_s1.2.1.2.1 g28 g29 ?_)
            show ga_W G (d + 4) mt_GT_steepest 90 [some (.inr 0), some (.inl v1), some (.inl v2), some (.inl v3), some (.inr (ga_bo 2 v1)), some (.inr 344), none, none, none, none, none] [] (gx_bl I 344 (gp_fi (I (3 + 1)) (I (3 + 2)) (I (3 + 3)) (I 3 0).toNat (gp_zo (I (3 + 1)) (I (3 + 2)) (I 47 0) (I 3 0).toNat) (I 47 0))) E
            refine gw_nm (fun I7 q7 => ?_)
            have h := h I7 q7
            refine gw_RG (fun hI8 => ?_)
            refine gw_aload_n 0 d_GT_steepest_90 rfl rfl ?_
            refine gw_getR d_GT_steepest_91 fl_GT_51 (ga_oG) rfl ?_
            refine gw_aload_n 0 d_GT_steepest_94 rfl rfl ?_
            refine gw_getR d_GT_steepest_95 fl_GT_12 (ga_oG) rfl ?_
            refine gw_getR d_GT_steepest_98 fl_GT_77 (ga_s1.1) rfl ?_
            refine gw_getR d_GT_steepest_101 fl_GT_170 (ga_s1.2.1.1) rfl ?_
            refine gw_iload_n 1 d_GT_steepest_104 rfl rfl ?_
            refine gw_if_ne 120 d_GT_steepest_105 (by decide) r1 (fun hc => ?_) (fun hc => ?_)
            · have h := h.1 hc
              refine gw_iconst d_GT_steepest_120 ?_
              obtain ⟨g30, h⟩ := h
              obtain ⟨g31, h⟩ := h
              refine gw_invV (as := [.inr 7, .inl 0]) (k := 345) (rest := []) (d' := (d + 3)) d_GT_steepest_121 lk_GT_321 (ga_rcv (ga_l345) rfl rfl) rfl (Nat.le_of_ble_eq_true rfl) (Nat.le_of_ble_eq_true rfl) rfl rfl (s_Blend_findByPosition ga_l345 ga_s1.2.1.2.2.1 g30 g31 ?_)
              show ga_W G (d + 4) mt_GT_steepest 124 [some (.inr 0), some (.inl v1), some (.inl v2), some (.inl v3), some (.inr (ga_bo 2 v1)), some (.inr 344), none, none, none, none, none] [] (gx_bl I7 345 (gp_fi (I7 (7 + 1)) (I7 (7 + 2)) (I7 (7 + 3)) (I7 7 0).toNat (gp_zo (I7 (7 + 1)) (I7 (7 + 2)) (0 : Int) (I7 7 0).toNat) (0 : Int))) E
              refine gw_nm (fun I8 q8 => ?_)
              have h := h I8 q8
              refine gw_RG (fun hI9 => ?_)
              refine gw_aload_n 0 d_GT_steepest_124 rfl rfl ?_
              refine gw_iload_n 2 d_GT_steepest_125 rfl rfl ?_
              obtain ⟨g32, h⟩ := h
              obtain ⟨g33, h⟩ := h
              obtain ⟨g34, h⟩ := h
              obtain ⟨g35, h⟩ := h
              refine gw_invV (as := [.inl v2]) (k := 0) (rest := []) (d' := (d + 3)) d_GT_steepest_126 lk_GT_295 (ga_rcv (ga_oG) rfl rfl) rfl (Nat.le_of_ble_eq_true rfl) (Nat.le_of_ble_eq_true rfl) rfl rfl (s_GT_blendedValue g32 g33 g34 g35 ?_)
              show ga_W G (d + 4) mt_GT_steepest 129 [some (.inr 0), some (.inl v1), some (.inl v2), some (.inl v3), some (.inr (ga_bo 2 v1)), some (.inr 344), none, none, none, none, none] [.inl (gv_i I8 v2)] I8 E
              refine gw_istore 6 d_GT_steepest_129 (Nat.le_of_ble_eq_true rfl) rfl ?_
              refine gw_iconst d_GT_steepest_131 ?_
              refine gw_istore 7 d_GT_steepest_132 (Nat.le_of_ble_eq_true rfl) rfl ?_
              refine gw_iconst d_GT_steepest_134 ?_
              refine gw_istore 8 d_GT_steepest_135 (Nat.le_of_ble_eq_true rfl) rfl ?_
              refine gw_iconst d_GT_steepest_137 ?_
              refine gw_istore 9 d_GT_steepest_138 (Nat.le_of_ble_eq_true rfl) rfl ?_
              exact gw_le h (by exact ⟨rfl, ⟨rfl, ⟨rfl, ⟨rfl, ⟨rfl, ⟨rfl, ⟨rfl, ⟨rfl, ⟨rfl, trivial⟩⟩⟩⟩⟩⟩⟩⟩⟩)
            · have h := h.2 hc
              refine gw_aload_n 0 d_GT_steepest_108 rfl rfl ?_
              refine gw_getR d_GT_steepest_109 fl_GT_12 (ga_oG) rfl ?_
              refine gw_getR d_GT_steepest_112 fl_GT_200 (ga_s1.1) rfl ?_
              refine gw_iconst d_GT_steepest_115 ?_
              refine gw_iald d_GT_steepest_116 (ga_s1.2.2.2.2.2.2.1) (by decide) (by decide) ?_
              refine gw_goto 121 d_GT_steepest_117 (by decide) ?_
              obtain ⟨g36, h⟩ := h
              obtain ⟨g37, h⟩ := h
              refine gw_invV (as := [.inr 7, .inl (I7 47 1)]) (k := 345) (rest := []) (d' := (d + 3)) d_GT_steepest_121 lk_GT_321 (ga_rcv (ga_l345) rfl rfl) rfl (Nat.le_of_ble_eq_true rfl) (Nat.le_of_ble_eq_true rfl) rfl rfl (s_Blend_findByPosition ga_l345 ga_s1.2.1.2.2.1 g36 g37 ?_)
              show ga_W G (d + 4) mt_GT_steepest 124 [some (.inr 0), some (.inl v1), some (.inl v2), some (.inl v3), some (.inr (ga_bo 2 v1)), some (.inr 344), none, none, none, none, none] [] (gx_bl I7 345 (gp_fi (I7 (7 + 1)) (I7 (7 + 2)) (I7 (7 + 3)) (I7 7 0).toNat (gp_zo (I7 (7 + 1)) (I7 (7 + 2)) (I7 47 1) (I7 7 0).toNat) (I7 47 1))) E
              refine gw_nm (fun I9 q9 => ?_)
              have h := h I9 q9
              refine gw_RG (fun hI10 => ?_)
              refine gw_aload_n 0 d_GT_steepest_124 rfl rfl ?_
              refine gw_iload_n 2 d_GT_steepest_125 rfl rfl ?_
              obtain ⟨g38, h⟩ := h
              obtain ⟨g39, h⟩ := h
              obtain ⟨g40, h⟩ := h
              obtain ⟨g41, h⟩ := h
              refine gw_invV (as := [.inl v2]) (k := 0) (rest := []) (d' := (d + 3)) d_GT_steepest_126 lk_GT_295 (ga_rcv (ga_oG) rfl rfl) rfl (Nat.le_of_ble_eq_true rfl) (Nat.le_of_ble_eq_true rfl) rfl rfl (s_GT_blendedValue g38 g39 g40 g41 ?_)
              show ga_W G (d + 4) mt_GT_steepest 129 [some (.inr 0), some (.inl v1), some (.inl v2), some (.inl v3), some (.inr (ga_bo 2 v1)), some (.inr 344), none, none, none, none, none] [.inl (gv_i I9 v2)] I9 E
              refine gw_istore 6 d_GT_steepest_129 (Nat.le_of_ble_eq_true rfl) rfl ?_
              refine gw_iconst d_GT_steepest_131 ?_
              refine gw_istore 7 d_GT_steepest_132 (Nat.le_of_ble_eq_true rfl) rfl ?_
              refine gw_iconst d_GT_steepest_134 ?_
              refine gw_istore 8 d_GT_steepest_135 (Nat.le_of_ble_eq_true rfl) rfl ?_
              refine gw_iconst d_GT_steepest_137 ?_
              refine gw_istore 9 d_GT_steepest_138 (Nat.le_of_ble_eq_true rfl) rfl ?_
              exact gw_le h (by exact ⟨rfl, ⟨rfl, ⟨rfl, ⟨rfl, ⟨rfl, ⟨rfl, ⟨rfl, ⟨rfl, ⟨rfl, trivial⟩⟩⟩⟩⟩⟩⟩⟩⟩)
          · have h := h.2 hc
            refine gw_iconst d_GT_steepest_74 ?_
            refine gw_goto 87 d_GT_steepest_75 (by decide) ?_
            obtain ⟨g42, h⟩ := h
            obtain ⟨g43, h⟩ := h
            refine gw_invV (as := [.inr 3, .inl 0]) (k := 344) (rest := []) (d' := (d + 3)) d_GT_steepest_87 lk_GT_321 (ga_rcv (ga_l344) rfl rfl) rfl (Nat.le_of_ble_eq_true rfl) (Nat.le_of_ble_eq_true rfl) rfl rfl (s_Blend_findByPosition ga_l344 ga_s1.2.1.2.1 g42 g43 ?_)
            show ga_W G (d + 4) mt_GT_steepest 90 [some (.inr 0), some (.inl v1), some (.inl v2), some (.inl v3), some (.inr (ga_bo 2 v1)), some (.inr 344), none, none, none, none, none] [] (gx_bl I 344 (gp_fi (I (3 + 1)) (I (3 + 2)) (I (3 + 3)) (I 3 0).toNat (gp_zo (I (3 + 1)) (I (3 + 2)) (0 : Int) (I 3 0).toNat) (0 : Int))) E
            refine gw_nm (fun I10 q10 => ?_)
            have h := h I10 q10
            refine gw_RG (fun hI11 => ?_)
            refine gw_aload_n 0 d_GT_steepest_90 rfl rfl ?_
            refine gw_getR d_GT_steepest_91 fl_GT_51 (ga_oG) rfl ?_
            refine gw_aload_n 0 d_GT_steepest_94 rfl rfl ?_
            refine gw_getR d_GT_steepest_95 fl_GT_12 (ga_oG) rfl ?_
            refine gw_getR d_GT_steepest_98 fl_GT_77 (ga_s1.1) rfl ?_
            refine gw_getR d_GT_steepest_101 fl_GT_170 (ga_s1.2.1.1) rfl ?_
            refine gw_iload_n 1 d_GT_steepest_104 rfl rfl ?_
            refine gw_if_ne 120 d_GT_steepest_105 (by decide) r1 (fun hc => ?_) (fun hc => ?_)
            · have h := h.1 hc
              refine gw_iconst d_GT_steepest_120 ?_
              obtain ⟨g44, h⟩ := h
              refine gw_invV (as := [.inr 7, .inl 0]) (k := 345) (rest := []) (d' := (d + 3)) d_GT_steepest_121 lk_GT_321 (ga_rcv (ga_l345) rfl rfl) rfl (Nat.le_of_ble_eq_true rfl) (Nat.le_of_ble_eq_true rfl) rfl rfl (s_Blend_findByPosition ga_l345 ga_s1.2.1.2.2.1 g44 g43 ?_)
              show ga_W G (d + 4) mt_GT_steepest 124 [some (.inr 0), some (.inl v1), some (.inl v2), some (.inl v3), some (.inr (ga_bo 2 v1)), some (.inr 344), none, none, none, none, none] [] (gx_bl I10 345 (gp_fi (I10 (7 + 1)) (I10 (7 + 2)) (I10 (7 + 3)) (I10 7 0).toNat (gp_zo (I10 (7 + 1)) (I10 (7 + 2)) (0 : Int) (I10 7 0).toNat) (0 : Int))) E
              refine gw_nm (fun I11 q11 => ?_)
              have h := h I11 q11
              refine gw_RG (fun hI12 => ?_)
              refine gw_aload_n 0 d_GT_steepest_124 rfl rfl ?_
              refine gw_iload_n 2 d_GT_steepest_125 rfl rfl ?_
              obtain ⟨g45, h⟩ := h
              obtain ⟨g46, h⟩ := h
              obtain ⟨g47, h⟩ := h
              obtain ⟨g48, h⟩ := h
              refine gw_invV (as := [.inl v2]) (k := 0) (rest := []) (d' := (d + 3)) d_GT_steepest_126 lk_GT_295 (ga_rcv (ga_oG) rfl rfl) rfl (Nat.le_of_ble_eq_true rfl) (Nat.le_of_ble_eq_true rfl) rfl rfl (s_GT_blendedValue g45 g46 g47 g48 ?_)
              show ga_W G (d + 4) mt_GT_steepest 129 [some (.inr 0), some (.inl v1), some (.inl v2), some (.inl v3), some (.inr (ga_bo 2 v1)), some (.inr 344), none, none, none, none, none] [.inl (gv_i I11 v2)] I11 E
              refine gw_istore 6 d_GT_steepest_129 (Nat.le_of_ble_eq_true rfl) rfl ?_
              refine gw_iconst d_GT_steepest_131 ?_
              refine gw_istore 7 d_GT_steepest_132 (Nat.le_of_ble_eq_true rfl) rfl ?_
              refine gw_iconst d_GT_steepest_134 ?_
              refine gw_istore 8 d_GT_steepest_135 (Nat.le_of_ble_eq_true rfl) rfl ?_
              refine gw_iconst d_GT_steepest_137 ?_
              refine gw_istore 9 d_GT_steepest_138 (Nat.le_of_ble_eq_true rfl) rfl ?_
              exact gw_le h (by exact ⟨rfl, ⟨rfl, ⟨rfl, ⟨rfl, ⟨rfl, ⟨rfl, ⟨rfl, ⟨rfl, ⟨rfl, trivial⟩⟩⟩⟩⟩⟩⟩⟩⟩)
            · have h := h.2 hc
              refine gw_aload_n 0 d_GT_steepest_108 rfl rfl ?_
              refine gw_getR d_GT_steepest_109 fl_GT_12 (ga_oG) rfl ?_
              refine gw_getR d_GT_steepest_112 fl_GT_200 (ga_s1.1) rfl ?_
              refine gw_iconst d_GT_steepest_115 ?_
              refine gw_iald d_GT_steepest_116 (ga_s1.2.2.2.2.2.2.1) (by decide) (by decide) ?_
              refine gw_goto 121 d_GT_steepest_117 (by decide) ?_
              obtain ⟨g49, h⟩ := h
              obtain ⟨g50, h⟩ := h
              refine gw_invV (as := [.inr 7, .inl (I10 47 1)]) (k := 345) (rest := []) (d' := (d + 3)) d_GT_steepest_121 lk_GT_321 (ga_rcv (ga_l345) rfl rfl) rfl (Nat.le_of_ble_eq_true rfl) (Nat.le_of_ble_eq_true rfl) rfl rfl (s_Blend_findByPosition ga_l345 ga_s1.2.1.2.2.1 g49 g50 ?_)
              show ga_W G (d + 4) mt_GT_steepest 124 [some (.inr 0), some (.inl v1), some (.inl v2), some (.inl v3), some (.inr (ga_bo 2 v1)), some (.inr 344), none, none, none, none, none] [] (gx_bl I10 345 (gp_fi (I10 (7 + 1)) (I10 (7 + 2)) (I10 (7 + 3)) (I10 7 0).toNat (gp_zo (I10 (7 + 1)) (I10 (7 + 2)) (I10 47 1) (I10 7 0).toNat) (I10 47 1))) E
              refine gw_nm (fun I12 q12 => ?_)
              have h := h I12 q12
              refine gw_RG (fun hI13 => ?_)
              refine gw_aload_n 0 d_GT_steepest_124 rfl rfl ?_
              refine gw_iload_n 2 d_GT_steepest_125 rfl rfl ?_
              obtain ⟨g51, h⟩ := h
              obtain ⟨g52, h⟩ := h
              obtain ⟨g53, h⟩ := h
              obtain ⟨g54, h⟩ := h
              refine gw_invV (as := [.inl v2]) (k := 0) (rest := []) (d' := (d + 3)) d_GT_steepest_126 lk_GT_295 (ga_rcv (ga_oG) rfl rfl) rfl (Nat.le_of_ble_eq_true rfl) (Nat.le_of_ble_eq_true rfl) rfl rfl (s_GT_blendedValue g51 g52 g53 g54 ?_)
              show ga_W G (d + 4) mt_GT_steepest 129 [some (.inr 0), some (.inl v1), some (.inl v2), some (.inl v3), some (.inr (ga_bo 2 v1)), some (.inr 344), none, none, none, none, none] [.inl (gv_i I12 v2)] I12 E
              refine gw_istore 6 d_GT_steepest_129 (Nat.le_of_ble_eq_true rfl) rfl ?_
              refine gw_iconst d_GT_steepest_131 ?_
              refine gw_istore 7 d_GT_steepest_132 (Nat.le_of_ble_eq_true rfl) rfl ?_
              refine gw_iconst d_GT_steepest_134 ?_
              refine gw_istore 8 d_GT_steepest_135 (Nat.le_of_ble_eq_true rfl) rfl ?_
              refine gw_iconst d_GT_steepest_137 ?_
              refine gw_istore 9 d_GT_steepest_138 (Nat.le_of_ble_eq_true rfl) rfl ?_
              exact gw_le h (by exact ⟨rfl, ⟨rfl, ⟨rfl, ⟨rfl, ⟨rfl, ⟨rfl, ⟨rfl, ⟨rfl, ⟨rfl, trivial⟩⟩⟩⟩⟩⟩⟩⟩⟩)
      · have h := h.2 (of_decide_eq_false hc)
        refine gw_ldc (n := (-2000000001)) d_GT_steepest_23 kw_GT_76 (by decide +kernel) ?_
        exact gw_ireturn d_GT_steepest_25 rfl h
theorem k_GT_steepest_140 {G : ga_G} {d : Nat} {I : ga_I} {E : Option ga_V → ga_I → Prop} {v2 : Int} {v3 : Int} {o4 : Nat} {o5 : Nat} {v6 : Int} {v7 : Int} {v8 : Int} {v9 : Int} (ho4 : ga_isB o4) (ho5 : ga_isL o5) (r3 : ga_rg v3) (r7 : ga_rg v7) (r9 : ga_rg v9)
    (h : ga_RG I → ((1000 ≤ v9) → ((v3 ≠ 0) → E (some (.inl v8)) I) ∧ ((v3 = 0) → E (some (.inl v7)) I)) ∧ ((¬ (1000 ≤ v9)) → (gb_ok I o4) ∧ ((0 ≤ (v9 + 1) ∧ (v9 + 1) ≤ 1000) ∧ ((∀ I1 : ga_I, I1 = (gx_bl I o5 (gp_fi (I (o4 + 1)) (I (o4 + 2)) (I (o4 + 3)) (I o4 0).toNat (gp_zo (I (o4 + 1)) (I (o4 + 2)) (v9 + 1) (I o4 0).toNat) (v9 + 1))) → (gp_vk (gl_v I1 344)) ∧ ((gp_vk (gl_v I1 345)) ∧ ((0 ≤ v2 ∧ v2 ≤ 2) ∧ ((gr_gn I1 2) ∧ ((ga_rg ((gv_i I1 v2) - v6)) ∧ ((ga_rg (((gv_i I1 v2) - v6).natAbs : Int)) ∧ ((((((gv_i I1 v2) - v6).natAbs : Int) ≤ v7) → ga_W G (d + 4) mt_GT_steepest 140 [some (.inr 0), none, some (.inl v2), some (.inl v3), some (.inr o4), some (.inr o5), some (.inl (gv_i I1 v2)), some (.inl v7), some (.inl v8), some (.inl (v9 + 1)), none] [] I1 E) ∧ ((¬ ((((gv_i I1 v2) - v6).natAbs : Int) ≤ v7)) → ga_W G (d + 4) mt_GT_steepest 140 [some (.inr 0), none, some (.inl v2), some (.inl v3), some (.inr o4), some (.inr o5), some (.inl (gv_i I1 v2)), some (.inl (((gv_i I1 v2) - v6).natAbs : Int)), some (.inl v9), some (.inl (v9 + 1)), none] [] I1 E)))))))))))) :
    ga_W G (d + 4) mt_GT_steepest 140 [some (.inr 0), none, some (.inl v2), some (.inl v3), some (.inr o4), some (.inr o5), some (.inl v6), some (.inl v7), some (.inl v8), some (.inl v9), none] [] I E := by
  refine gw_RG (fun hI1 => ?_)
  have h := h hI1
  refine gw_iload 9 d_GT_steepest_140 rfl ?_
  refine gw_sipush d_GT_steepest_142 (by decide +kernel) ?_
  refine gw_icmp_ge 203 d_GT_steepest_145 (by decide) r9 ⟨by decide, by decide⟩ (fun hc => ?_) (fun hc => ?_)
  · have h := h.1 hc
    refine gw_iload_n 3 d_GT_steepest_203 rfl rfl ?_
    refine gw_if_ne 212 d_GT_steepest_204 (by decide) r3 (fun hc => ?_) (fun hc => ?_)
    · have h := h.1 hc
      refine gw_iload 8 d_GT_steepest_212 rfl ?_
      exact gw_ireturn d_GT_steepest_214 rfl h
    · have h := h.2 hc
      refine gw_iload 7 d_GT_steepest_207 rfl ?_
      refine gw_goto 214 d_GT_steepest_209 (by decide) ?_
      exact gw_ireturn d_GT_steepest_214 rfl h
  · have h := h.2 hc
    refine gw_aload 5 d_GT_steepest_148 rfl ?_
    refine gw_aload 4 d_GT_steepest_150 rfl ?_
    refine gw_iload 9 d_GT_steepest_152 rfl ?_
    refine gw_iconst d_GT_steepest_154 ?_
    refine gw_iadd d_GT_steepest_155 ?_
    obtain ⟨g1, h⟩ := h
    obtain ⟨g2, h⟩ := h
    refine gw_invV (as := [.inr o4, .inl (v9 + 1)]) (k := o5) (rest := []) (d' := (d + 3)) d_GT_steepest_156 lk_GT_321 (ga_rcv (ho5) rfl rfl) rfl (Nat.le_of_ble_eq_true rfl) (Nat.le_of_ble_eq_true rfl) rfl rfl (s_Blend_findByPosition ho5 ho4 g1 g2 ?_)
    show ga_W G (d + 4) mt_GT_steepest 159 [some (.inr 0), none, some (.inl v2), some (.inl v3), some (.inr o4), some (.inr o5), some (.inl v6), some (.inl v7), some (.inl v8), some (.inl v9), none] [] (gx_bl I o5 (gp_fi (I (o4 + 1)) (I (o4 + 2)) (I (o4 + 3)) (I o4 0).toNat (gp_zo (I (o4 + 1)) (I (o4 + 2)) (v9 + 1) (I o4 0).toNat) (v9 + 1))) E
    refine gw_nm (fun I1 q1 => ?_)
    have h := h I1 q1
    refine gw_RG (fun hI2 => ?_)
    refine gw_aload_n 0 d_GT_steepest_159 rfl rfl ?_
    refine gw_iload_n 2 d_GT_steepest_160 rfl rfl ?_
    obtain ⟨g3, h⟩ := h
    obtain ⟨g4, h⟩ := h
    obtain ⟨g5, h⟩ := h
    obtain ⟨g6, h⟩ := h
    refine gw_invV (as := [.inl v2]) (k := 0) (rest := []) (d' := (d + 3)) d_GT_steepest_161 lk_GT_295 (ga_rcv (ga_oG) rfl rfl) rfl (Nat.le_of_ble_eq_true rfl) (Nat.le_of_ble_eq_true rfl) rfl rfl (s_GT_blendedValue g3 g4 g5 g6 ?_)
    show ga_W G (d + 4) mt_GT_steepest 164 [some (.inr 0), none, some (.inl v2), some (.inl v3), some (.inr o4), some (.inr o5), some (.inl v6), some (.inl v7), some (.inl v8), some (.inl v9), none] [.inl (gv_i I1 v2)] I1 E
    refine gw_istore 10 d_GT_steepest_164 (Nat.le_of_ble_eq_true rfl) rfl ?_
    refine gw_iload 10 d_GT_steepest_166 rfl ?_
    refine gw_iload 6 d_GT_steepest_168 rfl ?_
    refine gw_isub d_GT_steepest_170 ?_
    obtain ⟨g7, h⟩ := h
    refine gw_mabs d_GT_steepest_171 lk_GT_337 g7 (by omega) (Nat.le_of_ble_eq_true rfl) ?_
    refine gw_iload 7 d_GT_steepest_174 rfl ?_
    obtain ⟨g8, h⟩ := h
    refine gw_icmp_le 193 d_GT_steepest_176 (by decide) g8 r7 (fun hc => ?_) (fun hc => ?_)
    · have h := h.1 hc
      refine gw_iload 10 d_GT_steepest_193 rfl ?_
      refine gw_istore 6 d_GT_steepest_195 (Nat.le_of_ble_eq_true rfl) rfl ?_
      refine gw_iinc 9 d_GT_steepest_197 rfl rfl ?_
      refine gw_goto 140 d_GT_steepest_200 (by decide) ?_
      exact gw_le h (by exact ⟨rfl, ⟨rfl, ⟨rfl, ⟨rfl, ⟨rfl, ⟨rfl, ⟨rfl, ⟨rfl, ⟨rfl, trivial⟩⟩⟩⟩⟩⟩⟩⟩⟩)
    · have h := h.2 hc
      refine gw_iload 10 d_GT_steepest_179 rfl ?_
      refine gw_iload 6 d_GT_steepest_181 rfl ?_
      refine gw_isub d_GT_steepest_183 ?_
      refine gw_mabs d_GT_steepest_184 lk_GT_337 g7 (by omega) (Nat.le_of_ble_eq_true rfl) ?_
      refine gw_istore 7 d_GT_steepest_187 (Nat.le_of_ble_eq_true rfl) rfl ?_
      refine gw_iload 9 d_GT_steepest_189 rfl ?_
      refine gw_istore 8 d_GT_steepest_191 (Nat.le_of_ble_eq_true rfl) rfl ?_
      refine gw_iload 10 d_GT_steepest_193 rfl ?_
      refine gw_istore 6 d_GT_steepest_195 (Nat.le_of_ble_eq_true rfl) rfl ?_
      refine gw_iinc 9 d_GT_steepest_197 rfl rfl ?_
      refine gw_goto 140 d_GT_steepest_200 (by decide) ?_
      exact gw_le h (by exact ⟨rfl, ⟨rfl, ⟨rfl, ⟨rfl, ⟨rfl, ⟨rfl, ⟨rfl, ⟨rfl, ⟨rfl, trivial⟩⟩⟩⟩⟩⟩⟩⟩⟩)

