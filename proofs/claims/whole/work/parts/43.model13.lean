theorem k_Mo_scale_0 {G : ga_G} {d : Nat} {I : ga_I} {E : Option ga_V → ga_I → Prop} {v1 : Int} {v2 : Int} {v3 : Int} (r1 : ga_rg v1) (r2 : ga_rg v2) (r3 : ga_rg v3)
    (h : ga_RG I → (∀ I1 : ga_I, I1 = (ga_up I 348 0 0) → ((¬ (0 ≤ v1 ∧ v1 ≤ 2)) → E (some (.inl (-2000000001))) I1) ∧ ((0 ≤ v1 ∧ v1 ≤ 2) → ((¬ ((0 : Int) ≤ v2 ∧ v2 ≤ (2 : Int))) → E (some (.inl (-2000000001))) I1) ∧ (((0 : Int) ≤ v2 ∧ v2 ≤ (2 : Int)) → (((0 : Int) ≤ v3 ∧ v3 ≤ (1000 : Int)) → (0 ≤ I1 348 4 ∧ I1 348 4 ≤ 5) ∧ ((∀ I2 : ga_I, I2 = (mx_ac I1) → ga_W G (d + 2) mt_Mo_scale 45 [some (.inr 348), some (.inl v1), some (.inl v2), some (.inl v3), some (.inl 0), some (.inl 0), none, none] [] I2 E))) ∧ ((¬ ((0 : Int) ≤ v3 ∧ v3 ≤ (1000 : Int))) → E (some (.inl (-2000000001))) I1))))) :
    ga_W G (d + 2) mt_Mo_scale 0 (ga_en 8 [.inr 348, .inl v1, .inl v2, .inl v3]) [] I E := by
  show ga_W G (d + 2) mt_Mo_scale 0 [some (.inr 348), some (.inl v1), some (.inl v2), some (.inl v3), none, none, none, none] [] I E
  refine gw_RG (fun hI1 => ?_)
  have h := h hI1
  refine gw_aload_n 0 d_Mo_scale_0 rfl rfl ?_
  refine gw_iconst d_Mo_scale_1 ?_
  refine gw_putI d_Mo_scale_2 fp_Mo_37 (ga_oM) rfl ?_
  show ga_W G (d + 2) mt_Mo_scale 5 [some (.inr 348), some (.inl v1), some (.inl v2), some (.inl v3), none, none, none, none] [] (ga_up I 348 0 (ga_wr 0)) E
  rw [ga_wr_eq (z := 0) ⟨by decide, by decide⟩]
  refine gw_nm (J := (ga_up I 348 0 0)) (fun I1 q1 => ?_)
  have h := h I1 q1
  refine gw_RG (fun hI2 => ?_)
  refine gw_iload_n 1 d_Mo_scale_5 rfl rfl ?_
  refine gw_invS (as := [.inl v1]) (rest := []) (d' := (d + 1)) d_Mo_scale_6 lk_Mo_134 rfl (Nat.le_of_ble_eq_true rfl) (Nat.le_of_ble_eq_true rfl) rfl rfl (s_Mo_isOperator r1 ?_)
  show ga_W G (d + 2) mt_Mo_scale 9 [some (.inr 348), some (.inl v1), some (.inl v2), some (.inl v3), none, none, none, none] [.inl (ga_bb (decide (0 ≤ v1 ∧ v1 ≤ 2)))] I1 E
  refine gw_ifb_eq 32 d_Mo_scale_9 (by decide) (fun hc => ?_) (fun hc => ?_)
  · have h := h.1 (of_decide_eq_false hc)
    refine gw_ldc (n := (-2000000001)) d_Mo_scale_32 kw_Mo_112 (by decide +kernel) ?_
    exact gw_ireturn d_Mo_scale_34 rfl h
  · have h := h.2 (of_decide_eq_true hc)
    refine gw_iload_n 2 d_Mo_scale_12 rfl rfl ?_
    refine gw_iconst d_Mo_scale_13 ?_
    refine gw_iconst d_Mo_scale_14 ?_
    refine gw_invS (as := [.inl v2, .inl 0, .inl 2]) (rest := []) (d' := (d + 1)) d_Mo_scale_15 lk_Mo_47 rfl (Nat.le_of_ble_eq_true rfl) (Nat.le_of_ble_eq_true rfl) rfl rfl (s_Mo_in r2 ⟨by decide, by decide⟩ ⟨by decide, by decide⟩ ?_)
    show ga_W G (d + 2) mt_Mo_scale 18 [some (.inr 348), some (.inl v1), some (.inl v2), some (.inl v3), none, none, none, none] [.inl (ga_bb (decide ((0 : Int) ≤ v2 ∧ v2 ≤ (2 : Int))))] I1 E
    refine gw_ifb_eq 32 d_Mo_scale_18 (by decide) (fun hc => ?_) (fun hc => ?_)
    · have h := h.1 (of_decide_eq_false hc)
      refine gw_ldc (n := (-2000000001)) d_Mo_scale_32 kw_Mo_112 (by decide +kernel) ?_
      exact gw_ireturn d_Mo_scale_34 rfl h
    · have h := h.2 (of_decide_eq_true hc)
      refine gw_iload_n 3 d_Mo_scale_21 rfl rfl ?_
      refine gw_iconst d_Mo_scale_22 ?_
      refine gw_sipush d_Mo_scale_23 (by decide +kernel) ?_
      refine gw_invS (as := [.inl v3, .inl 0, .inl 1000]) (rest := []) (d' := (d + 1)) d_Mo_scale_26 lk_Mo_47 rfl (Nat.le_of_ble_eq_true rfl) (Nat.le_of_ble_eq_true rfl) rfl rfl (s_Mo_in r3 ⟨by decide, by decide⟩ ⟨by decide, by decide⟩ ?_)
      show ga_W G (d + 2) mt_Mo_scale 29 [some (.inr 348), some (.inl v1), some (.inl v2), some (.inl v3), none, none, none, none] [.inl (ga_bb (decide ((0 : Int) ≤ v3 ∧ v3 ≤ (1000 : Int))))] I1 E
      refine gw_ifb_ne 35 d_Mo_scale_29 (by decide) (fun hc => ?_) (fun hc => ?_)
      · have h := h.1 (of_decide_eq_true hc)
        refine gw_aload_n 0 d_Mo_scale_35 rfl rfl ?_
        obtain ⟨g1, h⟩ := h
        refine gw_invV (as := []) (k := 348) (rest := []) (d' := (d + 1)) d_Mo_scale_36 lk_Mo_119 (ga_rcv (ga_oM) rfl rfl) rfl (Nat.le_of_ble_eq_true rfl) (Nat.le_of_ble_eq_true rfl) rfl rfl (s_Mo_act g1 ?_)
        show ga_W G (d + 2) mt_Mo_scale 39 [some (.inr 348), some (.inl v1), some (.inl v2), some (.inl v3), none, none, none, none] [] (mx_ac I1) E
        refine gw_nm (fun I2 q2 => ?_)
        have h := h I2 q2
        refine gw_RG (fun hI3 => ?_)
        refine gw_iconst d_Mo_scale_39 ?_
        refine gw_istore 4 d_Mo_scale_40 (Nat.le_of_ble_eq_true rfl) rfl ?_
        refine gw_iconst d_Mo_scale_42 ?_
        refine gw_istore 5 d_Mo_scale_43 (Nat.le_of_ble_eq_true rfl) rfl ?_
        exact gw_le h (by exact ⟨rfl, ⟨rfl, ⟨rfl, ⟨rfl, ⟨rfl, ⟨rfl, trivial⟩⟩⟩⟩⟩⟩)
      · have h := h.2 (of_decide_eq_false hc)
        refine gw_ldc (n := (-2000000001)) d_Mo_scale_32 kw_Mo_112 (by decide +kernel) ?_
        exact gw_ireturn d_Mo_scale_34 rfl h
theorem k_Mo_scale_45 {G : ga_G} {d : Nat} {I : ga_I} {E : Option ga_V → ga_I → Prop} {v1 : Int} {v2 : Int} {v3 : Int} {v4 : Int} {v5 : Int} (r5 : ga_rg v5)
    (h : ga_RG I → (0 ≤ (0 : Int) ∧ (0 : Int) ≤ 1) ∧ ((((ms_n (I 349) (0 : Int)) < v5) → E (some (.inl v4)) I) ∧ ((¬ ((ms_n (I 349) (0 : Int)) < v5)) → ga_W G (d + 2) mt_Mo_scale 58 [some (.inr 348), some (.inl v1), some (.inl v2), some (.inl v3), some (.inl v4), some (.inl v5), some (.inl 0), none] [] I E))) :
    ga_W G (d + 2) mt_Mo_scale 45 [some (.inr 348), some (.inl v1), some (.inl v2), some (.inl v3), some (.inl v4), some (.inl v5), none, none] [] I E := by
  refine gw_RG (fun hI1 => ?_)
  have h := h hI1
  refine gw_iload 5 d_Mo_scale_45 rfl ?_
  refine gw_aload_n 0 d_Mo_scale_47 rfl rfl ?_
  refine gw_iconst d_Mo_scale_48 ?_
  obtain ⟨g1, h⟩ := h
  refine gw_invV (as := [.inl 0]) (k := 348) (rest := [.inl v5]) (d' := (d + 1)) d_Mo_scale_49 lk_Mo_55 (ga_rcv (ga_oM) rfl rfl) rfl (Nat.le_of_ble_eq_true rfl) (Nat.le_of_ble_eq_true rfl) rfl rfl (s_Mo_borders g1 ?_)
  show ga_W G (d + 2) mt_Mo_scale 52 [some (.inr 348), some (.inl v1), some (.inl v2), some (.inl v3), some (.inl v4), some (.inl v5), none, none] [.inl (ms_n (I 349) (0 : Int)), .inl v5] I E
  refine gw_icmp_gt 149 d_Mo_scale_52 (by decide) r5 (hI1 _ _) (fun hc => ?_) (fun hc => ?_)
  · have h := h.1 hc
    refine gw_iload 4 d_Mo_scale_149 rfl ?_
    exact gw_ireturn d_Mo_scale_151 rfl h
  · have h := h.2 hc
    refine gw_iconst d_Mo_scale_55 ?_
    refine gw_istore 6 d_Mo_scale_56 (Nat.le_of_ble_eq_true rfl) rfl ?_
    exact gw_le h (by exact ⟨rfl, ⟨rfl, ⟨rfl, ⟨rfl, ⟨rfl, ⟨rfl, ⟨rfl, trivial⟩⟩⟩⟩⟩⟩⟩)
theorem k_Mo_scale_58 {G : ga_G} {d : Nat} {I : ga_I} {E : Option ga_V → ga_I → Prop} {v1 : Int} {v2 : Int} {v3 : Int} {v4 : Int} {v5 : Int} {v6 : Int} (r6 : ga_rg v6)
    (h : ga_RG I → (0 ≤ (1 : Int) ∧ (1 : Int) ≤ 1) ∧ ((((ms_n (I 349) (1 : Int)) < v6) → ga_W G (d + 2) mt_Mo_scale 45 [some (.inr 348), some (.inl v1), some (.inl v2), some (.inl v3), some (.inl v4), some (.inl (v5 + 1)), none, none] [] I E) ∧ ((¬ ((ms_n (I 349) (1 : Int)) < v6)) → (0 ≤ ((38 + 4 * (7 * v5 + v6)) + v2)) ∧ ((((38 + 4 * (7 * v5 + v6)) + v2) < 1120) ∧ ((ga_rg ((I 349 ((38 + 4 * (7 * v5 + v6)) + v2).toNat) * v3)) ∧ ((ga_rg (Int.tdiv ((I 349 ((38 + 4 * (7 * v5 + v6)) + v2).toNat) * v3) 100)) ∧ ((((Int.tdiv ((I 349 ((38 + 4 * (7 * v5 + v6)) + v2).toNat) * v3) 100) ≤ 9999) → (0 ≤ v1 ∧ v1 ≤ 2) ∧ ((0 ≤ v5 ∧ v5 ≤ 6) ∧ ((0 ≤ v6 ∧ v6 ≤ 6) ∧ ((0 ≤ v2 ∧ v2 ≤ 2) ∧ ((0 ≤ (Int.tdiv ((I 349 ((38 + 4 * (7 * v5 + v6)) + v2).toNat) * v3) 100) ∧ (Int.tdiv ((I 349 ((38 + 4 * (7 * v5 + v6)) + v2).toNat) * v3) 100) ≤ 9999) ∧ ((mo_g I) ∧ ((∀ z1 : Int, z1 = mp_ra (I 349 (38 + 4 * (7 * v5 + v6) + 3).toNat) (I 349 (38 + 4 * (7 * v5 + v6) + v2).toNat) (I 349 (241 + 3 * v1).toNat) (I 349 (241 + 3 * v1 + 1).toNat) v1 (Int.tdiv ((I 349 ((38 + 4 * (7 * v5 + v6)) + v2).toNat) * v3) 100) → (ga_rg z1) ∧ (((z1 ≠ 0) → ga_W G (d + 2) mt_Mo_scale 58 [some (.inr 348), some (.inl v1), some (.inl v2), some (.inl v3), some (.inl v4), some (.inl v5), some (.inl (v6 + 1)), none] [] I E) ∧ ((z1 = 0) → (∀ I1 : ga_I, I1 = (mx_ch I v1 (38 + 4 * (7 * v5 + v6) + v2).toNat (Int.tdiv ((I 349 ((38 + 4 * (7 * v5 + v6)) + v2).toNat) * v3) 100)) → ga_W G (d + 2) mt_Mo_scale 58 [some (.inr 348), some (.inl v1), some (.inl v2), some (.inl v3), some (.inl (v4 + 1)), some (.inl v5), some (.inl (v6 + 1)), none] [] I1 E))))))))))) ∧ ((¬ ((Int.tdiv ((I 349 ((38 + 4 * (7 * v5 + v6)) + v2).toNat) * v3) 100) ≤ 9999)) → (0 ≤ v1 ∧ v1 ≤ 2) ∧ ((0 ≤ v5 ∧ v5 ≤ 6) ∧ ((0 ≤ v6 ∧ v6 ≤ 6) ∧ ((0 ≤ v2 ∧ v2 ≤ 2) ∧ ((0 ≤ (9999 : Int) ∧ (9999 : Int) ≤ 9999) ∧ ((mo_g I) ∧ ((∀ z2 : Int, z2 = mp_ra (I 349 (38 + 4 * (7 * v5 + v6) + 3).toNat) (I 349 (38 + 4 * (7 * v5 + v6) + v2).toNat) (I 349 (241 + 3 * v1).toNat) (I 349 (241 + 3 * v1 + 1).toNat) v1 (9999 : Int) → (ga_rg z2) ∧ (((z2 ≠ 0) → ga_W G (d + 2) mt_Mo_scale 58 [some (.inr 348), some (.inl v1), some (.inl v2), some (.inl v3), some (.inl v4), some (.inl v5), some (.inl (v6 + 1)), none] [] I E) ∧ ((z2 = 0) → (∀ I2 : ga_I, I2 = (mx_ch I v1 (38 + 4 * (7 * v5 + v6) + v2).toNat (9999 : Int)) → ga_W G (d + 2) mt_Mo_scale 58 [some (.inr 348), some (.inl v1), some (.inl v2), some (.inl v3), some (.inl (v4 + 1)), some (.inl v5), some (.inl (v6 + 1)), none] [] I2 E)))))))))))))))))) :
    ga_W G (d + 2) mt_Mo_scale 58 [some (.inr 348), some (.inl v1), some (.inl v2), some (.inl v3), some (.inl v4), some (.inl v5), some (.inl v6), none] [] I E := by
  refine gw_RG (fun hI1 => ?_)
  have h := h hI1
  refine gw_iload 6 d_Mo_scale_58 rfl ?_
  refine gw_aload_n 0 d_Mo_scale_60 rfl rfl ?_
  refine gw_iconst d_Mo_scale_61 ?_
  obtain ⟨g1, h⟩ := h
  refine gw_invV (as := [.inl 1]) (k := 348) (rest := [.inl v6]) (d' := (d + 1)) d_Mo_scale_62 lk_Mo_55 (ga_rcv (ga_oM) rfl rfl) rfl (Nat.le_of_ble_eq_true rfl) (Nat.le_of_ble_eq_true rfl) rfl rfl (s_Mo_borders g1 ?_)
  show ga_W G (d + 2) mt_Mo_scale 65 [some (.inr 348), some (.inl v1), some (.inl v2), some (.inl v3), some (.inl v4), some (.inl v5), some (.inl v6), none] [.inl (ms_n (I 349) (1 : Int)), .inl v6] I E
  refine gw_icmp_gt 143 d_Mo_scale_65 (by decide) r6 (hI1 _ _) (fun hc => ?_) (fun hc => ?_)
  · have h := h.1 hc
    refine gw_iinc 5 d_Mo_scale_143 rfl rfl ?_
    refine gw_goto 45 d_Mo_scale_146 (by decide) ?_
    exact gw_le h (by exact ⟨rfl, ⟨rfl, ⟨rfl, ⟨rfl, ⟨rfl, ⟨rfl, trivial⟩⟩⟩⟩⟩⟩)
  · have h := h.2 hc
    refine gw_aload_n 0 d_Mo_scale_68 rfl rfl ?_
    refine gw_getR d_Mo_scale_69 fl_Mo_7 (ga_oM) rfl ?_
    refine gw_iload 5 d_Mo_scale_72 rfl ?_
    refine gw_iload 6 d_Mo_scale_74 rfl ?_
    refine gw_invS (as := [.inl v5, .inl v6]) (rest := [.inr 349]) (d' := (d + 1)) d_Mo_scale_76 lk_Mo_59 rfl (Nat.le_of_ble_eq_true rfl) (Nat.le_of_ble_eq_true rfl) rfl rfl (s_Mo_at  ?_)
    show ga_W G (d + 2) mt_Mo_scale 79 [some (.inr 348), some (.inl v1), some (.inl v2), some (.inl v3), some (.inl v4), some (.inl v5), some (.inl v6), none] [.inl (38 + 4 * (7 * v5 + v6)), .inr 349] I E
    refine gw_iload_n 2 d_Mo_scale_79 rfl rfl ?_
    refine gw_iadd d_Mo_scale_80 ?_
    obtain ⟨g2, h⟩ := h
    obtain ⟨g3, h⟩ := h
    refine gw_iald d_Mo_scale_81 (ga_aM1) g2 g3 ?_
    refine gw_iload_n 3 d_Mo_scale_82 rfl rfl ?_
    refine gw_imul d_Mo_scale_83 ?_
    refine gw_bipush d_Mo_scale_84 (by decide +kernel) ?_
    obtain ⟨g4, h⟩ := h
    refine gw_idiv d_Mo_scale_86 g4 ⟨by decide, by decide⟩ (by decide) ?_
    refine gw_istore 7 d_Mo_scale_87 (Nat.le_of_ble_eq_true rfl) rfl ?_
    refine gw_iload 7 d_Mo_scale_89 rfl ?_
    refine gw_sipush d_Mo_scale_91 (by decide +kernel) ?_
    obtain ⟨g5, h⟩ := h
    refine gw_icmp_le 103 d_Mo_scale_94 (by decide) g5 ⟨by decide, by decide⟩ (fun hc => ?_) (fun hc => ?_)
    · have h := h.1 hc
      refine gw_iload 7 d_Mo_scale_103 rfl ?_
      refine gw_istore 7 d_Mo_scale_105 (Nat.le_of_ble_eq_true rfl) rfl ?_
      refine gw_aload_n 0 d_Mo_scale_107 rfl rfl ?_
      refine gw_iload_n 1 d_Mo_scale_108 rfl rfl ?_
      refine gw_iload 5 d_Mo_scale_109 rfl ?_
      refine gw_iload 6 d_Mo_scale_111 rfl ?_
      refine gw_iload_n 2 d_Mo_scale_113 rfl rfl ?_
      refine gw_iload 7 d_Mo_scale_114 rfl ?_
      obtain ⟨g6, h⟩ := h
      obtain ⟨g7, h⟩ := h
      obtain ⟨g8, h⟩ := h
      obtain ⟨g9, h⟩ := h
      obtain ⟨g10, h⟩ := h
      obtain ⟨g11, h⟩ := h
      refine gw_invV (as := [.inl v1, .inl v5, .inl v6, .inl v2, .inl (Int.tdiv ((I 349 ((38 + 4 * (7 * v5 + v6)) + v2).toNat) * v3) 100)]) (k := 348) (rest := []) (d' := (d + 1)) d_Mo_scale_116 lk_Mo_144 (ga_rcv (ga_oM) rfl rfl) rfl (Nat.le_of_ble_eq_true rfl) (Nat.le_of_ble_eq_true rfl) rfl rfl (s_Mo_refusalOf g6 g7 g8 g9 g10 g11 ?_)
      show ga_W G (d + 2) mt_Mo_scale 119 [some (.inr 348), some (.inl v1), some (.inl v2), some (.inl v3), some (.inl v4), some (.inl v5), some (.inl v6), some (.inl (Int.tdiv ((I 349 ((38 + 4 * (7 * v5 + v6)) + v2).toNat) * v3) 100))] [.inl (mp_ra (I 349 (38 + 4 * (7 * v5 + v6) + 3).toNat) (I 349 (38 + 4 * (7 * v5 + v6) + v2).toNat) (I 349 (241 + 3 * v1).toNat) (I 349 (241 + 3 * v1 + 1).toNat) v1 (Int.tdiv ((I 349 ((38 + 4 * (7 * v5 + v6)) + v2).toNat) * v3) 100))] I E
      refine gw_nz (z := mp_ra (I 349 (38 + 4 * (7 * v5 + v6) + 3).toNat) (I 349 (38 + 4 * (7 * v5 + v6) + v2).toNat) (I 349 (241 + 3 * v1).toNat) (I 349 (241 + 3 * v1 + 1).toNat) v1 (Int.tdiv ((I 349 ((38 + 4 * (7 * v5 + v6)) + v2).toNat) * v3) 100)) (fun z1 q1 => ?_)
      have h := h z1 q1
      obtain ⟨g12, h⟩ := h
      refine gw_if_ne 137 d_Mo_scale_119 (by decide) g12 (fun hc => ?_) (fun hc => ?_)
      · have h := h.1 hc
        refine gw_iinc 6 d_Mo_scale_137 rfl rfl ?_
        refine gw_goto 58 d_Mo_scale_140 (by decide) ?_
        exact gw_le h (by exact ⟨rfl, ⟨rfl, ⟨rfl, ⟨rfl, ⟨rfl, ⟨rfl, ⟨rfl, trivial⟩⟩⟩⟩⟩⟩⟩)
      · have h := h.2 hc
        refine gw_aload_n 0 d_Mo_scale_122 rfl rfl ?_
        refine gw_iload_n 1 d_Mo_scale_123 rfl rfl ?_
        refine gw_iload 5 d_Mo_scale_124 rfl ?_
        refine gw_iload 6 d_Mo_scale_126 rfl ?_
        refine gw_iload_n 2 d_Mo_scale_128 rfl rfl ?_
        refine gw_iload 7 d_Mo_scale_129 rfl ?_
        refine gw_invV (as := [.inl v1, .inl v5, .inl v6, .inl v2, .inl (Int.tdiv ((I 349 ((38 + 4 * (7 * v5 + v6)) + v2).toNat) * v3) 100)]) (k := 348) (rest := []) (d' := (d + 1)) d_Mo_scale_131 lk_Mo_148 (ga_rcv (ga_oM) rfl rfl) rfl (Nat.le_of_ble_eq_true rfl) (Nat.le_of_ble_eq_true rfl) rfl rfl (s_Mo_change g6 g7 g8 g9 g10 g11 ?_)
        show ga_W G (d + 2) mt_Mo_scale 134 [some (.inr 348), some (.inl v1), some (.inl v2), some (.inl v3), some (.inl v4), some (.inl v5), some (.inl v6), some (.inl (Int.tdiv ((I 349 ((38 + 4 * (7 * v5 + v6)) + v2).toNat) * v3) 100))] [] (mx_ch I v1 (38 + 4 * (7 * v5 + v6) + v2).toNat (Int.tdiv ((I 349 ((38 + 4 * (7 * v5 + v6)) + v2).toNat) * v3) 100)) E
        refine gw_nm (fun I1 q2 => ?_)
        have h := h I1 q2
        refine gw_RG (fun hI2 => ?_)
        refine gw_iinc 4 d_Mo_scale_134 rfl rfl ?_
        refine gw_iinc 6 d_Mo_scale_137 rfl rfl ?_
        refine gw_goto 58 d_Mo_scale_140 (by decide) ?_
        exact gw_le h (by exact ⟨rfl, ⟨rfl, ⟨rfl, ⟨rfl, ⟨rfl, ⟨rfl, ⟨rfl, trivial⟩⟩⟩⟩⟩⟩⟩)
    · have h := h.2 hc
      refine gw_sipush d_Mo_scale_97 (by decide +kernel) ?_
      refine gw_goto 105 d_Mo_scale_100 (by decide) ?_
      refine gw_istore 7 d_Mo_scale_105 (Nat.le_of_ble_eq_true rfl) rfl ?_
      refine gw_aload_n 0 d_Mo_scale_107 rfl rfl ?_
      refine gw_iload_n 1 d_Mo_scale_108 rfl rfl ?_
      refine gw_iload 5 d_Mo_scale_109 rfl ?_
      refine gw_iload 6 d_Mo_scale_111 rfl ?_
      refine gw_iload_n 2 d_Mo_scale_113 rfl rfl ?_
      refine gw_iload 7 d_Mo_scale_114 rfl ?_
      obtain ⟨g13, h⟩ := h
      obtain ⟨g14, h⟩ := h
      obtain ⟨g15, h⟩ := h
      obtain ⟨g16, h⟩ := h
      obtain ⟨g17, h⟩ := h
      obtain ⟨g18, h⟩ := h
      refine gw_invV (as := [.inl v1, .inl v5, .inl v6, .inl v2, .inl 9999]) (k := 348) (rest := []) (d' := (d + 1)) d_Mo_scale_116 lk_Mo_144 (ga_rcv (ga_oM) rfl rfl) rfl (Nat.le_of_ble_eq_true rfl) (Nat.le_of_ble_eq_true rfl) rfl rfl (s_Mo_refusalOf g13 g14 g15 g16 g17 g18 ?_)
      show ga_W G (d + 2) mt_Mo_scale 119 [some (.inr 348), some (.inl v1), some (.inl v2), some (.inl v3), some (.inl v4), some (.inl v5), some (.inl v6), some (.inl 9999)] [.inl (mp_ra (I 349 (38 + 4 * (7 * v5 + v6) + 3).toNat) (I 349 (38 + 4 * (7 * v5 + v6) + v2).toNat) (I 349 (241 + 3 * v1).toNat) (I 349 (241 + 3 * v1 + 1).toNat) v1 (9999 : Int))] I E
      refine gw_nz (z := mp_ra (I 349 (38 + 4 * (7 * v5 + v6) + 3).toNat) (I 349 (38 + 4 * (7 * v5 + v6) + v2).toNat) (I 349 (241 + 3 * v1).toNat) (I 349 (241 + 3 * v1 + 1).toNat) v1 (9999 : Int)) (fun z2 q3 => ?_)
      have h := h z2 q3
      obtain ⟨g19, h⟩ := h
      refine gw_if_ne 137 d_Mo_scale_119 (by decide) g19 (fun hc => ?_) (fun hc => ?_)
      · have h := h.1 hc
        refine gw_iinc 6 d_Mo_scale_137 rfl rfl ?_
        refine gw_goto 58 d_Mo_scale_140 (by decide) ?_
        exact gw_le h (by exact ⟨rfl, ⟨rfl, ⟨rfl, ⟨rfl, ⟨rfl, ⟨rfl, ⟨rfl, trivial⟩⟩⟩⟩⟩⟩⟩)
      · have h := h.2 hc
        refine gw_aload_n 0 d_Mo_scale_122 rfl rfl ?_
        refine gw_iload_n 1 d_Mo_scale_123 rfl rfl ?_
        refine gw_iload 5 d_Mo_scale_124 rfl ?_
        refine gw_iload 6 d_Mo_scale_126 rfl ?_
        refine gw_iload_n 2 d_Mo_scale_128 rfl rfl ?_
        refine gw_iload 7 d_Mo_scale_129 rfl ?_
        refine gw_invV (as := [.inl v1, .inl v5, .inl v6, .inl v2, .inl 9999]) (k := 348) (rest := []) (d' := (d + 1)) d_Mo_scale_131 lk_Mo_148 (ga_rcv (ga_oM) rfl rfl) rfl (Nat.le_of_ble_eq_true rfl) (Nat.le_of_ble_eq_true rfl) rfl rfl (s_Mo_change g13 g14 g15 g16 g17 g18 ?_)
        show ga_W G (d + 2) mt_Mo_scale 134 [some (.inr 348), some (.inl v1), some (.inl v2), some (.inl v3), some (.inl v4), some (.inl v5), some (.inl v6), some (.inl 9999)] [] (mx_ch I v1 (38 + 4 * (7 * v5 + v6) + v2).toNat (9999 : Int)) E
        refine gw_nm (fun I2 q4 => ?_)
        have h := h I2 q4
        refine gw_RG (fun hI3 => ?_)
        refine gw_iinc 4 d_Mo_scale_134 rfl rfl ?_
        refine gw_iinc 6 d_Mo_scale_137 rfl rfl ?_
        refine gw_goto 58 d_Mo_scale_140 (by decide) ?_
        exact gw_le h (by exact ⟨rfl, ⟨rfl, ⟨rfl, ⟨rfl, ⟨rfl, ⟨rfl, ⟨rfl, trivial⟩⟩⟩⟩⟩⟩⟩)

theorem k_Mo_sweep_0 {G : ga_G} {d : Nat} {I : ga_I} {E : Option ga_V → ga_I → Prop} {v1 : Int} {v2 : Int} {v3 : Int} (r1 : ga_rg v1) (r2 : ga_rg v2) (r3 : ga_rg v3)
    (h : ga_RG I → (∀ I1 : ga_I, I1 = (ga_up I 348 0 0) → ((¬ (0 ≤ v1 ∧ v1 ≤ 1)) → E (some (.inl (-2000000001))) I1) ∧ ((0 ≤ v1 ∧ v1 ≤ 1) → ((¬ (0 ≤ v2 ∧ v2 ≤ 1000)) → E (some (.inl (-2000000001))) I1) ∧ ((0 ≤ v2 ∧ v2 ≤ 1000) → (((1 : Int) ≤ v3 ∧ v3 ≤ (1000 : Int)) → (0 ≤ (234 + v1)) ∧ (((234 + v1) < 1120) ∧ ((((I1 349 (234 + v1).toNat) ≠ v2) → (0 ≤ I1 348 4 ∧ I1 348 4 ≤ 5) ∧ ((∀ I2 : ga_I, I2 = (mx_ac I1) → ga_W G (d + 6) mt_Mo_sweep 69 [some (.inr 348), some (.inl v1), some (.inl v2), some (.inl v3), some (.inl 0), some (.inl (I2 349 (234 + v1).toNat)), none, none, none] [] I2 E))) ∧ (((I1 349 (234 + v1).toNat) = v2) → E (some (.inl (-2000000002))) I1)))) ∧ ((¬ ((1 : Int) ≤ v3 ∧ v3 ≤ (1000 : Int))) → E (some (.inl (-2000000001))) I1))))) :
    ga_W G (d + 6) mt_Mo_sweep 0 (ga_en 9 [.inr 348, .inl v1, .inl v2, .inl v3]) [] I E := by
  show ga_W G (d + 6) mt_Mo_sweep 0 [some (.inr 348), some (.inl v1), some (.inl v2), some (.inl v3), none, none, none, none, none] [] I E
  refine gw_RG (fun hI1 => ?_)
  have h := h hI1
  refine gw_aload_n 0 d_Mo_sweep_0 rfl rfl ?_
  refine gw_iconst d_Mo_sweep_1 ?_
  refine gw_putI d_Mo_sweep_2 fp_Mo_37 (ga_oM) rfl ?_
  show ga_W G (d + 6) mt_Mo_sweep 5 [some (.inr 348), some (.inl v1), some (.inl v2), some (.inl v3), none, none, none, none, none] [] (ga_up I 348 0 (ga_wr 0)) E
  rw [ga_wr_eq (z := 0) ⟨by decide, by decide⟩]
  refine gw_nm (J := (ga_up I 348 0 0)) (fun I1 q1 => ?_)
  have h := h I1 q1
  refine gw_RG (fun hI2 => ?_)
  refine gw_iload_n 1 d_Mo_sweep_5 rfl rfl ?_
  refine gw_invS (as := [.inl v1]) (rest := []) (d' := (d + 5)) d_Mo_sweep_6 lk_Mo_51 rfl (Nat.le_of_ble_eq_true rfl) (Nat.le_of_ble_eq_true rfl) rfl rfl (s_Mo_isAxis r1 ?_)
  show ga_W G (d + 6) mt_Mo_sweep 9 [some (.inr 348), some (.inl v1), some (.inl v2), some (.inl v3), none, none, none, none, none] [.inl (ga_bb (decide (0 ≤ v1 ∧ v1 ≤ 1)))] I1 E
  refine gw_ifb_eq 30 d_Mo_sweep_9 (by decide) (fun hc => ?_) (fun hc => ?_)
  · have h := h.1 (of_decide_eq_false hc)
    refine gw_ldc (n := (-2000000001)) d_Mo_sweep_30 kw_Mo_112 (by decide +kernel) ?_
    exact gw_ireturn d_Mo_sweep_32 rfl h
  · have h := h.2 (of_decide_eq_true hc)
    refine gw_iload_n 2 d_Mo_sweep_12 rfl rfl ?_
    refine gw_invS (as := [.inl v2]) (rest := []) (d' := (d + 5)) d_Mo_sweep_13 lk_Mo_179 rfl (Nat.le_of_ble_eq_true rfl) (Nat.le_of_ble_eq_true rfl) rfl rfl (s_Mo_isCoordinate r2 ?_)
    show ga_W G (d + 6) mt_Mo_sweep 16 [some (.inr 348), some (.inl v1), some (.inl v2), some (.inl v3), none, none, none, none, none] [.inl (ga_bb (decide (0 ≤ v2 ∧ v2 ≤ 1000)))] I1 E
    refine gw_ifb_eq 30 d_Mo_sweep_16 (by decide) (fun hc => ?_) (fun hc => ?_)
    · have h := h.1 (of_decide_eq_false hc)
      refine gw_ldc (n := (-2000000001)) d_Mo_sweep_30 kw_Mo_112 (by decide +kernel) ?_
      exact gw_ireturn d_Mo_sweep_32 rfl h
    · have h := h.2 (of_decide_eq_true hc)
      refine gw_iload_n 3 d_Mo_sweep_19 rfl rfl ?_
      refine gw_iconst d_Mo_sweep_20 ?_
      refine gw_sipush d_Mo_sweep_21 (by decide +kernel) ?_
      refine gw_invS (as := [.inl v3, .inl 1, .inl 1000]) (rest := []) (d' := (d + 5)) d_Mo_sweep_24 lk_Mo_47 rfl (Nat.le_of_ble_eq_true rfl) (Nat.le_of_ble_eq_true rfl) rfl rfl (s_Mo_in r3 ⟨by decide, by decide⟩ ⟨by decide, by decide⟩ ?_)
      show ga_W G (d + 6) mt_Mo_sweep 27 [some (.inr 348), some (.inl v1), some (.inl v2), some (.inl v3), none, none, none, none, none] [.inl (ga_bb (decide ((1 : Int) ≤ v3 ∧ v3 ≤ (1000 : Int))))] I1 E
      refine gw_ifb_ne 33 d_Mo_sweep_27 (by decide) (fun hc => ?_) (fun hc => ?_)
      · have h := h.1 (of_decide_eq_true hc)
        refine gw_aload_n 0 d_Mo_sweep_33 rfl rfl ?_
        refine gw_getR d_Mo_sweep_34 fl_Mo_7 (ga_oM) rfl ?_
        refine gw_sipush d_Mo_sweep_37 (by decide +kernel) ?_
        refine gw_iload_n 1 d_Mo_sweep_40 rfl rfl ?_
        refine gw_iadd d_Mo_sweep_41 ?_
        obtain ⟨g1, h⟩ := h
        obtain ⟨g2, h⟩ := h
        refine gw_iald d_Mo_sweep_42 (ga_aM1) g1 g2 ?_
        refine gw_iload_n 2 d_Mo_sweep_43 rfl rfl ?_
        refine gw_icmp_ne 50 d_Mo_sweep_44 (by decide) (hI2 _ _) r2 (fun hc => ?_) (fun hc => ?_)
        · have h := h.1 hc
          refine gw_aload_n 0 d_Mo_sweep_50 rfl rfl ?_
          obtain ⟨g3, h⟩ := h
          refine gw_invV (as := []) (k := 348) (rest := []) (d' := (d + 5)) d_Mo_sweep_51 lk_Mo_119 (ga_rcv (ga_oM) rfl rfl) rfl (Nat.le_of_ble_eq_true rfl) (Nat.le_of_ble_eq_true rfl) rfl rfl (s_Mo_act g3 ?_)
          show ga_W G (d + 6) mt_Mo_sweep 54 [some (.inr 348), some (.inl v1), some (.inl v2), some (.inl v3), none, none, none, none, none] [] (mx_ac I1) E
          refine gw_nm (fun I2 q2 => ?_)
          have h := h I2 q2
          refine gw_RG (fun hI3 => ?_)
          refine gw_iconst d_Mo_sweep_54 ?_
          refine gw_istore 4 d_Mo_sweep_55 (Nat.le_of_ble_eq_true rfl) rfl ?_
          refine gw_aload_n 0 d_Mo_sweep_57 rfl rfl ?_
          refine gw_getR d_Mo_sweep_58 fl_Mo_7 (ga_oM) rfl ?_
          refine gw_sipush d_Mo_sweep_61 (by decide +kernel) ?_
          refine gw_iload_n 1 d_Mo_sweep_64 rfl rfl ?_
          refine gw_iadd d_Mo_sweep_65 ?_
          refine gw_iald d_Mo_sweep_66 (ga_aM1) g1 g2 ?_
          refine gw_istore 5 d_Mo_sweep_67 (Nat.le_of_ble_eq_true rfl) rfl ?_
          exact gw_le h (by exact ⟨rfl, ⟨rfl, ⟨rfl, ⟨rfl, ⟨rfl, ⟨rfl, trivial⟩⟩⟩⟩⟩⟩)
        · have h := h.2 hc
          refine gw_ldc (n := (-2000000002)) d_Mo_sweep_47 kw_Mo_117 (by decide +kernel) ?_
          exact gw_ireturn d_Mo_sweep_49 rfl h
      · have h := h.2 (of_decide_eq_false hc)
        refine gw_ldc (n := (-2000000001)) d_Mo_sweep_30 kw_Mo_112 (by decide +kernel) ?_
        exact gw_ireturn d_Mo_sweep_32 rfl h
theorem k_Mo_sweep_69 {G : ga_G} {d : Nat} {I : ga_I} {E : Option ga_V → ga_I → Prop} {v1 : Int} {v2 : Int} {v3 : Int} {v4 : Int} {v5 : Int} (r1 : ga_rg v1) (r2 : ga_rg v2) (r3 : ga_rg v3) (r5 : ga_rg v5)
    (h : ga_RG I → ((v5 = v2) → E (some (.inl v4)) I) ∧ ((¬ (v5 = v2)) → (ga_rg ((v5 - v2).natAbs : Int)) ∧ (((v3 ≤ ((v5 - v2).natAbs : Int)) → ((v2 ≤ v5) → (0 ≤ (236 + v1)) ∧ (((236 + v1) < 1120) ∧ (((v1 ≠ 0) → (mo_ok I 0) ∧ ((mo_ok I 1) ∧ ((mo_pz I) ∧ ((mo_zn I) ∧ ((mo_g I) ∧ ((0 ≤ I 349 254 ∧ I 349 254 ≤ 20) ∧ ((0 ≤ (I 349 234) ∧ (I 349 234) ≤ 1000) ∧ ((0 ≤ (v5 + (-v3)) ∧ (v5 + (-v3)) ≤ 1000) ∧ ((∀ I1 : ga_I, gr_mm I I1 (I 349 234) (v5 + (-v3)) → (ga_rg (na_mm (I 349) (I 349 234) (v5 + (-v3)))) ∧ ((((na_mm (I 349) (I 349 234) (v5 + (-v3))) = (-2000000009)) → ga_W G (d + 6) mt_Mo_sweep 69 [some (.inr 348), some (.inl v1), some (.inl v2), some (.inl v3), some (.inl (v4 + 0)), some (.inl (v5 + (-v3))), none, none, none] [] I1 E) ∧ ((¬ ((na_mm (I 349) (I 349 234) (v5 + (-v3))) = (-2000000009))) → (((I1 349 (236 + v1).toNat) = (I 349 (236 + v1).toNat)) → ga_W G (d + 6) mt_Mo_sweep 69 [some (.inr 348), some (.inl v1), some (.inl v2), some (.inl v3), some (.inl (v4 + 0)), some (.inl (v5 + (-v3))), none, none, none] [] I1 E) ∧ ((¬ ((I1 349 (236 + v1).toNat) = (I 349 (236 + v1).toNat))) → ga_W G (d + 6) mt_Mo_sweep 69 [some (.inr 348), some (.inl v1), some (.inl v2), some (.inl v3), some (.inl (v4 + 1)), some (.inl (v5 + (-v3))), none, none, none] [] I1 E))))))))))))) ∧ ((v1 = 0) → (mo_ok I 0) ∧ ((mo_ok I 1) ∧ ((mo_pz I) ∧ ((mo_zn I) ∧ ((mo_g I) ∧ ((0 ≤ I 349 254 ∧ I 349 254 ≤ 20) ∧ ((0 ≤ (v5 + (-v3)) ∧ (v5 + (-v3)) ≤ 1000) ∧ ((0 ≤ (I 349 235) ∧ (I 349 235) ≤ 1000) ∧ ((∀ I2 : ga_I, gr_mm I I2 (v5 + (-v3)) (I 349 235) → (ga_rg (na_mm (I 349) (v5 + (-v3)) (I 349 235))) ∧ ((((na_mm (I 349) (v5 + (-v3)) (I 349 235)) = (-2000000009)) → ga_W G (d + 6) mt_Mo_sweep 69 [some (.inr 348), some (.inl v1), some (.inl v2), some (.inl v3), some (.inl (v4 + 0)), some (.inl (v5 + (-v3))), none, none, none] [] I2 E) ∧ ((¬ ((na_mm (I 349) (v5 + (-v3)) (I 349 235)) = (-2000000009))) → (((I2 349 (236 + v1).toNat) = (I 349 (236 + v1).toNat)) → ga_W G (d + 6) mt_Mo_sweep 69 [some (.inr 348), some (.inl v1), some (.inl v2), some (.inl v3), some (.inl (v4 + 0)), some (.inl (v5 + (-v3))), none, none, none] [] I2 E) ∧ ((¬ ((I2 349 (236 + v1).toNat) = (I 349 (236 + v1).toNat))) → ga_W G (d + 6) mt_Mo_sweep 69 [some (.inr 348), some (.inl v1), some (.inl v2), some (.inl v3), some (.inl (v4 + 1)), some (.inl (v5 + (-v3))), none, none, none] [] I2 E)))))))))))))))) ∧ ((¬ (v2 ≤ v5)) → (0 ≤ (236 + v1)) ∧ (((236 + v1) < 1120) ∧ (((v1 ≠ 0) → (mo_ok I 0) ∧ ((mo_ok I 1) ∧ ((mo_pz I) ∧ ((mo_zn I) ∧ ((mo_g I) ∧ ((0 ≤ I 349 254 ∧ I 349 254 ≤ 20) ∧ ((0 ≤ (I 349 234) ∧ (I 349 234) ≤ 1000) ∧ ((0 ≤ (v5 + v3) ∧ (v5 + v3) ≤ 1000) ∧ ((∀ I3 : ga_I, gr_mm I I3 (I 349 234) (v5 + v3) → (ga_rg (na_mm (I 349) (I 349 234) (v5 + v3))) ∧ ((((na_mm (I 349) (I 349 234) (v5 + v3)) = (-2000000009)) → ga_W G (d + 6) mt_Mo_sweep 69 [some (.inr 348), some (.inl v1), some (.inl v2), some (.inl v3), some (.inl (v4 + 0)), some (.inl (v5 + v3)), none, none, none] [] I3 E) ∧ ((¬ ((na_mm (I 349) (I 349 234) (v5 + v3)) = (-2000000009))) → (((I3 349 (236 + v1).toNat) = (I 349 (236 + v1).toNat)) → ga_W G (d + 6) mt_Mo_sweep 69 [some (.inr 348), some (.inl v1), some (.inl v2), some (.inl v3), some (.inl (v4 + 0)), some (.inl (v5 + v3)), none, none, none] [] I3 E) ∧ ((¬ ((I3 349 (236 + v1).toNat) = (I 349 (236 + v1).toNat))) → ga_W G (d + 6) mt_Mo_sweep 69 [some (.inr 348), some (.inl v1), some (.inl v2), some (.inl v3), some (.inl (v4 + 1)), some (.inl (v5 + v3)), none, none, none] [] I3 E))))))))))))) ∧ ((v1 = 0) → (mo_ok I 0) ∧ ((mo_ok I 1) ∧ ((mo_pz I) ∧ ((mo_zn I) ∧ ((mo_g I) ∧ ((0 ≤ I 349 254 ∧ I 349 254 ≤ 20) ∧ ((0 ≤ (v5 + v3) ∧ (v5 + v3) ≤ 1000) ∧ ((0 ≤ (I 349 235) ∧ (I 349 235) ≤ 1000) ∧ ((∀ I4 : ga_I, gr_mm I I4 (v5 + v3) (I 349 235) → (ga_rg (na_mm (I 349) (v5 + v3) (I 349 235))) ∧ ((((na_mm (I 349) (v5 + v3) (I 349 235)) = (-2000000009)) → ga_W G (d + 6) mt_Mo_sweep 69 [some (.inr 348), some (.inl v1), some (.inl v2), some (.inl v3), some (.inl (v4 + 0)), some (.inl (v5 + v3)), none, none, none] [] I4 E) ∧ ((¬ ((na_mm (I 349) (v5 + v3) (I 349 235)) = (-2000000009))) → (((I4 349 (236 + v1).toNat) = (I 349 (236 + v1).toNat)) → ga_W G (d + 6) mt_Mo_sweep 69 [some (.inr 348), some (.inl v1), some (.inl v2), some (.inl v3), some (.inl (v4 + 0)), some (.inl (v5 + v3)), none, none, none] [] I4 E) ∧ ((¬ ((I4 349 (236 + v1).toNat) = (I 349 (236 + v1).toNat))) → ga_W G (d + 6) mt_Mo_sweep 69 [some (.inr 348), some (.inl v1), some (.inl v2), some (.inl v3), some (.inl (v4 + 1)), some (.inl (v5 + v3)), none, none, none] [] I4 E))))))))))))))))) ∧ ((¬ (v3 ≤ ((v5 - v2).natAbs : Int))) → ((v2 ≤ v5) → (0 ≤ (236 + v1)) ∧ (((236 + v1) < 1120) ∧ (((v1 ≠ 0) → (mo_ok I 0) ∧ ((mo_ok I 1) ∧ ((mo_pz I) ∧ ((mo_zn I) ∧ ((mo_g I) ∧ ((0 ≤ I 349 254 ∧ I 349 254 ≤ 20) ∧ ((0 ≤ (I 349 234) ∧ (I 349 234) ≤ 1000) ∧ ((0 ≤ (v5 + (-((v5 - v2).natAbs : Int))) ∧ (v5 + (-((v5 - v2).natAbs : Int))) ≤ 1000) ∧ ((∀ I5 : ga_I, gr_mm I I5 (I 349 234) (v5 + (-((v5 - v2).natAbs : Int))) → (ga_rg (na_mm (I 349) (I 349 234) (v5 + (-((v5 - v2).natAbs : Int))))) ∧ ((((na_mm (I 349) (I 349 234) (v5 + (-((v5 - v2).natAbs : Int)))) = (-2000000009)) → ga_W G (d + 6) mt_Mo_sweep 69 [some (.inr 348), some (.inl v1), some (.inl v2), some (.inl v3), some (.inl (v4 + 0)), some (.inl (v5 + (-((v5 - v2).natAbs : Int)))), none, none, none] [] I5 E) ∧ ((¬ ((na_mm (I 349) (I 349 234) (v5 + (-((v5 - v2).natAbs : Int)))) = (-2000000009))) → (((I5 349 (236 + v1).toNat) = (I 349 (236 + v1).toNat)) → ga_W G (d + 6) mt_Mo_sweep 69 [some (.inr 348), some (.inl v1), some (.inl v2), some (.inl v3), some (.inl (v4 + 0)), some (.inl (v5 + (-((v5 - v2).natAbs : Int)))), none, none, none] [] I5 E) ∧ ((¬ ((I5 349 (236 + v1).toNat) = (I 349 (236 + v1).toNat))) → ga_W G (d + 6) mt_Mo_sweep 69 [some (.inr 348), some (.inl v1), some (.inl v2), some (.inl v3), some (.inl (v4 + 1)), some (.inl (v5 + (-((v5 - v2).natAbs : Int)))), none, none, none] [] I5 E))))))))))))) ∧ ((v1 = 0) → (mo_ok I 0) ∧ ((mo_ok I 1) ∧ ((mo_pz I) ∧ ((mo_zn I) ∧ ((mo_g I) ∧ ((0 ≤ I 349 254 ∧ I 349 254 ≤ 20) ∧ ((0 ≤ (v5 + (-((v5 - v2).natAbs : Int))) ∧ (v5 + (-((v5 - v2).natAbs : Int))) ≤ 1000) ∧ ((0 ≤ (I 349 235) ∧ (I 349 235) ≤ 1000) ∧ ((∀ I6 : ga_I, gr_mm I I6 (v5 + (-((v5 - v2).natAbs : Int))) (I 349 235) → (ga_rg (na_mm (I 349) (v5 + (-((v5 - v2).natAbs : Int))) (I 349 235))) ∧ ((((na_mm (I 349) (v5 + (-((v5 - v2).natAbs : Int))) (I 349 235)) = (-2000000009)) → ga_W G (d + 6) mt_Mo_sweep 69 [some (.inr 348), some (.inl v1), some (.inl v2), some (.inl v3), some (.inl (v4 + 0)), some (.inl (v5 + (-((v5 - v2).natAbs : Int)))), none, none, none] [] I6 E) ∧ ((¬ ((na_mm (I 349) (v5 + (-((v5 - v2).natAbs : Int))) (I 349 235)) = (-2000000009))) → (((I6 349 (236 + v1).toNat) = (I 349 (236 + v1).toNat)) → ga_W G (d + 6) mt_Mo_sweep 69 [some (.inr 348), some (.inl v1), some (.inl v2), some (.inl v3), some (.inl (v4 + 0)), some (.inl (v5 + (-((v5 - v2).natAbs : Int)))), none, none, none] [] I6 E) ∧ ((¬ ((I6 349 (236 + v1).toNat) = (I 349 (236 + v1).toNat))) → ga_W G (d + 6) mt_Mo_sweep 69 [some (.inr 348), some (.inl v1), some (.inl v2), some (.inl v3), some (.inl (v4 + 1)), some (.inl (v5 + (-((v5 - v2).natAbs : Int)))), none, none, none] [] I6 E)))))))))))))))) ∧ ((¬ (v2 ≤ v5)) → (0 ≤ (236 + v1)) ∧ (((236 + v1) < 1120) ∧ (((v1 ≠ 0) → (mo_ok I 0) ∧ ((mo_ok I 1) ∧ ((mo_pz I) ∧ ((mo_zn I) ∧ ((mo_g I) ∧ ((0 ≤ I 349 254 ∧ I 349 254 ≤ 20) ∧ ((0 ≤ (I 349 234) ∧ (I 349 234) ≤ 1000) ∧ ((0 ≤ (v5 + ((v5 - v2).natAbs : Int)) ∧ (v5 + ((v5 - v2).natAbs : Int)) ≤ 1000) ∧ ((∀ I7 : ga_I, gr_mm I I7 (I 349 234) (v5 + ((v5 - v2).natAbs : Int)) → (ga_rg (na_mm (I 349) (I 349 234) (v5 + ((v5 - v2).natAbs : Int)))) ∧ ((((na_mm (I 349) (I 349 234) (v5 + ((v5 - v2).natAbs : Int))) = (-2000000009)) → ga_W G (d + 6) mt_Mo_sweep 69 [some (.inr 348), some (.inl v1), some (.inl v2), some (.inl v3), some (.inl (v4 + 0)), some (.inl (v5 + ((v5 - v2).natAbs : Int))), none, none, none] [] I7 E) ∧ ((¬ ((na_mm (I 349) (I 349 234) (v5 + ((v5 - v2).natAbs : Int))) = (-2000000009))) → (((I7 349 (236 + v1).toNat) = (I 349 (236 + v1).toNat)) → ga_W G (d + 6) mt_Mo_sweep 69 [some (.inr 348), some (.inl v1), some (.inl v2), some (.inl v3), some (.inl (v4 + 0)), some (.inl (v5 + ((v5 - v2).natAbs : Int))), none, none, none] [] I7 E) ∧ ((¬ ((I7 349 (236 + v1).toNat) = (I 349 (236 + v1).toNat))) → ga_W G (d + 6) mt_Mo_sweep 69 [some (.inr 348), some (.inl v1), some (.inl v2), some (.inl v3), some (.inl (v4 + 1)), some (.inl (v5 + ((v5 - v2).natAbs : Int))), none, none, none] [] I7 E))))))))))))) ∧ ((v1 = 0) → (mo_ok I 0) ∧ ((mo_ok I 1) ∧ ((mo_pz I) ∧ ((mo_zn I) ∧ ((mo_g I) ∧ ((0 ≤ I 349 254 ∧ I 349 254 ≤ 20) ∧ ((0 ≤ (v5 + ((v5 - v2).natAbs : Int)) ∧ (v5 + ((v5 - v2).natAbs : Int)) ≤ 1000) ∧ ((0 ≤ (I 349 235) ∧ (I 349 235) ≤ 1000) ∧ ((∀ I8 : ga_I, gr_mm I I8 (v5 + ((v5 - v2).natAbs : Int)) (I 349 235) → (ga_rg (na_mm (I 349) (v5 + ((v5 - v2).natAbs : Int)) (I 349 235))) ∧ ((((na_mm (I 349) (v5 + ((v5 - v2).natAbs : Int)) (I 349 235)) = (-2000000009)) → ga_W G (d + 6) mt_Mo_sweep 69 [some (.inr 348), some (.inl v1), some (.inl v2), some (.inl v3), some (.inl (v4 + 0)), some (.inl (v5 + ((v5 - v2).natAbs : Int))), none, none, none] [] I8 E) ∧ ((¬ ((na_mm (I 349) (v5 + ((v5 - v2).natAbs : Int)) (I 349 235)) = (-2000000009))) → (((I8 349 (236 + v1).toNat) = (I 349 (236 + v1).toNat)) → ga_W G (d + 6) mt_Mo_sweep 69 [some (.inr 348), some (.inl v1), some (.inl v2), some (.inl v3), some (.inl (v4 + 0)), some (.inl (v5 + ((v5 - v2).natAbs : Int))), none, none, none] [] I8 E) ∧ ((¬ ((I8 349 (236 + v1).toNat) = (I 349 (236 + v1).toNat))) → ga_W G (d + 6) mt_Mo_sweep 69 [some (.inr 348), some (.inl v1), some (.inl v2), some (.inl v3), some (.inl (v4 + 1)), some (.inl (v5 + ((v5 - v2).natAbs : Int))), none, none, none] [] I8 E)))))))))))))))))))) :
    ga_W G (d + 6) mt_Mo_sweep 69 [some (.inr 348), some (.inl v1), some (.inl v2), some (.inl v3), some (.inl v4), some (.inl v5), none, none, none] [] I E := by
  refine gw_RG (fun hI1 => ?_)
  have h := h hI1
  refine gw_iload 5 d_Mo_sweep_69 rfl ?_
  refine gw_iload_n 2 d_Mo_sweep_71 rfl rfl ?_
  refine gw_icmp_eq 200 d_Mo_sweep_72 (by decide) r5 r2 (fun hc => ?_) (fun hc => ?_)
  · have h := h.1 hc
    refine gw_iload 4 d_Mo_sweep_200 rfl ?_
    exact gw_ireturn d_Mo_sweep_202 rfl h
  · have h := h.2 hc
    refine gw_iload 5 d_Mo_sweep_75 rfl ?_
    refine gw_iload_n 2 d_Mo_sweep_77 rfl rfl ?_
    refine gw_invS (as := [.inl v5, .inl v2]) (rest := []) (d' := (d + 5)) d_Mo_sweep_78 lk_Mo_85 rfl (Nat.le_of_ble_eq_true rfl) (Nat.le_of_ble_eq_true rfl) rfl rfl (s_Mo_apart r5 r2 ?_)
    show ga_W G (d + 6) mt_Mo_sweep 81 [some (.inr 348), some (.inl v1), some (.inl v2), some (.inl v3), some (.inl v4), some (.inl v5), none, none, none] [.inl ((v5 - v2).natAbs : Int)] I E
    refine gw_iload_n 3 d_Mo_sweep_81 rfl rfl ?_
    obtain ⟨g1, h⟩ := h
    refine gw_icmp_ge 94 d_Mo_sweep_82 (by decide) g1 r3 (fun hc => ?_) (fun hc => ?_)
    · have h := h.1 hc
      refine gw_iload_n 3 d_Mo_sweep_94 rfl rfl ?_
      refine gw_istore 6 d_Mo_sweep_95 (Nat.le_of_ble_eq_true rfl) rfl ?_
      refine gw_iload 5 d_Mo_sweep_97 rfl ?_
      refine gw_iload 5 d_Mo_sweep_99 rfl ?_
      refine gw_iload_n 2 d_Mo_sweep_101 rfl rfl ?_
      refine gw_icmp_ge 110 d_Mo_sweep_102 (by decide) r5 r2 (fun hc => ?_) (fun hc => ?_)
      · have h := h.1 hc
        refine gw_iload 6 d_Mo_sweep_110 rfl ?_
        refine gw_ineg d_Mo_sweep_112 ?_
        refine gw_iadd d_Mo_sweep_113 ?_
        refine gw_istore 5 d_Mo_sweep_114 (Nat.le_of_ble_eq_true rfl) rfl ?_
        refine gw_aload_n 0 d_Mo_sweep_116 rfl rfl ?_
        refine gw_getR d_Mo_sweep_117 fl_Mo_7 (ga_oM) rfl ?_
        refine gw_sipush d_Mo_sweep_120 (by decide +kernel) ?_
        refine gw_iload_n 1 d_Mo_sweep_123 rfl rfl ?_
        refine gw_iadd d_Mo_sweep_124 ?_
        obtain ⟨g2, h⟩ := h
        obtain ⟨g3, h⟩ := h
        refine gw_iald d_Mo_sweep_125 (ga_aM1) g2 g3 ?_
        refine gw_istore 7 d_Mo_sweep_126 (Nat.le_of_ble_eq_true rfl) rfl ?_
        refine gw_iload_n 1 d_Mo_sweep_128 rfl rfl ?_
        refine gw_if_ne 149 d_Mo_sweep_129 (by decide) r1 (fun hc => ?_) (fun hc => ?_)
        · have h := h.1 hc
          refine gw_aload_n 0 d_Mo_sweep_149 rfl rfl ?_
          refine gw_aload_n 0 d_Mo_sweep_150 rfl rfl ?_
          refine gw_getR d_Mo_sweep_151 fl_Mo_7 (ga_oM) rfl ?_
          refine gw_sipush d_Mo_sweep_154 (by decide +kernel) ?_
          refine gw_iald d_Mo_sweep_157 (ga_aM1) (by decide) (by decide) ?_
          refine gw_iload 5 d_Mo_sweep_158 rfl ?_
          obtain ⟨g4, h⟩ := h
          obtain ⟨g5, h⟩ := h
          obtain ⟨g6, h⟩ := h
          obtain ⟨g7, h⟩ := h
          obtain ⟨g8, h⟩ := h
          obtain ⟨g9, h⟩ := h
          obtain ⟨g10, h⟩ := h
          obtain ⟨g11, h⟩ := h
          refine gw_invV (as := [.inl (I 349 234), .inl (v5 + (-v3))]) (k := 348) (rest := []) (d' := (d + 5)) d_Mo_sweep_160 lk_Mo_182 (ga_rcv (ga_oM) rfl rfl) rfl (Nat.le_of_ble_eq_true rfl) (Nat.le_of_ble_eq_true rfl) rfl rfl (s_Mo_moves g4 g5 g6 g7 g8 g9 g10 g11 (fun I1 q1 => ?_))
          have h := h I1 q1
          show ga_W G (d + 6) mt_Mo_sweep 163 [some (.inr 348), some (.inl v1), some (.inl v2), some (.inl v3), some (.inl v4), some (.inl (v5 + (-v3))), some (.inl v3), some (.inl (I 349 (236 + v1).toNat)), none] [.inl (na_mm (I 349) (I 349 234) (v5 + (-v3)))] I1 E
          refine gw_RG (fun hI2 => ?_)
          refine gw_istore 8 d_Mo_sweep_163 (Nat.le_of_ble_eq_true rfl) rfl ?_
          refine gw_iload 4 d_Mo_sweep_165 rfl ?_
          refine gw_iload 8 d_Mo_sweep_167 rfl ?_
          refine gw_ldc (n := (-2000000009)) d_Mo_sweep_169 kw_Mo_67 (by decide +kernel) ?_
          obtain ⟨g12, h⟩ := h
          refine gw_icmp_eq 193 d_Mo_sweep_171 (by decide) g12 ⟨by decide, by decide⟩ (fun hc => ?_) (fun hc => ?_)
          · have h := h.1 hc
            refine gw_iconst d_Mo_sweep_193 ?_
            refine gw_iadd d_Mo_sweep_194 ?_
            refine gw_istore 4 d_Mo_sweep_195 (Nat.le_of_ble_eq_true rfl) rfl ?_
            refine gw_goto 69 d_Mo_sweep_197 (by decide) ?_
            exact gw_le h (by exact ⟨rfl, ⟨rfl, ⟨rfl, ⟨rfl, ⟨rfl, ⟨rfl, trivial⟩⟩⟩⟩⟩⟩)
          · have h := h.2 hc
            refine gw_aload_n 0 d_Mo_sweep_174 rfl rfl ?_
            refine gw_getR d_Mo_sweep_175 fl_Mo_7 (ga_oM) rfl ?_
            refine gw_sipush d_Mo_sweep_178 (by decide +kernel) ?_
            refine gw_iload_n 1 d_Mo_sweep_181 rfl rfl ?_
            refine gw_iadd d_Mo_sweep_182 ?_
            refine gw_iald d_Mo_sweep_183 (ga_aM1) g2 g3 ?_
            refine gw_iload 7 d_Mo_sweep_184 rfl ?_
            refine gw_icmp_eq 193 d_Mo_sweep_186 (by decide) (hI2 _ _) (hI1 _ _) (fun hc => ?_) (fun hc => ?_)
            · have h := h.1 hc
              refine gw_iconst d_Mo_sweep_193 ?_
              refine gw_iadd d_Mo_sweep_194 ?_
              refine gw_istore 4 d_Mo_sweep_195 (Nat.le_of_ble_eq_true rfl) rfl ?_
              refine gw_goto 69 d_Mo_sweep_197 (by decide) ?_
              exact gw_le h (by exact ⟨rfl, ⟨rfl, ⟨rfl, ⟨rfl, ⟨rfl, ⟨rfl, trivial⟩⟩⟩⟩⟩⟩)
            · have h := h.2 hc
              refine gw_iconst d_Mo_sweep_189 ?_
              refine gw_goto 194 d_Mo_sweep_190 (by decide) ?_
              refine gw_iadd d_Mo_sweep_194 ?_
              refine gw_istore 4 d_Mo_sweep_195 (Nat.le_of_ble_eq_true rfl) rfl ?_
              refine gw_goto 69 d_Mo_sweep_197 (by decide) ?_
              exact gw_le h (by exact ⟨rfl, ⟨rfl, ⟨rfl, ⟨rfl, ⟨rfl, ⟨rfl, trivial⟩⟩⟩⟩⟩⟩)
        · have h := h.2 hc
          refine gw_aload_n 0 d_Mo_sweep_132 rfl rfl ?_
          refine gw_iload 5 d_Mo_sweep_133 rfl ?_
          refine gw_aload_n 0 d_Mo_sweep_135 rfl rfl ?_
          refine gw_getR d_Mo_sweep_136 fl_Mo_7 (ga_oM) rfl ?_
          refine gw_sipush d_Mo_sweep_139 (by decide +kernel) ?_
          refine gw_iald d_Mo_sweep_142 (ga_aM1) (by decide) (by decide) ?_
          obtain ⟨g13, h⟩ := h
          obtain ⟨g14, h⟩ := h
          obtain ⟨g15, h⟩ := h
          obtain ⟨g16, h⟩ := h
          obtain ⟨g17, h⟩ := h
          obtain ⟨g18, h⟩ := h
          obtain ⟨g19, h⟩ := h
          obtain ⟨g20, h⟩ := h
          refine gw_invV (as := [.inl (v5 + (-v3)), .inl (I 349 235)]) (k := 348) (rest := []) (d' := (d + 5)) d_Mo_sweep_143 lk_Mo_182 (ga_rcv (ga_oM) rfl rfl) rfl (Nat.le_of_ble_eq_true rfl) (Nat.le_of_ble_eq_true rfl) rfl rfl (s_Mo_moves g13 g14 g15 g16 g17 g18 g19 g20 (fun I2 q2 => ?_))
          have h := h I2 q2
          show ga_W G (d + 6) mt_Mo_sweep 146 [some (.inr 348), some (.inl v1), some (.inl v2), some (.inl v3), some (.inl v4), some (.inl (v5 + (-v3))), some (.inl v3), some (.inl (I 349 (236 + v1).toNat)), none] [.inl (na_mm (I 349) (v5 + (-v3)) (I 349 235))] I2 E
          refine gw_RG (fun hI3 => ?_)
          refine gw_goto 163 d_Mo_sweep_146 (by decide) ?_
          refine gw_istore 8 d_Mo_sweep_163 (Nat.le_of_ble_eq_true rfl) rfl ?_
          refine gw_iload 4 d_Mo_sweep_165 rfl ?_
          refine gw_iload 8 d_Mo_sweep_167 rfl ?_
          refine gw_ldc (n := (-2000000009)) d_Mo_sweep_169 kw_Mo_67 (by decide +kernel) ?_
          obtain ⟨g21, h⟩ := h
          refine gw_icmp_eq 193 d_Mo_sweep_171 (by decide) g21 ⟨by decide, by decide⟩ (fun hc => ?_) (fun hc => ?_)
          · have h := h.1 hc
            refine gw_iconst d_Mo_sweep_193 ?_
            refine gw_iadd d_Mo_sweep_194 ?_
            refine gw_istore 4 d_Mo_sweep_195 (Nat.le_of_ble_eq_true rfl) rfl ?_
            refine gw_goto 69 d_Mo_sweep_197 (by decide) ?_
            exact gw_le h (by exact ⟨rfl, ⟨rfl, ⟨rfl, ⟨rfl, ⟨rfl, ⟨rfl, trivial⟩⟩⟩⟩⟩⟩)
          · have h := h.2 hc
            refine gw_aload_n 0 d_Mo_sweep_174 rfl rfl ?_
            refine gw_getR d_Mo_sweep_175 fl_Mo_7 (ga_oM) rfl ?_
            refine gw_sipush d_Mo_sweep_178 (by decide +kernel) ?_
            refine gw_iload_n 1 d_Mo_sweep_181 rfl rfl ?_
            refine gw_iadd d_Mo_sweep_182 ?_
            refine gw_iald d_Mo_sweep_183 (ga_aM1) g2 g3 ?_
            refine gw_iload 7 d_Mo_sweep_184 rfl ?_
            refine gw_icmp_eq 193 d_Mo_sweep_186 (by decide) (hI3 _ _) (hI1 _ _) (fun hc => ?_) (fun hc => ?_)
            · have h := h.1 hc
              refine gw_iconst d_Mo_sweep_193 ?_
              refine gw_iadd d_Mo_sweep_194 ?_
              refine gw_istore 4 d_Mo_sweep_195 (Nat.le_of_ble_eq_true rfl) rfl ?_
              refine gw_goto 69 d_Mo_sweep_197 (by decide) ?_
              exact gw_le h (by exact ⟨rfl, ⟨rfl, ⟨rfl, ⟨rfl, ⟨rfl, ⟨rfl, trivial⟩⟩⟩⟩⟩⟩)
            · have h := h.2 hc
              refine gw_iconst d_Mo_sweep_189 ?_
              refine gw_goto 194 d_Mo_sweep_190 (by decide) ?_
              refine gw_iadd d_Mo_sweep_194 ?_
              refine gw_istore 4 d_Mo_sweep_195 (Nat.le_of_ble_eq_true rfl) rfl ?_
              refine gw_goto 69 d_Mo_sweep_197 (by decide) ?_
              exact gw_le h (by exact ⟨rfl, ⟨rfl, ⟨rfl, ⟨rfl, ⟨rfl, ⟨rfl, trivial⟩⟩⟩⟩⟩⟩)
      · have h := h.2 hc
        refine gw_iload 6 d_Mo_sweep_105 rfl ?_
        refine gw_goto 113 d_Mo_sweep_107 (by decide) ?_
        refine gw_iadd d_Mo_sweep_113 ?_
        refine gw_istore 5 d_Mo_sweep_114 (Nat.le_of_ble_eq_true rfl) rfl ?_
        refine gw_aload_n 0 d_Mo_sweep_116 rfl rfl ?_
        refine gw_getR d_Mo_sweep_117 fl_Mo_7 (ga_oM) rfl ?_
        refine gw_sipush d_Mo_sweep_120 (by decide +kernel) ?_
        refine gw_iload_n 1 d_Mo_sweep_123 rfl rfl ?_
        refine gw_iadd d_Mo_sweep_124 ?_
        obtain ⟨g22, h⟩ := h
        obtain ⟨g23, h⟩ := h
        refine gw_iald d_Mo_sweep_125 (ga_aM1) g22 g23 ?_
        refine gw_istore 7 d_Mo_sweep_126 (Nat.le_of_ble_eq_true rfl) rfl ?_
        refine gw_iload_n 1 d_Mo_sweep_128 rfl rfl ?_
        refine gw_if_ne 149 d_Mo_sweep_129 (by decide) r1 (fun hc => ?_) (fun hc => ?_)
        · have h := h.1 hc
          refine gw_aload_n 0 d_Mo_sweep_149 rfl rfl ?_
          refine gw_aload_n 0 d_Mo_sweep_150 rfl rfl ?_
          refine gw_getR d_Mo_sweep_151 fl_Mo_7 (ga_oM) rfl ?_
          refine gw_sipush d_Mo_sweep_154 (by decide +kernel) ?_
          refine gw_iald d_Mo_sweep_157 (ga_aM1) (by decide) (by decide) ?_
          refine gw_iload 5 d_Mo_sweep_158 rfl ?_
          obtain ⟨g24, h⟩ := h
          obtain ⟨g25, h⟩ := h
          obtain ⟨g26, h⟩ := h
          obtain ⟨g27, h⟩ := h
          obtain ⟨g28, h⟩ := h
          obtain ⟨g29, h⟩ := h
          obtain ⟨g30, h⟩ := h
          obtain ⟨g31, h⟩ := h
          refine gw_invV (as := [.inl (I 349 234), .inl (v5 + v3)]) (k := 348) (rest := []) (d' := (d + 5)) d_Mo_sweep_160 lk_Mo_182 (ga_rcv (ga_oM) rfl rfl) rfl (Nat.le_of_ble_eq_true rfl) (Nat.le_of_ble_eq_true rfl) rfl rfl (s_Mo_moves g24 g25 g26 g27 g28 g29 g30 g31 (fun I3 q3 => ?_))
          have h := h I3 q3
          show ga_W G (d + 6) mt_Mo_sweep 163 [some (.inr 348), some (.inl v1), some (.inl v2), some (.inl v3), some (.inl v4), some (.inl (v5 + v3)), some (.inl v3), some (.inl (I 349 (236 + v1).toNat)), none] [.inl (na_mm (I 349) (I 349 234) (v5 + v3))] I3 E
          refine gw_RG (fun hI4 => ?_)
          refine gw_istore 8 d_Mo_sweep_163 (Nat.le_of_ble_eq_true rfl) rfl ?_
          refine gw_iload 4 d_Mo_sweep_165 rfl ?_
          refine gw_iload 8 d_Mo_sweep_167 rfl ?_
          refine gw_ldc (n := (-2000000009)) d_Mo_sweep_169 kw_Mo_67 (by decide +kernel) ?_
          obtain ⟨g32, h⟩ := h
          refine gw_icmp_eq 193 d_Mo_sweep_171 (by decide) g32 ⟨by decide, by decide⟩ (fun hc => ?_) (fun hc => ?_)
          · have h := h.1 hc
            refine gw_iconst d_Mo_sweep_193 ?_
            refine gw_iadd d_Mo_sweep_194 ?_
            refine gw_istore 4 d_Mo_sweep_195 (Nat.le_of_ble_eq_true rfl) rfl ?_
            refine gw_goto 69 d_Mo_sweep_197 (by decide) ?_
            exact gw_le h (by exact ⟨rfl, ⟨rfl, ⟨rfl, ⟨rfl, ⟨rfl, ⟨rfl, trivial⟩⟩⟩⟩⟩⟩)
          · have h := h.2 hc
            refine gw_aload_n 0 d_Mo_sweep_174 rfl rfl ?_
            refine gw_getR d_Mo_sweep_175 fl_Mo_7 (ga_oM) rfl ?_
            refine gw_sipush d_Mo_sweep_178 (by decide +kernel) ?_
            refine gw_iload_n 1 d_Mo_sweep_181 rfl rfl ?_
            refine gw_iadd d_Mo_sweep_182 ?_
            refine gw_iald d_Mo_sweep_183 (ga_aM1) g22 g23 ?_
            refine gw_iload 7 d_Mo_sweep_184 rfl ?_
            refine gw_icmp_eq 193 d_Mo_sweep_186 (by decide) (hI4 _ _) (hI1 _ _) (fun hc => ?_) (fun hc => ?_)
            · have h := h.1 hc
              refine gw_iconst d_Mo_sweep_193 ?_
              refine gw_iadd d_Mo_sweep_194 ?_
              refine gw_istore 4 d_Mo_sweep_195 (Nat.le_of_ble_eq_true rfl) rfl ?_
              refine gw_goto 69 d_Mo_sweep_197 (by decide) ?_
              exact gw_le h (by exact ⟨rfl, ⟨rfl, ⟨rfl, ⟨rfl, ⟨rfl, ⟨rfl, trivial⟩⟩⟩⟩⟩⟩)
            · have h := h.2 hc
              refine gw_iconst d_Mo_sweep_189 ?_
              refine gw_goto 194 d_Mo_sweep_190 (by decide) ?_
              refine gw_iadd d_Mo_sweep_194 ?_
              refine gw_istore 4 d_Mo_sweep_195 (Nat.le_of_ble_eq_true rfl) rfl ?_
              refine gw_goto 69 d_Mo_sweep_197 (by decide) ?_
              exact gw_le h (by exact ⟨rfl, ⟨rfl, ⟨rfl, ⟨rfl, ⟨rfl, ⟨rfl, trivial⟩⟩⟩⟩⟩⟩)
        · have h := h.2 hc
          refine gw_aload_n 0 d_Mo_sweep_132 rfl rfl ?_
          refine gw_iload 5 d_Mo_sweep_133 rfl ?_
          refine gw_aload_n 0 d_Mo_sweep_135 rfl rfl ?_
          refine gw_getR d_Mo_sweep_136 fl_Mo_7 (ga_oM) rfl ?_
          refine gw_sipush d_Mo_sweep_139 (by decide +kernel) ?_
          refine gw_iald d_Mo_sweep_142 (ga_aM1) (by decide) (by decide) ?_
          obtain ⟨g33, h⟩ := h
          obtain ⟨g34, h⟩ := h
          obtain ⟨g35, h⟩ := h
          obtain ⟨g36, h⟩ := h
          obtain ⟨g37, h⟩ := h
          obtain ⟨g38, h⟩ := h
          obtain ⟨g39, h⟩ := h
          obtain ⟨g40, h⟩ := h
          refine gw_invV (as := [.inl (v5 + v3), .inl (I 349 235)]) (k := 348) (rest := []) (d' := (d + 5)) d_Mo_sweep_143 lk_Mo_182 (ga_rcv (ga_oM) rfl rfl) rfl (Nat.le_of_ble_eq_true rfl) (Nat.le_of_ble_eq_true rfl) rfl rfl (s_Mo_moves g33 g34 g35 g36 g37 g38 g39 g40 (fun I4 q4 => ?_))
          have h := h I4 q4
          show ga_W G (d + 6) mt_Mo_sweep 146 [some (.inr 348), some (.inl v1), some (.inl v2), some (.inl v3), some (.inl v4), some (.inl (v5 + v3)), some (.inl v3), some (.inl (I 349 (236 + v1).toNat)), none] [.inl (na_mm (I 349) (v5 + v3) (I 349 235))] I4 E
          refine gw_RG (fun hI5 => ?_)
          refine gw_goto 163 d_Mo_sweep_146 (by decide) ?_
          refine gw_istore 8 d_Mo_sweep_163 (Nat.le_of_ble_eq_true rfl) rfl ?_
          refine gw_iload 4 d_Mo_sweep_165 rfl ?_
          refine gw_iload 8 d_Mo_sweep_167 rfl ?_
          refine gw_ldc (n := (-2000000009)) d_Mo_sweep_169 kw_Mo_67 (by decide +kernel) ?_
          obtain ⟨g41, h⟩ := h
          refine gw_icmp_eq 193 d_Mo_sweep_171 (by decide) g41 ⟨by decide, by decide⟩ (fun hc => ?_) (fun hc => ?_)
          · have h := h.1 hc
            refine gw_iconst d_Mo_sweep_193 ?_
            refine gw_iadd d_Mo_sweep_194 ?_
            refine gw_istore 4 d_Mo_sweep_195 (Nat.le_of_ble_eq_true rfl) rfl ?_
            refine gw_goto 69 d_Mo_sweep_197 (by decide) ?_
            exact gw_le h (by exact ⟨rfl, ⟨rfl, ⟨rfl, ⟨rfl, ⟨rfl, ⟨rfl, trivial⟩⟩⟩⟩⟩⟩)
          · have h := h.2 hc
            refine gw_aload_n 0 d_Mo_sweep_174 rfl rfl ?_
            refine gw_getR d_Mo_sweep_175 fl_Mo_7 (ga_oM) rfl ?_
            refine gw_sipush d_Mo_sweep_178 (by decide +kernel) ?_
            refine gw_iload_n 1 d_Mo_sweep_181 rfl rfl ?_
            refine gw_iadd d_Mo_sweep_182 ?_
            refine gw_iald d_Mo_sweep_183 (ga_aM1) g22 g23 ?_
            refine gw_iload 7 d_Mo_sweep_184 rfl ?_
            refine gw_icmp_eq 193 d_Mo_sweep_186 (by decide) (hI5 _ _) (hI1 _ _) (fun hc => ?_) (fun hc => ?_)
            · have h := h.1 hc
              refine gw_iconst d_Mo_sweep_193 ?_
              refine gw_iadd d_Mo_sweep_194 ?_
              refine gw_istore 4 d_Mo_sweep_195 (Nat.le_of_ble_eq_true rfl) rfl ?_
              refine gw_goto 69 d_Mo_sweep_197 (by decide) ?_
              exact gw_le h (by exact ⟨rfl, ⟨rfl, ⟨rfl, ⟨rfl, ⟨rfl, ⟨rfl, trivial⟩⟩⟩⟩⟩⟩)
            · have h := h.2 hc
              refine gw_iconst d_Mo_sweep_189 ?_
              refine gw_goto 194 d_Mo_sweep_190 (by decide) ?_
              refine gw_iadd d_Mo_sweep_194 ?_
              refine gw_istore 4 d_Mo_sweep_195 (Nat.le_of_ble_eq_true rfl) rfl ?_
              refine gw_goto 69 d_Mo_sweep_197 (by decide) ?_
              exact gw_le h (by exact ⟨rfl, ⟨rfl, ⟨rfl, ⟨rfl, ⟨rfl, ⟨rfl, trivial⟩⟩⟩⟩⟩⟩)
    · have h := h.2 hc
      refine gw_iload 5 d_Mo_sweep_85 rfl ?_
      refine gw_iload_n 2 d_Mo_sweep_87 rfl rfl ?_
      refine gw_invS (as := [.inl v5, .inl v2]) (rest := []) (d' := (d + 5)) d_Mo_sweep_88 lk_Mo_85 rfl (Nat.le_of_ble_eq_true rfl) (Nat.le_of_ble_eq_true rfl) rfl rfl (s_Mo_apart r5 r2 ?_)
      show ga_W G (d + 6) mt_Mo_sweep 91 [some (.inr 348), some (.inl v1), some (.inl v2), some (.inl v3), some (.inl v4), some (.inl v5), none, none, none] [.inl ((v5 - v2).natAbs : Int)] I E
      refine gw_goto 95 d_Mo_sweep_91 (by decide) ?_
      refine gw_istore 6 d_Mo_sweep_95 (Nat.le_of_ble_eq_true rfl) rfl ?_
      refine gw_iload 5 d_Mo_sweep_97 rfl ?_
      refine gw_iload 5 d_Mo_sweep_99 rfl ?_
      refine gw_iload_n 2 d_Mo_sweep_101 rfl rfl ?_
      refine gw_icmp_ge 110 d_Mo_sweep_102 (by decide) r5 r2 (fun hc => ?_) (fun hc => ?_)
      · have h := h.1 hc
        refine gw_iload 6 d_Mo_sweep_110 rfl ?_
        refine gw_ineg d_Mo_sweep_112 ?_
        refine gw_iadd d_Mo_sweep_113 ?_
        refine gw_istore 5 d_Mo_sweep_114 (Nat.le_of_ble_eq_true rfl) rfl ?_
        refine gw_aload_n 0 d_Mo_sweep_116 rfl rfl ?_
        refine gw_getR d_Mo_sweep_117 fl_Mo_7 (ga_oM) rfl ?_
        refine gw_sipush d_Mo_sweep_120 (by decide +kernel) ?_
        refine gw_iload_n 1 d_Mo_sweep_123 rfl rfl ?_
        refine gw_iadd d_Mo_sweep_124 ?_
        obtain ⟨g42, h⟩ := h
        obtain ⟨g43, h⟩ := h
        refine gw_iald d_Mo_sweep_125 (ga_aM1) g42 g43 ?_
        refine gw_istore 7 d_Mo_sweep_126 (Nat.le_of_ble_eq_true rfl) rfl ?_
        refine gw_iload_n 1 d_Mo_sweep_128 rfl rfl ?_
        refine gw_if_ne 149 d_Mo_sweep_129 (by decide) r1 (fun hc => ?_) (fun hc => ?_)
        · have h := h.1 hc
          refine gw_aload_n 0 d_Mo_sweep_149 rfl rfl ?_
          refine gw_aload_n 0 d_Mo_sweep_150 rfl rfl ?_
          refine gw_getR d_Mo_sweep_151 fl_Mo_7 (ga_oM) rfl ?_
          refine gw_sipush d_Mo_sweep_154 (by decide +kernel) ?_
          refine gw_iald d_Mo_sweep_157 (ga_aM1) (by decide) (by decide) ?_
          refine gw_iload 5 d_Mo_sweep_158 rfl ?_
          obtain ⟨g44, h⟩ := h
          obtain ⟨g45, h⟩ := h
          obtain ⟨g46, h⟩ := h
          obtain ⟨g47, h⟩ := h
          obtain ⟨g48, h⟩ := h
          obtain ⟨g49, h⟩ := h
          obtain ⟨g50, h⟩ := h
          obtain ⟨g51, h⟩ := h
          refine gw_invV (as := [.inl (I 349 234), .inl (v5 + (-((v5 - v2).natAbs : Int)))]) (k := 348) (rest := []) (d' := (d + 5)) d_Mo_sweep_160 lk_Mo_182 (ga_rcv (ga_oM) rfl rfl) rfl (Nat.le_of_ble_eq_true rfl) (Nat.le_of_ble_eq_true rfl) rfl rfl (s_Mo_moves g44 g45 g46 g47 g48 g49 g50 g51 (fun I5 q5 => ?_))
          have h := h I5 q5
          show ga_W G (d + 6) mt_Mo_sweep 163 [some (.inr 348), some (.inl v1), some (.inl v2), some (.inl v3), some (.inl v4), some (.inl (v5 + (-((v5 - v2).natAbs : Int)))), some (.inl ((v5 - v2).natAbs : Int)), some (.inl (I 349 (236 + v1).toNat)), none] [.inl (na_mm (I 349) (I 349 234) (v5 + (-((v5 - v2).natAbs : Int))))] I5 E
          refine gw_RG (fun hI6 => ?_)
          refine gw_istore 8 d_Mo_sweep_163 (Nat.le_of_ble_eq_true rfl) rfl ?_
          refine gw_iload 4 d_Mo_sweep_165 rfl ?_
          refine gw_iload 8 d_Mo_sweep_167 rfl ?_
          refine gw_ldc (n := (-2000000009)) d_Mo_sweep_169 kw_Mo_67 (by decide +kernel) ?_
          obtain ⟨g52, h⟩ := h
          refine gw_icmp_eq 193 d_Mo_sweep_171 (by decide) g52 ⟨by decide, by decide⟩ (fun hc => ?_) (fun hc => ?_)
          · have h := h.1 hc
            refine gw_iconst d_Mo_sweep_193 ?_
            refine gw_iadd d_Mo_sweep_194 ?_
            refine gw_istore 4 d_Mo_sweep_195 (Nat.le_of_ble_eq_true rfl) rfl ?_
            refine gw_goto 69 d_Mo_sweep_197 (by decide) ?_
            exact gw_le h (by exact ⟨rfl, ⟨rfl, ⟨rfl, ⟨rfl, ⟨rfl, ⟨rfl, trivial⟩⟩⟩⟩⟩⟩)
          · have h := h.2 hc
            refine gw_aload_n 0 d_Mo_sweep_174 rfl rfl ?_
            refine gw_getR d_Mo_sweep_175 fl_Mo_7 (ga_oM) rfl ?_
            refine gw_sipush d_Mo_sweep_178 (by decide +kernel) ?_
            refine gw_iload_n 1 d_Mo_sweep_181 rfl rfl ?_
            refine gw_iadd d_Mo_sweep_182 ?_
            refine gw_iald d_Mo_sweep_183 (ga_aM1) g42 g43 ?_
            refine gw_iload 7 d_Mo_sweep_184 rfl ?_
            refine gw_icmp_eq 193 d_Mo_sweep_186 (by decide) (hI6 _ _) (hI1 _ _) (fun hc => ?_) (fun hc => ?_)
            · have h := h.1 hc
              refine gw_iconst d_Mo_sweep_193 ?_
              refine gw_iadd d_Mo_sweep_194 ?_
              refine gw_istore 4 d_Mo_sweep_195 (Nat.le_of_ble_eq_true rfl) rfl ?_
              refine gw_goto 69 d_Mo_sweep_197 (by decide) ?_
              exact gw_le h (by exact ⟨rfl, ⟨rfl, ⟨rfl, ⟨rfl, ⟨rfl, ⟨rfl, trivial⟩⟩⟩⟩⟩⟩)
            · have h := h.2 hc
              refine gw_iconst d_Mo_sweep_189 ?_
              refine gw_goto 194 d_Mo_sweep_190 (by decide) ?_
              refine gw_iadd d_Mo_sweep_194 ?_
              refine gw_istore 4 d_Mo_sweep_195 (Nat.le_of_ble_eq_true rfl) rfl ?_
              refine gw_goto 69 d_Mo_sweep_197 (by decide) ?_
              exact gw_le h (by exact ⟨rfl, ⟨rfl, ⟨rfl, ⟨rfl, ⟨rfl, ⟨rfl, trivial⟩⟩⟩⟩⟩⟩)
        · have h := h.2 hc
          refine gw_aload_n 0 d_Mo_sweep_132 rfl rfl ?_
          refine gw_iload 5 d_Mo_sweep_133 rfl ?_
          refine gw_aload_n 0 d_Mo_sweep_135 rfl rfl ?_
          refine gw_getR d_Mo_sweep_136 fl_Mo_7 (ga_oM) rfl ?_
          refine gw_sipush d_Mo_sweep_139 (by decide +kernel) ?_
          refine gw_iald d_Mo_sweep_142 (ga_aM1) (by decide) (by decide) ?_
          obtain ⟨g53, h⟩ := h
          obtain ⟨g54, h⟩ := h
          obtain ⟨g55, h⟩ := h
          obtain ⟨g56, h⟩ := h
          obtain ⟨g57, h⟩ := h
          obtain ⟨g58, h⟩ := h
          obtain ⟨g59, h⟩ := h
          obtain ⟨g60, h⟩ := h
          refine gw_invV (as := [.inl (v5 + (-((v5 - v2).natAbs : Int))), .inl (I 349 235)]) (k := 348) (rest := []) (d' := (d + 5)) d_Mo_sweep_143 lk_Mo_182 (ga_rcv (ga_oM) rfl rfl) rfl (Nat.le_of_ble_eq_true rfl) (Nat.le_of_ble_eq_true rfl) rfl rfl (s_Mo_moves g53 g54 g55 g56 g57 g58 g59 g60 (fun I6 q6 => ?_))
          have h := h I6 q6
          show ga_W G (d + 6) mt_Mo_sweep 146 [some (.inr 348), some (.inl v1), some (.inl v2), some (.inl v3), some (.inl v4), some (.inl (v5 + (-((v5 - v2).natAbs : Int)))), some (.inl ((v5 - v2).natAbs : Int)), some (.inl (I 349 (236 + v1).toNat)), none] [.inl (na_mm (I 349) (v5 + (-((v5 - v2).natAbs : Int))) (I 349 235))] I6 E
          refine gw_RG (fun hI7 => ?_)
          refine gw_goto 163 d_Mo_sweep_146 (by decide) ?_
          refine gw_istore 8 d_Mo_sweep_163 (Nat.le_of_ble_eq_true rfl) rfl ?_
          refine gw_iload 4 d_Mo_sweep_165 rfl ?_
          refine gw_iload 8 d_Mo_sweep_167 rfl ?_
          refine gw_ldc (n := (-2000000009)) d_Mo_sweep_169 kw_Mo_67 (by decide +kernel) ?_
          obtain ⟨g61, h⟩ := h
          refine gw_icmp_eq 193 d_Mo_sweep_171 (by decide) g61 ⟨by decide, by decide⟩ (fun hc => ?_) (fun hc => ?_)
          · have h := h.1 hc
            refine gw_iconst d_Mo_sweep_193 ?_
            refine gw_iadd d_Mo_sweep_194 ?_
            refine gw_istore 4 d_Mo_sweep_195 (Nat.le_of_ble_eq_true rfl) rfl ?_
            refine gw_goto 69 d_Mo_sweep_197 (by decide) ?_
            exact gw_le h (by exact ⟨rfl, ⟨rfl, ⟨rfl, ⟨rfl, ⟨rfl, ⟨rfl, trivial⟩⟩⟩⟩⟩⟩)
          · have h := h.2 hc
            refine gw_aload_n 0 d_Mo_sweep_174 rfl rfl ?_
            refine gw_getR d_Mo_sweep_175 fl_Mo_7 (ga_oM) rfl ?_
            refine gw_sipush d_Mo_sweep_178 (by decide +kernel) ?_
            refine gw_iload_n 1 d_Mo_sweep_181 rfl rfl ?_
            refine gw_iadd d_Mo_sweep_182 ?_
            refine gw_iald d_Mo_sweep_183 (ga_aM1) g42 g43 ?_
            refine gw_iload 7 d_Mo_sweep_184 rfl ?_
            refine gw_icmp_eq 193 d_Mo_sweep_186 (by decide) (hI7 _ _) (hI1 _ _) (fun hc => ?_) (fun hc => ?_)
            · have h := h.1 hc
              refine gw_iconst d_Mo_sweep_193 ?_
              refine gw_iadd d_Mo_sweep_194 ?_
              refine gw_istore 4 d_Mo_sweep_195 (Nat.le_of_ble_eq_true rfl) rfl ?_
              refine gw_goto 69 d_Mo_sweep_197 (by decide) ?_
              exact gw_le h (by exact ⟨rfl, ⟨rfl, ⟨rfl, ⟨rfl, ⟨rfl, ⟨rfl, trivial⟩⟩⟩⟩⟩⟩)
            · have h := h.2 hc
              refine gw_iconst d_Mo_sweep_189 ?_
              refine gw_goto 194 d_Mo_sweep_190 (by decide) ?_
              refine gw_iadd d_Mo_sweep_194 ?_
              refine gw_istore 4 d_Mo_sweep_195 (Nat.le_of_ble_eq_true rfl) rfl ?_
              refine gw_goto 69 d_Mo_sweep_197 (by decide) ?_
              exact gw_le h (by exact ⟨rfl, ⟨rfl, ⟨rfl, ⟨rfl, ⟨rfl, ⟨rfl, trivial⟩⟩⟩⟩⟩⟩)
      · have h := h.2 hc
        refine gw_iload 6 d_Mo_sweep_105 rfl ?_
        refine gw_goto 113 d_Mo_sweep_107 (by decide) ?_
        refine gw_iadd d_Mo_sweep_113 ?_
        refine gw_istore 5 d_Mo_sweep_114 (Nat.le_of_ble_eq_true rfl) rfl ?_
        refine gw_aload_n 0 d_Mo_sweep_116 rfl rfl ?_
        refine gw_getR d_Mo_sweep_117 fl_Mo_7 (ga_oM) rfl ?_
        refine gw_sipush d_Mo_sweep_120 (by decide +kernel) ?_
        refine gw_iload_n 1 d_Mo_sweep_123 rfl rfl ?_
        refine gw_iadd d_Mo_sweep_124 ?_
        obtain ⟨g62, h⟩ := h
        obtain ⟨g63, h⟩ := h
        refine gw_iald d_Mo_sweep_125 (ga_aM1) g62 g63 ?_
        refine gw_istore 7 d_Mo_sweep_126 (Nat.le_of_ble_eq_true rfl) rfl ?_
        refine gw_iload_n 1 d_Mo_sweep_128 rfl rfl ?_
        refine gw_if_ne 149 d_Mo_sweep_129 (by decide) r1 (fun hc => ?_) (fun hc => ?_)
        · have h := h.1 hc
          refine gw_aload_n 0 d_Mo_sweep_149 rfl rfl ?_
          refine gw_aload_n 0 d_Mo_sweep_150 rfl rfl ?_
          refine gw_getR d_Mo_sweep_151 fl_Mo_7 (ga_oM) rfl ?_
          refine gw_sipush d_Mo_sweep_154 (by decide +kernel) ?_
          refine gw_iald d_Mo_sweep_157 (ga_aM1) (by decide) (by decide) ?_
          refine gw_iload 5 d_Mo_sweep_158 rfl ?_
          obtain ⟨g64, h⟩ := h
          obtain ⟨g65, h⟩ := h
          obtain ⟨g66, h⟩ := h
          obtain ⟨g67, h⟩ := h
          obtain ⟨g68, h⟩ := h
          obtain ⟨g69, h⟩ := h
          obtain ⟨g70, h⟩ := h
          obtain ⟨g71, h⟩ := h
          refine gw_invV (as := [.inl (I 349 234), .inl (v5 + ((v5 - v2).natAbs : Int))]) (k := 348) (rest := []) (d' := (d + 5)) d_Mo_sweep_160 lk_Mo_182 (ga_rcv (ga_oM) rfl rfl) rfl (Nat.le_of_ble_eq_true rfl) (Nat.le_of_ble_eq_true rfl) rfl rfl (s_Mo_moves g64 g65 g66 g67 g68 g69 g70 g71 (fun I7 q7 => ?_))
          have h := h I7 q7
          show ga_W G (d + 6) mt_Mo_sweep 163 [some (.inr 348), some (.inl v1), some (.inl v2), some (.inl v3), some (.inl v4), some (.inl (v5 + ((v5 - v2).natAbs : Int))), some (.inl ((v5 - v2).natAbs : Int)), some (.inl (I 349 (236 + v1).toNat)), none] [.inl (na_mm (I 349) (I 349 234) (v5 + ((v5 - v2).natAbs : Int)))] I7 E
          refine gw_RG (fun hI8 => ?_)
          refine gw_istore 8 d_Mo_sweep_163 (Nat.le_of_ble_eq_true rfl) rfl ?_
          refine gw_iload 4 d_Mo_sweep_165 rfl ?_
          refine gw_iload 8 d_Mo_sweep_167 rfl ?_
          refine gw_ldc (n := (-2000000009)) d_Mo_sweep_169 kw_Mo_67 (by decide +kernel) ?_
          obtain ⟨g72, h⟩ := h
          refine gw_icmp_eq 193 d_Mo_sweep_171 (by decide) g72 ⟨by decide, by decide⟩ (fun hc => ?_) (fun hc => ?_)
          · have h := h.1 hc
            refine gw_iconst d_Mo_sweep_193 ?_
            refine gw_iadd d_Mo_sweep_194 ?_
            refine gw_istore 4 d_Mo_sweep_195 (Nat.le_of_ble_eq_true rfl) rfl ?_
            refine gw_goto 69 d_Mo_sweep_197 (by decide) ?_
            exact gw_le h (by exact ⟨rfl, ⟨rfl, ⟨rfl, ⟨rfl, ⟨rfl, ⟨rfl, trivial⟩⟩⟩⟩⟩⟩)
          · have h := h.2 hc
            refine gw_aload_n 0 d_Mo_sweep_174 rfl rfl ?_
            refine gw_getR d_Mo_sweep_175 fl_Mo_7 (ga_oM) rfl ?_
            refine gw_sipush d_Mo_sweep_178 (by decide +kernel) ?_
            refine gw_iload_n 1 d_Mo_sweep_181 rfl rfl ?_
            refine gw_iadd d_Mo_sweep_182 ?_
            refine gw_iald d_Mo_sweep_183 (ga_aM1) g62 g63 ?_
            refine gw_iload 7 d_Mo_sweep_184 rfl ?_
            refine gw_icmp_eq 193 d_Mo_sweep_186 (by decide) (hI8 _ _) (hI1 _ _) (fun hc => ?_) (fun hc => ?_)
            · have h := h.1 hc
              refine gw_iconst d_Mo_sweep_193 ?_
              refine gw_iadd d_Mo_sweep_194 ?_
              refine gw_istore 4 d_Mo_sweep_195 (Nat.le_of_ble_eq_true rfl) rfl ?_
              refine gw_goto 69 d_Mo_sweep_197 (by decide) ?_
              exact gw_le h (by exact ⟨rfl, ⟨rfl, ⟨rfl, ⟨rfl, ⟨rfl, ⟨rfl, trivial⟩⟩⟩⟩⟩⟩)
            · have h := h.2 hc
              refine gw_iconst d_Mo_sweep_189 ?_
              refine gw_goto 194 d_Mo_sweep_190 (by decide) ?_
              refine gw_iadd d_Mo_sweep_194 ?_
              refine gw_istore 4 d_Mo_sweep_195 (Nat.le_of_ble_eq_true rfl) rfl ?_
              refine gw_goto 69 d_Mo_sweep_197 (by decide) ?_
              exact gw_le h (by exact ⟨rfl, ⟨rfl, ⟨rfl, ⟨rfl, ⟨rfl, ⟨rfl, trivial⟩⟩⟩⟩⟩⟩)
        · have h := h.2 hc
          refine gw_aload_n 0 d_Mo_sweep_132 rfl rfl ?_
          refine gw_iload 5 d_Mo_sweep_133 rfl ?_
          refine gw_aload_n 0 d_Mo_sweep_135 rfl rfl ?_
          refine gw_getR d_Mo_sweep_136 fl_Mo_7 (ga_oM) rfl ?_
          refine gw_sipush d_Mo_sweep_139 (by decide +kernel) ?_
          refine gw_iald d_Mo_sweep_142 (ga_aM1) (by decide) (by decide) ?_
          obtain ⟨g73, h⟩ := h
          obtain ⟨g74, h⟩ := h
          obtain ⟨g75, h⟩ := h
          obtain ⟨g76, h⟩ := h
          obtain ⟨g77, h⟩ := h
          obtain ⟨g78, h⟩ := h
          obtain ⟨g79, h⟩ := h
          obtain ⟨g80, h⟩ := h
          refine gw_invV (as := [.inl (v5 + ((v5 - v2).natAbs : Int)), .inl (I 349 235)]) (k := 348) (rest := []) (d' := (d + 5)) d_Mo_sweep_143 lk_Mo_182 (ga_rcv (ga_oM) rfl rfl) rfl (Nat.le_of_ble_eq_true rfl) (Nat.le_of_ble_eq_true rfl) rfl rfl (s_Mo_moves g73 g74 g75 g76 g77 g78 g79 g80 (fun I8 q8 => ?_))
          have h := h I8 q8
          show ga_W G (d + 6) mt_Mo_sweep 146 [some (.inr 348), some (.inl v1), some (.inl v2), some (.inl v3), some (.inl v4), some (.inl (v5 + ((v5 - v2).natAbs : Int))), some (.inl ((v5 - v2).natAbs : Int)), some (.inl (I 349 (236 + v1).toNat)), none] [.inl (na_mm (I 349) (v5 + ((v5 - v2).natAbs : Int)) (I 349 235))] I8 E
          refine gw_RG (fun hI9 => ?_)
          refine gw_goto 163 d_Mo_sweep_146 (by decide) ?_
          refine gw_istore 8 d_Mo_sweep_163 (Nat.le_of_ble_eq_true rfl) rfl ?_
          refine gw_iload 4 d_Mo_sweep_165 rfl ?_
          refine gw_iload 8 d_Mo_sweep_167 rfl ?_
          refine gw_ldc (n := (-2000000009)) d_Mo_sweep_169 kw_Mo_67 (by decide +kernel) ?_
          obtain ⟨g81, h⟩ := h
          refine gw_icmp_eq 193 d_Mo_sweep_171 (by decide) g81 ⟨by decide, by decide⟩ (fun hc => ?_) (fun hc => ?_)
          · have h := h.1 hc
            refine gw_iconst d_Mo_sweep_193 ?_
            refine gw_iadd d_Mo_sweep_194 ?_
            refine gw_istore 4 d_Mo_sweep_195 (Nat.le_of_ble_eq_true rfl) rfl ?_
            refine gw_goto 69 d_Mo_sweep_197 (by decide) ?_
            exact gw_le h (by exact ⟨rfl, ⟨rfl, ⟨rfl, ⟨rfl, ⟨rfl, ⟨rfl, trivial⟩⟩⟩⟩⟩⟩)
          · have h := h.2 hc
            refine gw_aload_n 0 d_Mo_sweep_174 rfl rfl ?_
            refine gw_getR d_Mo_sweep_175 fl_Mo_7 (ga_oM) rfl ?_
            refine gw_sipush d_Mo_sweep_178 (by decide +kernel) ?_
            refine gw_iload_n 1 d_Mo_sweep_181 rfl rfl ?_
            refine gw_iadd d_Mo_sweep_182 ?_
            refine gw_iald d_Mo_sweep_183 (ga_aM1) g62 g63 ?_
            refine gw_iload 7 d_Mo_sweep_184 rfl ?_
            refine gw_icmp_eq 193 d_Mo_sweep_186 (by decide) (hI9 _ _) (hI1 _ _) (fun hc => ?_) (fun hc => ?_)
            · have h := h.1 hc
              refine gw_iconst d_Mo_sweep_193 ?_
              refine gw_iadd d_Mo_sweep_194 ?_
              refine gw_istore 4 d_Mo_sweep_195 (Nat.le_of_ble_eq_true rfl) rfl ?_
              refine gw_goto 69 d_Mo_sweep_197 (by decide) ?_
              exact gw_le h (by exact ⟨rfl, ⟨rfl, ⟨rfl, ⟨rfl, ⟨rfl, ⟨rfl, trivial⟩⟩⟩⟩⟩⟩)
            · have h := h.2 hc
              refine gw_iconst d_Mo_sweep_189 ?_
              refine gw_goto 194 d_Mo_sweep_190 (by decide) ?_
              refine gw_iadd d_Mo_sweep_194 ?_
              refine gw_istore 4 d_Mo_sweep_195 (Nat.le_of_ble_eq_true rfl) rfl ?_
              refine gw_goto 69 d_Mo_sweep_197 (by decide) ?_
              exact gw_le h (by exact ⟨rfl, ⟨rfl, ⟨rfl, ⟨rfl, ⟨rfl, ⟨rfl, trivial⟩⟩⟩⟩⟩⟩)

