theorem k_Mo_scale_0 {G : ga_G} {d : Nat} {I : ga_I} {E : Option ga_V → ga_I → Prop} {v1 : Int} {v2 : Int} {v3 : Int} (r1 : ga_rg v1) (r2 : ga_rg v2) (r3 : ga_rg v3)
    (h : ga_RG I → (∀ I1 : ga_I, I1 = (ga_up I 348 0 0) → ((¬ (0 ≤ v1 ∧ v1 ≤ 2)) → E (some (.inl (-2000000001))) I1) ∧ ((0 ≤ v1 ∧ v1 ≤ 2) → ((¬ ((0 : Int) ≤ v2 ∧ v2 ≤ (2 : Int))) → E (some (.inl (-2000000001))) I1) ∧ (((0 : Int) ≤ v2 ∧ v2 ≤ (2 : Int)) → (((0 : Int) ≤ v3 ∧ v3 ≤ (1000 : Int)) → (0 ≤ I1 348 4 ∧ I1 348 4 ≤ 5) ∧ ((∀ I2 : ga_I, I2 = (mx_ac I1) → ga_W G (d + 2) mt_Mo_scale 45 [some (.inr 348), some (.inl v1), some (.inl v2), some (.inl v3), some (.inl 0), some (.inl 0), none, none] [] I2 E))) ∧ ((¬ ((0 : Int) ≤ v3 ∧ v3 ≤ (1000 : Int))) → E (some (.inl (-2000000001))) I1))))) :
    ga_W G (d + 2) mt_Mo_scale 0 (ga_en 8 [.inr 348, .inl v1, .inl v2, .inl v3]) [] I E := by
  show ga_W G (d + 2) mt_Mo_scale 0 [some (.inr 348), some (.inl v1), some (.inl v2), some (.inl v3), none, none, none, none] [] I E
  refine gw_RG (fun hI1 => ?_)
  have h := h hI1
  refine gw_aload_n 0 d_Mo_scale_0 rfl rfl ?_
  refine gw_iconst d_Mo_scale_1 ?_
  refine gw_putI d_Mo_scale_2 fp_Mo_37 (ga_oM) rfl ?_
  show ga_W G (d + 2) mt_Mo_scale 5 [some (.inr 348), some (.inl v1), some (.inl v2), some (.inl v3), none, none, none, none] [] (ga_up I 348 0 (ga_wr 0)) E
  rw [ga_wr_eq (z := 0) ⟨by decide, by decide⟩]
  refine gw_nm (J := (ga_up I 348 0 0)) (fun I1 q1 => ?_)
  have h := h I1 q1
  refine gw_RG (fun hI2 => ?_)
  refine gw_iload_n 1 d_Mo_scale_5 rfl rfl ?_
  refine gw_invS (as := [.inl v1]) (rest := []) (d' := (d + 1)) d_Mo_scale_6 lk_Mo_134 rfl (Nat.le_of_ble_eq_true rfl) (Nat.le_of_ble_eq_true rfl) rfl rfl (s_Mo_isOperator r1 ?_)
  show ga_W G (d + 2) mt_Mo_scale 9 [some (.inr 348), some (.inl v1), some (.inl v2), some (.inl v3), none, none, none, none] [.inl (ga_bb (decide (0 ≤ v1 ∧ v1 ≤ 2)))] I1 E
  refine gw_ifb_eq 32 d_Mo_scale_9 (by decide) (fun hc => ?_) (fun hc => ?_)
  · have h := h.1 (of_decide_eq_false hc)
    refine gw_ldc (n := (-2000000001)) d_Mo_scale_32 kw_Mo_112 (by decide +kernel) ?_
    exact gw_ireturn d_Mo_scale_34 rfl h
  · have h := h.2 (of_decide_eq_true hc)
    refine gw_iload_n 2 d_Mo_scale_12 rfl rfl ?_
    refine gw_iconst d_Mo_scale_13 ?_
    refine gw_iconst d_Mo_scale_14 ?_
    refine gw_invS (as := [.inl v2, .inl 0, .inl 2]) (rest := []) (d' := (d + 1)) d_Mo_scale_15 lk_Mo_47 rfl (Nat.le_of_ble_eq_true rfl) (Nat.le_of_ble_eq_true rfl) rfl rfl (s_Mo_in r2 ⟨by decide, by decide⟩ ⟨by decide, by decide⟩ ?_)
    show ga_W G (d + 2) mt_Mo_scale 18 [some (.inr 348), some (.inl v1), some (.inl v2), some (.inl v3), none, none, none, none] [.inl (ga_bb (decide ((0 : Int) ≤ v2 ∧ v2 ≤ (2 : Int))))] I1 E
    refine gw_ifb_eq 32 d_Mo_scale_18 (by decide) (fun hc => ?_) (fun hc => ?_)
    · have h := h.1 (of_decide_eq_false hc)
      refine gw_ldc (n := (-2000000001)) d_Mo_scale_32 kw_Mo_112 (by decide +kernel) ?_
      exact gw_ireturn d_Mo_scale_34 rfl h
    · have h := h.2 (of_decide_eq_true hc)
      refine gw_iload_n 3 d_Mo_scale_21 rfl rfl ?_
      refine gw_iconst d_Mo_scale_22 ?_
      refine gw_sipush d_Mo_scale_23 (by decide +kernel) ?_
      refine gw_invS (as := [.inl v3, .inl 0, .inl 1000]) (rest := []) (d' := (d + 1)) d_Mo_scale_26 lk_Mo_47 rfl (Nat.le_of_ble_eq_true rfl) (Nat.le_of_ble_eq_true rfl) rfl rfl (s_Mo_in r3 ⟨by decide, by decide⟩ ⟨by decide, by decide⟩ ?_)
      show ga_W G (d + 2) mt_Mo_scale 29 [some (.inr 348), some (.inl v1), some (.inl v2), some (.inl v3), none, none, none, none] [.inl (ga_bb (decide ((0 : Int) ≤ v3 ∧ v3 ≤ (1000 : Int))))] I1 E
      refine gw_ifb_ne 35 d_Mo_scale_29 (by decide) (fun hc => ?_) (fun hc => ?_)
      · have h := h.1 (of_decide_eq_true hc)
        refine gw_aload_n 0 d_Mo_scale_35 rfl rfl ?_
        obtain ⟨g1, h⟩ := h
        refine gw_invV (as := []) (k := 348) (rest := []) (d' := (d + 1)) d_Mo_scale_36 lk_Mo_119 (ga_rcv (ga_oM) rfl rfl) rfl (Nat.le_of_ble_eq_true rfl) (Nat.le_of_ble_eq_true rfl) rfl rfl (s_Mo_act g1 ?_)
        show ga_W G (d + 2) mt_Mo_scale 39 [some (.inr 348), some (.inl v1), some (.inl v2), some (.inl v3), none, none, none, none] [] (mx_ac I1) E
        refine gw_nm (fun I2 q2 => ?_)
        have h := h I2 q2
        refine gw_RG (fun hI3 => ?_)
        refine gw_iconst d_Mo_scale_39 ?_
        refine gw_istore 4 d_Mo_scale_40 (Nat.le_of_ble_eq_true rfl) rfl ?_
        refine gw_iconst d_Mo_scale_42 ?_
        refine gw_istore 5 d_Mo_scale_43 (Nat.le_of_ble_eq_true rfl) rfl ?_
        exact gw_le h (by exact ⟨rfl, ⟨rfl, ⟨rfl, ⟨rfl, ⟨rfl, ⟨rfl, trivial⟩⟩⟩⟩⟩⟩)
      · have h := h.2 (of_decide_eq_false hc)
        refine gw_ldc (n := (-2000000001)) d_Mo_scale_32 kw_Mo_112 (by decide +kernel) ?_
        exact gw_ireturn d_Mo_scale_34 rfl h
theorem k_Mo_scale_45 {G : ga_G} {d : Nat} {I : ga_I} {E : Option ga_V → ga_I → Prop} {v1 : Int} {v2 : Int} {v3 : Int} {v4 : Int} {v5 : Int} (r5 : ga_rg v5)
    (h : ga_RG I → (0 ≤ (0 : Int) ∧ (0 : Int) ≤ 1) ∧ ((((ms_n (I 349) (0 : Int)) < v5) → E (some (.inl v4)) I) ∧ ((¬ ((ms_n (I 349) (0 : Int)) < v5)) → ga_W G (d + 2) mt_Mo_scale 58 [some (.inr 348), some (.inl v1), some (.inl v2), some (.inl v3), some (.inl v4), some (.inl v5), some (.inl 0), none] [] I E))) :
    ga_W G (d + 2) mt_Mo_scale 45 [some (.inr 348), some (.inl v1), some (.inl v2), some (.inl v3), some (.inl v4), some (.inl v5), none, none] [] I E := by
  refine gw_RG (fun hI1 => ?_)
  have h := h hI1
  refine gw_iload 5 d_Mo_scale_45 rfl ?_
  refine gw_aload_n 0 d_Mo_scale_47 rfl rfl ?_
  refine gw_iconst d_Mo_scale_48 ?_
  obtain ⟨g1, h⟩ := h
  refine gw_invV (as := [.inl 0]) (k := 348) (rest := [.inl v5]) (d' := (d + 1)) d_Mo_scale_49 lk_Mo_55 (ga_rcv (ga_oM) rfl rfl) rfl (Nat.le_of_ble_eq_true rfl) (Nat.le_of_ble_eq_true rfl) rfl rfl (s_Mo_borders g1 ?_)
  show ga_W G (d + 2) mt_Mo_scale 52 [some (.inr 348), some (.inl v1), some (.inl v2), some (.inl v3), some (.inl v4), some (.inl v5), none, none] [.inl (ms_n (I 349) (0 : Int)), .inl v5] I E
  refine gw_icmp_gt 149 d_Mo_scale_52 (by decide) r5 (hI1 _ _) (fun hc => ?_) (fun hc => ?_)
  · have h := h.1 hc
    refine gw_iload 4 d_Mo_scale_149 rfl ?_
    exact gw_ireturn d_Mo_scale_151 rfl h
  · have h := h.2 hc
    refine gw_iconst d_Mo_scale_55 ?_
    refine gw_istore 6 d_Mo_scale_56 (Nat.le_of_ble_eq_true rfl) rfl ?_
    exact gw_le h (by exact ⟨rfl, ⟨rfl, ⟨rfl, ⟨rfl, ⟨rfl, ⟨rfl, ⟨rfl, trivial⟩⟩⟩⟩⟩⟩⟩)
theorem k_Mo_scale_58 {G : ga_G} {d : Nat} {I : ga_I} {E : Option ga_V → ga_I → Prop} {v1 : Int} {v2 : Int} {v3 : Int} {v4 : Int} {v5 : Int} {v6 : Int} (r6 : ga_rg v6)
    (h : ga_RG I → (0 ≤ (1 : Int) ∧ (1 : Int) ≤ 1) ∧ ((((ms_n (I 349) (1 : Int)) < v6) → ga_W G (d + 2) mt_Mo_scale 45 [some (.inr 348), some (.inl v1), some (.inl v2), some (.inl v3), some (.inl v4), some (.inl (v5 + 1)), none, none] [] I E) ∧ ((¬ ((ms_n (I 349) (1 : Int)) < v6)) → (0 ≤ ((38 + 4 * (7 * v5 + v6)) + v2)) ∧ ((((38 + 4 * (7 * v5 + v6)) + v2) < 1120) ∧ ((ga_rg ((I 349 ((38 + 4 * (7 * v5 + v6)) + v2).toNat) * v3)) ∧ ((ga_rg (Int.tdiv ((I 349 ((38 + 4 * (7 * v5 + v6)) + v2).toNat) * v3) 100)) ∧ ((((Int.tdiv ((I 349 ((38 + 4 * (7 * v5 + v6)) + v2).toNat) * v3) 100) ≤ 9999) → (0 ≤ v1 ∧ v1 ≤ 2) ∧ ((0 ≤ v5 ∧ v5 ≤ 6) ∧ ((0 ≤ v6 ∧ v6 ≤ 6) ∧ ((0 ≤ v2 ∧ v2 ≤ 2) ∧ ((0 ≤ (Int.tdiv ((I 349 ((38 + 4 * (7 * v5 + v6)) + v2).toNat) * v3) 100) ∧ (Int.tdiv ((I 349 ((38 + 4 * (7 * v5 + v6)) + v2).toNat) * v3) 100) ≤ 9999) ∧ ((mo_g I) ∧ ((∀ z1 : Int, z1 = mp_ra (I 349 (38 + 4 * (7 * v5 + v6) + 3).toNat) (I 349 (38 + 4 * (7 * v5 + v6) + v2).toNat) (I 349 (241 + 3 * v1).toNat) (I 349 (241 + 3 * v1 + 1).toNat) v1 (Int.tdiv ((I 349 ((38 + 4 * (7 * v5 + v6)) + v2).toNat) * v3) 100) → (ga_rg z1) ∧ (((z1 ≠ 0) → ga_W G (d + 2) mt_Mo_scale 58 [some (.inr 348), some (.inl v1), some (.inl v2), some (.inl v3), some (.inl v4), some (.inl v5), some (.inl (v6 + 1)), none] [] I E) ∧ ((z1 = 0) → (∀ I1 : ga_I, I1 = (mx_ch I v1 (38 + 4 * (7 * v5 + v6) + v2).toNat (Int.tdiv ((I 349 ((38 + 4 * (7 * v5 + v6)) + v2).toNat) * v3) 100)) → ga_W G (d + 2) mt_Mo_scale 58 [some (.inr 348), some (.inl v1), some (.inl v2), some (.inl v3), some (.inl (v4 + 1)), some (.inl v5), some (.inl (v6 + 1)), none] [] I1 E))))))))))) ∧ ((¬ ((Int.tdiv ((I 349 ((38 + 4 * (7 * v5 + v6)) + v2).toNat) * v3) 100) ≤ 9999)) → (0 ≤ v1 ∧ v1 ≤ 2) ∧ ((0 ≤ v5 ∧ v5 ≤ 6) ∧ ((0 ≤ v6 ∧ v6 ≤ 6) ∧ ((0 ≤ v2 ∧ v2 ≤ 2) ∧ ((0 ≤ (9999 : Int) ∧ (9999 : Int) ≤ 9999) ∧ ((mo_g I) ∧ ((∀ z2 : Int, z2 = mp_ra (I 349 (38 + 4 * (7 * v5 + v6) + 3).toNat) (I 349 (38 + 4 * (7 * v5 + v6) + v2).toNat) (I 349 (241 + 3 * v1).toNat) (I 349 (241 + 3 * v1 + 1).toNat) v1 (9999 : Int) → (ga_rg z2) ∧ (((z2 ≠ 0) → ga_W G (d + 2) mt_Mo_scale 58 [some (.inr 348), some (.inl v1), some (.inl v2), some (.inl v3), some (.inl v4), some (.inl v5), some (.inl (v6 + 1)), none] [] I E) ∧ ((z2 = 0) → (∀ I2 : ga_I, I2 = (mx_ch I v1 (38 + 4 * (7 * v5 + v6) + v2).toNat (9999 : Int)) → ga_W G (d + 2) mt_Mo_scale 58 [some (.inr 348), some (.inl v1), some (.inl v2), some (.inl v3), some (.inl (v4 + 1)), some (.inl v5), some (.inl (v6 + 1)), none] [] I2 E)))))))))))))))))) :
    ga_W G (d + 2) mt_Mo_scale 58 [some (.inr 348), some (.inl v1), some (.inl v2), some (.inl v3), some (.inl v4), some (.inl v5), some (.inl v6), none] [] I E := by
  refine gw_RG (fun hI1 => ?_)
  have h := h hI1
  refine gw_iload 6 d_Mo_scale_58 rfl ?_
  refine gw_aload_n 0 d_Mo_scale_60 rfl rfl ?_
  refine gw_iconst d_Mo_scale_61 ?_
  obtain ⟨g1, h⟩ := h
  refine gw_invV (as := [.inl 1]) (k := 348) (rest := [.inl v6]) (d' := (d + 1)) d_Mo_scale_62 lk_Mo_55 (ga_rcv (ga_oM) rfl rfl) rfl (Nat.le_of_ble_eq_true rfl) (Nat.le_of_ble_eq_true rfl) rfl rfl (s_Mo_borders g1 ?_)
  show ga_W G (d + 2) mt_Mo_scale 65 [some (.inr 348), some (.inl v1), some (.inl v2), some (.inl v3), some (.inl v4), some (.inl v5), some (.inl v6), none] [.inl (ms_n (I 349) (1 : Int)), .inl v6] I E
  refine gw_icmp_gt 143 d_Mo_scale_65 (by decide) r6 (hI1 _ _) (fun hc => ?_) (fun hc => ?_)
  · have h := h.1 hc
    refine gw_iinc 5 d_Mo_scale_143 rfl rfl ?_
    refine gw_goto 45 d_Mo_scale_146 (by decide) ?_
    exact gw_le h (by exact ⟨rfl, ⟨rfl, ⟨rfl, ⟨rfl, ⟨rfl, ⟨rfl, trivial⟩⟩⟩⟩⟩⟩)
  · have h := h.2 hc
    refine gw_aload_n 0 d_Mo_scale_68 rfl rfl ?_
    refine gw_getR d_Mo_scale_69 fl_Mo_7 (ga_oM) rfl ?_
    refine gw_iload 5 d_Mo_scale_72 rfl ?_
    refine gw_iload 6 d_Mo_scale_74 rfl ?_
    refine gw_invS (as := [.inl v5, .inl v6]) (rest := [.inr 349]) (d' := (d + 1)) d_Mo_scale_76 lk_Mo_59 rfl (Nat.le_of_ble_eq_true rfl) (Nat.le_of_ble_eq_true rfl) rfl rfl (s_Mo_at  ?_)
    show ga_W G (d + 2) mt_Mo_scale 79 [some (.inr 348), some (.inl v1), some (.inl v2), some (.inl v3), some (.inl v4), some (.inl v5), some (.inl v6), none] [.inl (38 + 4 * (7 * v5 + v6)), .inr 349] I E
    refine gw_iload_n 2 d_Mo_scale_79 rfl rfl ?_
    refine gw_iadd d_Mo_scale_80 ?_
    obtain ⟨g2, h⟩ := h
    obtain ⟨g3, h⟩ := h
    refine gw_iald d_Mo_scale_81 (ga_aM1) g2 g3 ?_
    refine gw_iload_n 3 d_Mo_scale_82 rfl rfl ?_
    refine gw_imul d_Mo_scale_83 ?_
    refine gw_bipush d_Mo_scale_84 (by decide +kernel) ?_
    obtain ⟨g4, h⟩ := h
    refine gw_idiv d_Mo_scale_86 g4 ⟨by decide, by decide⟩ (by decide) ?_
    refine gw_istore 7 d_Mo_scale_87 (Nat.le_of_ble_eq_true rfl) rfl ?_
    refine gw_iload 7 d_Mo_scale_89 rfl ?_
    refine gw_sipush d_Mo_scale_91 (by decide +kernel) ?_
    obtain ⟨g5, h⟩ := h
    refine gw_icmp_le 103 d_Mo_scale_94 (by decide) g5 ⟨by decide, by decide⟩ (fun hc => ?_) (fun hc => ?_)
    · have h := h.1 hc
      refine gw_iload 7 d_Mo_scale_103 rfl ?_
      refine gw_istore 7 d_Mo_scale_105 (Nat.le_of_ble_eq_true rfl) rfl ?_
      refine gw_aload_n 0 d_Mo_scale_107 rfl rfl ?_
      refine gw_iload_n 1 d_Mo_scale_108 rfl rfl ?_
      refine gw_iload 5 d_Mo_scale_109 rfl ?_
      refine gw_iload 6 d_Mo_scale_111 rfl ?_
      refine gw_iload_n 2 d_Mo_scale_113 rfl rfl ?_
      refine gw_iload 7 d_Mo_scale_114 rfl ?_
      obtain ⟨g6, h⟩ := h
      obtain ⟨g7, h⟩ := h
      obtain ⟨g8, h⟩ := h
      obtain ⟨g9, h⟩ := h
      obtain ⟨g10, h⟩ := h
      obtain ⟨g11, h⟩ := h
      refine gw_invV (as := [.inl v1, .inl v5, .inl v6, .inl v2, .inl (Int.tdiv ((I 349 ((38 + 4 * (7 * v5 + v6)) + v2).toNat) * v3) 100)]) (k := 348) (rest := []) (d' := (d + 1)) d_Mo_scale_116 lk_Mo_144 (ga_rcv (ga_oM) rfl rfl) rfl (Nat.le_of_ble_eq_true rfl) (Nat.le_of_ble_eq_true rfl) rfl rfl (s_Mo_refusalOf g6 g7 g8 g9 g10 g11 ?_)
      show ga_W G (d + 2) mt_Mo_scale 119 [some (.inr 348), some (.inl v1), some (.inl v2), some (.inl v3), some (.inl v4), some (.inl v5), some (.inl v6), some (.inl (Int.tdiv ((I 349 ((38 + 4 * (7 * v5 + v6)) + v2).toNat) * v3) 100))] [.inl (mp_ra (I 349 (38 + 4 * (7 * v5 + v6) + 3).toNat) (I 349 (38 + 4 * (7 * v5 + v6) + v2).toNat) (I 349 (241 + 3 * v1).toNat) (I 349 (241 + 3 * v1 + 1).toNat) v1 (Int.tdiv ((I 349 ((38 + 4 * (7 * v5 + v6)) + v2).toNat) * v3) 100))] I E
      refine gw_nz (z := mp_ra (I 349 (38 + 4 * (7 * v5 + v6) + 3).toNat) (I 349 (38 + 4 * (7 * v5 + v6) + v2).toNat) (I 349 (241 + 3 * v1).toNat) (I 349 (241 + 3 * v1 + 1).toNat) v1 (Int.tdiv ((I 349 ((38 + 4 * (7 * v5 + v6)) + v2).toNat) * v3) 100)) (fun z1 q1 => ?_)
      have h := h z1 q1
      obtain ⟨g12, h⟩ := h
      refine gw_if_ne 137 d_Mo_scale_119 (by decide) g12 (fun hc => ?_) (fun hc => ?_)
      · have h := h.1 hc
        refine gw_iinc 6 d_Mo_scale_137 rfl rfl ?_
        refine gw_goto 58 d_Mo_scale_140 (by decide) ?_
        exact gw_le h (by exact ⟨rfl, ⟨rfl, ⟨rfl, ⟨rfl, ⟨rfl, ⟨rfl, ⟨rfl, trivial⟩⟩⟩⟩⟩⟩⟩)
      · have h := h.2 hc
        refine gw_aload_n 0 d_Mo_scale_122 rfl rfl ?_
        refine gw_iload_n 1 d_Mo_scale_123 rfl rfl ?_
        refine gw_iload 5 d_Mo_scale_124 rfl ?_
        refine gw_iload 6 d_Mo_scale_126 rfl ?_
        refine gw_iload_n 2 d_Mo_scale_128 rfl rfl ?_
        refine gw_iload 7 d_Mo_scale_129 rfl ?_
        refine gw_invV (as := [.inl v1, .inl v5, .inl v6, .inl v2, .inl (Int.tdiv ((I 349 ((38 + 4 * (7 * v5 + v6)) + v2).toNat) * v3) 100)]) (k := 348) (rest := []) (d' := (d + 1)) d_Mo_scale_131 lk_Mo_148 (ga_rcv (ga_oM) rfl rfl) rfl (Nat.le_of_ble_eq_true rfl) (Nat.le_of_ble_eq_true rfl) rfl rfl (s_Mo_change g6 g7 g8 g9 g10 g11 ?_)
        show ga_W G (d + 2) mt_Mo_scale 134 [some (.inr 348), some (.inl v1), some (.inl v2), some (.inl v3), some (.inl v4), some (.inl v5), some (.inl v6), some (.inl (Int.tdiv ((I 349 ((38 + 4 * (7 * v5 + v6)) + v2).toNat) * v3) 100))] [] (mx_ch I v1 (38 + 4 * (7 * v5 + v6) + v2).toNat (Int.tdiv ((I 349 ((38 + 4 * (7 * v5 + v6)) + v2).toNat) * v3) 100)) E
        refine gw_nm (fun I1 q2 => ?_)
        have h := h I1 q2
        refine gw_RG (fun hI2 => ?_)
        refine gw_iinc 4 d_Mo_scale_134 rfl rfl ?_
        refine gw_iinc 6 d_Mo_scale_137 rfl rfl ?_
        refine gw_goto 58 d_Mo_scale_140 (by decide) ?_
        exact gw_le h (by exact ⟨rfl, ⟨rfl, ⟨rfl, ⟨rfl, ⟨rfl, ⟨rfl, ⟨rfl, trivial⟩⟩⟩⟩⟩⟩⟩)
    · have h := h.2 hc
      refine gw_sipush d_Mo_scale_97 (by decide +kernel) ?_
      refine gw_goto 105 d_Mo_scale_100 (by decide) ?_
      refine gw_istore 7 d_Mo_scale_105 (Nat.le_of_ble_eq_true rfl) rfl ?_
      refine gw_aload_n 0 d_Mo_scale_107 rfl rfl ?_
      refine gw_iload_n 1 d_Mo_scale_108 rfl rfl ?_
      refine gw_iload 5 d_Mo_scale_109 rfl ?_
      refine gw_iload 6 d_Mo_scale_111 rfl ?_
      refine gw_iload_n 2 d_Mo_scale_113 rfl rfl ?_
      refine gw_iload 7 d_Mo_scale_114 rfl ?_
      obtain ⟨g13, h⟩ := h
      obtain ⟨g14, h⟩ := h
      obtain ⟨g15, h⟩ := h
      obtain ⟨g16, h⟩ := h
      obtain ⟨g17, h⟩ := h
      obtain ⟨g18, h⟩ := h
      refine gw_invV (as := [.inl v1, .inl v5, .inl v6, .inl v2, .inl 9999]) (k := 348) (rest := []) (d' := (d + 1)) d_Mo_scale_116 lk_Mo_144 (ga_rcv (ga_oM) rfl rfl) rfl (Nat.le_of_ble_eq_true rfl) (Nat.le_of_ble_eq_true rfl) rfl rfl (s_Mo_refusalOf g13 g14 g15 g16 g17 g18 ?_)
      show ga_W G (d + 2) mt_Mo_scale 119 [some (.inr 348), some (.inl v1), some (.inl v2), some (.inl v3), some (.inl v4), some (.inl v5), some (.inl v6), some (.inl 9999)] [.inl (mp_ra (I 349 (38 + 4 * (7 * v5 + v6) + 3).toNat) (I 349 (38 + 4 * (7 * v5 + v6) + v2).toNat) (I 349 (241 + 3 * v1).toNat) (I 349 (241 + 3 * v1 + 1).toNat) v1 (9999 : Int))] I E
      refine gw_nz (z := mp_ra (I 349 (38 + 4 * (7 * v5 + v6) + 3).toNat) (I 349 (38 + 4 * (7 * v5 + v6) + v2).toNat) (I 349 (241 + 3 * v1).toNat) (I 349 (241 + 3 * v1 + 1).toNat) v1 (9999 : Int)) (fun z2 q3 => ?_)
      have h := h z2 q3
      obtain ⟨g19, h⟩ := h
      refine gw_if_ne 137 d_Mo_scale_119 (by decide) g19 (fun hc => ?_) (fun hc => ?_)
      · have h := h.1 hc
        refine gw_iinc 6 d_Mo_scale_137 rfl rfl ?_
        refine gw_goto 58 d_Mo_scale_140 (by decide) ?_
        exact gw_le h (by exact ⟨rfl, ⟨rfl, ⟨rfl, ⟨rfl, ⟨rfl, ⟨rfl, ⟨rfl, trivial⟩⟩⟩⟩⟩⟩⟩)
      · have h := h.2 hc
        refine gw_aload_n 0 d_Mo_scale_122 rfl rfl ?_
        refine gw_iload_n 1 d_Mo_scale_123 rfl rfl ?_
        refine gw_iload 5 d_Mo_scale_124 rfl ?_
        refine gw_iload 6 d_Mo_scale_126 rfl ?_
        refine gw_iload_n 2 d_Mo_scale_128 rfl rfl ?_
        refine gw_iload 7 d_Mo_scale_129 rfl ?_
        refine gw_invV (as := [.inl v1, .inl v5, .inl v6, .inl v2, .inl 9999]) (k := 348) (rest := []) (d' := (d + 1)) d_Mo_scale_131 lk_Mo_148 (ga_rcv (ga_oM) rfl rfl) rfl (Nat.le_of_ble_eq_true rfl) (Nat.le_of_ble_eq_true rfl) rfl rfl (s_Mo_change g13 g14 g15 g16 g17 g18 ?_)
        show ga_W G (d + 2) mt_Mo_scale 134 [some (.inr 348), some (.inl v1), some (.inl v2), some (.inl v3), some (.inl v4), some (.inl v5), some (.inl v6), some (.inl 9999)] [] (mx_ch I v1 (38 + 4 * (7 * v5 + v6) + v2).toNat (9999 : Int)) E
        refine gw_nm (fun I2 q4 => ?_)
        have h := h I2 q4
        refine gw_RG (fun hI3 => ?_)
        refine gw_iinc 4 d_Mo_scale_134 rfl rfl ?_
        refine gw_iinc 6 d_Mo_scale_137 rfl rfl ?_
        refine gw_goto 58 d_Mo_scale_140 (by decide) ?_
        exact gw_le h (by exact ⟨rfl, ⟨rfl, ⟨rfl, ⟨rfl, ⟨rfl, ⟨rfl, ⟨rfl, trivial⟩⟩⟩⟩⟩⟩⟩)

theorem k_Mo_sweep_0 {G : ga_G} {d : Nat} {I : ga_I} {E : Option ga_V → ga_I → Prop} {v1 : Int} {v2 : Int} {v3 : Int} (r1 : ga_rg v1) (r2 : ga_rg v2) (r3 : ga_rg v3)
    (h : ga_RG I → (∀ I1 : ga_I, I1 = (ga_up I 348 0 0) → ((¬ (0 ≤ v1 ∧ v1 ≤ 1)) → E (some (.inl (-2000000001))) I1) ∧ ((0 ≤ v1 ∧ v1 ≤ 1) → ((¬ (0 ≤ v2 ∧ v2 ≤ 1000)) → E (some (.inl (-2000000001))) I1) ∧ ((0 ≤ v2 ∧ v2 ≤ 1000) → (((1 : Int) ≤ v3 ∧ v3 ≤ (1000 : Int)) → (0 ≤ (234 + v1)) ∧ (((234 + v1) < 1120) ∧ ((((I1 349 (234 + v1).toNat) ≠ v2) → (0 ≤ I1 348 4 ∧ I1 348 4 ≤ 5) ∧ ((∀ I2 : ga_I, I2 = (mx_ac I1) → ga_W G (d + 6) mt_Mo_sweep 69 [some (.inr 348), some (.inl v1), some (.inl v2), some (.inl v3), some (.inl 0), some (.inl (I2 349 (234 + v1).toNat)), none, none, none] [] I2 E))) ∧ (((I1 349 (234 + v1).toNat) = v2) → E (some (.inl (-2000000002))) I1)))) ∧ ((¬ ((1 : Int) ≤ v3 ∧ v3 ≤ (1000 : Int))) → E (some (.inl (-2000000001))) I1))))) :
    ga_W G (d + 6) mt_Mo_sweep 0 (ga_en 9 [.inr 348, .inl v1, .inl v2, .inl v3]) [] I E := by
  show ga_W G (d + 6) mt_Mo_sweep 0 [some (.inr 348), some (.inl v1), some (.inl v2), some (.inl v3), none, none, none, none, none] [] I E
  refine gw_RG (fun hI1 => ?_)
  have h := h hI1
  refine gw_aload_n 0 d_Mo_sweep_0 rfl rfl ?_
  refine gw_iconst d_Mo_sweep_1 ?_
  refine gw_putI d_Mo_sweep_2 fp_Mo_37 (ga_oM) rfl ?_
  show ga_W G (d + 6) mt_Mo_sweep 5 [some (.inr 348), some (.inl v1), some (.inl v2), some (.inl v3), none, none, none, none, none] [] (ga_up I 348 0 (ga_wr 0)) E
  rw [ga_wr_eq (z := 0) ⟨by decide, by decide⟩]
  refine gw_nm (J := (ga_up I 348 0 0)) (fun I1 q1 => ?_)
  have h := h I1 q1
  refine gw_RG (fun hI2 => ?_)
  refine gw_iload_n 1 d_Mo_sweep_5 rfl rfl ?_
  refine gw_invS (as := [.inl v1]) (rest := []) (d' := (d + 5)) d_Mo_sweep_6 lk_Mo_51 rfl (Nat.le_of_ble_eq_true rfl) (Nat.le_of_ble_eq_true rfl) rfl rfl (s_Mo_isAxis r1 ?_)
  show ga_W G (d + 6) mt_Mo_sweep 9 [some (.inr 348), some (.inl v1), some (.inl v2), some (.inl v3), none, none, none, none, none] [.inl (ga_bb (decide (0 ≤ v1 ∧ v1 ≤ 1)))] I1 E
  refine gw_ifb_eq 30 d_Mo_sweep_9 (by decide) (fun hc => ?_) (fun hc => ?_)
  · have h := h.1 (of_decide_eq_false hc)
    refine gw_ldc (n := (-2000000001)) d_Mo_sweep_30 kw_Mo_112 (by decide +kernel) ?_
    exact gw_ireturn d_Mo_sweep_32 rfl h
  · have h := h.2 (of_decide_eq_true hc)
    refine gw_iload_n 2 d_Mo_sweep_12 rfl rfl ?_
    refine gw_invS (as := [.inl v2]) (rest := []) (d' := (d + 5)) d_Mo_sweep_13 lk_Mo_179 rfl (Nat.le_of_ble_eq_true rfl) (Nat.le_of_ble_eq_true rfl) rfl rfl (s_Mo_isCoordinate r2 ?_)
    show ga_W G (d + 6) mt_Mo_sweep 16 [some (.inr 348), some (.inl v1), some (.inl v2), some (.inl v3), none, none, none, none, none] [.inl (ga_bb (decide (0 ≤ v2 ∧ v2 ≤ 1000)))] I1 E
    refine gw_ifb_eq 30 d_Mo_sweep_16 (by decide) (fun hc => ?_) (fun hc => ?_)
    · have h := h.1 (of_decide_eq_false hc)
      refine gw_ldc (n := (-2000000001)) d_Mo_sweep_30 kw_Mo_112 (by decide +kernel) ?_
      exact gw_ireturn d_Mo_sweep_32 rfl h
    · have h := h.2 (of_decide_eq_true hc)
      refine gw_iload_n 3 d_Mo_sweep_19 rfl rfl ?_
      refine gw_iconst d_Mo_sweep_20 ?_
      refine gw_sipush d_Mo_sweep_21 (by decide +kernel) ?_
      refine gw_invS (as := [.inl v3, .inl 1, .inl 1000]) (rest := []) (d' := (d + 5)) d_Mo_sweep_24 lk_Mo_47 rfl (Nat.le_of_ble_eq_true rfl) (Nat.le_of_ble_eq_true rfl) rfl rfl (s_Mo_in r3 ⟨by decide, by decide⟩ ⟨by decide, by decide⟩ ?_)
      show ga_W G (d + 6) mt_Mo_sweep 27 [some (.inr 348), some (.inl v1), some (.inl v2), some (.inl v3), none, none, none, none, none] [.inl (ga_bb (decide ((1 : Int) ≤ v3 ∧ v3 ≤ (1000 : Int))))] I1 E
      refine gw_ifb_ne 33 d_Mo_sweep_27 (by decide) (fun hc => ?_) (fun hc => ?_)
      · have h := h.1 (of_decide_eq_true hc)
        refine gw_aload_n 0 d_Mo_sweep_33 rfl rfl ?_
        refine gw_getR d_Mo_sweep_34 fl_Mo_7 (ga_oM) rfl ?_
        refine gw_sipush d_Mo_sweep_37 (by decide +kernel) ?_
        refine gw_iload_n 1 d_Mo_sweep_40 rfl rfl ?_
        refine gw_iadd d_Mo_sweep_41 ?_
        obtain ⟨g1, h⟩ := h
        obtain ⟨g2, h⟩ := h
        refine gw_iald d_Mo_sweep_42 (ga_aM1) g1 g2 ?_
        refine gw_iload_n 2 d_Mo_sweep_43 rfl rfl ?_
        refine gw_icmp_ne 50 d_Mo_sweep_44 (by decide) (hI2 _ _) r2 (fun hc => ?_) (fun hc => ?_)
        · have h := h.1 hc
          refine gw_aload_n 0 d_Mo_sweep_50 rfl rfl ?_
          obtain ⟨g3, h⟩ := h
          refine gw_invV (as := []) (k := 348) (rest := []) (d' := (d + 5)) d_Mo_sweep_51 lk_Mo_119 (ga_rcv (ga_oM) rfl rfl) rfl (Nat.le_of_ble_eq_true rfl) (Nat.le_of_ble_eq_true rfl) rfl rfl (s_Mo_act g3 ?_)
          show ga_W G (d + 6) mt_Mo_sweep 54 [some (.inr 348), some (.inl v1), some (.inl v2), some (.inl v3), none, none, none, none, none] [] (mx_ac I1) E
          refine gw_nm (fun I2 q2 => ?_)
          have h := h I2 q2
          refine gw_RG (fun hI3 => ?_)
          refine gw_iconst d_Mo_sweep_54 ?_
          refine gw_istore 4 d_Mo_sweep_55 (Nat.le_of_ble_eq_true rfl) rfl ?_
          refine gw_aload_n 0 d_Mo_sweep_57 rfl rfl ?_
          refine gw_getR d_Mo_sweep_58 fl_Mo_7 (ga_oM) rfl ?_
          refine gw_sipush d_Mo_sweep_61 (by decide +kernel) ?_
          refine gw_iload_n 1 d_Mo_sweep_64 rfl rfl ?_
          refine gw_iadd d_Mo_sweep_65 ?_
          refine gw_iald d_Mo_sweep_66 (ga_aM1) g1 g2 ?_
          refine gw_istore 5 d_Mo_sweep_67 (Nat.le_of_ble_eq_true rfl) rfl ?_
          exact gw_le h (by exact ⟨rfl, ⟨rfl, ⟨rfl, ⟨rfl, ⟨rfl, ⟨rfl, trivial⟩⟩⟩⟩⟩⟩)
        · have h := h.2 hc
          refine gw_ldc (n := (-2000000002)) d_Mo_sweep_47 kw_Mo_117 (by decide +kernel) ?_
          exact gw_ireturn d_Mo_sweep_49 rfl h
      · have h := h.2 (of_decide_eq_false hc)
        refine gw_ldc (n := (-2000000001)) d_Mo_sweep_30 kw_Mo_112 (by decide +kernel) ?_
        exact gw_ireturn d_Mo_sweep_32 rfl h
theorem k_Mo_sweep_69 {G : ga_G} {d : Nat} {I : ga_I} {E : Option ga_V → ga_I → Prop} {v1 : Int} {v2 : Int} {v3 : Int} {v4 : Int} {v5 : Int} (r1 : ga_rg v1) (r2 : ga_rg v2) (r3 : ga_rg v3) (r5 : ga_rg v5)
    (h : ga_RG I → ((v5 = v2) → E (some (.inl v4)) I) ∧ ((¬ (v5 = v2)) → (ga_rg ((v5 - v2).natAbs : Int)) ∧ (((v3 ≤ ((v5 - v2).natAbs : Int)) → ((v2 ≤ v5) → (0 ≤ (236 + v1)) ∧ (((236 + v1) < 1120) ∧ (((v1 ≠ 0) → (mo_ok I 0) ∧ ((mo_ok I 1) ∧ ((mo_pz I) ∧ ((mo_zn I) ∧ ((mo_g I) ∧ ((0 ≤ I 349 254 ∧ I 349 254 ≤ 20) ∧ ((0 ≤ (I 349 234) ∧ (I 349 234) ≤ 1000) ∧ ((0 ≤ (v5 + (-v3)) ∧ (v5 + (-v3)) ≤ 1000) ∧ ((∀ I1 : ga_I, gr_mm I I1 (I 349 234) (v5 + (-v3)) → (ga_rg (na_mm (I 349) (I 349 234) (v5 + (-v3)))) ∧ ((((na_mm (I 349) (I 349 234) (v5 + (-v3))) = (-2000000009)) → ga_W G (d + 6) mt_Mo_sweep 69 [some (.inr 348), some (.inl v1), some (.inl v2), some (.inl v3), some (.inl (v4 + 0)), some (.inl (v5 + (-v3))), none, none, none] [] I1 E) ∧ ((¬ ((na_mm (I 349) (I 349 234) (v5 + (-v3))) = (-2000000009))) → (((I1 349 (236 + v1).toNat) = (I 349 (236 + v1).toNat)) → ga_W G (d + 6) mt_Mo_sweep 69 [some (.inr 348), some (.inl v1), some (.inl v2), some (.inl v3), some (.inl (v4 + 0)), some (.inl (v5 + (-v3))), none, none, none] [] I1 E) ∧ ((¬ ((I1 349 (236 + v1).toNat) = (I 349 (236 + v1).toNat))) → ga_W G (d + 6) mt_Mo_sweep 69 [some (.inr 348), some (.inl v1), some (.inl v2), some (.inl v3), some (.inl (v4 + 1)), some (.inl (v5 + (-v3))), none, none, none] [] I1 E))))))))))))) ∧ ((v1 = 0) → (mo_ok I 0) ∧ ((mo_ok I 1) ∧ ((mo_pz I) ∧ ((mo_zn I) ∧ ((mo_g I) ∧ ((0 ≤ I 349 254 ∧ I 349 254 ≤ 20) ∧ ((0 ≤ (v5 + (-v3)) ∧ (v5 + (-v3)) ≤ 1000) ∧ ((0 ≤ (I 349 235) ∧ (I 349 235) ≤ 1000) ∧ ((∀ I2 : ga_I, gr_mm I I2 (v5 + (-v3)) (I 349 235) → (ga_rg (na_mm (I 349) (v5 + (-v3)) (I 349 235))) ∧ ((((na_mm (I 349) (v5 + (-v3)) (I 349 235)) = (-2000000009)) → ga_W G (d + 6) mt_Mo_sweep 69 [some (.inr 348), some (.inl v1), some (.inl v2), some (.inl v3), some (.inl (v4 + 0)), some (.inl (v5 + (-v3))), none, none, none] [] I2 E) ∧ ((¬ ((na_mm (I 349) (v5 + (-v3)) (I 349 235)) = (-2000000009))) → (((I2 349 (236 + v1).toNat) = (I 349 (236 + v1).toNat)) → ga_W G (d + 6) mt_Mo_sweep 69 [some (.inr 348), some (.inl v1), some (.inl v2), some (.inl v3), some (.inl (v4 + 0)), some (.inl (v5 + (-v3))), none, none, none] [] I2 E) ∧ ((¬ ((I2 349 (236 + v1).toNat) = (I 349 (236 + v1).toNat))) → ga_W G (d + 6) mt_Mo_sweep 69 [some (.inr 348), some (.inl v1), some (.inl v2), some (.inl v3), some (.inl (v4 + 1)), some (.inl (v5 + (-v3))), none, none, none] [] I2 E)))))))))))))))) ∧ ((¬ (v2 ≤ v5)) → (0 ≤ (236 + v1)) ∧ (((236 + v1) < 1120) ∧ (((v1 ≠ 0) → (mo_ok I 0) ∧ ((mo_ok I 1) ∧ ((mo_pz I) ∧ ((mo_zn I) ∧ ((mo_g I) ∧ ((0 ≤ I 349 254 ∧ I 349 254 ≤ 20) ∧ ((0 ≤ (I 349 234) ∧ (I 349 234) ≤ 1000) ∧ ((0 ≤ (v5 + v3) ∧ (v5 + v3) ≤ 1000) ∧ ((∀ I3 : ga_I, gr_mm I I3 (I 349 234) (v5 + v3) → (ga_rg (na_mm (I 349) (I 349 234) (v5 + v3))) ∧ ((((na_mm (I 349) (I 349 234) (v5 + v3)) = (-2000000009)) → ga_W G (d + 6) mt_Mo_sweep 69 [some (.inr 348), some (.inl v1), some (.inl v2), some (.inl v3), some (.inl (v4 + 0)), some (.inl (v5 + v3)), none, none, none] [] I3 E) ∧ ((¬ ((na_mm (I 349) (I 349 234) (v5 + v3)) = (-2000000009))) → (((I3 349 (236 + v1).toNat) = (I 349 (236 + v1).toNat)) → ga_W G (d + 6) mt_Mo_sweep 69 [some (.inr 348), some (.inl v1), some (.inl v2), some (.inl v3), some (.inl (v4 + 0)), some (.inl (v5 + v3)), none, none, none] [] I3 E) ∧ ((¬ ((I3 349 (236 + v1).toNat) = (I 349 (236 + v1).toNat))) → ga_W G (d + 6) mt_Mo_sweep 69 [some (.inr 348), some (.inl v1), some (.inl v2), some (.inl v3), some (.inl (v4 + 1)), some (.inl (v5 + v3)), none, none, none] [] I3 E))))))))))))) ∧ ((v1 = 0) → (mo_ok I 0) ∧ ((mo_ok I 1) ∧ ((mo_pz I) ∧ ((mo_zn I) ∧ ((mo_g I) ∧ ((0 ≤ I 349 254 ∧ I 349 254 ≤ 20) ∧ ((0 ≤ (v5 + v3) ∧ (v5 + v3) ≤ 1000) ∧ ((0 ≤ (I 349 235) ∧ (I 349 235) ≤ 1000) ∧ ((∀ I4 : ga_I, gr_mm I I4 (v5 + v3) (I 349 235) → (ga_rg (na_mm (I 349) (v5 + v3) (I 349 235))) ∧ ((((na_mm (I 349) (v5 + v3) (I 349 235)) = (-2000000009)) → ga_W G (d + 6) mt_Mo_sweep 69 [some (.inr 348), some (.inl v1), some (.inl v2), some (.inl v3), some (.inl (v4 + 0)), some (.inl (v5 + v3)), none, none, none] [] I4 E) ∧ ((¬ ((na_mm (I 349) (v5 + v3) (I 349 235)) = (-2000000009))) → (((I4 349 (236 + v1).toNat) = (I 349 (236 + v1).toNat)) → ga_W G (d + 6) mt_Mo_sweep 69 [some (.inr 348), some (.inl v1), some (.inl v2), some (.inl v3), some (.inl (v4 + 0)), some (.inl (v5 + v3)), none, none, none] [] I4 E) ∧ ((¬ ((I4 349 (236 + v1).toNat) = (I 349 (236 + v1).toNat))) → ga_W G (d + 6) mt_Mo_sweep 69 [some (.inr 348), some (.inl v1), some (.inl v2), some (.inl v3), some (.inl (v4 + 1)), some (.inl (v5 + v3)), none, none, none] [] I4 E))))))))))))))))) ∧ ((¬ (v3 ≤ ((v5 - v2).natAbs : Int))) → ((v2 ≤ v5) → (0 ≤ (236 + v1)) ∧ (((236 + v1) < 1120) ∧ (((v1 ≠ 0) → (mo_ok I 0) ∧ ((mo_ok I 1) ∧ ((mo_pz I) ∧ ((mo_zn I) ∧ ((mo_g I) ∧ ((0 ≤ I 349 254 ∧ I 349 254 ≤ 20) ∧ ((0 ≤ (I 349 234) ∧ (I 349 234) ≤ 1000) ∧ ((0 ≤ (v5 + (-((v5 - v2).natAbs : Int))) ∧ (v5 + (-((v5 - v2).natAbs : Int))) ≤ 1000) ∧ ((∀ I5 : ga_I, gr_mm I I5 (I 349 234) (v5 + (-((v5 - v2).natAbs : Int))) → (ga_rg (na_mm (I 349) (I 349 234) (v5 + (-((v5 - v2).natAbs : Int))))) ∧ ((((na_mm (I 349) (I 349 234) (v5 + (-((v5 - v2).natAbs : Int)))) = (-2000000009)) → ga_W G (d + 6) mt_Mo_sweep 69 [some (.inr 348), some (.inl v1), some (.inl v2), some (.inl v3), some (.inl (v4 + 0)), some (.inl (v5 + (-((v5 - v2).natAbs : Int)))), none, none, none] [] I5 E) ∧ ((¬ ((na_mm (I 349) (I 349 234) (v5 + (-((v5 - v2).natAbs : Int)))) = (-2000000009))) → (((I5 349 (236 + v1).toNat) = (I 349 (236 + v1).toNat)) → ga_W G (d + 6) mt_Mo_sweep 69 [some (.inr 348), some (.inl v1), some (.inl v2), some (.inl v3), some (.inl (v4 + 0)), some (.inl (v5 + (-((v5 - v2).natAbs : Int)))), none, none, none] [] I5 E) ∧ ((¬ ((I5 349 (236 + v1).toNat) = (I 349 (236 + v1).toNat))) → ga_W G (d + 6) mt_Mo_sweep 69 [some (.inr 348), some (.inl v1), some (.inl v2), some (.inl v3), some (.inl (v4 + 1)), some (.inl (v5 + (-((v5 - v2).natAbs : Int)))), none, none, none] [] I5 E))))))))))))) ∧ ((v1 = 0) → (mo_ok I 0) ∧ ((mo_ok I 1) ∧ ((mo_pz I) ∧ ((mo_zn I) ∧ ((mo_g I) ∧ ((0 ≤ I 349 254 ∧ I 349 254 ≤ 20) ∧ ((0 ≤ (v5 + (-((v5 - v2).natAbs : Int))) ∧ (v5 + (-((v5 - v2).natAbs : Int))) ≤ 1000) ∧ ((0 ≤ (I 349 235) ∧ (I 349 235) ≤ 1000) ∧ ((∀ I6 : ga_I, gr_mm I I6 (v5 + (-((v5 - v2).natAbs : Int))) (I 349 235) → (ga_rg (na_mm (I 349) (v5 + (-((v5 - v2).natAbs : Int))) (I 349 235))) ∧ ((((na_mm (I 349) (v5 + (-((v5 - v2).natAbs : Int))) (I 349 235)) = (-2000000009)) → ga_W G (d + 6) mt_Mo_sweep 69 [some (.inr 348), some (.inl v1), some (.inl v2), some (.inl v3), some (.inl (v4 + 0)), some (.inl (v5 + (-((v5 - v2).natAbs : Int)))), none, none, none] [] I6 E) ∧ ((¬ ((na_mm (I 349) (v5 + (-((v5 - v2).natAbs : Int))) (I 349 235)) = (-2000000009))) → (((I6 349 (236 + v1).toNat) = (I 349 (236 + v1).toNat)) → ga_W G (d + 6) mt_Mo_sweep 69 [some (.inr 348), some (.inl v1), some (.inl v2), some (.inl v3), some (.inl (v4 + 0)), some (.inl (v5 + (-((v5 - v2).natAbs : Int)))), none, none, none] [] I6 E) ∧ ((¬ ((I6 349 (236 + v1).toNat) = (I 349 (236 + v1).toNat))) → ga_W G (d + 6) mt_Mo_sweep 69 [some (.inr 348), some (.inl v1), some (.inl v2), some (.inl v3), some (.inl (v4 + 1)), some (.inl (v5 + (-((v5 - v2).natAbs : Int)))), none, none, none] [] I6 E)))))))))))))))) ∧ ((¬ (v2 ≤ v5)) → (0 ≤ (236 + v1)) ∧ (((236 + v1) < 1120) ∧ (((v1 ≠ 0) → (mo_ok I 0) ∧ ((mo_ok I 1) ∧ ((mo_pz I) ∧ ((mo_zn I) ∧ ((mo_g I) ∧ ((0 ≤ I 349 254 ∧ I 349 254 ≤ 20) ∧ ((0 ≤ (I 349 234) ∧ (I 349 234) ≤ 1000) ∧ ((0 ≤ (v5 + ((v5 - v2).natAbs : Int)) ∧ (v5 + ((v5 - v2).natAbs : Int)) ≤ 1000) ∧ ((∀ I7 : ga_I, gr_mm I I7 (I 349 234) (v5 + ((v5 - v2).natAbs : Int)) → (ga_rg (na_mm (I 349) (I 349 234) (v5 + ((v5 - v2).natAbs : Int)))) ∧ ((((na_mm (I 349) (I 349 234) (v5 + ((v5 - v2).natAbs : Int))) = (-2000000009)) → ga_W G (d + 6) mt_Mo_sweep 69 [some (.inr 348), some (.inl v1), some (.inl v2), some (.inl v3), some (.inl (v4 + 0)), some (.inl (v5 + ((v5 - v2).natAbs : Int))), none, none, none] [] I7 E) ∧ ((¬ ((na_mm (I 349) (I 349 234) (v5 + ((v5 - v2).natAbs : Int))) = (-2000000009))) → (((I7 349 (236 + v1).toNat) = (I 349 (236 + v1).toNat)) → ga_W G (d + 6) mt_Mo_sweep 69 [some (.inr 348), some (.inl v1), some (.inl v2), some (.inl v3), some (.inl (v4 + 0)), some (.inl (v5 + ((v5 - v2).natAbs : Int))), none, none, none] [] I7 E) ∧ ((¬ ((I7 349 (236 + v1).toNat) = (I 349 (236 + v1).toNat))) → ga_W G (d + 6) mt_Mo_sweep 69 [some (.inr 348), some (.inl v1), some (.inl v2), some (.inl v3), some (.inl (v4 + 1)), some (.inl (v5 + ((v5 - v2).natAbs : Int))), none, none, none] [] I7 E))))))))))))) ∧ ((v1 = 0) → (mo_ok I 0) ∧ ((mo_ok I 1) ∧ ((mo_pz I) ∧ ((mo_zn I) ∧ ((mo_g I) ∧ ((0 ≤ I 349 254 ∧ I 349 254 ≤ 20) ∧ ((0 ≤ (v5 + ((v5 - v2).natAbs : Int)) ∧ (v5 + ((v5 - v2).natAbs : Int)) ≤ 1000) ∧ ((0 ≤ (I 349 235) ∧ (I 349 235) ≤ 1000) ∧ ((∀ I8 : ga_I, gr_mm I I8 (v5 + ((v5 - v2).natAbs : Int)) (I 349 235) → (ga_rg (na_mm (I 349) (v5 + ((v5 - v2).natAbs : Int)) (I 349 235))) ∧ ((((na_mm (I 349) (v5 + ((v5 - v2).natAbs : Int)) (I 349 235)) = (-2000000009)) → ga_W G (d + 6) mt_Mo_sweep 69 [some (.inr 348), some (.inl v1), some (.inl v2), some (.inl v3), some (.inl (v4 + 0)), some (.inl (v5 + ((v5 - v2).natAbs : Int))), none, none, none] [] I8 E) ∧ ((¬ ((na_mm (I 349) (v5 + ((v5 - v2).natAbs : Int)) (I 349 235)) = (-2000000009))) → (((I8 349 (236 + v1).toNat) = (I 349 (236 + v1).toNat)) → ga_W G (d + 6) mt_Mo_sweep 69 [some (.inr 348), some (.inl v1), some (.inl v2), some (.inl v3), some (.inl (v4 + 0)), some (.inl (v5 + ((v5 - v2).natAbs : Int))), none, none, none] [] I8 E) ∧ ((¬ ((I8 349 (236 + v1).toNat) = (I 349 (236 + v1).toNat))) → ga_W G (d + 6) mt_Mo_sweep 69 [some (.inr 348), some (.inl v1), some (.inl v2), some (.inl v3), some (.inl (v4 + 1)), some (.inl (v5 + ((v5 - v2).natAbs : Int))), none, none, none] [] I8 E)))))))))))))))))))) :
    ga_W G (d + 6) mt_Mo_sweep 69 [some (.inr 348), some (.inl v1), some (.inl v2), some (.inl v3), some (.inl v4), some (.inl v5), none, none, none] [] I E := by
  refine gw_RG (fun hI1 => ?_)
  have h := h hI1
  refine gw_iload 5 d_Mo_sweep_69 rfl ?_
  refine gw_iload_n 2 d_Mo_sweep_71 rfl rfl ?_
  refine gw_icmp_eq 200 d_Mo_sweep_72 (by decide) r5 r2 (fun hc => ?_) (fun hc => ?_)
  · have h := h.1 hc
    refine gw_iload 4 d_Mo_sweep_200 rfl ?_
    exact gw_ireturn d_Mo_sweep_202 rfl h
  · have h := h.2 hc
    refine gw_iload 5 d_Mo_sweep_75 rfl ?_
    refine gw_iload_n 2 d_Mo_sweep_77 rfl rfl ?_
    refine gw_invS (as := [.inl v5, .inl v2]) (rest := []) (d' := (d + 5)) d_Mo_sweep_78 lk_Mo_85 rfl (Nat.le_of_ble_eq_true rfl) (Nat.le_of_ble_eq_true rfl) rfl rfl (s_Mo_apart r5 r2 ?_)
    show ga_W G (d + 6) mt_Mo_sweep 81 [some (.inr 348), some (.inl v1), some (.inl v2), some (.inl v3), some (.inl v4), some (.inl v5), none, none, none] [.inl ((v5 - v2).natAbs : Int)] I E
    refine gw_iload_n 3 d_Mo_sweep_81 rfl rfl ?_
    obtain ⟨g1, h⟩ := h
    refine gw_icmp_ge 94 d_Mo_sweep_82 (by decide) g1 r3 (fun hc => ?_) (fun hc => ?_)
    · have h := h.1 hc
      refine gw_iload_n 3 d_Mo_sweep_94 rfl rfl ?_
      refine gw_istore 6 d_Mo_sweep_95 (Nat.le_of_ble_eq_true rfl) rfl ?_
      refine gw_iload 5 d_Mo_sweep_97 rfl ?_
      refine gw_iload 5 d_Mo_sweep_99 rfl ?_
      refine gw_iload_n 2 d_Mo_sweep_101 rfl rfl ?_
      refine gw_icmp_ge 110 d_Mo_sweep_102 (by decide) r5 r2 (fun hc => ?_) (fun hc => ?_)
      · have h := h.1 hc
        refine gw_iload 6 d_Mo_sweep_110 rfl ?_
        refine gw_ineg d_Mo_sweep_112 ?_
        refine gw_iadd d_Mo_sweep_113 ?_
        refine gw_istore 5 d_Mo_sweep_114 (Nat.le_of_ble_eq_true rfl) rfl ?_
        refine gw_aload_n 0 d_Mo_sweep_116 rfl rfl ?_
        refine gw_getR d_Mo_sweep_117 fl_Mo_7 (ga_oM) rfl ?_
        refine gw_sipush d_Mo_sweep_120 (by decide +kernel) ?_
        refine gw_iload_n 1 d_Mo_sweep_123 rfl rfl ?_
        refine gw_iadd d_Mo_sweep_124 ?_
        obtain ⟨g2, h⟩ := h
        obtain ⟨g3, h⟩ := h
        refine gw_iald d_Mo_sweep_125 (ga_aM1) g2 g3 ?_
        refine gw_istore 7 d_Mo_sweep_126 (Nat.le_of_ble_eq_true rfl) rfl ?_
        refine gw_iload_n 1 d_Mo_sweep_128 rfl rfl ?_
        refine gw_if_ne 149 d_Mo_sweep_129 (by decide) r1 (fun hc => ?_) (fun hc => ?_)
        · have h := h.1 hc
          refine gw_aload_n 0 d_Mo_sweep_149 rfl rfl ?_
          refine gw_aload_n 0 d_Mo_sweep_150 rfl rfl ?_
          refine gw_getR d_Mo_sweep_151 fl_Mo_7 (ga_oM) rfl ?_
          refine gw_sipush d_Mo_sweep_154 (by decide +kernel) ?_
          refine gw_iald d_Mo_sweep_157 (ga_aM1) (by decide) (by decide) ?_
          refine gw_iload 5 d_Mo_sweep_158 rfl ?_
          obtain ⟨g4, h⟩ := h
          obtain ⟨g5, h⟩ := h
          obtain ⟨g6, h⟩ := h
          obtain ⟨g7, h⟩ := h
          obtain ⟨g8, h⟩ := h
          obtain ⟨g9, h⟩ := h
          obtain ⟨g10, h⟩ := h
          obtain ⟨g11, h⟩ := h
          refine gw_invV (as := [.inl (I 349 234), .inl (v5 + (-v3))]) (k := 348) (rest := []) (d' := (d + 5)) d_Mo_sweep_160 lk_Mo_182 (ga_rcv (ga_oM) rfl rfl) rfl (Nat.le_of_ble_eq_true rfl) (Nat.le_of_ble_eq_true rfl) rfl rfl (s_Mo_moves g4 g5 g6 g7 g8 g9 g10 g11 (fun I1 q1 => ?_))
          have h := h I1 q1
          show ga_W G (d + 6) mt_Mo_sweep 163 [some (.inr 348), some (.inl v1), some (.inl v2), some (.inl v3), some (.inl v4), some (.inl (v5 + (-v3))), some (.inl v3), some (.inl (I 349 (236 + v1).toNat)), none] [.inl (na_mm (I 349) (I 349 234) (v5 + (-v3)))] I1 E
          refine gw_RG (fun hI2 => ?_)
          refine gw_istore 8 d_Mo_sweep_163 (Nat.le_of_ble_eq_true rfl) rfl ?_
          refine gw_iload 4 d_Mo_sweep_165 rfl ?_
          refine gw_iload 8 d_Mo_sweep_167 rfl ?_
          refine gw_ldc (n := (-2000000009)) d_Mo_sweep_169 kw_Mo_67 (by decide +kernel) ?_
          obtain ⟨g12, h⟩ := h
          refine gw_icmp_eq 193 d_Mo_sweep_171 (by decide) g12 ⟨by decide, by decide⟩ (fun hc => ?_) (fun hc => ?_)
          · have h := h.1 hc
            refine gw_iconst d_Mo_sweep_193 ?_
            refine gw_iadd d_Mo_sweep_194 ?_
            refine gw_istore 4 d_Mo_sweep_195 (Nat.le_of_ble_eq_true rfl) rfl ?_
            refine gw_goto 69 d_Mo_sweep_197 (by decide) ?_
            exact gw_le h (by exact ⟨rfl, ⟨rfl, ⟨rfl, ⟨rfl, ⟨rfl, ⟨rfl, trivial⟩⟩⟩⟩⟩⟩)
          · have h := h.2 hc
            refine gw_aload_n 0 d_Mo_sweep_174 rfl rfl ?_
            refine gw_getR d_Mo_sweep_175 fl_Mo_7 (ga_oM) rfl ?_
            refine gw_sipush d_Mo_sweep_178 (by decide +kernel) ?_
            refine gw_iload_n 1 d_Mo_sweep_181 rfl rfl ?_
            refine gw_iadd d_Mo_sweep_182 ?_
            refine gw_iald d_Mo_sweep_183 (ga_aM1) g2 g3 ?_
            refine gw_iload 7 d_Mo_sweep_184 rfl ?_
            refine gw_icmp_eq 193 d_Mo_sweep_186 (by decide) (hI2 _ _) (hI1 _ _) (fun hc => ?_) (fun hc => ?_)
            · have h := h.1 hc
              refine gw_iconst d_Mo_sweep_193 ?_
              refine gw_iadd d_Mo_sweep_194 ?_
              refine gw_istore 4 d_Mo_sweep_195 (Nat.le_of_ble_eq_true rfl) rfl ?_
              refine gw_goto 69 d_Mo_sweep_197 (by decide) ?_
              exact gw_le h (by exact ⟨rfl, ⟨rfl, ⟨rfl, ⟨rfl, ⟨rfl, ⟨rfl, trivial⟩⟩⟩⟩⟩⟩)
            · have h := h.2 hc
              refine gw_iconst d_Mo_sweep_189 ?_
              refine gw_goto 194 d_Mo_sweep_190 (by decide) ?_
              refine gw_iadd d_Mo_sweep_194 ?_
              refine gw_istore 4 d_Mo_sweep_195 (Nat.le_of_ble_eq_true rfl) rfl ?_
              refine gw_goto 69 d_Mo_sweep_197 (by decide) ?_
              exact gw_le h (by exact ⟨rfl, ⟨rfl, ⟨rfl, ⟨rfl, ⟨rfl, ⟨rfl, trivial⟩⟩⟩⟩⟩⟩)
        · have h := h.2 hc
          refine gw_aload_n 0 d_Mo_sweep_132 rfl rfl ?_
          refine gw_iload 5 d_Mo_sweep_133 rfl ?_
          refine gw_aload_n 0 d_Mo_sweep_135 rfl rfl ?_
          refine gw_getR d_Mo_sweep_136 fl_Mo_7 (ga_oM) rfl ?_
          refine gw_sipush d_Mo_sweep_139 (by decide +kernel) ?_
          refine gw_iald d_Mo_sweep_142 (ga_aM1) (by decide) (by decide) ?_
          obtain ⟨g13, h⟩ := h
          obtain ⟨g14, h⟩ := h
          obtain ⟨g15, h⟩ := h
          obtain ⟨g16, h⟩ := h
          obtain ⟨g17, h⟩ := h
          obtain ⟨g18, h⟩ := h
          obtain ⟨g19, h⟩ := h
          obtain ⟨g20, h⟩ := h
          refine gw_invV (as := [.inl (v5 + (-v3)), .inl (I 349 235)]) (k := 348) (rest := []) (d' := (d + 5)) d_Mo_sweep_143 lk_Mo_182 (ga_rcv (ga_oM) rfl rfl) rfl (Nat.le_of_ble_eq_true rfl) (Nat.le_of_ble_eq_true rfl) rfl rfl (s_Mo_moves g13 g14 g15 g16 g17 g18 g19 g20 (fun I2 q2 => ?_))
          have h := h I2 q2
          show ga_W G (d + 6) mt_Mo_sweep 146 [some (.inr 348), some (.inl v1), some (.inl v2), some (.inl v3), some (.inl v4), some (.inl (v5 + (-v3))), some (.inl v3), some (.inl (I 349 (236 + v1).toNat)), none] [.inl (na_mm (I 349) (v5 + (-v3)) (I 349 235))] I2 E
          refine gw_RG (fun hI3 => ?_)
          refine gw_goto 163 d_Mo_sweep_146 (by decide) ?_
          refine gw_istore 8 d_Mo_sweep_163 (Nat.le_of_ble_eq_true rfl) rfl ?_
          refine gw_iload 4 d_Mo_sweep_165 rfl ?_
          refine gw_iload 8 d_Mo_sweep_167 rfl ?_
          refine gw_ldc (n := (-2000000009)) d_Mo_sweep_169 kw_Mo_67 (by decide +kernel) ?_
          obtain ⟨g21, h⟩ := h
          refine gw_icmp_eq 193 d_Mo_sweep_171 (by decide) g21 ⟨by decide, by decide⟩ (fun hc => ?_) (fun hc => ?_)
          · have h := h.1 hc
            refine gw_iconst d_Mo_sweep_193 ?_
            refine gw_iadd d_Mo_sweep_194 ?_
            refine gw_istore 4 d_Mo_sweep_195 (Nat.le_of_ble_eq_true rfl) rfl ?_
            refine gw_goto 69 d_Mo_sweep_197 (by decide) ?_
            exact gw_le h (by exact ⟨rfl, ⟨rfl, ⟨rfl, ⟨rfl, ⟨rfl, ⟨rfl, trivial⟩⟩⟩⟩⟩⟩)
          · have h := h.2 hc
            refine gw_aload_n 0 d_Mo_sweep_174 rfl rfl ?_
            refine gw_getR d_Mo_sweep_175 fl_Mo_7 (ga_oM) rfl ?_
            refine gw_sipush d_Mo_sweep_178 (by decide +kernel) ?_
            refine gw_iload_n 1 d_Mo_sweep_181 rfl rfl ?_
            refine gw_iadd d_Mo_sweep_182 ?_
            refine gw_iald d_Mo_sweep_183 (ga_aM1) g2 g3 ?_
            refine gw_iload 7 d_Mo_sweep_184 rfl ?_
            refine gw_icmp_eq 193 d_Mo_sweep_186 (by decide) (hI3 _ _) (hI1 _ _) (fun hc => ?_) (fun hc => ?_)
            · have h := h.1 hc
              refine gw_iconst d_Mo_sweep_193 ?_
              refine gw_iadd d_Mo_sweep_194 ?_
              refine gw_istore 4 d_Mo_sweep_195 (Nat.le_of_ble_eq_true rfl) rfl ?_
              refine gw_goto 69 d_Mo_sweep_197 (by decide) ?_
              exact gw_le h (by exact ⟨rfl, ⟨rfl, ⟨rfl, ⟨rfl, ⟨rfl, ⟨rfl, trivial⟩⟩⟩⟩⟩⟩)
            · have h := h.2 hc
              refine gw_iconst d_Mo_sweep_189 ?_
              refine gw_goto 194 d_Mo_sweep_190 (by decide) ?_
              refine gw_iadd d_Mo_sweep_194 ?_
              refine gw_istore 4 d_Mo_sweep_195 (Nat.le_of_ble_eq_true rfl) rfl ?_
              refine gw_goto 69 d_Mo_sweep_197 (by decide) ?_
              exact gw_le h (by exact ⟨rfl, ⟨rfl, ⟨rfl, ⟨rfl, ⟨rfl, ⟨rfl, trivial⟩⟩⟩⟩⟩⟩)
      · have h := h.2 hc
        refine gw_iload 6 d_Mo_sweep_105 rfl ?_
        refine gw_goto 113 d_Mo_sweep_107 (by decide) ?_
        refine gw_iadd d_Mo_sweep_113 ?_
        refine gw_istore 5 d_Mo_sweep_114 (Nat.le_of_ble_eq_true rfl) rfl ?_
        refine gw_aload_n 0 d_Mo_sweep_116 rfl rfl ?_
        refine gw_getR d_Mo_sweep_117 fl_Mo_7 (ga_oM) rfl ?_
        refine gw_sipush d_Mo_sweep_120 (by decide +kernel) ?_
        refine gw_iload_n 1 d_Mo_sweep_123 rfl rfl ?_
        refine gw_iadd d_Mo_sweep_124 ?_
        obtain ⟨g22, h⟩ := h
        obtain ⟨g23, h⟩ := h
        refine gw_iald d_Mo_sweep_125 (ga_aM1) g22 g23 ?_
        refine gw_istore 7 d_Mo_sweep_126 (Nat.le_of_ble_eq_true rfl) rfl ?_
        refine gw_iload_n 1 d_Mo_sweep_128 rfl rfl ?_
        refine gw_if_ne 149 d_Mo_sweep_129 (by decide) r1 (fun hc => ?_) (fun hc => ?_)
        · have h := h.1 hc
          refine gw_aload_n 0 d_Mo_sweep_149 rfl rfl ?_
          refine gw_aload_n 0 d_Mo_sweep_150 rfl rfl ?_
          refine gw_getR d_Mo_sweep_151 fl_Mo_7 (ga_oM) rfl ?_
          refine gw_sipush d_Mo_sweep_154 (by decide +kernel) ?_
          refine gw_iald d_Mo_sweep_157 (ga_aM1) (by decide) (by decide) ?_
          refine gw_iload 5 d_Mo_sweep_158 rfl ?_
          obtain ⟨g24, h⟩ := h
          obtain ⟨g25, h⟩ := h
          obtain ⟨g26, h⟩ := h
          obtain ⟨g27, h⟩ := h
          obtain ⟨g28, h⟩ := h
          obtain ⟨g29, h⟩ := h
          obtain ⟨g30, h⟩ := h
          obtain ⟨g31, h⟩ := h
          refine gw_invV (as := [.inl (I 349 234), .inl (v5 + v3)]) (k := 348) (rest := []) (d' := (d + 5)) d_Mo_sweep_160 lk_Mo_182 (ga_rcv (ga_oM) rfl rfl) rfl (Nat.le_of_ble_eq_true rfl) (Nat.le_of_ble_eq_true rfl) rfl rfl (s_Mo_moves g24 g25 g26 g27 g28 g29 g30 g31 (fun I3 q3 => ?_))
          have h := h I3 q3
          show ga_W G (d + 6) mt_Mo_sweep 163 [some (.inr 348), some (.inl v1), some (.inl v2), some (.inl v3), some (.inl v4), some (.inl (v5 + v3)), some (.inl v3), some (.inl (I 349 (236 + v1).toNat)), none] [.inl (na_mm (I 349) (I 349 234) (v5 + v3))] I3 E
          refine gw_RG (fun hI4 => ?_)
          refine gw_istore 8 d_Mo_sweep_163 (Nat.le_of_ble_eq_true rfl) rfl ?_
          refine gw_iload 4 d_Mo_sweep_165 rfl ?_
          refine gw_iload 8 d_Mo_sweep_167 rfl ?_
          refine gw_ldc (n := (-2000000009)) d_Mo_sweep_169 kw_Mo_67 (by decide +kernel) ?_
          obtain ⟨g32, h⟩ := h
          refine gw_icmp_eq 193 d_Mo_sweep_171 (by decide) g32 ⟨by decide, by decide⟩ (fun hc => ?_) (fun hc => ?_)
          · have h := h.1 hc
            refine gw_iconst d_Mo_sweep_193 ?_
            refine gw_iadd d_Mo_sweep_194 ?_
            refine gw_istore 4 d_Mo_sweep_195 (Nat.le_of_ble_eq_true rfl) rfl ?_
            refine gw_goto 69 d_Mo_sweep_197 (by decide) ?_
            exact gw_le h (by exact ⟨rfl, ⟨rfl, ⟨rfl, ⟨rfl, ⟨rfl, ⟨rfl, trivial⟩⟩⟩⟩⟩⟩)
          · have h := h.2 hc
            refine gw_aload_n 0 d_Mo_sweep_174 rfl rfl ?_
            refine gw_getR d_Mo_sweep_175 fl_Mo_7 (ga_oM) rfl ?_
            refine gw_sipush d_Mo_sweep_178 (by decide +kernel) ?_
            refine gw_iload_n 1 d_Mo_sweep_181 rfl rfl ?_
            refine gw_iadd d_Mo_sweep_182 ?_
            refine gw_iald d_Mo_sweep_183 (ga_aM1) g22 g23 ?_
            refine gw_iload 7 d_Mo_sweep_184 rfl ?_
            refine gw_icmp_eq 193 d_Mo_sweep_186 (by decide) (hI4 _ _) (hI1 _ _) (fun hc => ?_) (fun hc => ?_)
            · have h := h.1 hc
              refine gw_iconst d_Mo_sweep_193 ?_
              refine gw_iadd d_Mo_sweep_194 ?_
              refine gw_istore 4 d_Mo_sweep_195 (Nat.le_of_ble_eq_true rfl) rfl ?_
              refine gw_goto 69 d_Mo_sweep_197 (by decide) ?_
              exact gw_le h (by exact ⟨rfl, ⟨rfl, ⟨rfl, ⟨rfl, ⟨rfl, ⟨rfl, trivial⟩⟩⟩⟩⟩⟩)
            · have h := h.2 hc
              refine gw_iconst d_Mo_sweep_189 ?_
              refine gw_goto 194 d_Mo_sweep_190 (by decide) ?_
              refine gw_iadd d_Mo_sweep_194 ?_
              refine gw_istore 4 d_Mo_sweep_195 (Nat.le_of_ble_eq_true rfl) rfl ?_
              refine gw_goto 69 d_Mo_sweep_197 (by decide) ?_
              exact gw_le h (by exact ⟨rfl, ⟨rfl, ⟨rfl, ⟨rfl, ⟨rfl, ⟨rfl, trivial⟩⟩⟩⟩⟩⟩)
        · have h := h.2 hc
          refine gw_aload_n 0 d_Mo_sweep_132 rfl rfl ?_
          refine gw_iload 5 d_Mo_sweep_133 rfl ?_
          refine gw_aload_n 0 d_Mo_sweep_135 rfl rfl ?_
          refine gw_getR d_Mo_sweep_136 fl_Mo_7 (ga_oM) rfl ?_
          refine gw_sipush d_Mo_sweep_139 (by decide +kernel) ?_
          refine gw_iald d_Mo_sweep_142 (ga_aM1) (by decide) (by decide) ?_
          obtain ⟨g33, h⟩ := h
          obtain ⟨g34, h⟩ := h
          obtain ⟨g35, h⟩ := h
          obtain ⟨g36, h⟩ := h
          obtain ⟨g37, h⟩ := h
          obtain ⟨g38, h⟩ := h
          obtain ⟨g39, h⟩ := h
          obtain ⟨g40, h⟩ := h
          refine gw_invV (as := [.inl (v5 + v3), .inl (I 349 235)]) (k := 348) (rest := []) (d' := (d + 5)) d_Mo_sweep_143 lk_Mo_182 (ga_rcv (ga_oM) rfl rfl) rfl (Nat.le_of_ble_eq_true rfl) (Nat.le_of_ble_eq_true rfl) rfl rfl (s_Mo_moves g33 g34 g35 g36 g37 g38 g39 g40 (fun I4 q4 => ?_))
          have h := h I4 q4
          show ga_W G (d + 6) mt_Mo_sweep 146 [some (.inr 348), some (.inl v1), some (.inl v2), some (.inl v3), some (.inl v4), some (.inl (v5 + v3)), some (.inl v3), some (.inl (I 349 (236 + v1).toNat)), none] [.inl (na_mm (I 349) (v5 + v3) (I 349 235))] I4 E
          refine gw_RG (fun hI5 => ?_)
          refine gw_goto 163 d_Mo_sweep_146 (by decide) ?_
          refine gw_istore 8 d_Mo_sweep_163 (Nat.le_of_ble_eq_true rfl) rfl ?_
          refine gw_iload 4 d_Mo_sweep_165 rfl ?_
          refine gw_iload 8 d_Mo_sweep_167 rfl ?_
          refine gw_ldc (n := (-2000000009)) d_Mo_sweep_169 kw_Mo_67 (by decide +kernel) ?_
          obtain ⟨g41, h⟩ := h
          refine gw_icmp_eq 193 d_Mo_sweep_171 (by decide) g41 ⟨by decide, by decide⟩ (fun hc => ?_) (fun hc => ?_)
          · have h := h.1 hc
            refine gw_iconst d_Mo_sweep_193 ?_
            refine gw_iadd d_Mo_sweep_194 ?_
            refine gw_istore 4 d_Mo_sweep_195 (Nat.le_of_ble_eq_true rfl) rfl ?_
            refine gw_goto 69 d_Mo_sweep_197 (by decide) ?_
            exact gw_le h (by exact ⟨rfl, ⟨rfl, ⟨rfl, ⟨rfl, ⟨rfl, ⟨rfl, trivial⟩⟩⟩⟩⟩⟩)
          · have h := h.2 hc
            refine gw_aload_n 0 d_Mo_sweep_174 rfl rfl ?_
            refine gw_getR d_Mo_sweep_175 fl_Mo_7 (ga_oM) rfl ?_
            refine gw_sipush d_Mo_sweep_178 (by decide +kernel) ?_
            refine gw_iload_n 1 d_Mo_sweep_181 rfl rfl ?_
            refine gw_iadd d_Mo_sweep_182 ?_
            refine gw_iald d_Mo_sweep_183 (ga_aM1) g22 g23 ?_
            refine gw_iload 7 d_Mo_sweep_184 rfl ?_
            refine gw_icmp_eq 193 d_Mo_sweep_186 (by decide) (hI5 _ _) (hI1 _ _) (fun hc => ?_) (fun hc => ?_)
            · have h := h.1 hc
              refine gw_iconst d_Mo_sweep_193 ?_
              refine gw_iadd d_Mo_sweep_194 ?_
              refine gw_istore 4 d_Mo_sweep_195 (Nat.le_of_ble_eq_true rfl) rfl ?_
              refine gw_goto 69 d_Mo_sweep_197 (by decide) ?_
              exact gw_le h (by exact ⟨rfl, ⟨rfl, ⟨rfl, ⟨rfl, ⟨rfl, ⟨rfl, trivial⟩⟩⟩⟩⟩⟩)
            · have h := h.2 hc
              refine gw_iconst d_Mo_sweep_189 ?_
              refine gw_goto 194 d_Mo_sweep_190 (by decide) ?_
              refine gw_iadd d_Mo_sweep_194 ?_
              refine gw_istore 4 d_Mo_sweep_195 (Nat.le_of_ble_eq_true rfl) rfl ?_
              refine gw_goto 69 d_Mo_sweep_197 (by decide) ?_
              exact gw_le h (by exact ⟨rfl, ⟨rfl, ⟨rfl, ⟨rfl, ⟨rfl, ⟨rfl, trivial⟩⟩⟩⟩⟩⟩)
    · have h := h.2 hc
      refine gw_iload 5 d_Mo_sweep_85 rfl ?_
      refine gw_iload_n 2 d_Mo_sweep_87 rfl rfl ?_
      refine gw_invS (as := [.inl v5, .inl v2]) (rest := []) (d' := (d + 5)) d_Mo_sweep_88 lk_Mo_85 rfl (Nat.le_of_ble_eq_true rfl) (Nat.le_of_ble_eq_true rfl) rfl rfl (s_Mo_apart r5 r2 ?_)
      show ga_W G (d + 6) mt_Mo_sweep 91 [some (.inr 348), some (.inl v1), some (.inl v2), some (.inl v3), some (.inl v4), some (.inl v5), none, none, none] [.inl ((v5 - v2).natAbs : Int)] I E
      refine gw_goto 95 d_Mo_sweep_91 (by decide) ?_
      refine gw_istore 6 d_Mo_sweep_95 (Nat.le_of_ble_eq_true rfl) rfl ?_
      refine gw_iload 5 d_Mo_sweep_97 rfl ?_
      refine gw_iload 5 d_Mo_sweep_99 rfl ?_
      refine gw_iload_n 2 d_Mo_sweep_101 rfl rfl ?_
      refine gw_icmp_ge 110 d_Mo_sweep_102 (by decide) r5 r2 (fun hc => ?_) (fun hc => ?_)
      · have h := h.1 hc
        refine gw_iload 6 d_Mo_sweep_110 rfl ?_
        refine gw_ineg d_Mo_sweep_112 ?_
        refine gw_iadd d_Mo_sweep_113 ?_
        refine gw_istore 5 d_Mo_sweep_114 (Nat.le_of_ble_eq_true rfl) rfl ?_
        refine gw_aload_n 0 d_Mo_sweep_116 rfl rfl ?_
        refine gw_getR d_Mo_sweep_117 fl_Mo_7 (ga_oM) rfl ?_
        refine gw_sipush d_Mo_sweep_120 (by decide +kernel) ?_
        refine gw_iload_n 1 d_Mo_sweep_123 rfl rfl ?_
        refine gw_iadd d_Mo_sweep_124 ?_
        obtain ⟨g42, h⟩ := h
        obtain ⟨g43, h⟩ := h
        refine gw_iald d_Mo_sweep_125 (ga_aM1) g42 g43 ?_
        refine gw_istore 7 d_Mo_sweep_126 (Nat.le_of_ble_eq_true rfl) rfl ?_
        refine gw_iload_n 1 d_Mo_sweep_128 rfl rfl ?_
        refine gw_if_ne 149 d_Mo_sweep_129 (by decide) r1 (fun hc => ?_) (fun hc => ?_)
        · have h := h.1 hc
          refine gw_aload_n 0 d_Mo_sweep_149 rfl rfl ?_
          refine gw_aload_n 0 d_Mo_sweep_150 rfl rfl ?_
          refine gw_getR d_Mo_sweep_151 fl_Mo_7 (ga_oM) rfl ?_
          refine gw_sipush d_Mo_sweep_154 (by decide +kernel) ?_
          refine gw_iald d_Mo_sweep_157 (ga_aM1) (by decide) (by decide) ?_
          refine gw_iload 5 d_Mo_sweep_158 rfl ?_
          obtain ⟨g44, h⟩ := h
          obtain ⟨g45, h⟩ := h
          obtain ⟨g46, h⟩ := h
          obtain ⟨g47, h⟩ := h
          obtain ⟨g48, h⟩ := h
          obtain ⟨g49, h⟩ := h
          obtain ⟨g50, h⟩ := h
          obtain ⟨g51, h⟩ := h
          refine gw_invV (as := [.inl (I 349 234), .inl (v5 + (-((v5 - v2).natAbs : Int)))]) (k := 348) (rest := []) (d' := (d + 5)) d_Mo_sweep_160 lk_Mo_182 (ga_rcv (ga_oM) rfl rfl) rfl (Nat.le_of_ble_eq_true rfl) (Nat.le_of_ble_eq_true rfl) rfl rfl (s_Mo_moves g44 g45 g46 g47 g48 g49 g50 g51 (fun I5 q5 => ?_))
          have h := h I5 q5
          show ga_W G (d + 6) mt_Mo_sweep 163 [some (.inr 348), some (.inl v1), some (.inl v2), some (.inl v3), some (.inl v4), some (.inl (v5 + (-((v5 - v2).natAbs : Int)))), some (.inl ((v5 - v2).natAbs : Int)), some (.inl (I 349 (236 + v1).toNat)), none] [.inl (na_mm (I 349) (I 349 234) (v5 + (-((v5 - v2).natAbs : Int))))] I5 E
          refine gw_RG (fun hI6 => ?_)
          refine gw_istore 8 d_Mo_sweep_163 (Nat.le_of_ble_eq_true rfl) rfl ?_
          refine gw_iload 4 d_Mo_sweep_165 rfl ?_
          refine gw_iload 8 d_Mo_sweep_167 rfl ?_
          refine gw_ldc (n := (-2000000009)) d_Mo_sweep_169 kw_Mo_67 (by decide +kernel) ?_
          obtain ⟨g52, h⟩ := h
          refine gw_icmp_eq 193 d_Mo_sweep_171 (by decide) g52 ⟨by decide, by decide⟩ (fun hc => ?_) (fun hc => ?_)
          · have h := h.1 hc
            refine gw_iconst d_Mo_sweep_193 ?_
            refine gw_iadd d_Mo_sweep_194 ?_
            refine gw_istore 4 d_Mo_sweep_195 (Nat.le_of_ble_eq_true rfl) rfl ?_
            refine gw_goto 69 d_Mo_sweep_197 (by decide) ?_
            exact gw_le h (by exact ⟨rfl, ⟨rfl, ⟨rfl, ⟨rfl, ⟨rfl, ⟨rfl, trivial⟩⟩⟩⟩⟩⟩)
          · have h := h.2 hc
            refine gw_aload_n 0 d_Mo_sweep_174 rfl rfl ?_
            refine gw_getR d_Mo_sweep_175 fl_Mo_7 (ga_oM) rfl ?_
            refine gw_sipush d_Mo_sweep_178 (by decide +kernel) ?_
            refine gw_iload_n 1 d_Mo_sweep_181 rfl rfl ?_
            refine gw_iadd d_Mo_sweep_182 ?_
            refine gw_iald d_Mo_sweep_183 (ga_aM1) g42 g43 ?_
            refine gw_iload 7 d_Mo_sweep_184 rfl ?_
            refine gw_icmp_eq 193 d_Mo_sweep_186 (by decide) (hI6 _ _) (hI1 _ _) (fun hc => ?_) (fun hc => ?_)
            · have h := h.1 hc
              refine gw_iconst d_Mo_sweep_193 ?_
              refine gw_iadd d_Mo_sweep_194 ?_
              refine gw_istore 4 d_Mo_sweep_195 (Nat.le_of_ble_eq_true rfl) rfl ?_
              refine gw_goto 69 d_Mo_sweep_197 (by decide) ?_
              exact gw_le h (by exact ⟨rfl, ⟨rfl, ⟨rfl, ⟨rfl, ⟨rfl, ⟨rfl, trivial⟩⟩⟩⟩⟩⟩)
            · have h := h.2 hc
              refine gw_iconst d_Mo_sweep_189 ?_
              refine gw_goto 194 d_Mo_sweep_190 (by decide) ?_
              refine gw_iadd d_Mo_sweep_194 ?_
              refine gw_istore 4 d_Mo_sweep_195 (Nat.le_of_ble_eq_true rfl) rfl ?_
              refine gw_goto 69 d_Mo_sweep_197 (by decide) ?_
              exact gw_le h (by exact ⟨rfl, ⟨rfl, ⟨rfl, ⟨rfl, ⟨rfl, ⟨rfl, trivial⟩⟩⟩⟩⟩⟩)
        · have h := h.2 hc
          refine gw_aload_n 0 d_Mo_sweep_132 rfl rfl ?_
          refine gw_iload 5 d_Mo_sweep_133 rfl ?_
          refine gw_aload_n 0 d_Mo_sweep_135 rfl rfl ?_
          refine gw_getR d_Mo_sweep_136 fl_Mo_7 (ga_oM) rfl ?_
          refine gw_sipush d_Mo_sweep_139 (by decide +kernel) ?_
          refine gw_iald d_Mo_sweep_142 (ga_aM1) (by decide) (by decide) ?_
          obtain ⟨g53, h⟩ := h
          obtain ⟨g54, h⟩ := h
          obtain ⟨g55, h⟩ := h
          obtain ⟨g56, h⟩ := h
          obtain ⟨g57, h⟩ := h
          obtain ⟨g58, h⟩ := h
          obtain ⟨g59, h⟩ := h
          obtain ⟨g60, h⟩ := h
          refine gw_invV (as := [.inl (v5 + (-((v5 - v2).natAbs : Int))), .inl (I 349 235)]) (k := 348) (rest := []) (d' := (d + 5)) d_Mo_sweep_143 lk_Mo_182 (ga_rcv (ga_oM) rfl rfl) rfl (Nat.le_of_ble_eq_true rfl) (Nat.le_of_ble_eq_true rfl) rfl rfl (s_Mo_moves g53 g54 g55 g56 g57 g58 g59 g60 (fun I6 q6 => ?_))
          have h := h I6 q6
          show ga_W G (d + 6) mt_Mo_sweep 146 [some (.inr 348), some (.inl v1), some (.inl v2), some (.inl v3), some (.inl v4), some (.inl (v5 + (-((v5 - v2).natAbs : Int)))), some (.inl ((v5 - v2).natAbs : Int)), some (.inl (I 349 (236 + v1).toNat)), none] [.inl (na_mm (I 349) (v5 + (-((v5 - v2).natAbs : Int))) (I 349 235))] I6 E
          refine gw_RG (fun hI7 => ?_)
          refine gw_goto 163 d_Mo_sweep_146 (by decide) ?_
          refine gw_istore 8 d_Mo_sweep_163 (Nat.le_of_ble_eq_true rfl) rfl ?_
          refine gw_iload 4 d_Mo_sweep_165 rfl ?_
          refine gw_iload 8 d_Mo_sweep_167 rfl ?_
          refine gw_ldc (n := (-2000000009)) d_Mo_sweep_169 kw_Mo_67 (by decide +kernel) ?_
          obtain ⟨g61, h⟩ := h
          refine gw_icmp_eq 193 d_Mo_sweep_171 (by decide) g61 ⟨by decide, by decide⟩ (fun hc => ?_) (fun hc => ?_)
          · have h := h.1 hc
            refine gw_iconst d_Mo_sweep_193 ?_
            refine gw_iadd d_Mo_sweep_194 ?_
            refine gw_istore 4 d_Mo_sweep_195 (Nat.le_of_ble_eq_true rfl) rfl ?_
            refine gw_goto 69 d_Mo_sweep_197 (by decide) ?_
            exact gw_le h (by exact ⟨rfl, ⟨rfl, ⟨rfl, ⟨rfl, ⟨rfl, ⟨rfl, trivial⟩⟩⟩⟩⟩⟩)
          · have h := h.2 hc
            refine gw_aload_n 0 d_Mo_sweep_174 rfl rfl ?_
            refine gw_getR d_Mo_sweep_175 fl_Mo_7 (ga_oM) rfl ?_
            refine gw_sipush d_Mo_sweep_178 (by decide +kernel) ?_
            refine gw_iload_n 1 d_Mo_sweep_181 rfl rfl ?_
            refine gw_iadd d_Mo_sweep_182 ?_
            refine gw_iald d_Mo_sweep_183 (ga_aM1) g42 g43 ?_
            refine gw_iload 7 d_Mo_sweep_184 rfl ?_
            refine gw_icmp_eq 193 d_Mo_sweep_186 (by decide) (hI7 _ _) (hI1 _ _) (fun hc => ?_) (fun hc => ?_)
            · have h := h.1 hc
              refine gw_iconst d_Mo_sweep_193 ?_
              refine gw_iadd d_Mo_sweep_194 ?_
              refine gw_istore 4 d_Mo_sweep_195 (Nat.le_of_ble_eq_true rfl) rfl ?_
              refine gw_goto 69 d_Mo_sweep_197 (by decide) ?_
              exact gw_le h (by exact ⟨rfl, ⟨rfl, ⟨rfl, ⟨rfl, ⟨rfl, ⟨rfl, trivial⟩⟩⟩⟩⟩⟩)
            · have h := h.2 hc
              refine gw_iconst d_Mo_sweep_189 ?_
              refine gw_goto 194 d_Mo_sweep_190 (by decide) ?_
              refine gw_iadd d_Mo_sweep_194 ?_
              refine gw_istore 4 d_Mo_sweep_195 (Nat.le_of_ble_eq_true rfl) rfl ?_
              refine gw_goto 69 d_Mo_sweep_197 (by decide) ?_
              exact gw_le h (by exact ⟨rfl, ⟨rfl, ⟨rfl, ⟨rfl, ⟨rfl, ⟨rfl, trivial⟩⟩⟩⟩⟩⟩)
      · have h := h.2 hc
        refine gw_iload 6 d_Mo_sweep_105 rfl ?_
        refine gw_goto 113 d_Mo_sweep_107 (by decide) ?_
        refine gw_iadd d_Mo_sweep_113 ?_
        refine gw_istore 5 d_Mo_sweep_114 (Nat.le_of_ble_eq_true rfl) rfl ?_
        refine gw_aload_n 0 d_Mo_sweep_116 rfl rfl ?_
        refine gw_getR d_Mo_sweep_117 fl_Mo_7 (ga_oM) rfl ?_
        refine gw_sipush d_Mo_sweep_120 (by decide +kernel) ?_
        refine gw_iload_n 1 d_Mo_sweep_123 rfl rfl ?_
        refine gw_iadd d_Mo_sweep_124 ?_
        obtain ⟨g62, h⟩ := h
        obtain ⟨g63, h⟩ := h
        refine gw_iald d_Mo_sweep_125 (ga_aM1) g62 g63 ?_
        refine gw_istore 7 d_Mo_sweep_126 (Nat.le_of_ble_eq_true rfl) rfl ?_
        refine gw_iload_n 1 d_Mo_sweep_128 rfl rfl ?_
        refine gw_if_ne 149 d_Mo_sweep_129 (by decide) r1 (fun hc => ?_) (fun hc => ?_)
        · have h := h.1 hc
          refine gw_aload_n 0 d_Mo_sweep_149 rfl rfl ?_
          refine gw_aload_n 0 d_Mo_sweep_150 rfl rfl ?_
          refine gw_getR d_Mo_sweep_151 fl_Mo_7 (ga_oM) rfl ?_
          refine gw_sipush d_Mo_sweep_154 (by decide +kernel) ?_
          refine gw_iald d_Mo_sweep_157 (ga_aM1) (by decide) (by decide) ?_
          refine gw_iload 5 d_Mo_sweep_158 rfl ?_
          obtain ⟨g64, h⟩ := h
          obtain ⟨g65, h⟩ := h
          obtain ⟨g66, h⟩ := h
          obtain ⟨g67, h⟩ := h
          obtain ⟨g68, h⟩ := h
          obtain ⟨g69, h⟩ := h
          obtain ⟨g70, h⟩ := h
          obtain ⟨g71, h⟩ := h
          refine gw_invV (as := [.inl (I 349 234), .inl (v5 + ((v5 - v2).natAbs : Int))]) (k := 348) (rest := []) (d' := (d + 5)) d_Mo_sweep_160 lk_Mo_182 (ga_rcv (ga_oM) rfl rfl) rfl (Nat.le_of_ble_eq_true rfl) (Nat.le_of_ble_eq_true rfl) rfl rfl (s_Mo_moves g64 g65 g66 g67 g68 g69 g70 g71 (fun I7 q7 => ?_))
          have h := h I7 q7
          show ga_W G (d + 6) mt_Mo_sweep 163 [some (.inr 348), some (.inl v1), some (.inl v2), some (.inl v3), some (.inl v4), some (.inl (v5 + ((v5 - v2).natAbs : Int))), some (.inl ((v5 - v2).natAbs : Int)), some (.inl (I 349 (236 + v1).toNat)), none] [.inl (na_mm (I 349) (I 349 234) (v5 + ((v5 - v2).natAbs : Int)))] I7 E
          refine gw_RG (fun hI8 => ?_)
          refine gw_istore 8 d_Mo_sweep_163 (Nat.le_of_ble_eq_true rfl) rfl ?_
          refine gw_iload 4 d_Mo_sweep_165 rfl ?_
          refine gw_iload 8 d_Mo_sweep_167 rfl ?_
          refine gw_ldc (n := (-2000000009)) d_Mo_sweep_169 kw_Mo_67 (by decide +kernel) ?_
          obtain ⟨g72, h⟩ := h
          refine gw_icmp_eq 193 d_Mo_sweep_171 (by decide) g72 ⟨by decide, by decide⟩ (fun hc => ?_) (fun hc => ?_)
          · have h := h.1 hc
            refine gw_iconst d_Mo_sweep_193 ?_
            refine gw_iadd d_Mo_sweep_194 ?_
            refine gw_istore 4 d_Mo_sweep_195 (Nat.le_of_ble_eq_true rfl) rfl ?_
            refine gw_goto 69 d_Mo_sweep_197 (by decide) ?_
            exact gw_le h (by exact ⟨rfl, ⟨rfl, ⟨rfl, ⟨rfl, ⟨rfl, ⟨rfl, trivial⟩⟩⟩⟩⟩⟩)
          · have h := h.2 hc
            refine gw_aload_n 0 d_Mo_sweep_174 rfl rfl ?_
            refine gw_getR d_Mo_sweep_175 fl_Mo_7 (ga_oM) rfl ?_
            refine gw_sipush d_Mo_sweep_178 (by decide +kernel) ?_
            refine gw_iload_n 1 d_Mo_sweep_181 rfl rfl ?_
            refine gw_iadd d_Mo_sweep_182 ?_
            refine gw_iald d_Mo_sweep_183 (ga_aM1) g62 g63 ?_
            refine gw_iload 7 d_Mo_sweep_184 rfl ?_
            refine gw_icmp_eq 193 d_Mo_sweep_186 (by decide) (hI8 _ _) (hI1 _ _) (fun hc => ?_) (fun hc => ?_)
            · have h := h.1 hc
              refine gw_iconst d_Mo_sweep_193 ?_
              refine gw_iadd d_Mo_sweep_194 ?_
              refine gw_istore 4 d_Mo_sweep_195 (Nat.le_of_ble_eq_true rfl) rfl ?_
              refine gw_goto 69 d_Mo_sweep_197 (by decide) ?_
              exact gw_le h (by exact ⟨rfl, ⟨rfl, ⟨rfl, ⟨rfl, ⟨rfl, ⟨rfl, trivial⟩⟩⟩⟩⟩⟩)
            · have h := h.2 hc
              refine gw_iconst d_Mo_sweep_189 ?_
              refine gw_goto 194 d_Mo_sweep_190 (by decide) ?_
              refine gw_iadd d_Mo_sweep_194 ?_
              refine gw_istore 4 d_Mo_sweep_195 (Nat.le_of_ble_eq_true rfl) rfl ?_
              refine gw_goto 69 d_Mo_sweep_197 (by decide) ?_
              exact gw_le h (by exact ⟨rfl, ⟨rfl, ⟨rfl, ⟨rfl, ⟨rfl, ⟨rfl, trivial⟩⟩⟩⟩⟩⟩)
        · have h := h.2 hc
          refine gw_aload_n 0 d_Mo_sweep_132 rfl rfl ?_
          refine gw_iload 5 d_Mo_sweep_133 rfl ?_
          refine gw_aload_n 0 d_Mo_sweep_135 rfl rfl ?_
          refine gw_getR d_Mo_sweep_136 fl_Mo_7 (ga_oM) rfl ?_
          refine gw_sipush d_Mo_sweep_139 (by decide +kernel) ?_
          refine gw_iald d_Mo_sweep_142 (ga_aM1) (by decide) (by decide) ?_
          obtain ⟨g73, h⟩ := h
          obtain ⟨g74, h⟩ := h
          obtain ⟨g75, h⟩ := h
          obtain ⟨g76, h⟩ := h
          obtain ⟨g77, h⟩ := h
          obtain ⟨g78, h⟩ := h
          obtain ⟨g79, h⟩ := h
          obtain ⟨g80, h⟩ := h
          refine gw_invV (as := [.inl (v5 + ((v5 - v2).natAbs : Int)), .inl (I 349 235)]) (k := 348) (rest := []) (d' := (d + 5)) d_Mo_sweep_143 lk_Mo_182 (ga_rcv (ga_oM) rfl rfl) rfl (Nat.le_of_ble_eq_true rfl) (Nat.le_of_ble_eq_true rfl) rfl rfl (s_Mo_moves g73 g74 g75 g76 g77 g78 g79 g80 (fun I8 q8 => ?_))
          have h := h I8 q8
          show ga_W G (d + 6) mt_Mo_sweep 146 [some (.inr 348), some (.inl v1), some (.inl v2), some (.inl v3), some (.inl v4), some (.inl (v5 + ((v5 - v2).natAbs : Int))), some (.inl ((v5 - v2).natAbs : Int)), some (.inl (I 349 (236 + v1).toNat)), none] [.inl (na_mm (I 349) (v5 + ((v5 - v2).natAbs : Int)) (I 349 235))] I8 E
          refine gw_RG (fun hI9 => ?_)
          refine gw_goto 163 d_Mo_sweep_146 (by decide) ?_
          refine gw_istore 8 d_Mo_sweep_163 (Nat.le_of_ble_eq_true rfl) rfl ?_
          refine gw_iload 4 d_Mo_sweep_165 rfl ?_
          refine gw_iload 8 d_Mo_sweep_167 rfl ?_
          refine gw_ldc (n := (-2000000009)) d_Mo_sweep_169 kw_Mo_67 (by decide +kernel) ?_
          obtain ⟨g81, h⟩ := h
          refine gw_icmp_eq 193 d_Mo_sweep_171 (by decide) g81 ⟨by decide, by decide⟩ (fun hc => ?_) (fun hc => ?_)
          · have h := h.1 hc
            refine gw_iconst d_Mo_sweep_193 ?_
            refine gw_iadd d_Mo_sweep_194 ?_
            refine gw_istore 4 d_Mo_sweep_195 (Nat.le_of_ble_eq_true rfl) rfl ?_
            refine gw_goto 69 d_Mo_sweep_197 (by decide) ?_
            exact gw_le h (by exact ⟨rfl, ⟨rfl, ⟨rfl, ⟨rfl, ⟨rfl, ⟨rfl, trivial⟩⟩⟩⟩⟩⟩)
          · have h := h.2 hc
            refine gw_aload_n 0 d_Mo_sweep_174 rfl rfl ?_
            refine gw_getR d_Mo_sweep_175 fl_Mo_7 (ga_oM) rfl ?_
            refine gw_sipush d_Mo_sweep_178 (by decide +kernel) ?_
            refine gw_iload_n 1 d_Mo_sweep_181 rfl rfl ?_
            refine gw_iadd d_Mo_sweep_182 ?_
            refine gw_iald d_Mo_sweep_183 (ga_aM1) g62 g63 ?_
            refine gw_iload 7 d_Mo_sweep_184 rfl ?_
            refine gw_icmp_eq 193 d_Mo_sweep_186 (by decide) (hI9 _ _) (hI1 _ _) (fun hc => ?_) (fun hc => ?_)
            · have h := h.1 hc
              refine gw_iconst d_Mo_sweep_193 ?_
              refine gw_iadd d_Mo_sweep_194 ?_
              refine gw_istore 4 d_Mo_sweep_195 (Nat.le_of_ble_eq_true rfl) rfl ?_
              refine gw_goto 69 d_Mo_sweep_197 (by decide) ?_
              exact gw_le h (by exact ⟨rfl, ⟨rfl, ⟨rfl, ⟨rfl, ⟨rfl, ⟨rfl, trivial⟩⟩⟩⟩⟩⟩)
            · have h := h.2 hc
              refine gw_iconst d_Mo_sweep_189 ?_
              refine gw_goto 194 d_Mo_sweep_190 (by decide) ?_
              refine gw_iadd d_Mo_sweep_194 ?_
              refine gw_istore 4 d_Mo_sweep_195 (Nat.le_of_ble_eq_true rfl) rfl ?_
              refine gw_goto 69 d_Mo_sweep_197 (by decide) ?_
              exact gw_le h (by exact ⟨rfl, ⟨rfl, ⟨rfl, ⟨rfl, ⟨rfl, ⟨rfl, trivial⟩⟩⟩⟩⟩⟩)

section MO
variable {G : ga_G} {d : Nat} {I : ga_I} {E : Option ga_V → ga_I → Prop}
theorem ni_z_of {s s' : Nat → Int} (h : ni_t s) (e : ∀ j, j < 38 → s' j = s j) (hz : (0 ≤ s' 236 ∧ s' 236 ≤ gp_ct (gp_sk (ms_q s 0)) (ms_n s 0).toNat) ∧ (0 ≤ s' 237 ∧ s' 237 ≤ gp_ct (gp_sk (ms_q s 1)) (ms_n s 1).toNat)) : ni_z s' := by
  have c0 := mo_ct_of (I := fun _ => s) (J := fun _ => s') e (ax := 0) (by omega) h.1
  have c1 := mo_ct_of (I := fun _ => s) (J := fun _ => s') e (ax := 1) (by omega) h.2.1
  unfold ni_z
  rw [c0, c1]
  exact hz
theorem ni_of {s s' : Nat → Int} (h : ni_s s) (e1 : ∀ j, j < 234 → s' j = s j) (e2 : ∀ j, 415 ≤ j → s' j = s j) (hp : (0 ≤ s' 234 ∧ s' 234 ≤ 1000) ∧ (0 ≤ s' 235 ∧ s' 235 ≤ 1000)) (hz : (0 ≤ s' 236 ∧ s' 236 ≤ gp_ct (gp_sk (ms_q s 0)) (ms_n s 0).toNat) ∧ (0 ≤ s' 237 ∧ s' 237 ≤ gp_ct (gp_sk (ms_q s 1)) (ms_n s 1).toNat)) (hn : 0 ≤ s' 254 ∧ s' 254 ≤ 20) : ni_s s' := by
  refine ⟨ni_t_of e1 h.1, hp, ni_z_of h.1 (fun j hj => e1 j (by omega)) hz, hn, fun p hp2 => ?_⟩
  have := h.2.2.2.2 p hp2
  rw [e2 _ (by omega)]
  refine ⟨this.1, fun q => ni_t_of (fun j hj => ?_) (this.2 q)⟩
  exact e2 _ (by omega)
theorem ni_of2 {s s' : Nat → Int} (h : ni_s s) (e : ∀ j, (j < 38 ∨ (234 ≤ j ∧ j < 238) ∨ j = 254 ∨ 415 ≤ j) → s' j = s j) (hg : ∀ g i : Nat, g < 49 → i < 3 → 0 ≤ s' (38 + 4 * g + i) ∧ s' (38 + 4 * g + i) ≤ 9999) (hl : ∀ g : Nat, g < 49 → -1 ≤ s' (38 + 4 * g + 3) ∧ s' (38 + 4 * g + 3) ≤ 2) : ni_s s' := by
  have u : ∀ ax, 0 ≤ ax ∧ ax ≤ 1 → ms_n s' ax = ms_n s ax ∧ ∀ b, b < 6 → ms_p s' ax b = ms_p s ax b ∧ ms_q s' ax b = ms_q s ax b ∧ ms_r s' ax b = ms_r s ax b := fun ax ha => ⟨e _ (by omega), fun b hb => ⟨e _ (by omega), e _ (by omega), e _ (by omega)⟩⟩
  refine ⟨⟨gp_ok_of h.1.1 (u 0 (by omega)).1 (u 0 (by omega)).2, gp_ok_of h.1.2.1 (u 1 (by omega)).1 (u 1 (by omega)).2, hg, hl⟩, ?_, ni_z_of h.1 (fun j hj => e j (by omega)) ?_, ?_, fun p hp2 => ?_⟩
  · rw [e 234 (by omega), e 235 (by omega)]; exact h.2.1
  · rw [e 236 (by omega), e 237 (by omega)]; exact h.2.2.1
  · rw [e 254 (by omega)]; exact h.2.2.2.1
  · have := h.2.2.2.2 p hp2
    rw [e _ (by omega)]
    refine ⟨this.1, fun q => ni_t_of (fun j hj => ?_) (this.2 q)⟩
    exact e _ (by omega)
theorem ni_t1 {s : Nat → Int} {x y : Int} (h : ni_s s) (hx : 0 ≤ x ∧ x ≤ 1000) (hy : 0 ≤ y ∧ y ≤ 1000) : ni_s (ns_t1 s x y) := by
  have hz := ns_go_zn (I := fun _ => s) h.1.1 h.1.2.1 h.2.2.1 x y
  have lo : ∀ j, j < 234 ∨ 254 ≤ j → ns_t1 s x y j = s j := fun j hj => by rw [ns_t1_o (by omega), ns_go_o (by omega)]
  refine ni_of h (fun j hj => lo j (by omega)) (fun j hj => lo j (by omega)) ?_ ?_ ?_
  · rw [ns_t1_o (by omega), ns_t1_o (by omega), ns_go_v.1, ns_go_v.2.1]; exact ⟨hx, hy⟩
  · rw [ns_t1_o (by omega), ns_t1_o (by omega)]; exact hz
  · rw [lo _ (by omega)]; exact h.2.2.2.1
theorem ni_pv {s : Nat → Int} (h : ni_s s) {g : Int} (hg : 0 ≤ g ∧ g ≤ 2) : 0 ≤ mp_pv s g ∧ mp_pv s g ≤ 9999 := by
  obtain ⟨a0, a1, a2, a3, a4, a5⟩ := ni_all (I := fun _ => s) rfl h
  have e := mp_pv_bd (I := fun _ => s) a0 a1 a3 hg a5
  exact e
theorem ns_by_bd {s t : Nat → Int} (hs : ni_s s) (ht : ni_s t) : 0 ≤ ns_by s t ∧ ns_by s t ≤ 9999 := by
  have a0 := ni_pv hs (g := 0) (by omega)
  have a1 := ni_pv hs (g := 1) (by omega)
  have a2 := ni_pv hs (g := 2) (by omega)
  have b0 := ni_pv ht (g := 0) (by omega)
  have b1 := ni_pv ht (g := 1) (by omega)
  have b2 := ni_pv ht (g := 2) (by omega)
  unfold ns_by gp_j3
  constructor <;> omega
theorem na_mm_bd {s : Nat → Int} {x y : Int} (h : ni_s s) (hx : 0 ≤ x ∧ x ≤ 1000) (hy : 0 ≤ y ∧ y ≤ 1000) : ga_rg (na_mm s x y) ∧ (na_mm s x y = -2000000009 → na_ig s x y) := by
  have hb := ns_by_bd h (ni_t1 h hx hy)
  unfold na_mm
  by_cases q : na_ig s x y
  · rw [if_pos q]; exact ⟨⟨by omega, by omega⟩, fun _ => q⟩
  · rw [if_neg q]; exact ⟨⟨by omega, by omega⟩, fun w => by exfalso; omega⟩
theorem ni_mm {s : Nat → Int} {x y : Int} (h : ni_s s) (hx : 0 ≤ x ∧ x ≤ 1000) (hy : 0 ≤ y ∧ y ≤ 1000) : ni_s (ns_mm s x y) := by
  unfold ns_mm
  by_cases q : na_ig s x y
  · rw [if_pos q]
    refine ni_of h (fun j hj => ns_up_ne (by omega)) (fun j hj => ns_up_ne (by omega)) ?_ ?_ ?_
    · rw [ns_up_ne (by omega), ns_up_ne (by omega)]; exact h.2.1
    · rw [ns_up_ne (by omega), ns_up_ne (by omega)]; exact h.2.2.1
    · rw [ns_up_ne (by omega)]; exact h.2.2.2.1
  · rw [if_neg q]
    have ht := ni_t1 h hx hy
    have hE : 255 ≤ ns_e (ns_t1 s x y) ∧ ns_e (ns_t1 s x y) ≤ 407 := by unfold ns_e; omega
    have hne : ∀ j, j < 254 ∨ 407 ≤ j → ns_ne (ns_t1 s x y) j = ns_t1 s x y j := fun j hj => by
      unfold ns_ne
      by_cases w : ns_t1 s x y 254 = 20
      · rw [if_pos w, if_neg (by omega)]
      · rw [if_neg w, ns_up_ne (by omega)]
    have hn := ht.2.2.2.1
    have lo : ∀ j, j < 254 ∨ 415 ≤ j → ns_mv s x y j = ns_t1 s x y j := fun j hj => by
      unfold ns_mv
      rw [ns_wk_o (by omega), hne j (by omega)]
    refine ni_of ht (fun j hj => lo j (by omega)) (fun j hj => lo j (by omega)) ?_ ?_ ?_
    · rw [lo _ (by omega), lo _ (by omega)]; exact ht.2.1
    · rw [lo _ (by omega), lo _ (by omega)]; exact ht.2.2.1
    · unfold ns_mv
      rw [ns_wk_o (by omega)]
      unfold ns_ne
      by_cases w : ns_t1 s x y 254 = 20
      · rw [if_pos w, if_neg (by omega), w]; omega
      · rw [if_neg w, ns_up_at]; omega
theorem ns_mm_ig {s : Nat → Int} {x y : Int} (q : na_ig s x y) {j : Nat} (hj : j ≠ 239) : ns_mm s x y j = s j := by
  unfold ns_mm
  rw [if_pos q, ns_up_ne hj]
theorem ns_tw_bd {c to step : Int} (h0 : 0 ≤ c ∧ c ≤ 1000) (h1 : 0 ≤ to ∧ to ≤ 1000) (h2 : 1 ≤ step) : 0 ≤ ns_tw c to step ∧ ns_tw c to step ≤ 1000 := by
  unfold ns_tw
  by_cases q : c < to
  · rw [if_pos q]; omega
  · rw [if_neg q]; omega
theorem ns_tw_d {c to step : Int} (h2 : 1 ≤ step) (h : c ≠ to) {f : Nat} (hf : (c - to).natAbs ≤ f + 1) : (ns_tw c to step - to).natAbs ≤ f := by
  unfold ns_tw
  by_cases q : c < to
  · rw [if_pos q]; omega
  · rw [if_neg q]; omega
theorem ni_mw {s : Nat → Int} {ax c : Int} (h : ni_s s) (hc : 0 ≤ c ∧ c ≤ 1000) : ni_s (ns_mw s ax c) := by
  have hp := h.2.1
  unfold ns_mw
  by_cases q : ax = 0
  · rw [if_pos q]; exact ni_mm h hc hp.2
  · rw [if_neg q]; exact ni_mm h hp.1 hc
theorem l_Mo_sweep {ax to step : Int} (ha : 0 ≤ ax ∧ ax ≤ 1) (ht : 0 ≤ to ∧ to ≤ 1000) (hst : 1 ≤ step ∧ step ≤ 1000) :
    ∀ (f : Nat) (I : ga_I) (c ch : Int), ni_s (I 349) → 0 ≤ c ∧ c ≤ 1000 → (c - to).natAbs ≤ f → (∀ J : ga_I, J 349 = (ns_sw ax to step f (I 349) c ch).1 → (∀ a, a ≠ 349 → a < 353 ∨ 357 < a → J a = I a) → E (some (.inl (ns_sw ax to step f (I 349) c ch).2)) J) →
    ga_W G (d + 6) mt_Mo_sweep 69 [some (.inr 348), some (.inl ax), some (.inl to), some (.inl step), some (.inl ch), some (.inl c), none, none, none] [] I E := by
  intro f
  induction f with
  | zero =>
    intro I c ch hs hc hf h
    exact k_Mo_sweep_69 ⟨by omega, by omega⟩ ⟨by omega, by omega⟩ ⟨by omega, by omega⟩ ⟨by omega, by omega⟩ (fun hI => ⟨fun q => h I rfl (fun a _ _ => rfl), fun q => by exfalso; omega⟩)
  | succ f ih =>
    intro I c ch hs hc hf h
    by_cases q0 : c = to
    · have e : ns_sw ax to step (f + 1) (I 349) c ch = (I 349, ch) := by rw [ns_sw, if_pos q0]
      rw [e] at h
      exact k_Mo_sweep_69 ⟨by omega, by omega⟩ ⟨by omega, by omega⟩ ⟨by omega, by omega⟩ ⟨by omega, by omega⟩ (fun hI => ⟨fun q => h I rfl (fun a _ _ => rfl), fun q => absurd q0 q⟩)
    · have e : ns_sw ax to step (f + 1) (I 349) c ch = ns_sw ax to step f (ns_mw (I 349) ax (ns_tw c to step)) (ns_tw c to step) (if ns_mw (I 349) ax (ns_tw c to step) (236 + ax).toNat = (I 349) (236 + ax).toNat then ch else ch + 1) := by rw [ns_sw, if_neg q0]
      have hb := ns_tw_bd hc ht (step := step) hst.1
      have hd := ns_tw_d hst.1 q0 hf
      rw [e] at h
      obtain ⟨a0, a1, a2, a3, a4, a5⟩ := ni_all (I := I) rfl hs
      have hp := hs.2.1
      have go : ∀ (c' x y : Int) (I1 : ga_I), c' = ns_tw c to step → ((ax = 0 ∧ x = c' ∧ y = I 349 235) ∨ (ax ≠ 0 ∧ x = I 349 234 ∧ y = c')) → gr_mm I I1 x y →
          (ga_rg (na_mm (I 349) x y)) ∧ ((((na_mm (I 349) x y) = (-2000000009)) → ga_W G (d + 6) mt_Mo_sweep 69 [some (.inr 348), some (.inl ax), some (.inl to), some (.inl step), some (.inl (ch + 0)), some (.inl c'), none, none, none] [] I1 E) ∧ ((¬ ((na_mm (I 349) x y) = (-2000000009))) → (((I1 349 (236 + ax).toNat) = (I 349 (236 + ax).toNat)) → ga_W G (d + 6) mt_Mo_sweep 69 [some (.inr 348), some (.inl ax), some (.inl to), some (.inl step), some (.inl (ch + 0)), some (.inl c'), none, none, none] [] I1 E) ∧ ((¬ ((I1 349 (236 + ax).toNat) = (I 349 (236 + ax).toNat))) → ga_W G (d + 6) mt_Mo_sweep 69 [some (.inr 348), some (.inl ax), some (.inl to), some (.inl step), some (.inl (ch + 1)), some (.inl c'), none, none, none] [] I1 E))) := fun c' x y I1 hc' hxy hmm => by
        have hxb : 0 ≤ x ∧ x ≤ 1000 := by omega
        have hyb : 0 ≤ y ∧ y ≤ 1000 := by omega
        have hbd := na_mm_bd hs hxb hyb
        have hrow : I1 349 = ns_mw (I 349) ax (ns_tw c to step) := by
          rw [hmm.1]; unfold ns_mw
          rcases hxy with ⟨w1, w2, w3⟩ | ⟨w1, w2, w3⟩
          · rw [if_pos w1, w2, w3, hc']
          · rw [if_neg w1, w2, w3, hc']
        have hni : ni_s (I1 349) := by rw [hrow]; exact ni_mw hs hb
        have fin : ∀ ch', ch' = (if ns_mw (I 349) ax (ns_tw c to step) (236 + ax).toNat = (I 349) (236 + ax).toNat then ch else ch + 1) → ga_W G (d + 6) mt_Mo_sweep 69 [some (.inr 348), some (.inl ax), some (.inl to), some (.inl step), some (.inl ch'), some (.inl c'), none, none, none] [] I1 E := fun ch' hch => by
          rw [← hch, ← hrow] at h
          rw [hc']
          exact ih I1 (ns_tw c to step) ch' hni hb hd (fun J j1 j2 => h J j1 (fun a w1 w2 => (j2 a w1 w2).trans (hmm.2 a w1 w2)))
        refine ⟨hbd.1, fun q1 => ?_, fun q1 => ⟨fun q2 => ?_, fun q2 => ?_⟩⟩
        · refine fin _ ?_
          have hz : I1 349 (236 + ax).toNat = I 349 (236 + ax).toNat := by rw [hmm.1]; exact ns_mm_ig (hbd.2 q1) (by omega)
          rw [hrow] at hz
          rw [if_pos hz, Int.add_zero]
        · rw [hrow] at q2
          exact fin _ (by rw [if_pos q2, Int.add_zero])
        · rw [hrow] at q2
          exact fin _ (by rw [if_neg q2])
      have g1 : ∀ c', c' = ns_tw c to step → 0 ≤ c' ∧ c' ≤ 1000 := fun c' hc' => by rw [hc']; exact hb
      refine k_Mo_sweep_69 ⟨by omega, by omega⟩ ⟨by omega, by omega⟩ ⟨by omega, by omega⟩ ⟨by omega, by omega⟩ (fun hI => ⟨fun q => absurd q q0, fun _ => ⟨⟨by omega, by omega⟩, fun q1 => ⟨fun q2 => ?_, fun q2 => ?_⟩, fun q1 => ⟨fun q2 => ?_, fun q2 => ?_⟩⟩⟩)
      · have hc' : c + -step = ns_tw c to step := by unfold ns_tw; rw [if_neg (by omega)]; omega
        exact ⟨by omega, by omega, fun q3 => ⟨a0, a1, a3, a4, a5, hs.2.2.2.1, hp.1, g1 _ hc', fun I1 m1 => go _ _ _ I1 hc' (Or.inr ⟨q3, rfl, rfl⟩) m1⟩, fun q3 => ⟨a0, a1, a3, a4, a5, hs.2.2.2.1, g1 _ hc', hp.2, fun I1 m1 => go _ _ _ I1 hc' (Or.inl ⟨q3, rfl, rfl⟩) m1⟩⟩
      · have hc' : c + step = ns_tw c to step := by unfold ns_tw; rw [if_pos (by omega)]; omega
        exact ⟨by omega, by omega, fun q3 => ⟨a0, a1, a3, a4, a5, hs.2.2.2.1, hp.1, g1 _ hc', fun I1 m1 => go _ _ _ I1 hc' (Or.inr ⟨q3, rfl, rfl⟩) m1⟩, fun q3 => ⟨a0, a1, a3, a4, a5, hs.2.2.2.1, g1 _ hc', hp.2, fun I1 m1 => go _ _ _ I1 hc' (Or.inl ⟨q3, rfl, rfl⟩) m1⟩⟩
      · have hc' : c + -((c - to).natAbs : Int) = ns_tw c to step := by unfold ns_tw; rw [if_neg (by omega)]; omega
        exact ⟨by omega, by omega, fun q3 => ⟨a0, a1, a3, a4, a5, hs.2.2.2.1, hp.1, g1 _ hc', fun I1 m1 => go _ _ _ I1 hc' (Or.inr ⟨q3, rfl, rfl⟩) m1⟩, fun q3 => ⟨a0, a1, a3, a4, a5, hs.2.2.2.1, g1 _ hc', hp.2, fun I1 m1 => go _ _ _ I1 hc' (Or.inl ⟨q3, rfl, rfl⟩) m1⟩⟩
      · have hc' : c + ((c - to).natAbs : Int) = ns_tw c to step := by unfold ns_tw; rw [if_pos (by omega)]; omega
        exact ⟨by omega, by omega, fun q3 => ⟨a0, a1, a3, a4, a5, hs.2.2.2.1, hp.1, g1 _ hc', fun I1 m1 => go _ _ _ I1 hc' (Or.inr ⟨q3, rfl, rfl⟩) m1⟩, fun q3 => ⟨a0, a1, a3, a4, a5, hs.2.2.2.1, g1 _ hc', hp.2, fun I1 m1 => go _ _ _ I1 hc' (Or.inl ⟨q3, rfl, rfl⟩) m1⟩⟩
theorem m_sweep {A : na_A} {ax to step : Int} (r1 : ga_rg ax) (r2 : ga_rg to) (r3 : ga_rg step) (eA : na_ab I = A) (hA : ni_a A) (h : na_E E I (no_sweep A ax to step)) : ga_W G (d + 6) mt_Mo_sweep 0 (ga_en 9 [.inr 348, .inl ax, .inl to, .inl step]) [] I E := by
  have hs : ni_s A.1 := hA.1
  have hp := hs.2.1
  refine k_Mo_sweep_0 r1 r2 r3 (fun hI I1 e1 => ?_)
  obtain ⟨s1, -, m1, -, -⟩ := na_t1 eA e1
  unfold no_sweep at h
  rw [s1]
  refine ⟨fun q1 => na_q h eA e1 (by rw [if_pos (fun w => q1 w.1)]), fun q1 => ⟨fun q2 => na_q h eA e1 (by rw [if_pos (fun w => q2 w.2.1)]), fun q2 => ⟨fun q3 => ⟨by omega, by omega, fun q4 => ⟨by rw [m1]; exact hA.2.1, fun I2 e2 => ?_⟩, fun q4 => na_q h eA e1 (by rw [if_neg (fun w => w ⟨q1, q2, q3⟩), if_pos q4])⟩, fun q3 => na_q h eA e1 (by rw [if_pos (fun w => q3 w.2.2)])⟩⟩⟩
  obtain ⟨t1, t2⟩ := mx_ac_t eA e1 e2
  have hc : 0 ≤ I2 349 (234 + ax).toNat ∧ I2 349 (234 + ax).toNat ≤ 1000 := by
    rw [t2]
    rcases (show ax = 0 ∨ ax = 1 by omega) with w | w <;> subst w
    · exact hp.1
    · exact hp.2
  refine l_Mo_sweep q1 q2 q3 1000 I2 (I2 349 (234 + ax).toNat) 0 (by rw [t2]; exact hs) hc (by omega) (fun J j1 j2 => ?_)
  rw [t2] at j1 ⊢
  obtain ⟨u1, u2⟩ := t1 _ J j1 j2
  exact na_x h (by rw [if_neg (fun w => w ⟨q1, q2, q3⟩), if_neg q4]) u1 u2
end MO
section MP
variable {G : ga_G} {d : Nat} {I : ga_I} {E : Option ga_V → ga_I → Prop}
theorem ns_ch_o {s : Nat → Int} {op z : Int} {j i : Nat} (ho : 0 ≤ op ∧ op ≤ 2) (h : i < 241 ∨ 253 ≤ i) (hj : i ≠ j) : ns_ch s op j z i = s i := by
  unfold ns_ch
  rw [ns_up_ne hj, ns_up_ne (by omega), ns_up_ne (by omega), ns_up_ne (by omega)]
theorem ni_ch {s : Nat → Int} {op z : Int} {g i : Nat} (h : ni_s s) (ho : 0 ≤ op ∧ op ≤ 2) (hg : g < 49) (hi : i < 3) (hz : 0 ≤ z ∧ z ≤ 9999) : ni_s (ns_ch s op (38 + 4 * g + i) z) := by
  refine ni_of2 h (fun j hj => ns_ch_o ho (by omega) (by omega)) (fun g' i' hg' hi' => ?_) (fun g' hg' => ?_)
  · by_cases q : g' = g ∧ i' = i
    · rw [q.1, q.2]
      unfold ns_ch
      rw [ns_up_at]
      exact hz
    · rw [ns_ch_o ho (by omega) (by omega)]; exact h.1.2.2.1 g' i' hg' hi'
  · rw [ns_ch_o ho (by omega) (by omega)]; exact h.1.2.2.2 g' hg'
theorem ns_sv_bd {s : Nat → Int} {c r i pc : Int} (h : ni_s s) (hc : 0 ≤ c ∧ c ≤ 6) (hr : 0 ≤ r ∧ r ≤ 6) (hi : 0 ≤ i ∧ i ≤ 2) (hp : 0 ≤ pc ∧ pc ≤ 1000) : (0 ≤ s (38 + 4 * (7 * c + r) + i).toNat * pc ∧ s (38 + 4 * (7 * c + r) + i).toNat * pc ≤ 9999000) ∧ (0 ≤ Int.tdiv (s (38 + 4 * (7 * c + r) + i).toNat * pc) 100 ∧ Int.tdiv (s (38 + 4 * (7 * c + r) + i).toNat * pc) 100 ≤ 99990) := by
  have hv := h.1.2.2.1 (7 * c + r).toNat i.toNat (by omega) (by omega)
  rw [show 38 + 4 * (7 * c + r).toNat + i.toNat = (38 + 4 * (7 * c + r) + i).toNat by omega] at hv
  have h1 : 0 ≤ s (38 + 4 * (7 * c + r) + i).toNat * pc := Int.mul_nonneg hv.1 hp.1
  have h2 : s (38 + 4 * (7 * c + r) + i).toNat * pc ≤ 9999 * 1000 := Int.mul_le_mul hv.2 hp.2 hp.1 (by omega)
  refine ⟨⟨h1, by omega⟩, ?_⟩
  rw [Int.tdiv_eq_ediv_of_nonneg h1]
  omega
def sc_ok (s0 s : Nat → Int) : Prop := ni_s s ∧ ms_n s 0 = ms_n s0 0 ∧ ms_n s 1 = ms_n s0 1
theorem sc_s1 {s0 : Nat → Int} {op i pc c r : Int} {X : (Nat → Int) × Int} (h : sc_ok s0 X.1) (ho : 0 ≤ op ∧ op ≤ 2) (hi : 0 ≤ i ∧ i ≤ 2) (hp : 0 ≤ pc ∧ pc ≤ 1000) (hc : 0 ≤ c ∧ c ≤ 6) (hr : 0 ≤ r ∧ r ≤ 6) : sc_ok s0 (ns_s1 op i pc X c r).1 := by
  unfold ns_s1
  by_cases q : ns_ra X.1 op c r i (ns_sv X.1 c r i pc) = 0
  · rw [if_pos q]
    have hv := (ns_sv_bd h.1 hc hr hi hp).2
    have hv2 : 0 ≤ ns_sv X.1 c r i pc ∧ ns_sv X.1 c r i pc ≤ 9999 := by unfold ns_sv; omega
    have e := ni_ch (g := (7 * c + r).toNat) (i := i.toNat) h.1 ho (by omega) (by omega) hv2
    rw [show 38 + 4 * (7 * c + r).toNat + i.toNat = (38 + 4 * (7 * c + r) + i).toNat by omega] at e
    refine ⟨e, ?_, ?_⟩
    · rw [← h.2.1]; exact ns_ch_o ho (by omega) (by omega)
    · rw [← h.2.2]; exact ns_ch_o ho (by omega) (by omega)
  · rw [if_neg q]; exact h
theorem sc_s2 {s0 : Nat → Int} {op i pc c : Int} {X : (Nat → Int) × Int} (h : sc_ok s0 X.1) (ho : 0 ≤ op ∧ op ≤ 2) (hi : 0 ≤ i ∧ i ≤ 2) (hp : 0 ≤ pc ∧ pc ≤ 1000) (hc : 0 ≤ c ∧ c ≤ 6) : ∀ m : Nat, m ≤ 7 → sc_ok s0 (ns_s2 op i pc X c m).1
  | 0, _ => h
  | m + 1, hm => sc_s1 (sc_s2 h ho hi hp hc m (by omega)) ho hi hp hc ⟨by omega, by omega⟩
theorem sc_s3 {s0 : Nat → Int} {op i pc : Int} {m : Nat} {X : (Nat → Int) × Int} (h : sc_ok s0 X.1) (ho : 0 ≤ op ∧ op ≤ 2) (hi : 0 ≤ i ∧ i ≤ 2) (hp : 0 ≤ pc ∧ pc ≤ 1000) (hm : m ≤ 7) : ∀ n : Nat, n ≤ 7 → sc_ok s0 (ns_s3 op i pc X m n).1
  | 0, _ => h
  | n + 1, hn => sc_s2 (sc_s3 h ho hi hp hm n (by omega)) ho hi hp ⟨by omega, by omega⟩ m hm
theorem l_Mo_scale2 (I : ga_I) {s0 : Nat → Int} {op i pc : Int} {c m : Nat} {X : (Nat → Int) × Int} (h : sc_ok s0 X.1) (ho : 0 ≤ op ∧ op ≤ 2) (hi : 0 ≤ i ∧ i ≤ 2) (hp : 0 ≤ pc ∧ pc ≤ 1000) (hc : (c : Int) ≤ ms_n s0 0) (h0 : ms_n s0 0 ≤ 6) (hm : (m : Int) = ms_n s0 1 + 1) (h1 : ms_n s0 1 ≤ 6)
    (K : ga_W G (d + 2) mt_Mo_scale 45 [some (.inr 348), some (.inl op), some (.inl i), some (.inl pc), some (.inl (ns_s2 op i pc X c m).2), some (.inl ((c : Int) + 1)), none, none] [] (ga_uc I 349 (ns_s2 op i pc X c m).1) E) :
    ∀ (j r : Nat), r + j = m → ga_W G (d + 2) mt_Mo_scale 58 [some (.inr 348), some (.inl op), some (.inl i), some (.inl pc), some (.inl (ns_s2 op i pc X c r).2), some (.inl (c : Int)), some (.inl (r : Int)), none] [] (ga_uc I 349 (ns_s2 op i pc X c r).1) E := by
  intro j
  induction j with
  | zero =>
    intro r hr
    have ok := sc_s2 h ho hi hp (c := (c : Int)) ⟨by omega, by omega⟩ r (by omega)
    have en : ms_n (ga_uc I 349 (ns_s2 op i pc X c r).1 349) 1 = ms_n s0 1 := by rw [ga_uc_at]; exact ok.2.2
    refine k_Mo_scale_58 ⟨by omega, by omega⟩ (fun hI => ⟨by omega, fun q => ?_, fun q => by exfalso; omega⟩)
    rwa [show r = m by omega]
  | succ j ih =>
    intro r hr
    have e := ih (r + 1) (by omega)
    have ok := sc_s2 h ho hi hp (c := (c : Int)) ⟨by omega, by omega⟩ r (by omega)
    have hv := ns_sv_bd (i := i) (pc := pc) (c := (c : Int)) (r := (r : Int)) ok.1 ⟨by omega, by omega⟩ ⟨by omega, by omega⟩ hi hp
    have en : ms_n (ga_uc I 349 (ns_s2 op i pc X c r).1 349) 1 = ms_n s0 1 := by rw [ga_uc_at]; exact ok.2.2
    have hg := (ni_all (I := ga_uc I 349 (ns_s2 op i pc X c r).1) (ga_uc_at) ok.1).2.2.2.2.2
    refine k_Mo_scale_58 ⟨by omega, by omega⟩ (fun hI => ⟨by omega, fun q => by exfalso; omega, fun q => ?_⟩)
    simp only [mx_ch_uc, ga_uc_uc, ga_uc_at]
    generalize hY : ns_s2 op i pc X c r = Y at *
    have e1 : ns_s2 op i pc X c (r + 1) = ns_s1 op i pc Y c r := by rw [ns_s2, hY]
    have goN : ∀ v, v = ns_sv Y.1 c r i pc → ns_ra Y.1 op c r i v ≠ 0 → ga_W G (d + 2) mt_Mo_scale 58 [some (.inr 348), some (.inl op), some (.inl i), some (.inl pc), some (.inl Y.2), some (.inl (c : Int)), some (.inl ((r : Int) + 1)), none] [] (ga_uc I 349 Y.1) E := fun v hv2 hn => by
      have e2 : ns_s1 op i pc Y c r = Y := by unfold ns_s1; rw [← hv2, if_neg hn]
      rw [e1, e2] at e
      exact e
    have goY : ∀ v, v = ns_sv Y.1 c r i pc → ns_ra Y.1 op c r i v = 0 → ∀ I1 : ga_I, I1 = ga_uc I 349 (ns_ch Y.1 op (38 + 4 * (7 * (c : Int) + (r : Int)) + i).toNat v) → ga_W G (d + 2) mt_Mo_scale 58 [some (.inr 348), some (.inl op), some (.inl i), some (.inl pc), some (.inl (Y.2 + 1)), some (.inl (c : Int)), some (.inl ((r : Int) + 1)), none] [] I1 E := fun v hv2 hn I1 f1 => by
      have e2 : ns_s1 op i pc Y c r = (ns_ch Y.1 op (38 + 4 * (7 * (c : Int) + (r : Int)) + i).toNat v, Y.2 + 1) := by unfold ns_s1; rw [← hv2, if_pos hn]
      rw [e1, e2] at e
      rw [f1]
      exact e
    have hra : ∀ v, ga_rg (ns_ra Y.1 op c r i v) := fun v => by
      have := mp_ra_bd (Y.1 (38 + 4 * (7 * (c : Int) + (r : Int)) + 3).toNat) (Y.1 (38 + 4 * (7 * (c : Int) + (r : Int)) + i).toNat) (Y.1 (241 + 3 * op).toNat) (Y.1 (241 + 3 * op + 1).toNat) op v
      unfold ns_ra
      constructor <;> omega
    refine ⟨by omega, by omega, ⟨by omega, by omega⟩, ⟨by omega, by omega⟩, fun q1 => ⟨ho, by omega, by omega, hi, ⟨hv.2.1, q1⟩, hg, fun z1 f1 => ⟨by rw [f1]; exact hra _, fun q2 => ?_, fun q2 => ?_⟩⟩, fun q1 => ⟨ho, by omega, by omega, hi, by omega, hg, fun z1 f1 => ⟨by rw [f1]; exact hra _, fun q2 => ?_, fun q2 => ?_⟩⟩⟩
    · exact goN _ (by unfold ns_sv; omega) (fun w => q2 (f1.trans w))
    · exact goY _ (by unfold ns_sv; omega) (f1.symm.trans q2)
    · exact goN _ (by unfold ns_sv; omega) (fun w => q2 (f1.trans w))
    · exact goY _ (by unfold ns_sv; omega) (f1.symm.trans q2)
theorem l_Mo_scale (I : ga_I) {s0 : Nat → Int} {op i pc : Int} {n m : Nat} (h : sc_ok s0 s0) (ho : 0 ≤ op ∧ op ≤ 2) (hi : 0 ≤ i ∧ i ≤ 2) (hp : 0 ≤ pc ∧ pc ≤ 1000) (hn : (n : Int) = ms_n s0 0 + 1) (h0 : ms_n s0 0 ≤ 6) (hm : (m : Int) = ms_n s0 1 + 1) (h1 : ms_n s0 1 ≤ 6)
    (K : E (some (.inl (ns_s3 op i pc (s0, 0) m n).2)) (ga_uc I 349 (ns_s3 op i pc (s0, 0) m n).1)) :
    ∀ (j c : Nat), c + j = n → ga_W G (d + 2) mt_Mo_scale 45 [some (.inr 348), some (.inl op), some (.inl i), some (.inl pc), some (.inl (ns_s3 op i pc (s0, 0) m c).2), some (.inl (c : Int)), none, none] [] (ga_uc I 349 (ns_s3 op i pc (s0, 0) m c).1) E := by
  intro j
  induction j with
  | zero =>
    intro c hc
    have ok := sc_s3 (X := (s0, 0)) h ho hi hp (m := m) (by omega) c (by omega)
    have en : ms_n (ga_uc I 349 (ns_s3 op i pc (s0, 0) m c).1 349) 0 = ms_n s0 0 := by rw [ga_uc_at]; exact ok.2.1
    refine k_Mo_scale_45 ⟨by omega, by omega⟩ (fun hI => ⟨by omega, fun q => ?_, fun q => by exfalso; omega⟩)
    rwa [show c = n by omega]
  | succ j ih =>
    intro c hc
    have e := ih (c + 1) (by omega)
    have ok := sc_s3 (X := (s0, 0)) h ho hi hp (m := m) (by omega) c (by omega)
    have en : ms_n (ga_uc I 349 (ns_s3 op i pc (s0, 0) m c).1 349) 0 = ms_n s0 0 := by rw [ga_uc_at]; exact ok.2.1
    refine k_Mo_scale_45 ⟨by omega, by omega⟩ (fun hI => ⟨by omega, fun q => by exfalso; omega, fun q => ?_⟩)
    exact l_Mo_scale2 I (X := ns_s3 op i pc (s0, 0) m c) ok ho hi hp (by omega) h0 hm h1 e m 0 (by omega)
theorem m_scale {A : na_A} {op i pc : Int} (r1 : ga_rg op) (r2 : ga_rg i) (r3 : ga_rg pc) (eA : na_ab I = A) (hA : ni_a A) (h : na_E E I (no_scale A op i pc)) : ga_W G (d + 2) mt_Mo_scale 0 (ga_en 8 [.inr 348, .inl op, .inl i, .inl pc]) [] I E := by
  have hs : ni_s A.1 := hA.1
  refine k_Mo_scale_0 r1 r2 r3 (fun hI I1 e1 => ?_)
  obtain ⟨s1, -, m1, -, -⟩ := na_t1 eA e1
  unfold no_scale at h
  have n0 := ni_n hs.1 (ax := 0) (by omega)
  have n1 := ni_n hs.1 (ax := 1) (by omega)
  refine ⟨fun q1 => na_q h eA e1 (by rw [if_pos (fun w => q1 w.1)]), fun q1 => ⟨fun q2 => na_q h eA e1 (by rw [if_pos (fun w => q2 w.2.1)]), fun q2 => ⟨fun q3 => ⟨by rw [m1]; exact hA.2.1, fun I2 e2 => ?_⟩, fun q3 => na_q h eA e1 (by rw [if_pos (fun w => q3 w.2.2)])⟩⟩⟩
  have t2 := (mx_ac_t eA e1 e2).2
  have K := l_Mo_scale (G := G) (d := d) (E := E) I2 (s0 := A.1) (op := op) (i := i) (pc := pc) (n := (ms_n A.1 0).toNat + 1) (m := (ms_n A.1 1).toNat + 1) ⟨hs, rfl, rfl⟩ q1 q2 q3 (by omega) (by omega) (by omega) (by omega) ?_ ((ms_n A.1 0).toNat + 1) 0 (by omega)
  · refine gw_eq K rfl ?_
    rw [← t2]
    exact ga_uc_id I2 349
  · exact na_u h eA e1 e2 rfl (by rw [if_neg (fun w => w ⟨q1, q2, q3⟩)])
end MP
