/-! the reference: sums, strips -/
def mx_cr (I : ga_I) (sg tg : Nat) : ga_I := ga_up (ga_up (ga_up (ga_up I 349 (38 + 4 * tg) (I 349 (38 + 4 * sg))) 349 (38 + 4 * tg + 1) (I 349 (38 + 4 * sg + 1))) 349 (38 + 4 * tg + 2) (I 349 (38 + 4 * sg + 2))) 349 (38 + 4 * tg + 3) (I 349 (38 + 4 * sg + 3))
theorem k_Mo_allGains_0 {G : ga_G} {d : Nat} {I : ga_I} {E : Option ga_V → ga_I → Prop}  
    (h : ga_RG I → ga_W G (d + 1) mt_Mo_allGains 4 [some (.inr 348), some (.inl 0), some (.inl 0), none] [] I E) :
    ga_W G (d + 1) mt_Mo_allGains 0 (ga_en 4 [.inr 348]) [] I E := by
  show ga_W G (d + 1) mt_Mo_allGains 0 [some (.inr 348), none, none, none] [] I E
  refine gw_RG (fun hI1 => ?_)
  have h := h hI1
  refine gw_iconst d_Mo_allGains_0 ?_
  refine gw_istore_n 1 d_Mo_allGains_1 rfl (Nat.le_of_ble_eq_true rfl) rfl ?_
  refine gw_iconst d_Mo_allGains_2 ?_
  refine gw_istore_n 2 d_Mo_allGains_3 rfl (Nat.le_of_ble_eq_true rfl) rfl ?_
  exact gw_le h (by exact ⟨rfl, ⟨rfl, ⟨rfl, trivial⟩⟩⟩)
theorem k_Mo_allGains_4 {G : ga_G} {d : Nat} {I : ga_I} {E : Option ga_V → ga_I → Prop} {v1 : Int} {v2 : Int} (r2 : ga_rg v2)
    (h : ga_RG I → (0 ≤ (0 : Int) ∧ (0 : Int) ≤ 1) ∧ ((((ms_n (I 349) (0 : Int)) < v2) → E (some (.inl v1)) I) ∧ ((¬ ((ms_n (I 349) (0 : Int)) < v2)) → ga_W G (d + 1) mt_Mo_allGains 15 [some (.inr 348), some (.inl v1), some (.inl v2), some (.inl 0)] [] I E))) :
    ga_W G (d + 1) mt_Mo_allGains 4 [some (.inr 348), some (.inl v1), some (.inl v2), none] [] I E := by
  refine gw_RG (fun hI1 => ?_)
  have h := h hI1
  refine gw_iload_n 2 d_Mo_allGains_4 rfl rfl ?_
  refine gw_aload_n 0 d_Mo_allGains_5 rfl rfl ?_
  refine gw_iconst d_Mo_allGains_6 ?_
  obtain ⟨g1, h⟩ := h
  refine gw_invV (as := [.inl 0]) (k := 348) (rest := [.inl v2]) (d' := d) d_Mo_allGains_7 lk_Mo_55 (ga_rcv (ga_oM) rfl rfl) rfl (Nat.le_of_ble_eq_true rfl) (Nat.le_of_ble_eq_true rfl) rfl rfl (s_Mo_borders g1 ?_)
  show ga_W G (d + 1) mt_Mo_allGains 10 [some (.inr 348), some (.inl v1), some (.inl v2), none] [.inl (ms_n (I 349) (0 : Int)), .inl v2] I E
  refine gw_icmp_gt 75 d_Mo_allGains_10 (by decide) r2 (hI1 _ _) (fun hc => ?_) (fun hc => ?_)
  · have h := h.1 hc
    refine gw_iload_n 1 d_Mo_allGains_75 rfl rfl ?_
    exact gw_ireturn d_Mo_allGains_76 rfl h
  · have h := h.2 hc
    refine gw_iconst d_Mo_allGains_13 ?_
    refine gw_istore_n 3 d_Mo_allGains_14 rfl (Nat.le_of_ble_eq_true rfl) rfl ?_
    exact gw_le h (by exact ⟨rfl, ⟨rfl, ⟨rfl, ⟨rfl, trivial⟩⟩⟩⟩)
theorem k_Mo_allGains_15 {G : ga_G} {d : Nat} {I : ga_I} {E : Option ga_V → ga_I → Prop} {v1 : Int} {v2 : Int} {v3 : Int} (r3 : ga_rg v3)
    (h : ga_RG I → (0 ≤ (1 : Int) ∧ (1 : Int) ≤ 1) ∧ ((((ms_n (I 349) (1 : Int)) < v3) → ga_W G (d + 1) mt_Mo_allGains 4 [some (.inr 348), some (.inl v1), some (.inl (v2 + 1)), none] [] I E) ∧ ((¬ ((ms_n (I 349) (1 : Int)) < v3)) → (0 ≤ (38 + 4 * (7 * v2 + v3))) ∧ (((38 + 4 * (7 * v2 + v3)) < 1120) ∧ ((0 ≤ ((38 + 4 * (7 * v2 + v3)) + 1)) ∧ ((((38 + 4 * (7 * v2 + v3)) + 1) < 1120) ∧ ((0 ≤ ((38 + 4 * (7 * v2 + v3)) + 2)) ∧ ((((38 + 4 * (7 * v2 + v3)) + 2) < 1120) ∧ (ga_W G (d + 1) mt_Mo_allGains 15 [some (.inr 348), some (.inl (v1 + (((I 349 (38 + 4 * (7 * v2 + v3)).toNat) + (I 349 ((38 + 4 * (7 * v2 + v3)) + 1).toNat)) + (I 349 ((38 + 4 * (7 * v2 + v3)) + 2).toNat)))), some (.inl v2), some (.inl (v3 + 1))] [] I E))))))))) :
    ga_W G (d + 1) mt_Mo_allGains 15 [some (.inr 348), some (.inl v1), some (.inl v2), some (.inl v3)] [] I E := by
  refine gw_RG (fun hI1 => ?_)
  have h := h hI1
  refine gw_iload_n 3 d_Mo_allGains_15 rfl rfl ?_
  refine gw_aload_n 0 d_Mo_allGains_16 rfl rfl ?_
  refine gw_iconst d_Mo_allGains_17 ?_
  obtain ⟨g1, h⟩ := h
  refine gw_invV (as := [.inl 1]) (k := 348) (rest := [.inl v3]) (d' := d) d_Mo_allGains_18 lk_Mo_55 (ga_rcv (ga_oM) rfl rfl) rfl (Nat.le_of_ble_eq_true rfl) (Nat.le_of_ble_eq_true rfl) rfl rfl (s_Mo_borders g1 ?_)
  show ga_W G (d + 1) mt_Mo_allGains 21 [some (.inr 348), some (.inl v1), some (.inl v2), some (.inl v3)] [.inl (ms_n (I 349) (1 : Int)), .inl v3] I E
  refine gw_icmp_gt 69 d_Mo_allGains_21 (by decide) r3 (hI1 _ _) (fun hc => ?_) (fun hc => ?_)
  · have h := h.1 hc
    refine gw_iinc 2 d_Mo_allGains_69 rfl rfl ?_
    refine gw_goto 4 d_Mo_allGains_72 (by decide) ?_
    exact gw_le h (by exact ⟨rfl, ⟨rfl, ⟨rfl, trivial⟩⟩⟩)
  · have h := h.2 hc
    refine gw_iload_n 1 d_Mo_allGains_24 rfl rfl ?_
    refine gw_aload_n 0 d_Mo_allGains_25 rfl rfl ?_
    refine gw_getR d_Mo_allGains_26 fl_Mo_7 (ga_oM) rfl ?_
    refine gw_iload_n 2 d_Mo_allGains_29 rfl rfl ?_
    refine gw_iload_n 3 d_Mo_allGains_30 rfl rfl ?_
    refine gw_invS (as := [.inl v2, .inl v3]) (rest := [.inr 349, .inl v1]) (d' := d) d_Mo_allGains_31 lk_Mo_59 rfl (Nat.le_of_ble_eq_true rfl) (Nat.le_of_ble_eq_true rfl) rfl rfl (s_Mo_at  ?_)
    show ga_W G (d + 1) mt_Mo_allGains 34 [some (.inr 348), some (.inl v1), some (.inl v2), some (.inl v3)] [.inl (38 + 4 * (7 * v2 + v3)), .inr 349, .inl v1] I E
    obtain ⟨g2, h⟩ := h
    obtain ⟨g3, h⟩ := h
    refine gw_iald d_Mo_allGains_34 (ga_aM1) g2 g3 ?_
    refine gw_aload_n 0 d_Mo_allGains_35 rfl rfl ?_
    refine gw_getR d_Mo_allGains_36 fl_Mo_7 (ga_oM) rfl ?_
    refine gw_iload_n 2 d_Mo_allGains_39 rfl rfl ?_
    refine gw_iload_n 3 d_Mo_allGains_40 rfl rfl ?_
    refine gw_invS (as := [.inl v2, .inl v3]) (rest := [.inr 349, .inl (I 349 (38 + 4 * (7 * v2 + v3)).toNat), .inl v1]) (d' := d) d_Mo_allGains_41 lk_Mo_59 rfl (Nat.le_of_ble_eq_true rfl) (Nat.le_of_ble_eq_true rfl) rfl rfl (s_Mo_at  ?_)
    show ga_W G (d + 1) mt_Mo_allGains 44 [some (.inr 348), some (.inl v1), some (.inl v2), some (.inl v3)] [.inl (38 + 4 * (7 * v2 + v3)), .inr 349, .inl (I 349 (38 + 4 * (7 * v2 + v3)).toNat), .inl v1] I E
    refine gw_iconst d_Mo_allGains_44 ?_
    refine gw_iadd d_Mo_allGains_45 ?_
    obtain ⟨g4, h⟩ := h
    obtain ⟨g5, h⟩ := h
    refine gw_iald d_Mo_allGains_46 (ga_aM1) g4 g5 ?_
    refine gw_iadd d_Mo_allGains_47 ?_
    refine gw_aload_n 0 d_Mo_allGains_48 rfl rfl ?_
    refine gw_getR d_Mo_allGains_49 fl_Mo_7 (ga_oM) rfl ?_
    refine gw_iload_n 2 d_Mo_allGains_52 rfl rfl ?_
    refine gw_iload_n 3 d_Mo_allGains_53 rfl rfl ?_
    refine gw_invS (as := [.inl v2, .inl v3]) (rest := [.inr 349, .inl ((I 349 (38 + 4 * (7 * v2 + v3)).toNat) + (I 349 ((38 + 4 * (7 * v2 + v3)) + 1).toNat)), .inl v1]) (d' := d) d_Mo_allGains_54 lk_Mo_59 rfl (Nat.le_of_ble_eq_true rfl) (Nat.le_of_ble_eq_true rfl) rfl rfl (s_Mo_at  ?_)
    show ga_W G (d + 1) mt_Mo_allGains 57 [some (.inr 348), some (.inl v1), some (.inl v2), some (.inl v3)] [.inl (38 + 4 * (7 * v2 + v3)), .inr 349, .inl ((I 349 (38 + 4 * (7 * v2 + v3)).toNat) + (I 349 ((38 + 4 * (7 * v2 + v3)) + 1).toNat)), .inl v1] I E
    refine gw_iconst d_Mo_allGains_57 ?_
    refine gw_iadd d_Mo_allGains_58 ?_
    obtain ⟨g6, h⟩ := h
    obtain ⟨g7, h⟩ := h
    refine gw_iald d_Mo_allGains_59 (ga_aM1) g6 g7 ?_
    refine gw_iadd d_Mo_allGains_60 ?_
    refine gw_iadd d_Mo_allGains_61 ?_
    refine gw_istore_n 1 d_Mo_allGains_62 rfl (Nat.le_of_ble_eq_true rfl) rfl ?_
    refine gw_iinc 3 d_Mo_allGains_63 rfl rfl ?_
    refine gw_goto 15 d_Mo_allGains_66 (by decide) ?_
    exact gw_le h (by exact ⟨rfl, ⟨rfl, ⟨rfl, ⟨rfl, trivial⟩⟩⟩⟩)

theorem k_Mo_locksOf_0 {G : ga_G} {d : Nat} {I : ga_I} {E : Option ga_V → ga_I → Prop} {v1 : Int} 
    (h : ga_RG I → ga_W G (d + 1) mt_Mo_locksOf 4 [some (.inr 348), some (.inl v1), some (.inl 0), some (.inl 0), none] [] I E) :
    ga_W G (d + 1) mt_Mo_locksOf 0 (ga_en 5 [.inr 348, .inl v1]) [] I E := by
  show ga_W G (d + 1) mt_Mo_locksOf 0 [some (.inr 348), some (.inl v1), none, none, none] [] I E
  refine gw_RG (fun hI1 => ?_)
  have h := h hI1
  refine gw_iconst d_Mo_locksOf_0 ?_
  refine gw_istore_n 2 d_Mo_locksOf_1 rfl (Nat.le_of_ble_eq_true rfl) rfl ?_
  refine gw_iconst d_Mo_locksOf_2 ?_
  refine gw_istore_n 3 d_Mo_locksOf_3 rfl (Nat.le_of_ble_eq_true rfl) rfl ?_
  exact gw_le h (by exact ⟨rfl, ⟨rfl, ⟨rfl, ⟨rfl, trivial⟩⟩⟩⟩)
theorem k_Mo_locksOf_4 {G : ga_G} {d : Nat} {I : ga_I} {E : Option ga_V → ga_I → Prop} {v1 : Int} {v2 : Int} {v3 : Int} (r3 : ga_rg v3)
    (h : ga_RG I → (0 ≤ (0 : Int) ∧ (0 : Int) ≤ 1) ∧ ((((ms_n (I 349) (0 : Int)) < v3) → E (some (.inl v2)) I) ∧ ((¬ ((ms_n (I 349) (0 : Int)) < v3)) → ga_W G (d + 1) mt_Mo_locksOf 16 [some (.inr 348), some (.inl v1), some (.inl v2), some (.inl v3), some (.inl 0)] [] I E))) :
    ga_W G (d + 1) mt_Mo_locksOf 4 [some (.inr 348), some (.inl v1), some (.inl v2), some (.inl v3), none] [] I E := by
  refine gw_RG (fun hI1 => ?_)
  have h := h hI1
  refine gw_iload_n 3 d_Mo_locksOf_4 rfl rfl ?_
  refine gw_aload_n 0 d_Mo_locksOf_5 rfl rfl ?_
  refine gw_iconst d_Mo_locksOf_6 ?_
  obtain ⟨g1, h⟩ := h
  refine gw_invV (as := [.inl 0]) (k := 348) (rest := [.inl v3]) (d' := d) d_Mo_locksOf_7 lk_Mo_55 (ga_rcv (ga_oM) rfl rfl) rfl (Nat.le_of_ble_eq_true rfl) (Nat.le_of_ble_eq_true rfl) rfl rfl (s_Mo_borders g1 ?_)
  show ga_W G (d + 1) mt_Mo_locksOf 10 [some (.inr 348), some (.inl v1), some (.inl v2), some (.inl v3), none] [.inl (ms_n (I 349) (0 : Int)), .inl v3] I E
  refine gw_icmp_gt 63 d_Mo_locksOf_10 (by decide) r3 (hI1 _ _) (fun hc => ?_) (fun hc => ?_)
  · have h := h.1 hc
    refine gw_iload_n 2 d_Mo_locksOf_63 rfl rfl ?_
    exact gw_ireturn d_Mo_locksOf_64 rfl h
  · have h := h.2 hc
    refine gw_iconst d_Mo_locksOf_13 ?_
    refine gw_istore 4 d_Mo_locksOf_14 (Nat.le_of_ble_eq_true rfl) rfl ?_
    exact gw_le h (by exact ⟨rfl, ⟨rfl, ⟨rfl, ⟨rfl, ⟨rfl, trivial⟩⟩⟩⟩⟩)
theorem k_Mo_locksOf_16 {G : ga_G} {d : Nat} {I : ga_I} {E : Option ga_V → ga_I → Prop} {v1 : Int} {v2 : Int} {v3 : Int} {v4 : Int} (r1 : ga_rg v1) (r4 : ga_rg v4)
    (h : ga_RG I → (0 ≤ (1 : Int) ∧ (1 : Int) ≤ 1) ∧ ((((ms_n (I 349) (1 : Int)) < v4) → ga_W G (d + 1) mt_Mo_locksOf 4 [some (.inr 348), some (.inl v1), some (.inl v2), some (.inl (v3 + 1)), none] [] I E) ∧ ((¬ ((ms_n (I 349) (1 : Int)) < v4)) → (0 ≤ ((38 + 4 * (7 * v3 + v4)) + 3)) ∧ ((((38 + 4 * (7 * v3 + v4)) + 3) < 1120) ∧ ((((I 349 ((38 + 4 * (7 * v3 + v4)) + 3).toNat) ≠ v1) → ga_W G (d + 1) mt_Mo_locksOf 16 [some (.inr 348), some (.inl v1), some (.inl (v2 + 0)), some (.inl v3), some (.inl (v4 + 1))] [] I E) ∧ (((I 349 ((38 + 4 * (7 * v3 + v4)) + 3).toNat) = v1) → ga_W G (d + 1) mt_Mo_locksOf 16 [some (.inr 348), some (.inl v1), some (.inl (v2 + 1)), some (.inl v3), some (.inl (v4 + 1))] [] I E)))))) :
    ga_W G (d + 1) mt_Mo_locksOf 16 [some (.inr 348), some (.inl v1), some (.inl v2), some (.inl v3), some (.inl v4)] [] I E := by
  refine gw_RG (fun hI1 => ?_)
  have h := h hI1
  refine gw_iload 4 d_Mo_locksOf_16 rfl ?_
  refine gw_aload_n 0 d_Mo_locksOf_18 rfl rfl ?_
  refine gw_iconst d_Mo_locksOf_19 ?_
  obtain ⟨g1, h⟩ := h
  refine gw_invV (as := [.inl 1]) (k := 348) (rest := [.inl v4]) (d' := d) d_Mo_locksOf_20 lk_Mo_55 (ga_rcv (ga_oM) rfl rfl) rfl (Nat.le_of_ble_eq_true rfl) (Nat.le_of_ble_eq_true rfl) rfl rfl (s_Mo_borders g1 ?_)
  show ga_W G (d + 1) mt_Mo_locksOf 23 [some (.inr 348), some (.inl v1), some (.inl v2), some (.inl v3), some (.inl v4)] [.inl (ms_n (I 349) (1 : Int)), .inl v4] I E
  refine gw_icmp_gt 57 d_Mo_locksOf_23 (by decide) r4 (hI1 _ _) (fun hc => ?_) (fun hc => ?_)
  · have h := h.1 hc
    refine gw_iinc 3 d_Mo_locksOf_57 rfl rfl ?_
    refine gw_goto 4 d_Mo_locksOf_60 (by decide) ?_
    exact gw_le h (by exact ⟨rfl, ⟨rfl, ⟨rfl, ⟨rfl, trivial⟩⟩⟩⟩)
  · have h := h.2 hc
    refine gw_iload_n 2 d_Mo_locksOf_26 rfl rfl ?_
    refine gw_aload_n 0 d_Mo_locksOf_27 rfl rfl ?_
    refine gw_getR d_Mo_locksOf_28 fl_Mo_7 (ga_oM) rfl ?_
    refine gw_iload_n 3 d_Mo_locksOf_31 rfl rfl ?_
    refine gw_iload 4 d_Mo_locksOf_32 rfl ?_
    refine gw_invS (as := [.inl v3, .inl v4]) (rest := [.inr 349, .inl v2]) (d' := d) d_Mo_locksOf_34 lk_Mo_59 rfl (Nat.le_of_ble_eq_true rfl) (Nat.le_of_ble_eq_true rfl) rfl rfl (s_Mo_at  ?_)
    show ga_W G (d + 1) mt_Mo_locksOf 37 [some (.inr 348), some (.inl v1), some (.inl v2), some (.inl v3), some (.inl v4)] [.inl (38 + 4 * (7 * v3 + v4)), .inr 349, .inl v2] I E
    refine gw_iconst d_Mo_locksOf_37 ?_
    refine gw_iadd d_Mo_locksOf_38 ?_
    obtain ⟨g2, h⟩ := h
    obtain ⟨g3, h⟩ := h
    refine gw_iald d_Mo_locksOf_39 (ga_aM1) g2 g3 ?_
    refine gw_iload_n 1 d_Mo_locksOf_40 rfl rfl ?_
    refine gw_icmp_ne 48 d_Mo_locksOf_41 (by decide) (hI1 _ _) r1 (fun hc => ?_) (fun hc => ?_)
    · have h := h.1 hc
      refine gw_iconst d_Mo_locksOf_48 ?_
      refine gw_iadd d_Mo_locksOf_49 ?_
      refine gw_istore_n 2 d_Mo_locksOf_50 rfl (Nat.le_of_ble_eq_true rfl) rfl ?_
      refine gw_iinc 4 d_Mo_locksOf_51 rfl rfl ?_
      refine gw_goto 16 d_Mo_locksOf_54 (by decide) ?_
      exact gw_le h (by exact ⟨rfl, ⟨rfl, ⟨rfl, ⟨rfl, ⟨rfl, trivial⟩⟩⟩⟩⟩)
    · have h := h.2 hc
      refine gw_iconst d_Mo_locksOf_44 ?_
      refine gw_goto 49 d_Mo_locksOf_45 (by decide) ?_
      refine gw_iadd d_Mo_locksOf_49 ?_
      refine gw_istore_n 2 d_Mo_locksOf_50 rfl (Nat.le_of_ble_eq_true rfl) rfl ?_
      refine gw_iinc 4 d_Mo_locksOf_51 rfl rfl ?_
      refine gw_goto 16 d_Mo_locksOf_54 (by decide) ?_
      exact gw_le h (by exact ⟨rfl, ⟨rfl, ⟨rfl, ⟨rfl, ⟨rfl, trivial⟩⟩⟩⟩⟩)

theorem k_Mo_copyRegion_0 {G : ga_G} {d : Nat} {I : ga_I} {E : Option ga_V → ga_I → Prop} {v1 : Int} {v2 : Int} {v3 : Int} {v4 : Int} 
    (h : ga_RG I → ga_W G (d + 1) mt_Mo_copyRegion 3 [some (.inr 348), some (.inl v1), some (.inl v2), some (.inl v3), some (.inl v4), some (.inl 0)] [] I E) :
    ga_W G (d + 1) mt_Mo_copyRegion 0 (ga_en 6 [.inr 348, .inl v1, .inl v2, .inl v3, .inl v4]) [] I E := by
  show ga_W G (d + 1) mt_Mo_copyRegion 0 [some (.inr 348), some (.inl v1), some (.inl v2), some (.inl v3), some (.inl v4), none] [] I E
  refine gw_RG (fun hI1 => ?_)
  have h := h hI1
  refine gw_iconst d_Mo_copyRegion_0 ?_
  refine gw_istore 5 d_Mo_copyRegion_1 (Nat.le_of_ble_eq_true rfl) rfl ?_
  exact gw_le h (by exact ⟨rfl, ⟨rfl, ⟨rfl, ⟨rfl, ⟨rfl, ⟨rfl, trivial⟩⟩⟩⟩⟩⟩)
theorem k_Mo_copyRegion_3 {G : ga_G} {d : Nat} {I : ga_I} {E : Option ga_V → ga_I → Prop} {v1 : Int} {v2 : Int} {v3 : Int} {v4 : Int} {v5 : Int} (r5 : ga_rg v5)
    (h : ga_RG I → ((4 ≤ v5) → E none I) ∧ ((¬ (4 ≤ v5)) → (0 ≤ ((38 + 4 * (7 * v1 + v2)) + v5)) ∧ ((((38 + 4 * (7 * v1 + v2)) + v5) < 1120) ∧ ((0 ≤ ((38 + 4 * (7 * v3 + v4)) + v5)) ∧ ((((38 + 4 * (7 * v3 + v4)) + v5) < 1120) ∧ (ga_W G (d + 1) mt_Mo_copyRegion 3 [some (.inr 348), some (.inl v1), some (.inl v2), some (.inl v3), some (.inl v4), some (.inl (v5 + 1))] [] (ga_up I 349 ((38 + 4 * (7 * v3 + v4)) + v5).toNat (I 349 ((38 + 4 * (7 * v1 + v2)) + v5).toNat)) E)))))) :
    ga_W G (d + 1) mt_Mo_copyRegion 3 [some (.inr 348), some (.inl v1), some (.inl v2), some (.inl v3), some (.inl v4), some (.inl v5)] [] I E := by
  refine gw_RG (fun hI1 => ?_)
  have h := h hI1
  refine gw_iload 5 d_Mo_copyRegion_3 rfl ?_
  refine gw_iconst d_Mo_copyRegion_5 ?_
  refine gw_icmp_ge 42 d_Mo_copyRegion_6 (by decide) r5 ⟨by decide, by decide⟩ (fun hc => ?_) (fun hc => ?_)
  · have h := h.1 hc
    exact gw_return d_Mo_copyRegion_42 rfl h
  · have h := h.2 hc
    refine gw_aload_n 0 d_Mo_copyRegion_9 rfl rfl ?_
    refine gw_getR d_Mo_copyRegion_10 fl_Mo_7 (ga_oM) rfl ?_
    refine gw_iload_n 3 d_Mo_copyRegion_13 rfl rfl ?_
    refine gw_iload 4 d_Mo_copyRegion_14 rfl ?_
    refine gw_invS (as := [.inl v3, .inl v4]) (rest := [.inr 349]) (d' := d) d_Mo_copyRegion_16 lk_Mo_59 rfl (Nat.le_of_ble_eq_true rfl) (Nat.le_of_ble_eq_true rfl) rfl rfl (s_Mo_at  ?_)
    show ga_W G (d + 1) mt_Mo_copyRegion 19 [some (.inr 348), some (.inl v1), some (.inl v2), some (.inl v3), some (.inl v4), some (.inl v5)] [.inl (38 + 4 * (7 * v3 + v4)), .inr 349] I E
    refine gw_iload 5 d_Mo_copyRegion_19 rfl ?_
    refine gw_iadd d_Mo_copyRegion_21 ?_
    refine gw_aload_n 0 d_Mo_copyRegion_22 rfl rfl ?_
    refine gw_getR d_Mo_copyRegion_23 fl_Mo_7 (ga_oM) rfl ?_
    refine gw_iload_n 1 d_Mo_copyRegion_26 rfl rfl ?_
    refine gw_iload_n 2 d_Mo_copyRegion_27 rfl rfl ?_
    refine gw_invS (as := [.inl v1, .inl v2]) (rest := [.inr 349, .inl ((38 + 4 * (7 * v3 + v4)) + v5), .inr 349]) (d' := d) d_Mo_copyRegion_28 lk_Mo_59 rfl (Nat.le_of_ble_eq_true rfl) (Nat.le_of_ble_eq_true rfl) rfl rfl (s_Mo_at  ?_)
    show ga_W G (d + 1) mt_Mo_copyRegion 31 [some (.inr 348), some (.inl v1), some (.inl v2), some (.inl v3), some (.inl v4), some (.inl v5)] [.inl (38 + 4 * (7 * v1 + v2)), .inr 349, .inl ((38 + 4 * (7 * v3 + v4)) + v5), .inr 349] I E
    refine gw_iload 5 d_Mo_copyRegion_31 rfl ?_
    refine gw_iadd d_Mo_copyRegion_33 ?_
    obtain ⟨g1, h⟩ := h
    obtain ⟨g2, h⟩ := h
    refine gw_iald d_Mo_copyRegion_34 (ga_aM1) g1 g2 ?_
    obtain ⟨g3, h⟩ := h
    obtain ⟨g4, h⟩ := h
    refine gw_iast d_Mo_copyRegion_35 (ga_aM1) g3 g4 ?_
    show ga_W G (d + 1) mt_Mo_copyRegion 36 [some (.inr 348), some (.inl v1), some (.inl v2), some (.inl v3), some (.inl v4), some (.inl v5)] [] (ga_up I 349 ((38 + 4 * (7 * v3 + v4)) + v5).toNat (ga_wr (I 349 ((38 + 4 * (7 * v1 + v2)) + v5).toNat))) E
    rw [ga_wr_eq (z := (I 349 ((38 + 4 * (7 * v1 + v2)) + v5).toNat)) (hI1 _ _)]
    refine gw_RG (fun hI2 => ?_)
    refine gw_iinc 5 d_Mo_copyRegion_36 rfl rfl ?_
    refine gw_goto 3 d_Mo_copyRegion_39 (by decide) ?_
    exact gw_le h (by exact ⟨rfl, ⟨rfl, ⟨rfl, ⟨rfl, ⟨rfl, ⟨rfl, trivial⟩⟩⟩⟩⟩⟩)

section MI
def mp_g3 (s : Nat → Int) : Nat → Int := fun g => s (38 + 4 * g) + s (38 + 4 * g + 1) + s (38 + 4 * g + 2)
def mp_lk (s : Nat → Int) (op : Int) : Nat → Int := fun g => if s (38 + 4 * g + 3) = op then 1 else 0
variable {G : ga_G} {d : Nat} {I : ga_I} {E : Option ga_V → ga_I → Prop}
theorem l_Mo_allGains2 (hn : mo_n I) {c m : Nat} (hc : (c : Int) ≤ ms_n (I 349) 0) {v : Int} (hm : (m : Int) = ms_n (I 349) 1 + 1)
    (K : ga_W G (d + 1) mt_Mo_allGains 4 [some (.inr 348), some (.inl (v + gp_rw (fun r => mp_g3 (I 349) (c * 7 + r)) m)), some (.inl ((c : Int) + 1)), none] [] I E) :
    ∀ (j r : Nat), r + j = m → ga_W G (d + 1) mt_Mo_allGains 15 [some (.inr 348), some (.inl (v + gp_rw (fun r => mp_g3 (I 349) (c * 7 + r)) r)), some (.inl (c : Int)), some (.inl (r : Int))] [] I E := by
  obtain ⟨n0, n1⟩ := hn
  intro j
  induction j with
  | zero =>
    intro r hr
    refine k_Mo_allGains_15 ⟨by omega, by omega⟩ (fun hI => ⟨by omega, fun h1 => ?_, fun h1 => by exfalso; omega⟩)
    rwa [show r = m by omega]
  | succ j ih =>
    intro r hr
    have e := ih (r + 1) (by omega)
    refine k_Mo_allGains_15 ⟨by omega, by omega⟩ (fun hI => ⟨by omega, fun h1 => by exfalso; omega, fun h1 => ⟨by omega, by omega, by omega, by omega, by omega, by omega, ?_⟩⟩)
    refine gw_eq e ?_ rfl
    have i0 : (38 + 4 * (7 * (c : Int) + (r : Int))).toNat = 38 + 4 * (c * 7 + r) := by omega
    have i1 : (38 + 4 * (7 * (c : Int) + (r : Int)) + 1).toNat = 38 + 4 * (c * 7 + r) + 1 := by omega
    have i2 : (38 + 4 * (7 * (c : Int) + (r : Int)) + 2).toNat = 38 + 4 * (c * 7 + r) + 2 := by omega
    rw [i0, i1, i2, gp_rw]
    simp only [mp_g3, Int.add_assoc]
    rfl
theorem l_Mo_allGains (hn : mo_n I) {m n : Nat} (hm : (m : Int) = ms_n (I 349) 1 + 1) (hn2 : (n : Int) = ms_n (I 349) 0 + 1) (h : E (some (.inl (gp_tt (mp_g3 (I 349)) n m))) I) :
    ∀ (j c : Nat), c + j = n → ga_W G (d + 1) mt_Mo_allGains 4 [some (.inr 348), some (.inl (gp_tt (mp_g3 (I 349)) c m)), some (.inl (c : Int)), none] [] I E := by
  obtain ⟨n0, n1⟩ := id hn
  intro j
  induction j with
  | zero =>
    intro c hc
    refine k_Mo_allGains_4 ⟨by omega, by omega⟩ (fun hI => ⟨by omega, fun h1 => ?_, fun h1 => by exfalso; omega⟩)
    rwa [show c = n by omega]
  | succ j ih =>
    intro c hc
    have e := ih (c + 1) (by omega)
    refine k_Mo_allGains_4 ⟨by omega, by omega⟩ (fun hI => ⟨by omega, fun h1 => by exfalso; omega, fun h1 => ?_⟩)
    have e2 := l_Mo_allGains2 (G := G) (d := d) (E := E) hn (c := c) (m := m) (by omega) (v := gp_tt (mp_g3 (I 349)) c m) hm e m 0 (by omega)
    refine gw_eq e2 ?_ rfl
    rw [show gp_rw (fun r => mp_g3 (I 349) (c * 7 + r)) 0 = 0 from rfl, Int.add_zero]; rfl
theorem s_Mo_allGains (hn : mo_n I) (h : E (some (.inl (gp_tt (mp_g3 (I 349)) ((ms_n (I 349) 0).toNat + 1) ((ms_n (I 349) 1).toNat + 1)))) I) : ga_W G (d + 1) mt_Mo_allGains 0 (ga_en 4 [.inr 348]) [] I E := by
  obtain ⟨n0, n1⟩ := id hn
  exact k_Mo_allGains_0 (fun _ => l_Mo_allGains hn (by omega) (by omega) h ((ms_n (I 349) 0).toNat + 1) 0 (by omega))
theorem l_Mo_locksOf2 (hn : mo_n I) {op : Int} (ho : ga_rg op) {c m : Nat} (hc : (c : Int) ≤ ms_n (I 349) 0) {v : Int} (hm : (m : Int) = ms_n (I 349) 1 + 1)
    (K : ga_W G (d + 1) mt_Mo_locksOf 4 [some (.inr 348), some (.inl op), some (.inl (v + gp_rw (fun r => mp_lk (I 349) op (c * 7 + r)) m)), some (.inl ((c : Int) + 1)), none] [] I E) :
    ∀ (j r : Nat), r + j = m → ga_W G (d + 1) mt_Mo_locksOf 16 [some (.inr 348), some (.inl op), some (.inl (v + gp_rw (fun r => mp_lk (I 349) op (c * 7 + r)) r)), some (.inl (c : Int)), some (.inl (r : Int))] [] I E := by
  obtain ⟨n0, n1⟩ := hn
  intro j
  induction j with
  | zero =>
    intro r hr
    refine k_Mo_locksOf_16 ho ⟨by omega, by omega⟩ (fun hI => ⟨by omega, fun h1 => ?_, fun h1 => by exfalso; omega⟩)
    rwa [show r = m by omega]
  | succ j ih =>
    intro r hr
    have e := ih (r + 1) (by omega)
    have i0 : (38 + 4 * (7 * (c : Int) + (r : Int)) + 3).toNat = 38 + 4 * (c * 7 + r) + 3 := by omega
    refine k_Mo_locksOf_16 ho ⟨by omega, by omega⟩ (fun hI => ⟨by omega, fun h1 => by exfalso; omega, fun h1 => ⟨by omega, by omega, fun h2 => ?_, fun h2 => ?_⟩⟩) <;> rw [i0] at h2
    · refine gw_eq e ?_ rfl
      have e2 : mp_lk (I 349) op (c * 7 + r) = 0 := if_neg h2
      rw [gp_rw, e2, ← Int.add_assoc]; rfl
    · refine gw_eq e ?_ rfl
      have e2 : mp_lk (I 349) op (c * 7 + r) = 1 := if_pos h2
      rw [gp_rw, e2, ← Int.add_assoc]; rfl
theorem l_Mo_locksOf (hn : mo_n I) {op : Int} (ho : ga_rg op) {m n : Nat} (hm : (m : Int) = ms_n (I 349) 1 + 1) (hn2 : (n : Int) = ms_n (I 349) 0 + 1) (h : E (some (.inl (gp_tt (mp_lk (I 349) op) n m))) I) :
    ∀ (j c : Nat), c + j = n → ga_W G (d + 1) mt_Mo_locksOf 4 [some (.inr 348), some (.inl op), some (.inl (gp_tt (mp_lk (I 349) op) c m)), some (.inl (c : Int)), none] [] I E := by
  obtain ⟨n0, n1⟩ := id hn
  intro j
  induction j with
  | zero =>
    intro c hc
    refine k_Mo_locksOf_4 ⟨by omega, by omega⟩ (fun hI => ⟨by omega, fun h1 => ?_, fun h1 => by exfalso; omega⟩)
    rwa [show c = n by omega]
  | succ j ih =>
    intro c hc
    have e := ih (c + 1) (by omega)
    refine k_Mo_locksOf_4 ⟨by omega, by omega⟩ (fun hI => ⟨by omega, fun h1 => by exfalso; omega, fun h1 => ?_⟩)
    have e2 := l_Mo_locksOf2 (G := G) (d := d) (E := E) hn ho (c := c) (m := m) (by omega) (v := gp_tt (mp_lk (I 349) op) c m) hm e m 0 (by omega)
    refine gw_eq e2 ?_ rfl
    rw [show gp_rw (fun r => mp_lk (I 349) op (c * 7 + r)) 0 = 0 from rfl, Int.add_zero]; rfl
theorem s_Mo_locksOf (hn : mo_n I) {op : Int} (ho : ga_rg op) (h : E (some (.inl (gp_tt (mp_lk (I 349) op) ((ms_n (I 349) 0).toNat + 1) ((ms_n (I 349) 1).toNat + 1)))) I) : ga_W G (d + 1) mt_Mo_locksOf 0 (ga_en 5 [.inr 348, .inl op]) [] I E := by
  obtain ⟨n0, n1⟩ := id hn
  exact k_Mo_locksOf_0 (fun _ => l_Mo_locksOf hn ho (by omega) (by omega) h ((ms_n (I 349) 0).toNat + 1) 0 (by omega))
theorem s_Mo_copyRegion {a b c e : Int} (h1 : (0 ≤ a ∧ a ≤ 6) ∧ (0 ≤ b ∧ b ≤ 6)) (h2 : (0 ≤ c ∧ c ≤ 6) ∧ (0 ≤ e ∧ e ≤ 6)) (h : E none (mx_cr I (7 * a + b).toNat (7 * c + e).toNat)) : ga_W G (d + 1) mt_Mo_copyRegion 0 (ga_en 6 [.inr 348, .inl a, .inl b, .inl c, .inl e]) [] I E := by
  have hsg : (7 * a + b).toNat = (7 * c + e).toNat ∨ (7 * a + b).toNat ≠ (7 * c + e).toNat := by omega
  have i0 : ∀ x y : Int, (0 ≤ x ∧ x ≤ 6) ∧ (0 ≤ y ∧ y ≤ 6) → (38 + 4 * (7 * x + y) + 0).toNat = 38 + 4 * (7 * x + y).toNat := fun x y _ => by omega
  have i1 : ∀ x y : Int, (0 ≤ x ∧ x ≤ 6) ∧ (0 ≤ y ∧ y ≤ 6) → (38 + 4 * (7 * x + y) + (0 + 1)).toNat = 38 + 4 * (7 * x + y).toNat + 1 := fun x y _ => by omega
  have i2 : ∀ x y : Int, (0 ≤ x ∧ x ≤ 6) ∧ (0 ≤ y ∧ y ≤ 6) → (38 + 4 * (7 * x + y) + (0 + 1 + 1)).toNat = 38 + 4 * (7 * x + y).toNat + 2 := fun x y _ => by omega
  have i3 : ∀ x y : Int, (0 ≤ x ∧ x ≤ 6) ∧ (0 ≤ y ∧ y ≤ 6) → (38 + 4 * (7 * x + y) + (0 + 1 + 1 + 1)).toNat = 38 + 4 * (7 * x + y).toNat + 3 := fun x y _ => by omega
  refine k_Mo_copyRegion_0 (fun _ => ?_)
  refine k_Mo_copyRegion_3 ⟨by omega, by omega⟩ (fun _ => ⟨fun q => by exfalso; omega, fun q => ⟨by omega, by omega, by omega, by omega, ?_⟩⟩)
  refine k_Mo_copyRegion_3 ⟨by omega, by omega⟩ (fun _ => ⟨fun q => by exfalso; omega, fun q => ⟨by omega, by omega, by omega, by omega, ?_⟩⟩)
  refine k_Mo_copyRegion_3 ⟨by omega, by omega⟩ (fun _ => ⟨fun q => by exfalso; omega, fun q => ⟨by omega, by omega, by omega, by omega, ?_⟩⟩)
  refine k_Mo_copyRegion_3 ⟨by omega, by omega⟩ (fun _ => ⟨fun q => by exfalso; omega, fun q => ⟨by omega, by omega, by omega, by omega, ?_⟩⟩)
  refine k_Mo_copyRegion_3 ⟨by omega, by omega⟩ (fun _ => ⟨fun q => ?_, fun q => by exfalso; omega⟩)
  rw [i0 a b h1, i1 a b h1, i2 a b h1, i3 a b h1, i0 c e h2, i1 c e h2, i2 c e h2, i3 c e h2]
  rw [ga_up_nj (b := 38 + 4 * (7 * a + b).toNat + 3) (by omega), ga_up_nj (b := 38 + 4 * (7 * a + b).toNat + 3) (by omega), ga_up_nj (b := 38 + 4 * (7 * a + b).toNat + 3) (by omega), ga_up_nj (b := 38 + 4 * (7 * a + b).toNat + 2) (by omega), ga_up_nj (b := 38 + 4 * (7 * a + b).toNat + 2) (by omega), ga_up_nj (b := 38 + 4 * (7 * a + b).toNat + 1) (by omega)]
  exact h
end MI
theorem k_Mo_copyStrip_0 {G : ga_G} {d : Nat} {I : ga_I} {E : Option ga_V → ga_I → Prop} {v1 : Int} {v2 : Int} {v3 : Int} 
    (h : ga_RG I → ga_W G (d + 2) mt_Mo_copyStrip 3 [some (.inr 348), some (.inl v1), some (.inl v2), some (.inl v3), some (.inl 0)] [] I E) :
    ga_W G (d + 2) mt_Mo_copyStrip 0 (ga_en 5 [.inr 348, .inl v1, .inl v2, .inl v3]) [] I E := by
  show ga_W G (d + 2) mt_Mo_copyStrip 0 [some (.inr 348), some (.inl v1), some (.inl v2), some (.inl v3), none] [] I E
  refine gw_RG (fun hI1 => ?_)
  have h := h hI1
  refine gw_iconst d_Mo_copyStrip_0 ?_
  refine gw_istore 4 d_Mo_copyStrip_1 (Nat.le_of_ble_eq_true rfl) rfl ?_
  exact gw_le h (by exact ⟨rfl, ⟨rfl, ⟨rfl, ⟨rfl, ⟨rfl, trivial⟩⟩⟩⟩⟩)
theorem k_Mo_copyStrip_3 {G : ga_G} {d : Nat} {I : ga_I} {E : Option ga_V → ga_I → Prop} {v1 : Int} {v2 : Int} {v3 : Int} {v4 : Int} (r1 : ga_rg v1) (r4 : ga_rg v4)
    (h : ga_RG I → ((7 ≤ v4) → E none I) ∧ ((¬ (7 ≤ v4)) → ((v1 ≠ 0) → ((v1 ≠ 0) → ((v1 ≠ 0) → ((v1 ≠ 0) → ((0 ≤ v4 ∧ v4 ≤ 6) ∧ (0 ≤ v2 ∧ v2 ≤ 6)) ∧ (((0 ≤ v4 ∧ v4 ≤ 6) ∧ (0 ≤ v3 ∧ v3 ≤ 6)) ∧ (ga_W G (d + 2) mt_Mo_copyStrip 3 [some (.inr 348), some (.inl v1), some (.inl v2), some (.inl v3), some (.inl (v4 + 1))] [] (mx_cr I (7 * v4 + v2).toNat (7 * v4 + v3).toNat) E))) ∧ ((v1 = 0) → ((0 ≤ v4 ∧ v4 ≤ 6) ∧ (0 ≤ v2 ∧ v2 ≤ 6)) ∧ (((0 ≤ v4 ∧ v4 ≤ 6) ∧ (0 ≤ v4 ∧ v4 ≤ 6)) ∧ (ga_W G (d + 2) mt_Mo_copyStrip 3 [some (.inr 348), some (.inl v1), some (.inl v2), some (.inl v3), some (.inl (v4 + 1))] [] (mx_cr I (7 * v4 + v2).toNat (7 * v4 + v4).toNat) E)))) ∧ ((v1 = 0) → ((v1 ≠ 0) → ((0 ≤ v4 ∧ v4 ≤ 6) ∧ (0 ≤ v2 ∧ v2 ≤ 6)) ∧ (((0 ≤ v3 ∧ v3 ≤ 6) ∧ (0 ≤ v3 ∧ v3 ≤ 6)) ∧ (ga_W G (d + 2) mt_Mo_copyStrip 3 [some (.inr 348), some (.inl v1), some (.inl v2), some (.inl v3), some (.inl (v4 + 1))] [] (mx_cr I (7 * v4 + v2).toNat (7 * v3 + v3).toNat) E))) ∧ ((v1 = 0) → ((0 ≤ v4 ∧ v4 ≤ 6) ∧ (0 ≤ v2 ∧ v2 ≤ 6)) ∧ (((0 ≤ v3 ∧ v3 ≤ 6) ∧ (0 ≤ v4 ∧ v4 ≤ 6)) ∧ (ga_W G (d + 2) mt_Mo_copyStrip 3 [some (.inr 348), some (.inl v1), some (.inl v2), some (.inl v3), some (.inl (v4 + 1))] [] (mx_cr I (7 * v4 + v2).toNat (7 * v3 + v4).toNat) E))))) ∧ ((v1 = 0) → ((v1 ≠ 0) → ((v1 ≠ 0) → ((0 ≤ v4 ∧ v4 ≤ 6) ∧ (0 ≤ v4 ∧ v4 ≤ 6)) ∧ (((0 ≤ v4 ∧ v4 ≤ 6) ∧ (0 ≤ v3 ∧ v3 ≤ 6)) ∧ (ga_W G (d + 2) mt_Mo_copyStrip 3 [some (.inr 348), some (.inl v1), some (.inl v2), some (.inl v3), some (.inl (v4 + 1))] [] (mx_cr I (7 * v4 + v4).toNat (7 * v4 + v3).toNat) E))) ∧ ((v1 = 0) → ((0 ≤ v4 ∧ v4 ≤ 6) ∧ (0 ≤ v4 ∧ v4 ≤ 6)) ∧ (ga_W G (d + 2) mt_Mo_copyStrip 3 [some (.inr 348), some (.inl v1), some (.inl v2), some (.inl v3), some (.inl (v4 + 1))] [] (mx_cr I (7 * v4 + v4).toNat (7 * v4 + v4).toNat) E))) ∧ ((v1 = 0) → ((v1 ≠ 0) → ((0 ≤ v4 ∧ v4 ≤ 6) ∧ (0 ≤ v4 ∧ v4 ≤ 6)) ∧ (((0 ≤ v3 ∧ v3 ≤ 6) ∧ (0 ≤ v3 ∧ v3 ≤ 6)) ∧ (ga_W G (d + 2) mt_Mo_copyStrip 3 [some (.inr 348), some (.inl v1), some (.inl v2), some (.inl v3), some (.inl (v4 + 1))] [] (mx_cr I (7 * v4 + v4).toNat (7 * v3 + v3).toNat) E))) ∧ ((v1 = 0) → ((0 ≤ v4 ∧ v4 ≤ 6) ∧ (0 ≤ v4 ∧ v4 ≤ 6)) ∧ (((0 ≤ v3 ∧ v3 ≤ 6) ∧ (0 ≤ v4 ∧ v4 ≤ 6)) ∧ (ga_W G (d + 2) mt_Mo_copyStrip 3 [some (.inr 348), some (.inl v1), some (.inl v2), some (.inl v3), some (.inl (v4 + 1))] [] (mx_cr I (7 * v4 + v4).toNat (7 * v3 + v4).toNat) E)))))) ∧ ((v1 = 0) → ((v1 ≠ 0) → ((v1 ≠ 0) → ((v1 ≠ 0) → ((0 ≤ v2 ∧ v2 ≤ 6) ∧ (0 ≤ v2 ∧ v2 ≤ 6)) ∧ (((0 ≤ v4 ∧ v4 ≤ 6) ∧ (0 ≤ v3 ∧ v3 ≤ 6)) ∧ (ga_W G (d + 2) mt_Mo_copyStrip 3 [some (.inr 348), some (.inl v1), some (.inl v2), some (.inl v3), some (.inl (v4 + 1))] [] (mx_cr I (7 * v2 + v2).toNat (7 * v4 + v3).toNat) E))) ∧ ((v1 = 0) → ((0 ≤ v2 ∧ v2 ≤ 6) ∧ (0 ≤ v2 ∧ v2 ≤ 6)) ∧ (((0 ≤ v4 ∧ v4 ≤ 6) ∧ (0 ≤ v4 ∧ v4 ≤ 6)) ∧ (ga_W G (d + 2) mt_Mo_copyStrip 3 [some (.inr 348), some (.inl v1), some (.inl v2), some (.inl v3), some (.inl (v4 + 1))] [] (mx_cr I (7 * v2 + v2).toNat (7 * v4 + v4).toNat) E)))) ∧ ((v1 = 0) → ((v1 ≠ 0) → ((0 ≤ v2 ∧ v2 ≤ 6) ∧ (0 ≤ v2 ∧ v2 ≤ 6)) ∧ (((0 ≤ v3 ∧ v3 ≤ 6) ∧ (0 ≤ v3 ∧ v3 ≤ 6)) ∧ (ga_W G (d + 2) mt_Mo_copyStrip 3 [some (.inr 348), some (.inl v1), some (.inl v2), some (.inl v3), some (.inl (v4 + 1))] [] (mx_cr I (7 * v2 + v2).toNat (7 * v3 + v3).toNat) E))) ∧ ((v1 = 0) → ((0 ≤ v2 ∧ v2 ≤ 6) ∧ (0 ≤ v2 ∧ v2 ≤ 6)) ∧ (((0 ≤ v3 ∧ v3 ≤ 6) ∧ (0 ≤ v4 ∧ v4 ≤ 6)) ∧ (ga_W G (d + 2) mt_Mo_copyStrip 3 [some (.inr 348), some (.inl v1), some (.inl v2), some (.inl v3), some (.inl (v4 + 1))] [] (mx_cr I (7 * v2 + v2).toNat (7 * v3 + v4).toNat) E))))) ∧ ((v1 = 0) → ((v1 ≠ 0) → ((v1 ≠ 0) → ((0 ≤ v2 ∧ v2 ≤ 6) ∧ (0 ≤ v4 ∧ v4 ≤ 6)) ∧ (((0 ≤ v4 ∧ v4 ≤ 6) ∧ (0 ≤ v3 ∧ v3 ≤ 6)) ∧ (ga_W G (d + 2) mt_Mo_copyStrip 3 [some (.inr 348), some (.inl v1), some (.inl v2), some (.inl v3), some (.inl (v4 + 1))] [] (mx_cr I (7 * v2 + v4).toNat (7 * v4 + v3).toNat) E))) ∧ ((v1 = 0) → ((0 ≤ v2 ∧ v2 ≤ 6) ∧ (0 ≤ v4 ∧ v4 ≤ 6)) ∧ (((0 ≤ v4 ∧ v4 ≤ 6) ∧ (0 ≤ v4 ∧ v4 ≤ 6)) ∧ (ga_W G (d + 2) mt_Mo_copyStrip 3 [some (.inr 348), some (.inl v1), some (.inl v2), some (.inl v3), some (.inl (v4 + 1))] [] (mx_cr I (7 * v2 + v4).toNat (7 * v4 + v4).toNat) E)))) ∧ ((v1 = 0) → ((v1 ≠ 0) → ((0 ≤ v2 ∧ v2 ≤ 6) ∧ (0 ≤ v4 ∧ v4 ≤ 6)) ∧ (((0 ≤ v3 ∧ v3 ≤ 6) ∧ (0 ≤ v3 ∧ v3 ≤ 6)) ∧ (ga_W G (d + 2) mt_Mo_copyStrip 3 [some (.inr 348), some (.inl v1), some (.inl v2), some (.inl v3), some (.inl (v4 + 1))] [] (mx_cr I (7 * v2 + v4).toNat (7 * v3 + v3).toNat) E))) ∧ ((v1 = 0) → ((0 ≤ v2 ∧ v2 ≤ 6) ∧ (0 ≤ v4 ∧ v4 ≤ 6)) ∧ (((0 ≤ v3 ∧ v3 ≤ 6) ∧ (0 ≤ v4 ∧ v4 ≤ 6)) ∧ (ga_W G (d + 2) mt_Mo_copyStrip 3 [some (.inr 348), some (.inl v1), some (.inl v2), some (.inl v3), some (.inl (v4 + 1))] [] (mx_cr I (7 * v2 + v4).toNat (7 * v3 + v4).toNat) E)))))))) :
    ga_W G (d + 2) mt_Mo_copyStrip 3 [some (.inr 348), some (.inl v1), some (.inl v2), some (.inl v3), some (.inl v4)] [] I E := by
  refine gw_RG (fun hI1 => ?_)
  have h := h hI1
  refine gw_iload 4 d_Mo_copyStrip_3 rfl ?_
  refine gw_bipush d_Mo_copyStrip_5 (by decide +kernel) ?_
  refine gw_icmp_ge 60 d_Mo_copyStrip_7 (by decide) r4 ⟨by decide, by decide⟩ (fun hc => ?_) (fun hc => ?_)
  · have h := h.1 hc
    exact gw_return d_Mo_copyStrip_60 rfl h
  · have h := h.2 hc
    refine gw_aload_n 0 d_Mo_copyStrip_10 rfl rfl ?_
    refine gw_iload_n 1 d_Mo_copyStrip_11 rfl rfl ?_
    refine gw_if_ne 19 d_Mo_copyStrip_12 (by decide) r1 (fun hc => ?_) (fun hc => ?_)
    · have h := h.1 hc
      refine gw_iload 4 d_Mo_copyStrip_19 rfl ?_
      refine gw_iload_n 1 d_Mo_copyStrip_21 rfl rfl ?_
      refine gw_if_ne 30 d_Mo_copyStrip_22 (by decide) r1 (fun hc => ?_) (fun hc => ?_)
      · have h := h.1 hc
        refine gw_iload_n 2 d_Mo_copyStrip_30 rfl rfl ?_
        refine gw_iload_n 1 d_Mo_copyStrip_31 rfl rfl ?_
        refine gw_if_ne 39 d_Mo_copyStrip_32 (by decide) r1 (fun hc => ?_) (fun hc => ?_)
        · have h := h.1 hc
          refine gw_iload 4 d_Mo_copyStrip_39 rfl ?_
          refine gw_iload_n 1 d_Mo_copyStrip_41 rfl rfl ?_
          refine gw_if_ne 50 d_Mo_copyStrip_42 (by decide) r1 (fun hc => ?_) (fun hc => ?_)
          · have h := h.1 hc
            refine gw_iload_n 3 d_Mo_copyStrip_50 rfl rfl ?_
            obtain ⟨g1, h⟩ := h
            obtain ⟨g2, h⟩ := h
            refine gw_invV (as := [.inl v4, .inl v2, .inl v4, .inl v3]) (k := 348) (rest := []) (d' := (d + 1)) d_Mo_copyStrip_51 lk_Mo_88 (ga_rcv (ga_oM) rfl rfl) rfl (Nat.le_of_ble_eq_true rfl) (Nat.le_of_ble_eq_true rfl) rfl rfl (s_Mo_copyRegion g1 g2 ?_)
            show ga_W G (d + 2) mt_Mo_copyStrip 54 [some (.inr 348), some (.inl v1), some (.inl v2), some (.inl v3), some (.inl v4)] [] (mx_cr I (7 * v4 + v2).toNat (7 * v4 + v3).toNat) E
            refine gw_RG (fun hI2 => ?_)
            refine gw_iinc 4 d_Mo_copyStrip_54 rfl rfl ?_
            refine gw_goto 3 d_Mo_copyStrip_57 (by decide) ?_
            exact gw_le h (by exact ⟨rfl, ⟨rfl, ⟨rfl, ⟨rfl, ⟨rfl, trivial⟩⟩⟩⟩⟩)
          · have h := h.2 hc
            refine gw_iload 4 d_Mo_copyStrip_45 rfl ?_
            refine gw_goto 51 d_Mo_copyStrip_47 (by decide) ?_
            obtain ⟨g3, h⟩ := h
            obtain ⟨g4, h⟩ := h
            refine gw_invV (as := [.inl v4, .inl v2, .inl v4, .inl v4]) (k := 348) (rest := []) (d' := (d + 1)) d_Mo_copyStrip_51 lk_Mo_88 (ga_rcv (ga_oM) rfl rfl) rfl (Nat.le_of_ble_eq_true rfl) (Nat.le_of_ble_eq_true rfl) rfl rfl (s_Mo_copyRegion g3 g4 ?_)
            show ga_W G (d + 2) mt_Mo_copyStrip 54 [some (.inr 348), some (.inl v1), some (.inl v2), some (.inl v3), some (.inl v4)] [] (mx_cr I (7 * v4 + v2).toNat (7 * v4 + v4).toNat) E
            refine gw_RG (fun hI3 => ?_)
            refine gw_iinc 4 d_Mo_copyStrip_54 rfl rfl ?_
            refine gw_goto 3 d_Mo_copyStrip_57 (by decide) ?_
            exact gw_le h (by exact ⟨rfl, ⟨rfl, ⟨rfl, ⟨rfl, ⟨rfl, trivial⟩⟩⟩⟩⟩)
        · have h := h.2 hc
          refine gw_iload_n 3 d_Mo_copyStrip_35 rfl rfl ?_
          refine gw_goto 41 d_Mo_copyStrip_36 (by decide) ?_
          refine gw_iload_n 1 d_Mo_copyStrip_41 rfl rfl ?_
          refine gw_if_ne 50 d_Mo_copyStrip_42 (by decide) r1 (fun hc => ?_) (fun hc => ?_)
          · have h := h.1 hc
            refine gw_iload_n 3 d_Mo_copyStrip_50 rfl rfl ?_
            obtain ⟨g5, h⟩ := h
            obtain ⟨g6, h⟩ := h
            refine gw_invV (as := [.inl v4, .inl v2, .inl v3, .inl v3]) (k := 348) (rest := []) (d' := (d + 1)) d_Mo_copyStrip_51 lk_Mo_88 (ga_rcv (ga_oM) rfl rfl) rfl (Nat.le_of_ble_eq_true rfl) (Nat.le_of_ble_eq_true rfl) rfl rfl (s_Mo_copyRegion g5 g6 ?_)
            show ga_W G (d + 2) mt_Mo_copyStrip 54 [some (.inr 348), some (.inl v1), some (.inl v2), some (.inl v3), some (.inl v4)] [] (mx_cr I (7 * v4 + v2).toNat (7 * v3 + v3).toNat) E
            refine gw_RG (fun hI4 => ?_)
            refine gw_iinc 4 d_Mo_copyStrip_54 rfl rfl ?_
            refine gw_goto 3 d_Mo_copyStrip_57 (by decide) ?_
            exact gw_le h (by exact ⟨rfl, ⟨rfl, ⟨rfl, ⟨rfl, ⟨rfl, trivial⟩⟩⟩⟩⟩)
          · have h := h.2 hc
            refine gw_iload 4 d_Mo_copyStrip_45 rfl ?_
            refine gw_goto 51 d_Mo_copyStrip_47 (by decide) ?_
            obtain ⟨g7, h⟩ := h
            obtain ⟨g8, h⟩ := h
            refine gw_invV (as := [.inl v4, .inl v2, .inl v3, .inl v4]) (k := 348) (rest := []) (d' := (d + 1)) d_Mo_copyStrip_51 lk_Mo_88 (ga_rcv (ga_oM) rfl rfl) rfl (Nat.le_of_ble_eq_true rfl) (Nat.le_of_ble_eq_true rfl) rfl rfl (s_Mo_copyRegion g7 g8 ?_)
            show ga_W G (d + 2) mt_Mo_copyStrip 54 [some (.inr 348), some (.inl v1), some (.inl v2), some (.inl v3), some (.inl v4)] [] (mx_cr I (7 * v4 + v2).toNat (7 * v3 + v4).toNat) E
            refine gw_RG (fun hI5 => ?_)
            refine gw_iinc 4 d_Mo_copyStrip_54 rfl rfl ?_
            refine gw_goto 3 d_Mo_copyStrip_57 (by decide) ?_
            exact gw_le h (by exact ⟨rfl, ⟨rfl, ⟨rfl, ⟨rfl, ⟨rfl, trivial⟩⟩⟩⟩⟩)
      · have h := h.2 hc
        refine gw_iload 4 d_Mo_copyStrip_25 rfl ?_
        refine gw_goto 31 d_Mo_copyStrip_27 (by decide) ?_
        refine gw_iload_n 1 d_Mo_copyStrip_31 rfl rfl ?_
        refine gw_if_ne 39 d_Mo_copyStrip_32 (by decide) r1 (fun hc => ?_) (fun hc => ?_)
        · have h := h.1 hc
          refine gw_iload 4 d_Mo_copyStrip_39 rfl ?_
          refine gw_iload_n 1 d_Mo_copyStrip_41 rfl rfl ?_
          refine gw_if_ne 50 d_Mo_copyStrip_42 (by decide) r1 (fun hc => ?_) (fun hc => ?_)
          · have h := h.1 hc
            refine gw_iload_n 3 d_Mo_copyStrip_50 rfl rfl ?_
            obtain ⟨g9, h⟩ := h
            obtain ⟨g10, h⟩ := h
            refine gw_invV (as := [.inl v4, .inl v4, .inl v4, .inl v3]) (k := 348) (rest := []) (d' := (d + 1)) d_Mo_copyStrip_51 lk_Mo_88 (ga_rcv (ga_oM) rfl rfl) rfl (Nat.le_of_ble_eq_true rfl) (Nat.le_of_ble_eq_true rfl) rfl rfl (s_Mo_copyRegion g9 g10 ?_)
            show ga_W G (d + 2) mt_Mo_copyStrip 54 [some (.inr 348), some (.inl v1), some (.inl v2), some (.inl v3), some (.inl v4)] [] (mx_cr I (7 * v4 + v4).toNat (7 * v4 + v3).toNat) E
            refine gw_RG (fun hI6 => ?_)
            refine gw_iinc 4 d_Mo_copyStrip_54 rfl rfl ?_
            refine gw_goto 3 d_Mo_copyStrip_57 (by decide) ?_
            exact gw_le h (by exact ⟨rfl, ⟨rfl, ⟨rfl, ⟨rfl, ⟨rfl, trivial⟩⟩⟩⟩⟩)
          · have h := h.2 hc
            refine gw_iload 4 d_Mo_copyStrip_45 rfl ?_
            refine gw_goto 51 d_Mo_copyStrip_47 (by decide) ?_
            obtain ⟨g11, h⟩ := h
            refine gw_invV (as := [.inl v4, .inl v4, .inl v4, .inl v4]) (k := 348) (rest := []) (d' := (d + 1)) d_Mo_copyStrip_51 lk_Mo_88 (ga_rcv (ga_oM) rfl rfl) rfl (Nat.le_of_ble_eq_true rfl) (Nat.le_of_ble_eq_true rfl) rfl rfl (s_Mo_copyRegion g11 g11 ?_)
            show ga_W G (d + 2) mt_Mo_copyStrip 54 [some (.inr 348), some (.inl v1), some (.inl v2), some (.inl v3), some (.inl v4)] [] (mx_cr I (7 * v4 + v4).toNat (7 * v4 + v4).toNat) E
            refine gw_RG (fun hI7 => ?_)
            refine gw_iinc 4 d_Mo_copyStrip_54 rfl rfl ?_
            refine gw_goto 3 d_Mo_copyStrip_57 (by decide) ?_
            exact gw_le h (by exact ⟨rfl, ⟨rfl, ⟨rfl, ⟨rfl, ⟨rfl, trivial⟩⟩⟩⟩⟩)
        · have h := h.2 hc
          refine gw_iload_n 3 d_Mo_copyStrip_35 rfl rfl ?_
          refine gw_goto 41 d_Mo_copyStrip_36 (by decide) ?_
          refine gw_iload_n 1 d_Mo_copyStrip_41 rfl rfl ?_
          refine gw_if_ne 50 d_Mo_copyStrip_42 (by decide) r1 (fun hc => ?_) (fun hc => ?_)
          · have h := h.1 hc
            refine gw_iload_n 3 d_Mo_copyStrip_50 rfl rfl ?_
            obtain ⟨g12, h⟩ := h
            obtain ⟨g13, h⟩ := h
            refine gw_invV (as := [.inl v4, .inl v4, .inl v3, .inl v3]) (k := 348) (rest := []) (d' := (d + 1)) d_Mo_copyStrip_51 lk_Mo_88 (ga_rcv (ga_oM) rfl rfl) rfl (Nat.le_of_ble_eq_true rfl) (Nat.le_of_ble_eq_true rfl) rfl rfl (s_Mo_copyRegion g12 g13 ?_)
            show ga_W G (d + 2) mt_Mo_copyStrip 54 [some (.inr 348), some (.inl v1), some (.inl v2), some (.inl v3), some (.inl v4)] [] (mx_cr I (7 * v4 + v4).toNat (7 * v3 + v3).toNat) E
            refine gw_RG (fun hI8 => ?_)
            refine gw_iinc 4 d_Mo_copyStrip_54 rfl rfl ?_
            refine gw_goto 3 d_Mo_copyStrip_57 (by decide) ?_
            exact gw_le h (by exact ⟨rfl, ⟨rfl, ⟨rfl, ⟨rfl, ⟨rfl, trivial⟩⟩⟩⟩⟩)
          · have h := h.2 hc
            refine gw_iload 4 d_Mo_copyStrip_45 rfl ?_
            refine gw_goto 51 d_Mo_copyStrip_47 (by decide) ?_
            obtain ⟨g14, h⟩ := h
            obtain ⟨g15, h⟩ := h
            refine gw_invV (as := [.inl v4, .inl v4, .inl v3, .inl v4]) (k := 348) (rest := []) (d' := (d + 1)) d_Mo_copyStrip_51 lk_Mo_88 (ga_rcv (ga_oM) rfl rfl) rfl (Nat.le_of_ble_eq_true rfl) (Nat.le_of_ble_eq_true rfl) rfl rfl (s_Mo_copyRegion g14 g15 ?_)
            show ga_W G (d + 2) mt_Mo_copyStrip 54 [some (.inr 348), some (.inl v1), some (.inl v2), some (.inl v3), some (.inl v4)] [] (mx_cr I (7 * v4 + v4).toNat (7 * v3 + v4).toNat) E
            refine gw_RG (fun hI9 => ?_)
            refine gw_iinc 4 d_Mo_copyStrip_54 rfl rfl ?_
            refine gw_goto 3 d_Mo_copyStrip_57 (by decide) ?_
            exact gw_le h (by exact ⟨rfl, ⟨rfl, ⟨rfl, ⟨rfl, ⟨rfl, trivial⟩⟩⟩⟩⟩)
    · have h := h.2 hc
      refine gw_iload_n 2 d_Mo_copyStrip_15 rfl rfl ?_
      refine gw_goto 21 d_Mo_copyStrip_16 (by decide) ?_
      refine gw_iload_n 1 d_Mo_copyStrip_21 rfl rfl ?_
      refine gw_if_ne 30 d_Mo_copyStrip_22 (by decide) r1 (fun hc => ?_) (fun hc => ?_)
      · have h := h.1 hc
        refine gw_iload_n 2 d_Mo_copyStrip_30 rfl rfl ?_
        refine gw_iload_n 1 d_Mo_copyStrip_31 rfl rfl ?_
        refine gw_if_ne 39 d_Mo_copyStrip_32 (by decide) r1 (fun hc => ?_) (fun hc => ?_)
        · have h := h.1 hc
          refine gw_iload 4 d_Mo_copyStrip_39 rfl ?_
          refine gw_iload_n 1 d_Mo_copyStrip_41 rfl rfl ?_
          refine gw_if_ne 50 d_Mo_copyStrip_42 (by decide) r1 (fun hc => ?_) (fun hc => ?_)
          · have h := h.1 hc
            refine gw_iload_n 3 d_Mo_copyStrip_50 rfl rfl ?_
            obtain ⟨g16, h⟩ := h
            obtain ⟨g17, h⟩ := h
            refine gw_invV (as := [.inl v2, .inl v2, .inl v4, .inl v3]) (k := 348) (rest := []) (d' := (d + 1)) d_Mo_copyStrip_51 lk_Mo_88 (ga_rcv (ga_oM) rfl rfl) rfl (Nat.le_of_ble_eq_true rfl) (Nat.le_of_ble_eq_true rfl) rfl rfl (s_Mo_copyRegion g16 g17 ?_)
            show ga_W G (d + 2) mt_Mo_copyStrip 54 [some (.inr 348), some (.inl v1), some (.inl v2), some (.inl v3), some (.inl v4)] [] (mx_cr I (7 * v2 + v2).toNat (7 * v4 + v3).toNat) E
            refine gw_RG (fun hI10 => ?_)
            refine gw_iinc 4 d_Mo_copyStrip_54 rfl rfl ?_
            refine gw_goto 3 d_Mo_copyStrip_57 (by decide) ?_
            exact gw_le h (by exact ⟨rfl, ⟨rfl, ⟨rfl, ⟨rfl, ⟨rfl, trivial⟩⟩⟩⟩⟩)
          · have h := h.2 hc
            refine gw_iload 4 d_Mo_copyStrip_45 rfl ?_
            refine gw_goto 51 d_Mo_copyStrip_47 (by decide) ?_
            obtain ⟨g18, h⟩ := h
            obtain ⟨g19, h⟩ := h
            refine gw_invV (as := [.inl v2, .inl v2, .inl v4, .inl v4]) (k := 348) (rest := []) (d' := (d + 1)) d_Mo_copyStrip_51 lk_Mo_88 (ga_rcv (ga_oM) rfl rfl) rfl (Nat.le_of_ble_eq_true rfl) (Nat.le_of_ble_eq_true rfl) rfl rfl (s_Mo_copyRegion g18 g19 ?_)
            show ga_W G (d + 2) mt_Mo_copyStrip 54 [some (.inr 348), some (.inl v1), some (.inl v2), some (.inl v3), some (.inl v4)] [] (mx_cr I (7 * v2 + v2).toNat (7 * v4 + v4).toNat) E
            refine gw_RG (fun hI11 => ?_)
            refine gw_iinc 4 d_Mo_copyStrip_54 rfl rfl ?_
            refine gw_goto 3 d_Mo_copyStrip_57 (by decide) ?_
            exact gw_le h (by exact ⟨rfl, ⟨rfl, ⟨rfl, ⟨rfl, ⟨rfl, trivial⟩⟩⟩⟩⟩)
        · have h := h.2 hc
          refine gw_iload_n 3 d_Mo_copyStrip_35 rfl rfl ?_
          refine gw_goto 41 d_Mo_copyStrip_36 (by decide) ?_
          refine gw_iload_n 1 d_Mo_copyStrip_41 rfl rfl ?_
          refine gw_if_ne 50 d_Mo_copyStrip_42 (by decide) r1 (fun hc => ?_) (fun hc => ?_)
          · have h := h.1 hc
            refine gw_iload_n 3 d_Mo_copyStrip_50 rfl rfl ?_
            obtain ⟨g20, h⟩ := h
            obtain ⟨g21, h⟩ := h
            refine gw_invV (as := [.inl v2, .inl v2, .inl v3, .inl v3]) (k := 348) (rest := []) (d' := (d + 1)) d_Mo_copyStrip_51 lk_Mo_88 (ga_rcv (ga_oM) rfl rfl) rfl (Nat.le_of_ble_eq_true rfl) (Nat.le_of_ble_eq_true rfl) rfl rfl (s_Mo_copyRegion g20 g21 ?_)
            show ga_W G (d + 2) mt_Mo_copyStrip 54 [some (.inr 348), some (.inl v1), some (.inl v2), some (.inl v3), some (.inl v4)] [] (mx_cr I (7 * v2 + v2).toNat (7 * v3 + v3).toNat) E
            refine gw_RG (fun hI12 => ?_)
            refine gw_iinc 4 d_Mo_copyStrip_54 rfl rfl ?_
            refine gw_goto 3 d_Mo_copyStrip_57 (by decide) ?_
            exact gw_le h (by exact ⟨rfl, ⟨rfl, ⟨rfl, ⟨rfl, ⟨rfl, trivial⟩⟩⟩⟩⟩)
          · have h := h.2 hc
            refine gw_iload 4 d_Mo_copyStrip_45 rfl ?_
            refine gw_goto 51 d_Mo_copyStrip_47 (by decide) ?_
            obtain ⟨g22, h⟩ := h
            obtain ⟨g23, h⟩ := h
            refine gw_invV (as := [.inl v2, .inl v2, .inl v3, .inl v4]) (k := 348) (rest := []) (d' := (d + 1)) d_Mo_copyStrip_51 lk_Mo_88 (ga_rcv (ga_oM) rfl rfl) rfl (Nat.le_of_ble_eq_true rfl) (Nat.le_of_ble_eq_true rfl) rfl rfl (s_Mo_copyRegion g22 g23 ?_)
            show ga_W G (d + 2) mt_Mo_copyStrip 54 [some (.inr 348), some (.inl v1), some (.inl v2), some (.inl v3), some (.inl v4)] [] (mx_cr I (7 * v2 + v2).toNat (7 * v3 + v4).toNat) E
            refine gw_RG (fun hI13 => ?_)
            refine gw_iinc 4 d_Mo_copyStrip_54 rfl rfl ?_
            refine gw_goto 3 d_Mo_copyStrip_57 (by decide) ?_
            exact gw_le h (by exact ⟨rfl, ⟨rfl, ⟨rfl, ⟨rfl, ⟨rfl, trivial⟩⟩⟩⟩⟩)
      · have h := h.2 hc
        refine gw_iload 4 d_Mo_copyStrip_25 rfl ?_
        refine gw_goto 31 d_Mo_copyStrip_27 (by decide) ?_
        refine gw_iload_n 1 d_Mo_copyStrip_31 rfl rfl ?_
        refine gw_if_ne 39 d_Mo_copyStrip_32 (by decide) r1 (fun hc => ?_) (fun hc => ?_)
        · have h := h.1 hc
          refine gw_iload 4 d_Mo_copyStrip_39 rfl ?_
          refine gw_iload_n 1 d_Mo_copyStrip_41 rfl rfl ?_
          refine gw_if_ne 50 d_Mo_copyStrip_42 (by decide) r1 (fun hc => ?_) (fun hc => ?_)
          · have h := h.1 hc
            refine gw_iload_n 3 d_Mo_copyStrip_50 rfl rfl ?_
            obtain ⟨g24, h⟩ := h
            obtain ⟨g25, h⟩ := h
            refine gw_invV (as := [.inl v2, .inl v4, .inl v4, .inl v3]) (k := 348) (rest := []) (d' := (d + 1)) d_Mo_copyStrip_51 lk_Mo_88 (ga_rcv (ga_oM) rfl rfl) rfl (Nat.le_of_ble_eq_true rfl) (Nat.le_of_ble_eq_true rfl) rfl rfl (s_Mo_copyRegion g24 g25 ?_)
            show ga_W G (d + 2) mt_Mo_copyStrip 54 [some (.inr 348), some (.inl v1), some (.inl v2), some (.inl v3), some (.inl v4)] [] (mx_cr I (7 * v2 + v4).toNat (7 * v4 + v3).toNat) E
            refine gw_RG (fun hI14 => ?_)
            refine gw_iinc 4 d_Mo_copyStrip_54 rfl rfl ?_
            refine gw_goto 3 d_Mo_copyStrip_57 (by decide) ?_
            exact gw_le h (by exact ⟨rfl, ⟨rfl, ⟨rfl, ⟨rfl, ⟨rfl, trivial⟩⟩⟩⟩⟩)
          · have h := h.2 hc
            refine gw_iload 4 d_Mo_copyStrip_45 rfl ?_
            refine gw_goto 51 d_Mo_copyStrip_47 (by decide) ?_
            obtain ⟨g26, h⟩ := h
            obtain ⟨g27, h⟩ := h
            refine gw_invV (as := [.inl v2, .inl v4, .inl v4, .inl v4]) (k := 348) (rest := []) (d' := (d + 1)) d_Mo_copyStrip_51 lk_Mo_88 (ga_rcv (ga_oM) rfl rfl) rfl (Nat.le_of_ble_eq_true rfl) (Nat.le_of_ble_eq_true rfl) rfl rfl (s_Mo_copyRegion g26 g27 ?_)
            show ga_W G (d + 2) mt_Mo_copyStrip 54 [some (.inr 348), some (.inl v1), some (.inl v2), some (.inl v3), some (.inl v4)] [] (mx_cr I (7 * v2 + v4).toNat (7 * v4 + v4).toNat) E
            refine gw_RG (fun hI15 => ?_)
            refine gw_iinc 4 d_Mo_copyStrip_54 rfl rfl ?_
            refine gw_goto 3 d_Mo_copyStrip_57 (by decide) ?_
            exact gw_le h (by exact ⟨rfl, ⟨rfl, ⟨rfl, ⟨rfl, ⟨rfl, trivial⟩⟩⟩⟩⟩)
        · have h := h.2 hc
          refine gw_iload_n 3 d_Mo_copyStrip_35 rfl rfl ?_
          refine gw_goto 41 d_Mo_copyStrip_36 (by decide) ?_
          refine gw_iload_n 1 d_Mo_copyStrip_41 rfl rfl ?_
          refine gw_if_ne 50 d_Mo_copyStrip_42 (by decide) r1 (fun hc => ?_) (fun hc => ?_)
          · have h := h.1 hc
            refine gw_iload_n 3 d_Mo_copyStrip_50 rfl rfl ?_
            obtain ⟨g28, h⟩ := h
            obtain ⟨g29, h⟩ := h
            refine gw_invV (as := [.inl v2, .inl v4, .inl v3, .inl v3]) (k := 348) (rest := []) (d' := (d + 1)) d_Mo_copyStrip_51 lk_Mo_88 (ga_rcv (ga_oM) rfl rfl) rfl (Nat.le_of_ble_eq_true rfl) (Nat.le_of_ble_eq_true rfl) rfl rfl (s_Mo_copyRegion g28 g29 ?_)
            show ga_W G (d + 2) mt_Mo_copyStrip 54 [some (.inr 348), some (.inl v1), some (.inl v2), some (.inl v3), some (.inl v4)] [] (mx_cr I (7 * v2 + v4).toNat (7 * v3 + v3).toNat) E
            refine gw_RG (fun hI16 => ?_)
            refine gw_iinc 4 d_Mo_copyStrip_54 rfl rfl ?_
            refine gw_goto 3 d_Mo_copyStrip_57 (by decide) ?_
            exact gw_le h (by exact ⟨rfl, ⟨rfl, ⟨rfl, ⟨rfl, ⟨rfl, trivial⟩⟩⟩⟩⟩)
          · have h := h.2 hc
            refine gw_iload 4 d_Mo_copyStrip_45 rfl ?_
            refine gw_goto 51 d_Mo_copyStrip_47 (by decide) ?_
            obtain ⟨g30, h⟩ := h
            obtain ⟨g31, h⟩ := h
            refine gw_invV (as := [.inl v2, .inl v4, .inl v3, .inl v4]) (k := 348) (rest := []) (d' := (d + 1)) d_Mo_copyStrip_51 lk_Mo_88 (ga_rcv (ga_oM) rfl rfl) rfl (Nat.le_of_ble_eq_true rfl) (Nat.le_of_ble_eq_true rfl) rfl rfl (s_Mo_copyRegion g30 g31 ?_)
            show ga_W G (d + 2) mt_Mo_copyStrip 54 [some (.inr 348), some (.inl v1), some (.inl v2), some (.inl v3), some (.inl v4)] [] (mx_cr I (7 * v2 + v4).toNat (7 * v3 + v4).toNat) E
            refine gw_RG (fun hI17 => ?_)
            refine gw_iinc 4 d_Mo_copyStrip_54 rfl rfl ?_
            refine gw_goto 3 d_Mo_copyStrip_57 (by decide) ?_
            exact gw_le h (by exact ⟨rfl, ⟨rfl, ⟨rfl, ⟨rfl, ⟨rfl, trivial⟩⟩⟩⟩⟩)

section MI
variable {G : ga_G} {d : Nat} {I : ga_I} {E : Option ga_V → ga_I → Prop}
/-- the regions' numbers taken from where s says -/
def mx_re (I : ga_I) (s : Nat → Nat) : ga_I := fun a j => if a = 349 ∧ 38 ≤ j ∧ j < 234 then I 349 (38 + 4 * s ((j - 38) / 4) + (j - 38) % 4) else I a j
theorem mx_re_id (I : ga_I) {s : Nat → Nat} (h : ∀ g, g < 49 → s g = g) : mx_re I s = I := by
  funext a j
  unfold mx_re
  by_cases e : a = 349 ∧ 38 ≤ j ∧ j < 234
  · rw [if_pos e, h _ (by omega), e.1]; congr 1; omega
  · rw [if_neg e]
theorem mx_re_o {I : ga_I} {a j : Nat} {s : Nat → Nat} (h : a ≠ 349 ∨ j < 38 ∨ 234 ≤ j) : mx_re I s a j = I a j := by
  unfold mx_re
  rw [if_neg (by omega)]
theorem mx_re_re (I : ga_I) (s t : Nat → Nat) (ht : ∀ g, g < 49 → t g < 49) : mx_re (mx_re I s) t = mx_re I (fun g => s (t g)) := by
  funext a j
  by_cases e : a = 349 ∧ 38 ≤ j ∧ j < 234
  · have h1 := ht ((j - 38) / 4) (by omega)
    unfold mx_re
    rw [if_pos e, if_pos e, if_pos (by omega), show (38 + 4 * t ((j - 38) / 4) + (j - 38) % 4 - 38) / 4 = t ((j - 38) / 4) by omega, show (38 + 4 * t ((j - 38) / 4) + (j - 38) % 4 - 38) % 4 = (j - 38) % 4 by omega]
  · unfold mx_re
    rw [if_neg e, if_neg e, if_neg e]
theorem mx_cr_gen (I : ga_I) {s s' : Nat → Nat} {sg tg : Nat} (h1 : sg < 49) (h2 : tg < 49) (h3 : s sg = sg) (h4 : ∀ g, g < 49 → s' g = if g = tg then sg else s g) : mx_cr (mx_re I s) sg tg = mx_re I s' := by
  have hs : ∀ i, i < 4 → mx_re I s 349 (38 + 4 * sg + i) = I 349 (38 + 4 * sg + i) := fun i hi => by
    unfold mx_re
    rw [if_pos (by omega), show (38 + 4 * sg + i - 38) / 4 = sg by omega, h3, show (38 + 4 * sg + i - 38) % 4 = i by omega]
  have hs0 : mx_re I s 349 (38 + 4 * sg) = I 349 (38 + 4 * sg) := hs 0 (by omega)
  unfold mx_cr
  rw [hs0, hs 1 (by omega), hs 2 (by omega), hs 3 (by omega)]
  funext a j
  by_cases q : a = 349 ∧ 38 ≤ j ∧ j < 234 ∧ (j - 38) / 4 = tg
  · obtain ⟨rfl, q1, q2, q3⟩ := q
    have r : mx_re I s' 349 j = I 349 (38 + 4 * sg + (j - 38) % 4) := by
      unfold mx_re
      rw [if_pos ⟨rfl, q1, q2⟩, h4 _ (by omega), if_pos q3]
    rw [r]
    rcases (show j = 38 + 4 * tg ∨ j = 38 + 4 * tg + 1 ∨ j = 38 + 4 * tg + 2 ∨ j = 38 + 4 * tg + 3 by omega) with h | h | h | h
    · rw [ga_up_nj (by omega), ga_up_nj (by omega), ga_up_nj (by omega), h, ga_up_at]; congr 1; omega
    · rw [ga_up_nj (by omega), ga_up_nj (by omega), h, ga_up_at]; congr 1; omega
    · rw [ga_up_nj (by omega), h, ga_up_at]; congr 1; omega
    · rw [h, ga_up_at]; congr 1; omega
  · have u : ∀ (H : ga_I) (j2 : Nat) (z : Int), 38 ≤ j2 → j2 < 234 → (j2 - 38) / 4 = tg → ga_up H 349 j2 z a j = H a j := fun H j2 z w1 w2 w3 => if_neg (fun v => q ⟨v.1, by omega, by omega, by rw [v.2]; exact w3⟩)
    rw [u _ _ _ (by omega) (by omega) (by omega), u _ _ _ (by omega) (by omega) (by omega), u _ _ _ (by omega) (by omega) (by omega), u _ _ _ (by omega) (by omega) (by omega)]
    unfold mx_re
    by_cases w : a = 349 ∧ 38 ≤ j ∧ j < 234
    · rw [if_pos w, if_pos w, h4 _ (by omega), if_neg (fun v => q ⟨w.1, w.2.1, w.2.2, v⟩)]
    · rw [if_neg w, if_neg w]
theorem l_Mo_copyStrip (I : ga_I) {ax : Int} {f t : Nat} (ha : ga_rg ax) (hf : f < 7) (ht : t < 7) (hft : f ≠ t) (h : E none (mx_re I (gp_sr ax f t 7))) :
    ∀ (j m : Nat), m + j = 7 → ga_W G (d + 2) mt_Mo_copyStrip 3 [some (.inr 348), some (.inl ax), some (.inl (f : Int)), some (.inl (t : Int)), some (.inl (m : Int))] [] (mx_re I (gp_sr ax f t m)) E := by
  intro j
  induction j with
  | zero =>
    intro m hm
    refine k_Mo_copyStrip_3 ha ⟨by omega, by omega⟩ (fun hI => ⟨fun h1 => ?_, fun h1 => by exfalso; omega⟩)
    rwa [show m = 7 by omega]
  | succ j ih =>
    intro m hm
    have e := ih (m + 1) (by omega)
    refine k_Mo_copyStrip_3 ha ⟨by omega, by omega⟩ (fun hI => ⟨fun h1 => by exfalso; omega, fun h1 => ?_⟩)
    by_cases e0 : ax = 0
    · refine ⟨fun q => absurd e0 q, fun _ => ⟨fun q => absurd e0 q, fun _ => ⟨fun q => absurd e0 q, fun _ => ⟨fun q => absurd e0 q, fun _ => ⟨by omega, by omega, ?_⟩⟩⟩⟩⟩
      refine gw_eq e rfl ?_
      rw [show (7 * (f : Int) + (m : Int)).toNat = f * 7 + m by omega, show (7 * (t : Int) + (m : Int)).toNat = t * 7 + m by omega]
      symm
      refine mx_cr_gen I (by omega) (by omega) ?_ (fun g hg => ?_)
      · unfold gp_sr
        rw [if_pos e0, if_neg (by omega)]
      · unfold gp_sr
        rw [if_pos e0, if_pos e0]
        by_cases q : g = t * 7 + m
        · rw [if_pos q, if_pos (by omega)]; omega
        · rw [if_neg q]
          by_cases q2 : g / 7 = t ∧ g % 7 < m
          · rw [if_pos q2, if_pos (by omega)]
          · rw [if_neg q2, if_neg (by omega)]
    · refine ⟨fun _ => ⟨fun _ => ⟨fun _ => ⟨fun _ => ⟨by omega, by omega, ?_⟩, fun q => absurd q e0⟩, fun q => absurd q e0⟩, fun q => absurd q e0⟩, fun q => absurd q e0⟩
      refine gw_eq e rfl ?_
      rw [show (7 * (m : Int) + (f : Int)).toNat = m * 7 + f by omega, show (7 * (m : Int) + (t : Int)).toNat = m * 7 + t by omega]
      symm
      refine mx_cr_gen I (by omega) (by omega) ?_ (fun g hg => ?_)
      · unfold gp_sr
        rw [if_neg e0, if_neg (by omega)]
      · unfold gp_sr
        rw [if_neg e0, if_neg e0]
        by_cases q : g = m * 7 + t
        · rw [if_pos q, if_pos (by omega)]; omega
        · rw [if_neg q]
          by_cases q2 : g % 7 = t ∧ g / 7 < m
          · rw [if_pos q2, if_pos (by omega)]
          · rw [if_neg q2, if_neg (by omega)]
theorem s_Mo_copyStrip {ax f t : Int} (ha : ga_rg ax) (hf : 0 ≤ f ∧ f < 7) (ht : 0 ≤ t ∧ t < 7) (hft : f ≠ t) (h : E none (mx_re I (gp_sr ax f.toNat t.toNat 7))) : ga_W G (d + 2) mt_Mo_copyStrip 0 (ga_en 5 [.inr 348, .inl ax, .inl f, .inl t]) [] I E := by
  have e := l_Mo_copyStrip (G := G) (d := d) (E := E) I (ax := ax) (f := f.toNat) (t := t.toNat) ha (by omega) (by omega) (by omega) h 7 0 (by omega)
  rw [mx_re_id I (fun g _ => gp_sr_0 g), show ((f.toNat : Nat) : Int) = f by omega, show ((t.toNat : Nat) : Int) = t by omega] at e
  exact k_Mo_copyStrip_0 (fun _ => e)
end MI
theorem k_Mo_insert_0 {G : ga_G} {d : Nat} {I : ga_I} {E : Option ga_V → ga_I → Prop} {v1 : Int} {v2 : Int} {v3 : Int} {v4 : Int} 
    (h : ga_RG I → (0 ≤ v1 ∧ v1 ≤ 1) ∧ (ga_W G (d + 3) mt_Mo_insert 11 [some (.inr 348), some (.inl v1), some (.inl v2), some (.inl v3), some (.inl v4), some (.inl (ms_n (I 349) v1)), some (.inl (ms_n (I 349) v1)), none] [] I E)) :
    ga_W G (d + 3) mt_Mo_insert 0 (ga_en 8 [.inr 348, .inl v1, .inl v2, .inl v3, .inl v4]) [] I E := by
  show ga_W G (d + 3) mt_Mo_insert 0 [some (.inr 348), some (.inl v1), some (.inl v2), some (.inl v3), some (.inl v4), none, none, none] [] I E
  refine gw_RG (fun hI1 => ?_)
  have h := h hI1
  refine gw_aload_n 0 d_Mo_insert_0 rfl rfl ?_
  refine gw_iload_n 1 d_Mo_insert_1 rfl rfl ?_
  obtain ⟨g1, h⟩ := h
  refine gw_invV (as := [.inl v1]) (k := 348) (rest := []) (d' := (d + 2)) d_Mo_insert_2 lk_Mo_55 (ga_rcv (ga_oM) rfl rfl) rfl (Nat.le_of_ble_eq_true rfl) (Nat.le_of_ble_eq_true rfl) rfl rfl (s_Mo_borders g1 ?_)
  show ga_W G (d + 3) mt_Mo_insert 5 [some (.inr 348), some (.inl v1), some (.inl v2), some (.inl v3), some (.inl v4), none, none, none] [.inl (ms_n (I 349) v1)] I E
  refine gw_istore 5 d_Mo_insert_5 (Nat.le_of_ble_eq_true rfl) rfl ?_
  refine gw_iload 5 d_Mo_insert_7 rfl ?_
  refine gw_istore 6 d_Mo_insert_9 (Nat.le_of_ble_eq_true rfl) rfl ?_
  exact gw_le h (by exact ⟨rfl, ⟨rfl, ⟨rfl, ⟨rfl, ⟨rfl, ⟨rfl, ⟨rfl, trivial⟩⟩⟩⟩⟩⟩⟩)
theorem k_Mo_insert_11 {G : ga_G} {d : Nat} {I : ga_I} {E : Option ga_V → ga_I → Prop} {v1 : Int} {v2 : Int} {v3 : Int} {v4 : Int} {v5 : Int} {v6 : Int} (r2 : ga_rg v2) (r3 : ga_rg v3) (r4 : ga_rg v4) (r6 : ga_rg v6)
    (h : ga_RG I → ((v6 ≤ 0) → (0 ≤ v1 ∧ v1 ≤ 1) ∧ ((0 ≤ v6 ∧ v6 ≤ 6) ∧ (ga_W G (d + 3) mt_Mo_insert 88 [some (.inr 348), some (.inl v1), none, none, none, none, some (.inl v6), some (.inl v5)] [] (mx_sb I v1 v6 v2 v3 v4) E))) ∧ ((¬ (v6 ≤ 0)) → (0 ≤ v1 ∧ v1 ≤ 1) ∧ ((0 ≤ (v6 - 1) ∧ (v6 - 1) ≤ 6) ∧ ((0 ≤ (0 : Int) ∧ (0 : Int) ≤ 2) ∧ ((((ms_b (I 349) v1 (v6 - 1) (0 : Int)) ≤ v2) → (0 ≤ v6 ∧ v6 ≤ 6) ∧ (ga_W G (d + 3) mt_Mo_insert 88 [some (.inr 348), some (.inl v1), none, none, none, none, some (.inl v6), some (.inl v5)] [] (mx_sb I v1 v6 v2 v3 v4) E)) ∧ ((¬ ((ms_b (I 349) v1 (v6 - 1) (0 : Int)) ≤ v2)) → (0 ≤ (1 : Int) ∧ (1 : Int) ≤ 2) ∧ ((0 ≤ (2 : Int) ∧ (2 : Int) ≤ 2) ∧ ((0 ≤ v6 ∧ v6 ≤ 6) ∧ (ga_W G (d + 3) mt_Mo_insert 11 [some (.inr 348), some (.inl v1), some (.inl v2), some (.inl v3), some (.inl v4), some (.inl v5), some (.inl (v6 + (-1))), none] [] (mx_sb I v1 v6 (ms_b (I 349) v1 (v6 - 1) (0 : Int)) (ms_b (I 349) v1 (v6 - 1) (1 : Int)) (ms_b (I 349) v1 (v6 - 1) (2 : Int))) E))))))))) :
    ga_W G (d + 3) mt_Mo_insert 11 [some (.inr 348), some (.inl v1), some (.inl v2), some (.inl v3), some (.inl v4), some (.inl v5), some (.inl v6), none] [] I E := by
  refine gw_RG (fun hI1 => ?_)
  have h := h hI1
  refine gw_iload 6 d_Mo_insert_11 rfl ?_
  refine gw_if_le 73 d_Mo_insert_13 (by decide) r6 (fun hc => ?_) (fun hc => ?_)
  · have h := h.1 hc
    refine gw_aload_n 0 d_Mo_insert_73 rfl rfl ?_
    refine gw_iload_n 1 d_Mo_insert_74 rfl rfl ?_
    refine gw_iload 6 d_Mo_insert_75 rfl ?_
    refine gw_iload_n 2 d_Mo_insert_77 rfl rfl ?_
    refine gw_iload_n 3 d_Mo_insert_78 rfl rfl ?_
    refine gw_iload 4 d_Mo_insert_79 rfl ?_
    obtain ⟨g1, h⟩ := h
    obtain ⟨g2, h⟩ := h
    refine gw_invV (as := [.inl v1, .inl v6, .inl v2, .inl v3, .inl v4]) (k := 348) (rest := []) (d' := (d + 2)) d_Mo_insert_81 lk_Mo_92 (ga_rcv (ga_oM) rfl rfl) rfl (Nat.le_of_ble_eq_true rfl) (Nat.le_of_ble_eq_true rfl) rfl rfl (s_Mo_setBorder g1 g2 r2 r3 r4 ?_)
    show ga_W G (d + 3) mt_Mo_insert 84 [some (.inr 348), some (.inl v1), some (.inl v2), some (.inl v3), some (.inl v4), some (.inl v5), some (.inl v6), none] [] (mx_sb I v1 v6 v2 v3 v4) E
    refine gw_RG (fun hI2 => ?_)
    refine gw_iload 5 d_Mo_insert_84 rfl ?_
    refine gw_istore 7 d_Mo_insert_86 (Nat.le_of_ble_eq_true rfl) rfl ?_
    exact gw_le h (by exact ⟨rfl, ⟨rfl, ⟨rfl, ⟨rfl, trivial⟩⟩⟩⟩)
  · have h := h.2 hc
    refine gw_aload_n 0 d_Mo_insert_16 rfl rfl ?_
    refine gw_iload_n 1 d_Mo_insert_17 rfl rfl ?_
    refine gw_iload 6 d_Mo_insert_18 rfl ?_
    refine gw_iconst d_Mo_insert_20 ?_
    refine gw_isub d_Mo_insert_21 ?_
    refine gw_iconst d_Mo_insert_22 ?_
    obtain ⟨g3, h⟩ := h
    obtain ⟨g4, h⟩ := h
    obtain ⟨g5, h⟩ := h
    refine gw_invV (as := [.inl v1, .inl (v6 - 1), .inl 0]) (k := 348) (rest := []) (d' := (d + 2)) d_Mo_insert_23 lk_Mo_63 (ga_rcv (ga_oM) rfl rfl) rfl (Nat.le_of_ble_eq_true rfl) (Nat.le_of_ble_eq_true rfl) rfl rfl (s_Mo_ofBorder g3 g4 g5 ?_)
    show ga_W G (d + 3) mt_Mo_insert 26 [some (.inr 348), some (.inl v1), some (.inl v2), some (.inl v3), some (.inl v4), some (.inl v5), some (.inl v6), none] [.inl (ms_b (I 349) v1 (v6 - 1) (0 : Int))] I E
    refine gw_iload_n 2 d_Mo_insert_26 rfl rfl ?_
    refine gw_icmp_le 73 d_Mo_insert_27 (by decide) (hI1 _ _) r2 (fun hc => ?_) (fun hc => ?_)
    · have h := h.1 hc
      refine gw_aload_n 0 d_Mo_insert_73 rfl rfl ?_
      refine gw_iload_n 1 d_Mo_insert_74 rfl rfl ?_
      refine gw_iload 6 d_Mo_insert_75 rfl ?_
      refine gw_iload_n 2 d_Mo_insert_77 rfl rfl ?_
      refine gw_iload_n 3 d_Mo_insert_78 rfl rfl ?_
      refine gw_iload 4 d_Mo_insert_79 rfl ?_
      obtain ⟨g6, h⟩ := h
      refine gw_invV (as := [.inl v1, .inl v6, .inl v2, .inl v3, .inl v4]) (k := 348) (rest := []) (d' := (d + 2)) d_Mo_insert_81 lk_Mo_92 (ga_rcv (ga_oM) rfl rfl) rfl (Nat.le_of_ble_eq_true rfl) (Nat.le_of_ble_eq_true rfl) rfl rfl (s_Mo_setBorder g3 g6 r2 r3 r4 ?_)
      show ga_W G (d + 3) mt_Mo_insert 84 [some (.inr 348), some (.inl v1), some (.inl v2), some (.inl v3), some (.inl v4), some (.inl v5), some (.inl v6), none] [] (mx_sb I v1 v6 v2 v3 v4) E
      refine gw_RG (fun hI3 => ?_)
      refine gw_iload 5 d_Mo_insert_84 rfl ?_
      refine gw_istore 7 d_Mo_insert_86 (Nat.le_of_ble_eq_true rfl) rfl ?_
      exact gw_le h (by exact ⟨rfl, ⟨rfl, ⟨rfl, ⟨rfl, trivial⟩⟩⟩⟩)
    · have h := h.2 hc
      refine gw_aload_n 0 d_Mo_insert_30 rfl rfl ?_
      refine gw_iload_n 1 d_Mo_insert_31 rfl rfl ?_
      refine gw_iload 6 d_Mo_insert_32 rfl ?_
      refine gw_aload_n 0 d_Mo_insert_34 rfl rfl ?_
      refine gw_iload_n 1 d_Mo_insert_35 rfl rfl ?_
      refine gw_iload 6 d_Mo_insert_36 rfl ?_
      refine gw_iconst d_Mo_insert_38 ?_
      refine gw_isub d_Mo_insert_39 ?_
      refine gw_iconst d_Mo_insert_40 ?_
      refine gw_invV (as := [.inl v1, .inl (v6 - 1), .inl 0]) (k := 348) (rest := [.inl v6, .inl v1, .inr 348]) (d' := (d + 2)) d_Mo_insert_41 lk_Mo_63 (ga_rcv (ga_oM) rfl rfl) rfl (Nat.le_of_ble_eq_true rfl) (Nat.le_of_ble_eq_true rfl) rfl rfl (s_Mo_ofBorder g3 g4 g5 ?_)
      show ga_W G (d + 3) mt_Mo_insert 44 [some (.inr 348), some (.inl v1), some (.inl v2), some (.inl v3), some (.inl v4), some (.inl v5), some (.inl v6), none] [.inl (ms_b (I 349) v1 (v6 - 1) (0 : Int)), .inl v6, .inl v1, .inr 348] I E
      refine gw_aload_n 0 d_Mo_insert_44 rfl rfl ?_
      refine gw_iload_n 1 d_Mo_insert_45 rfl rfl ?_
      refine gw_iload 6 d_Mo_insert_46 rfl ?_
      refine gw_iconst d_Mo_insert_48 ?_
      refine gw_isub d_Mo_insert_49 ?_
      refine gw_iconst d_Mo_insert_50 ?_
      obtain ⟨g7, h⟩ := h
      refine gw_invV (as := [.inl v1, .inl (v6 - 1), .inl 1]) (k := 348) (rest := [.inl (ms_b (I 349) v1 (v6 - 1) (0 : Int)), .inl v6, .inl v1, .inr 348]) (d' := (d + 2)) d_Mo_insert_51 lk_Mo_63 (ga_rcv (ga_oM) rfl rfl) rfl (Nat.le_of_ble_eq_true rfl) (Nat.le_of_ble_eq_true rfl) rfl rfl (s_Mo_ofBorder g3 g4 g7 ?_)
      show ga_W G (d + 3) mt_Mo_insert 54 [some (.inr 348), some (.inl v1), some (.inl v2), some (.inl v3), some (.inl v4), some (.inl v5), some (.inl v6), none] [.inl (ms_b (I 349) v1 (v6 - 1) (1 : Int)), .inl (ms_b (I 349) v1 (v6 - 1) (0 : Int)), .inl v6, .inl v1, .inr 348] I E
      refine gw_aload_n 0 d_Mo_insert_54 rfl rfl ?_
      refine gw_iload_n 1 d_Mo_insert_55 rfl rfl ?_
      refine gw_iload 6 d_Mo_insert_56 rfl ?_
      refine gw_iconst d_Mo_insert_58 ?_
      refine gw_isub d_Mo_insert_59 ?_
      refine gw_iconst d_Mo_insert_60 ?_
      obtain ⟨g8, h⟩ := h
      refine gw_invV (as := [.inl v1, .inl (v6 - 1), .inl 2]) (k := 348) (rest := [.inl (ms_b (I 349) v1 (v6 - 1) (1 : Int)), .inl (ms_b (I 349) v1 (v6 - 1) (0 : Int)), .inl v6, .inl v1, .inr 348]) (d' := (d + 2)) d_Mo_insert_61 lk_Mo_63 (ga_rcv (ga_oM) rfl rfl) rfl (Nat.le_of_ble_eq_true rfl) (Nat.le_of_ble_eq_true rfl) rfl rfl (s_Mo_ofBorder g3 g4 g8 ?_)
      show ga_W G (d + 3) mt_Mo_insert 64 [some (.inr 348), some (.inl v1), some (.inl v2), some (.inl v3), some (.inl v4), some (.inl v5), some (.inl v6), none] [.inl (ms_b (I 349) v1 (v6 - 1) (2 : Int)), .inl (ms_b (I 349) v1 (v6 - 1) (1 : Int)), .inl (ms_b (I 349) v1 (v6 - 1) (0 : Int)), .inl v6, .inl v1, .inr 348] I E
      obtain ⟨g9, h⟩ := h
      refine gw_invV (as := [.inl v1, .inl v6, .inl (ms_b (I 349) v1 (v6 - 1) (0 : Int)), .inl (ms_b (I 349) v1 (v6 - 1) (1 : Int)), .inl (ms_b (I 349) v1 (v6 - 1) (2 : Int))]) (k := 348) (rest := []) (d' := (d + 2)) d_Mo_insert_64 lk_Mo_92 (ga_rcv (ga_oM) rfl rfl) rfl (Nat.le_of_ble_eq_true rfl) (Nat.le_of_ble_eq_true rfl) rfl rfl (s_Mo_setBorder g3 g9 (hI1 _ _) (hI1 _ _) (hI1 _ _) ?_)
      show ga_W G (d + 3) mt_Mo_insert 67 [some (.inr 348), some (.inl v1), some (.inl v2), some (.inl v3), some (.inl v4), some (.inl v5), some (.inl v6), none] [] (mx_sb I v1 v6 (ms_b (I 349) v1 (v6 - 1) (0 : Int)) (ms_b (I 349) v1 (v6 - 1) (1 : Int)) (ms_b (I 349) v1 (v6 - 1) (2 : Int))) E
      refine gw_RG (fun hI4 => ?_)
      refine gw_iinc 6 d_Mo_insert_67 rfl rfl ?_
      refine gw_goto 11 d_Mo_insert_70 (by decide) ?_
      exact gw_le h (by exact ⟨rfl, ⟨rfl, ⟨rfl, ⟨rfl, ⟨rfl, ⟨rfl, ⟨rfl, trivial⟩⟩⟩⟩⟩⟩⟩)
theorem k_Mo_insert_88 {G : ga_G} {d : Nat} {I : ga_I} {E : Option ga_V → ga_I → Prop} {v1 : Int} {v6 : Int} {v7 : Int} (r1 : ga_rg v1) (r6 : ga_rg v6) (r7 : ga_rg v7)
    (h : ga_RG I → ((v7 < v6) → (0 ≤ (0 + (19 * v1))) ∧ (((0 + (19 * v1)) < 1120) ∧ (E (some (.inl v6)) (ga_up I 349 (0 + (19 * v1)).toNat (ga_wr ((I 349 (0 + (19 * v1)).toNat) + 1)))))) ∧ ((¬ (v7 < v6)) → (0 ≤ v7 ∧ v7 < 7) ∧ ((0 ≤ (v7 + 1) ∧ (v7 + 1) < 7) ∧ ((v7 ≠ (v7 + 1)) ∧ (ga_W G (d + 3) mt_Mo_insert 88 [some (.inr 348), some (.inl v1), none, none, none, none, some (.inl v6), some (.inl (v7 + (-1)))] [] (mx_re I (gp_sr v1 v7.toNat (v7 + 1).toNat 7)) E))))) :
    ga_W G (d + 3) mt_Mo_insert 88 [some (.inr 348), some (.inl v1), none, none, none, none, some (.inl v6), some (.inl v7)] [] I E := by
  refine gw_RG (fun hI1 => ?_)
  have h := h hI1
  refine gw_iload 7 d_Mo_insert_88 rfl ?_
  refine gw_iload 6 d_Mo_insert_90 rfl ?_
  refine gw_icmp_lt 112 d_Mo_insert_92 (by decide) r7 r6 (fun hc => ?_) (fun hc => ?_)
  · have h := h.1 hc
    refine gw_aload_n 0 d_Mo_insert_112 rfl rfl ?_
    refine gw_getR d_Mo_insert_113 fl_Mo_7 (ga_oM) rfl ?_
    refine gw_iconst d_Mo_insert_116 ?_
    refine gw_bipush d_Mo_insert_117 (by decide +kernel) ?_
    refine gw_iload_n 1 d_Mo_insert_119 rfl rfl ?_
    refine gw_imul d_Mo_insert_120 ?_
    refine gw_iadd d_Mo_insert_121 ?_
    refine gw_dup2 d_Mo_insert_122 ?_
    obtain ⟨g1, h⟩ := h
    obtain ⟨g2, h⟩ := h
    refine gw_iald d_Mo_insert_123 (ga_aM1) g1 g2 ?_
    refine gw_iconst d_Mo_insert_124 ?_
    refine gw_iadd d_Mo_insert_125 ?_
    refine gw_iast d_Mo_insert_126 (ga_aM1) g1 g2 ?_
    refine gw_RG (fun hI2 => ?_)
    refine gw_iload 6 d_Mo_insert_127 rfl ?_
    exact gw_ireturn d_Mo_insert_129 rfl h
  · have h := h.2 hc
    refine gw_aload_n 0 d_Mo_insert_95 rfl rfl ?_
    refine gw_iload_n 1 d_Mo_insert_96 rfl rfl ?_
    refine gw_iload 7 d_Mo_insert_97 rfl ?_
    refine gw_iload 7 d_Mo_insert_99 rfl ?_
    refine gw_iconst d_Mo_insert_101 ?_
    refine gw_iadd d_Mo_insert_102 ?_
    obtain ⟨g3, h⟩ := h
    obtain ⟨g4, h⟩ := h
    obtain ⟨g5, h⟩ := h
    refine gw_invV (as := [.inl v1, .inl v7, .inl (v7 + 1)]) (k := 348) (rest := []) (d' := (d + 2)) d_Mo_insert_103 lk_Mo_96 (ga_rcv (ga_oM) rfl rfl) rfl (Nat.le_of_ble_eq_true rfl) (Nat.le_of_ble_eq_true rfl) rfl rfl (s_Mo_copyStrip r1 g3 g4 g5 ?_)
    show ga_W G (d + 3) mt_Mo_insert 106 [some (.inr 348), some (.inl v1), none, none, none, none, some (.inl v6), some (.inl v7)] [] (mx_re I (gp_sr v1 v7.toNat (v7 + 1).toNat 7)) E
    refine gw_RG (fun hI3 => ?_)
    refine gw_iinc 7 d_Mo_insert_106 rfl rfl ?_
    refine gw_goto 88 d_Mo_insert_109 (by decide) ?_
    exact gw_le h (by exact ⟨rfl, ⟨rfl, ⟨rfl, ⟨rfl, trivial⟩⟩⟩⟩)

theorem k_Mo_settle_0 {G : ga_G} {d : Nat} {I : ga_I} {E : Option ga_V → ga_I → Prop} {v1 : Int} 
    (h : ga_RG I → (mo_n I) ∧ ((∀ z1 : Int, z1 = gp_tt (mp_g3 (I 349)) ((ms_n (I 349) 0).toNat + 1) ((ms_n (I 349) 1).toNat + 1) → (∀ I1 : ga_I, I1 = (ga_up I 349 253 (ga_wr ((I 349 253) + (z1 - v1)))) → (mo_n I1) ∧ ((∀ I2 : ga_I, I2 = (mx_fz I1) → E none I2)))))) :
    ga_W G (d + 3) mt_Mo_settle 0 (ga_en 2 [.inr 348, .inl v1]) [] I E := by
  show ga_W G (d + 3) mt_Mo_settle 0 [some (.inr 348), some (.inl v1)] [] I E
  refine gw_RG (fun hI1 => ?_)
  have h := h hI1
  refine gw_aload_n 0 d_Mo_settle_0 rfl rfl ?_
  refine gw_getR d_Mo_settle_1 fl_Mo_7 (ga_oM) rfl ?_
  refine gw_sipush d_Mo_settle_4 (by decide +kernel) ?_
  refine gw_dup2 d_Mo_settle_7 ?_
  refine gw_iald d_Mo_settle_8 (ga_aM1) (by decide) (by decide) ?_
  refine gw_aload_n 0 d_Mo_settle_9 rfl rfl ?_
  obtain ⟨g1, h⟩ := h
  refine gw_invV (as := []) (k := 348) (rest := [.inl (I 349 253), .inl 253, .inr 349]) (d' := (d + 2)) d_Mo_settle_10 lk_Mo_99 (ga_rcv (ga_oM) rfl rfl) rfl (Nat.le_of_ble_eq_true rfl) (Nat.le_of_ble_eq_true rfl) rfl rfl (s_Mo_allGains g1 ?_)
  show ga_W G (d + 3) mt_Mo_settle 13 [some (.inr 348), some (.inl v1)] [.inl (gp_tt (mp_g3 (I 349)) ((ms_n (I 349) 0).toNat + 1) ((ms_n (I 349) 1).toNat + 1)), .inl (I 349 253), .inl 253, .inr 349] I E
  refine gw_nz (z := gp_tt (mp_g3 (I 349)) ((ms_n (I 349) 0).toNat + 1) ((ms_n (I 349) 1).toNat + 1)) (fun z1 q1 => ?_)
  have h := h z1 q1
  refine gw_iload_n 1 d_Mo_settle_13 rfl rfl ?_
  refine gw_isub d_Mo_settle_14 ?_
  refine gw_iadd d_Mo_settle_15 ?_
  refine gw_iast d_Mo_settle_16 (ga_aM1) (by decide) (by decide) ?_
  refine gw_nm (J := (ga_up I 349 253 (ga_wr ((I 349 253) + (z1 - v1))))) (fun I1 q2 => ?_)
  have h := h I1 q2
  refine gw_RG (fun hI2 => ?_)
  refine gw_aload_n 0 d_Mo_settle_17 rfl rfl ?_
  obtain ⟨g2, h⟩ := h
  refine gw_invV (as := []) (k := 348) (rest := []) (d' := (d + 2)) d_Mo_settle_18 lk_Mo_102 (ga_rcv (ga_oM) rfl rfl) rfl (Nat.le_of_ble_eq_true rfl) (Nat.le_of_ble_eq_true rfl) rfl rfl (s_Mo_findZones g2 ?_)
  show ga_W G (d + 3) mt_Mo_settle 21 [some (.inr 348), some (.inl v1)] [] (mx_fz I1) E
  refine gw_nm (fun I2 q3 => ?_)
  have h := h I2 q3
  refine gw_RG (fun hI3 => ?_)
  exact gw_return d_Mo_settle_21 rfl h

theorem k_Mo_moves_0 {G : ga_G} {d : Nat} {I : ga_I} {E : Option ga_V → ga_I → Prop} {v1 : Int} {v2 : Int} (r1 : ga_rg v1) (r2 : ga_rg v2)
    (h : ga_RG I → (0 ≤ v1 ∧ v1 ≤ 1000) ∧ ((0 ≤ v2 ∧ v2 ≤ 1000) ∧ ((mo_pz I) ∧ (((¬ (((v1 - I 349 234).natAbs : Int) < I 349 238 ∧ ((v2 - I 349 235).natAbs : Int) < I 349 238)) → (mo_ok I 0) ∧ ((mo_ok I 1) ∧ ((mo_g I) ∧ ((∀ I1 : ga_I, I1 = (mx_nv I) → (mo_ok I1 0) ∧ ((mo_ok I1 1) ∧ ((mo_zn I1) ∧ ((∀ I2 : ga_I, I2 = (mx_go I1 v1 v2) → (∀ I3 : ga_I, I3 = (ga_up I2 349 240 (ga_wr ((I2 349 240) + 1))) → (mo_ok I3 0) ∧ ((mo_ok I3 1) ∧ ((mo_pz I3) ∧ ((mo_g I3) ∧ ((mo_ah I3) ∧ ((∀ I4 : ga_I, I4 = (mx_lp I3) → (0 ≤ I4 349 254 ∧ I4 349 254 ≤ 20) ∧ ((∀ I5 : ga_I, I5 = (mx_ne I4) → (0 ≤ (255 + 8 * (min (I4 349 254 + 1) 20 - 1))) ∧ (((255 + 8 * (min (I4 349 254 + 1) 20 - 1)) < 1120) ∧ ((∀ I6 : ga_I, I6 = (ga_up I5 349 (255 + 8 * (min (I4 349 254 + 1) 20 - 1)).toNat v1) → (0 ≤ ((255 + 8 * (min (I4 349 254 + 1) 20 - 1)) + 1)) ∧ ((((255 + 8 * (min (I4 349 254 + 1) 20 - 1)) + 1) < 1120) ∧ ((∀ I7 : ga_I, I7 = (ga_up I6 349 ((255 + 8 * (min (I4 349 254 + 1) 20 - 1)) + 1).toNat v2) → (0 ≤ ((255 + 8 * (min (I4 349 254 + 1) 20 - 1)) + 2)) ∧ ((((255 + 8 * (min (I4 349 254 + 1) 20 - 1)) + 2) < 1120) ∧ ((∀ I8 : ga_I, I8 = (ga_up I7 349 ((255 + 8 * (min (I4 349 254 + 1) 20 - 1)) + 2).toNat (I7 349 236)) → (0 ≤ ((255 + 8 * (min (I4 349 254 + 1) 20 - 1)) + 3)) ∧ ((((255 + 8 * (min (I4 349 254 + 1) 20 - 1)) + 3) < 1120) ∧ ((∀ I9 : ga_I, I9 = (ga_up I8 349 ((255 + 8 * (min (I4 349 254 + 1) 20 - 1)) + 3).toNat (I8 349 237)) → (gp_vk (mo_v I9 0)) ∧ ((gp_vk (mo_v I9 1)) ∧ ((0 ≤ (0 : Int) ∧ (0 : Int) ≤ 2) ∧ ((mo_g I9) ∧ ((∀ z1 : Int, z1 = gp_va (mo_v I9 0) (mo_v I9 1) (fun c r => I9 349 (38 + 4 * (7 * c + r) + (0 : Int)).toNat) → (0 ≤ ((255 + 8 * (min (I4 349 254 + 1) 20 - 1)) + 4)) ∧ ((((255 + 8 * (min (I4 349 254 + 1) 20 - 1)) + 4) < 1120) ∧ ((∀ I10 : ga_I, I10 = (ga_up I9 349 ((255 + 8 * (min (I4 349 254 + 1) 20 - 1)) + 4).toNat (ga_wr z1)) → (gp_vk (mo_v I10 0)) ∧ ((gp_vk (mo_v I10 1)) ∧ ((0 ≤ (1 : Int) ∧ (1 : Int) ≤ 2) ∧ ((mo_g I10) ∧ ((∀ z2 : Int, z2 = gp_va (mo_v I10 0) (mo_v I10 1) (fun c r => I10 349 (38 + 4 * (7 * c + r) + (1 : Int)).toNat) → (0 ≤ ((255 + 8 * (min (I4 349 254 + 1) 20 - 1)) + 5)) ∧ ((((255 + 8 * (min (I4 349 254 + 1) 20 - 1)) + 5) < 1120) ∧ ((∀ I11 : ga_I, I11 = (ga_up I10 349 ((255 + 8 * (min (I4 349 254 + 1) 20 - 1)) + 5).toNat (ga_wr z2)) → (gp_vk (mo_v I11 0)) ∧ ((gp_vk (mo_v I11 1)) ∧ ((0 ≤ (2 : Int) ∧ (2 : Int) ≤ 2) ∧ ((mo_g I11) ∧ ((∀ z3 : Int, z3 = gp_va (mo_v I11 0) (mo_v I11 1) (fun c r => I11 349 (38 + 4 * (7 * c + r) + (2 : Int)).toNat) → (0 ≤ ((255 + 8 * (min (I4 349 254 + 1) 20 - 1)) + 6)) ∧ ((((255 + 8 * (min (I4 349 254 + 1) 20 - 1)) + 6) < 1120) ∧ ((∀ I12 : ga_I, I12 = (ga_up I11 349 ((255 + 8 * (min (I4 349 254 + 1) 20 - 1)) + 6).toNat (ga_wr z3)) → (0 ≤ ((255 + 8 * (min (I4 349 254 + 1) 20 - 1)) + 7)) ∧ ((((255 + 8 * (min (I4 349 254 + 1) 20 - 1)) + 7) < 1120) ∧ ((∀ I13 : ga_I, I13 = (ga_up I12 349 ((255 + 8 * (min (I4 349 254 + 1) 20 - 1)) + 7).toNat (ga_wr (gp_j3 ((mp_pv (I3 349) 0 - I3 357 0).natAbs : Int) ((mp_pv (I3 349) 1 - I3 357 1).natAbs : Int) ((mp_pv (I3 349) 2 - I3 357 2).natAbs : Int)))) → E (some (.inl (gp_j3 ((mp_pv (I3 349) 0 - I3 357 0).natAbs : Int) ((mp_pv (I3 349) 1 - I3 357 1).natAbs : Int) ((mp_pv (I3 349) 2 - I3 357 2).natAbs : Int)))) I13))))))))))))))))))))))))))))))))))))))))))))))))))))))))) ∧ ((((v1 - I 349 234).natAbs : Int) < I 349 238 ∧ ((v2 - I 349 235).natAbs : Int) < I 349 238) → (∀ I14 : ga_I, I14 = (ga_up I 349 239 (ga_wr ((I 349 239) + 1))) → E (some (.inl (-2000000009))) I14)))))) :
    ga_W G (d + 5) mt_Mo_moves 0 (ga_en 5 [.inr 348, .inl v1, .inl v2]) [] I E := by
  show ga_W G (d + 5) mt_Mo_moves 0 [some (.inr 348), some (.inl v1), some (.inl v2), none, none] [] I E
  refine gw_RG (fun hI1 => ?_)
  have h := h hI1
  refine gw_aload_n 0 d_Mo_moves_0 rfl rfl ?_
  refine gw_iload_n 1 d_Mo_moves_1 rfl rfl ?_
  refine gw_iload_n 2 d_Mo_moves_2 rfl rfl ?_
  obtain ⟨g1, h⟩ := h
  obtain ⟨g2, h⟩ := h
  obtain ⟨g3, h⟩ := h
  refine gw_invV (as := [.inl v1, .inl v2]) (k := 348) (rest := []) (d' := (d + 4)) d_Mo_moves_3 lk_Mo_163 (ga_rcv (ga_oM) rfl rfl) rfl (Nat.le_of_ble_eq_true rfl) (Nat.le_of_ble_eq_true rfl) rfl rfl (s_Mo_isIgnored g1 g2 g3 ?_)
  show ga_W G (d + 5) mt_Mo_moves 6 [some (.inr 348), some (.inl v1), some (.inl v2), none, none] [.inl (ga_bb (decide (((v1 - I 349 234).natAbs : Int) < I 349 238 ∧ ((v2 - I 349 235).natAbs : Int) < I 349 238)))] I E
  refine gw_ifb_eq 24 d_Mo_moves_6 (by decide) (fun hc => ?_) (fun hc => ?_)
  · have h := h.1 (of_decide_eq_false hc)
    refine gw_aload_n 0 d_Mo_moves_24 rfl rfl ?_
    obtain ⟨g4, h⟩ := h
    obtain ⟨g5, h⟩ := h
    obtain ⟨g6, h⟩ := h
    refine gw_invV (as := []) (k := 348) (rest := []) (d' := (d + 4)) d_Mo_moves_25 lk_Mo_166 (ga_rcv (ga_oM) rfl rfl) rfl (Nat.le_of_ble_eq_true rfl) (Nat.le_of_ble_eq_true rfl) rfl rfl (s_Mo_noteValues g4 g5 g3 g6 ?_)
    show ga_W G (d + 5) mt_Mo_moves 28 [some (.inr 348), some (.inl v1), some (.inl v2), none, none] [] (mx_nv I) E
    refine gw_nm (fun I1 q1 => ?_)
    have h := h I1 q1
    refine gw_RG (fun hI2 => ?_)
    refine gw_aload_n 0 d_Mo_moves_28 rfl rfl ?_
    refine gw_iload_n 1 d_Mo_moves_29 rfl rfl ?_
    refine gw_iload_n 2 d_Mo_moves_30 rfl rfl ?_
    obtain ⟨g7, h⟩ := h
    obtain ⟨g8, h⟩ := h
    obtain ⟨g9, h⟩ := h
    refine gw_invV (as := [.inl v1, .inl v2]) (k := 348) (rest := []) (d' := (d + 4)) d_Mo_moves_31 lk_Mo_169 (ga_rcv (ga_oM) rfl rfl) rfl (Nat.le_of_ble_eq_true rfl) (Nat.le_of_ble_eq_true rfl) rfl rfl (s_Mo_goTo g7 g8 g9 r1 r2 ?_)
    show ga_W G (d + 5) mt_Mo_moves 34 [some (.inr 348), some (.inl v1), some (.inl v2), none, none] [] (mx_go I1 v1 v2) E
    refine gw_nm (fun I2 q2 => ?_)
    have h := h I2 q2
    refine gw_RG (fun hI3 => ?_)
    refine gw_aload_n 0 d_Mo_moves_34 rfl rfl ?_
    refine gw_getR d_Mo_moves_35 fl_Mo_7 (ga_oM) rfl ?_
    refine gw_sipush d_Mo_moves_38 (by decide +kernel) ?_
    refine gw_dup2 d_Mo_moves_41 ?_
    refine gw_iald d_Mo_moves_42 (ga_aM1) (by decide) (by decide) ?_
    refine gw_iconst d_Mo_moves_43 ?_
    refine gw_iadd d_Mo_moves_44 ?_
    refine gw_iast d_Mo_moves_45 (ga_aM1) (by decide) (by decide) ?_
    refine gw_nm (J := (ga_up I2 349 240 (ga_wr ((I2 349 240) + 1)))) (fun I3 q3 => ?_)
    have h := h I3 q3
    refine gw_RG (fun hI4 => ?_)
    refine gw_aload_n 0 d_Mo_moves_46 rfl rfl ?_
    obtain ⟨g10, h⟩ := h
    obtain ⟨g11, h⟩ := h
    obtain ⟨g12, h⟩ := h
    obtain ⟨g13, h⟩ := h
    obtain ⟨g14, h⟩ := h
    refine gw_invV (as := []) (k := 348) (rest := []) (d' := (d + 4)) d_Mo_moves_47 lk_Mo_173 (ga_rcv (ga_oM) rfl rfl) rfl (Nat.le_of_ble_eq_true rfl) (Nat.le_of_ble_eq_true rfl) rfl rfl (s_Mo_jump g10 g11 g12 g13 g14 ?_)
    show ga_W G (d + 5) mt_Mo_moves 50 [some (.inr 348), some (.inl v1), some (.inl v2), none, none] [.inl (gp_j3 ((mp_pv (I3 349) 0 - I3 357 0).natAbs : Int) ((mp_pv (I3 349) 1 - I3 357 1).natAbs : Int) ((mp_pv (I3 349) 2 - I3 357 2).natAbs : Int))] (mx_lp I3) E
    refine gw_nm (fun I4 q4 => ?_)
    have h := h I4 q4
    refine gw_RG (fun hI5 => ?_)
    refine gw_istore_n 3 d_Mo_moves_50 rfl (Nat.le_of_ble_eq_true rfl) rfl ?_
    refine gw_aload_n 0 d_Mo_moves_51 rfl rfl ?_
    obtain ⟨g15, h⟩ := h
    refine gw_invV (as := []) (k := 348) (rest := []) (d' := (d + 4)) d_Mo_moves_52 lk_Mo_176 (ga_rcv (ga_oM) rfl rfl) rfl (Nat.le_of_ble_eq_true rfl) (Nat.le_of_ble_eq_true rfl) rfl rfl (s_Mo_newEntry g15 ?_)
    show ga_W G (d + 5) mt_Mo_moves 55 [some (.inr 348), some (.inl v1), some (.inl v2), some (.inl (gp_j3 ((mp_pv (I3 349) 0 - I3 357 0).natAbs : Int) ((mp_pv (I3 349) 1 - I3 357 1).natAbs : Int) ((mp_pv (I3 349) 2 - I3 357 2).natAbs : Int))), none] [.inl (255 + 8 * (min (I4 349 254 + 1) 20 - 1))] (mx_ne I4) E
    refine gw_nm (fun I5 q5 => ?_)
    have h := h I5 q5
    refine gw_RG (fun hI6 => ?_)
    refine gw_istore 4 d_Mo_moves_55 (Nat.le_of_ble_eq_true rfl) rfl ?_
    refine gw_aload_n 0 d_Mo_moves_57 rfl rfl ?_
    refine gw_getR d_Mo_moves_58 fl_Mo_7 (ga_oM) rfl ?_
    refine gw_iload 4 d_Mo_moves_61 rfl ?_
    refine gw_iload_n 1 d_Mo_moves_63 rfl rfl ?_
    obtain ⟨g16, h⟩ := h
    obtain ⟨g17, h⟩ := h
    refine gw_iast d_Mo_moves_64 (ga_aM1) g16 g17 ?_
    show ga_W G (d + 5) mt_Mo_moves 65 [some (.inr 348), some (.inl v1), some (.inl v2), some (.inl (gp_j3 ((mp_pv (I3 349) 0 - I3 357 0).natAbs : Int) ((mp_pv (I3 349) 1 - I3 357 1).natAbs : Int) ((mp_pv (I3 349) 2 - I3 357 2).natAbs : Int))), some (.inl (255 + 8 * (min (I4 349 254 + 1) 20 - 1)))] [] (ga_up I5 349 (255 + 8 * (min (I4 349 254 + 1) 20 - 1)).toNat (ga_wr v1)) E
    rw [ga_wr_eq (z := v1) r1]
    refine gw_nm (J := (ga_up I5 349 (255 + 8 * (min (I4 349 254 + 1) 20 - 1)).toNat v1)) (fun I6 q6 => ?_)
    have h := h I6 q6
    refine gw_RG (fun hI7 => ?_)
    refine gw_aload_n 0 d_Mo_moves_65 rfl rfl ?_
    refine gw_getR d_Mo_moves_66 fl_Mo_7 (ga_oM) rfl ?_
    refine gw_iload 4 d_Mo_moves_69 rfl ?_
    refine gw_iconst d_Mo_moves_71 ?_
    refine gw_iadd d_Mo_moves_72 ?_
    refine gw_iload_n 2 d_Mo_moves_73 rfl rfl ?_
    obtain ⟨g18, h⟩ := h
    obtain ⟨g19, h⟩ := h
    refine gw_iast d_Mo_moves_74 (ga_aM1) g18 g19 ?_
    show ga_W G (d + 5) mt_Mo_moves 75 [some (.inr 348), some (.inl v1), some (.inl v2), some (.inl (gp_j3 ((mp_pv (I3 349) 0 - I3 357 0).natAbs : Int) ((mp_pv (I3 349) 1 - I3 357 1).natAbs : Int) ((mp_pv (I3 349) 2 - I3 357 2).natAbs : Int))), some (.inl (255 + 8 * (min (I4 349 254 + 1) 20 - 1)))] [] (ga_up I6 349 ((255 + 8 * (min (I4 349 254 + 1) 20 - 1)) + 1).toNat (ga_wr v2)) E
    rw [ga_wr_eq (z := v2) r2]
    refine gw_nm (J := (ga_up I6 349 ((255 + 8 * (min (I4 349 254 + 1) 20 - 1)) + 1).toNat v2)) (fun I7 q7 => ?_)
    have h := h I7 q7
    refine gw_RG (fun hI8 => ?_)
    refine gw_aload_n 0 d_Mo_moves_75 rfl rfl ?_
    refine gw_getR d_Mo_moves_76 fl_Mo_7 (ga_oM) rfl ?_
    refine gw_iload 4 d_Mo_moves_79 rfl ?_
    refine gw_iconst d_Mo_moves_81 ?_
    refine gw_iadd d_Mo_moves_82 ?_
    refine gw_aload_n 0 d_Mo_moves_83 rfl rfl ?_
    refine gw_getR d_Mo_moves_84 fl_Mo_7 (ga_oM) rfl ?_
    refine gw_sipush d_Mo_moves_87 (by decide +kernel) ?_
    refine gw_iald d_Mo_moves_90 (ga_aM1) (by decide) (by decide) ?_
    obtain ⟨g20, h⟩ := h
    obtain ⟨g21, h⟩ := h
    refine gw_iast d_Mo_moves_91 (ga_aM1) g20 g21 ?_
    show ga_W G (d + 5) mt_Mo_moves 92 [some (.inr 348), some (.inl v1), some (.inl v2), some (.inl (gp_j3 ((mp_pv (I3 349) 0 - I3 357 0).natAbs : Int) ((mp_pv (I3 349) 1 - I3 357 1).natAbs : Int) ((mp_pv (I3 349) 2 - I3 357 2).natAbs : Int))), some (.inl (255 + 8 * (min (I4 349 254 + 1) 20 - 1)))] [] (ga_up I7 349 ((255 + 8 * (min (I4 349 254 + 1) 20 - 1)) + 2).toNat (ga_wr (I7 349 236))) E
    rw [ga_wr_eq (z := (I7 349 236)) (hI8 _ _)]
    refine gw_nm (J := (ga_up I7 349 ((255 + 8 * (min (I4 349 254 + 1) 20 - 1)) + 2).toNat (I7 349 236))) (fun I8 q8 => ?_)
    have h := h I8 q8
    refine gw_RG (fun hI9 => ?_)
    refine gw_aload_n 0 d_Mo_moves_92 rfl rfl ?_
    refine gw_getR d_Mo_moves_93 fl_Mo_7 (ga_oM) rfl ?_
    refine gw_iload 4 d_Mo_moves_96 rfl ?_
    refine gw_iconst d_Mo_moves_98 ?_
    refine gw_iadd d_Mo_moves_99 ?_
    refine gw_aload_n 0 d_Mo_moves_100 rfl rfl ?_
    refine gw_getR d_Mo_moves_101 fl_Mo_7 (ga_oM) rfl ?_
    refine gw_sipush d_Mo_moves_104 (by decide +kernel) ?_
    refine gw_iald d_Mo_moves_107 (ga_aM1) (by decide) (by decide) ?_
    obtain ⟨g22, h⟩ := h
    obtain ⟨g23, h⟩ := h
    refine gw_iast d_Mo_moves_108 (ga_aM1) g22 g23 ?_
    show ga_W G (d + 5) mt_Mo_moves 109 [some (.inr 348), some (.inl v1), some (.inl v2), some (.inl (gp_j3 ((mp_pv (I3 349) 0 - I3 357 0).natAbs : Int) ((mp_pv (I3 349) 1 - I3 357 1).natAbs : Int) ((mp_pv (I3 349) 2 - I3 357 2).natAbs : Int))), some (.inl (255 + 8 * (min (I4 349 254 + 1) 20 - 1)))] [] (ga_up I8 349 ((255 + 8 * (min (I4 349 254 + 1) 20 - 1)) + 3).toNat (ga_wr (I8 349 237))) E
    rw [ga_wr_eq (z := (I8 349 237)) (hI9 _ _)]
    refine gw_nm (J := (ga_up I8 349 ((255 + 8 * (min (I4 349 254 + 1) 20 - 1)) + 3).toNat (I8 349 237))) (fun I9 q9 => ?_)
    have h := h I9 q9
    refine gw_RG (fun hI10 => ?_)
    refine gw_aload_n 0 d_Mo_moves_109 rfl rfl ?_
    refine gw_getR d_Mo_moves_110 fl_Mo_7 (ga_oM) rfl ?_
    refine gw_iload 4 d_Mo_moves_113 rfl ?_
    refine gw_iconst d_Mo_moves_115 ?_
    refine gw_iadd d_Mo_moves_116 ?_
    refine gw_aload_n 0 d_Mo_moves_117 rfl rfl ?_
    refine gw_iconst d_Mo_moves_118 ?_
    obtain ⟨g24, h⟩ := h
    obtain ⟨g25, h⟩ := h
    obtain ⟨g26, h⟩ := h
    obtain ⟨g27, h⟩ := h
    refine gw_invV (as := [.inl 0]) (k := 348) (rest := [.inl ((255 + 8 * (min (I4 349 254 + 1) 20 - 1)) + 4), .inr 349]) (d' := (d + 4)) d_Mo_moves_119 lk_Mo_157 (ga_rcv (ga_oM) rfl rfl) rfl (Nat.le_of_ble_eq_true rfl) (Nat.le_of_ble_eq_true rfl) rfl rfl (s_Mo_value g24 g25 g26 g27 ?_)
    show ga_W G (d + 5) mt_Mo_moves 122 [some (.inr 348), some (.inl v1), some (.inl v2), some (.inl (gp_j3 ((mp_pv (I3 349) 0 - I3 357 0).natAbs : Int) ((mp_pv (I3 349) 1 - I3 357 1).natAbs : Int) ((mp_pv (I3 349) 2 - I3 357 2).natAbs : Int))), some (.inl (255 + 8 * (min (I4 349 254 + 1) 20 - 1)))] [.inl (gp_va (mo_v I9 0) (mo_v I9 1) (fun c r => I9 349 (38 + 4 * (7 * c + r) + (0 : Int)).toNat)), .inl ((255 + 8 * (min (I4 349 254 + 1) 20 - 1)) + 4), .inr 349] I9 E
    refine gw_nz (z := gp_va (mo_v I9 0) (mo_v I9 1) (fun c r => I9 349 (38 + 4 * (7 * c + r) + (0 : Int)).toNat)) (fun z1 q10 => ?_)
    have h := h z1 q10
    obtain ⟨g28, h⟩ := h
    obtain ⟨g29, h⟩ := h
    refine gw_iast d_Mo_moves_122 (ga_aM1) g28 g29 ?_
    refine gw_nm (J := (ga_up I9 349 ((255 + 8 * (min (I4 349 254 + 1) 20 - 1)) + 4).toNat (ga_wr z1))) (fun I10 q11 => ?_)
    have h := h I10 q11
    refine gw_RG (fun hI11 => ?_)
    refine gw_aload_n 0 d_Mo_moves_123 rfl rfl ?_
    refine gw_getR d_Mo_moves_124 fl_Mo_7 (ga_oM) rfl ?_
    refine gw_iload 4 d_Mo_moves_127 rfl ?_
    refine gw_iconst d_Mo_moves_129 ?_
    refine gw_iadd d_Mo_moves_130 ?_
    refine gw_aload_n 0 d_Mo_moves_131 rfl rfl ?_
    refine gw_iconst d_Mo_moves_132 ?_
    obtain ⟨g30, h⟩ := h
    obtain ⟨g31, h⟩ := h
    obtain ⟨g32, h⟩ := h
    obtain ⟨g33, h⟩ := h
    refine gw_invV (as := [.inl 1]) (k := 348) (rest := [.inl ((255 + 8 * (min (I4 349 254 + 1) 20 - 1)) + 5), .inr 349]) (d' := (d + 4)) d_Mo_moves_133 lk_Mo_157 (ga_rcv (ga_oM) rfl rfl) rfl (Nat.le_of_ble_eq_true rfl) (Nat.le_of_ble_eq_true rfl) rfl rfl (s_Mo_value g30 g31 g32 g33 ?_)
    show ga_W G (d + 5) mt_Mo_moves 136 [some (.inr 348), some (.inl v1), some (.inl v2), some (.inl (gp_j3 ((mp_pv (I3 349) 0 - I3 357 0).natAbs : Int) ((mp_pv (I3 349) 1 - I3 357 1).natAbs : Int) ((mp_pv (I3 349) 2 - I3 357 2).natAbs : Int))), some (.inl (255 + 8 * (min (I4 349 254 + 1) 20 - 1)))] [.inl (gp_va (mo_v I10 0) (mo_v I10 1) (fun c r => I10 349 (38 + 4 * (7 * c + r) + (1 : Int)).toNat)), .inl ((255 + 8 * (min (I4 349 254 + 1) 20 - 1)) + 5), .inr 349] I10 E
    refine gw_nz (z := gp_va (mo_v I10 0) (mo_v I10 1) (fun c r => I10 349 (38 + 4 * (7 * c + r) + (1 : Int)).toNat)) (fun z2 q12 => ?_)
    have h := h z2 q12
    obtain ⟨g34, h⟩ := h
    obtain ⟨g35, h⟩ := h
    refine gw_iast d_Mo_moves_136 (ga_aM1) g34 g35 ?_
    refine gw_nm (J := (ga_up I10 349 ((255 + 8 * (min (I4 349 254 + 1) 20 - 1)) + 5).toNat (ga_wr z2))) (fun I11 q13 => ?_)
    have h := h I11 q13
    refine gw_RG (fun hI12 => ?_)
    refine gw_aload_n 0 d_Mo_moves_137 rfl rfl ?_
    refine gw_getR d_Mo_moves_138 fl_Mo_7 (ga_oM) rfl ?_
    refine gw_iload 4 d_Mo_moves_141 rfl ?_
    refine gw_bipush d_Mo_moves_143 (by decide +kernel) ?_
    refine gw_iadd d_Mo_moves_145 ?_
    refine gw_aload_n 0 d_Mo_moves_146 rfl rfl ?_
    refine gw_iconst d_Mo_moves_147 ?_
    obtain ⟨g36, h⟩ := h
    obtain ⟨g37, h⟩ := h
    obtain ⟨g38, h⟩ := h
    obtain ⟨g39, h⟩ := h
    refine gw_invV (as := [.inl 2]) (k := 348) (rest := [.inl ((255 + 8 * (min (I4 349 254 + 1) 20 - 1)) + 6), .inr 349]) (d' := (d + 4)) d_Mo_moves_148 lk_Mo_157 (ga_rcv (ga_oM) rfl rfl) rfl (Nat.le_of_ble_eq_true rfl) (Nat.le_of_ble_eq_true rfl) rfl rfl (s_Mo_value g36 g37 g38 g39 ?_)
    show ga_W G (d + 5) mt_Mo_moves 151 [some (.inr 348), some (.inl v1), some (.inl v2), some (.inl (gp_j3 ((mp_pv (I3 349) 0 - I3 357 0).natAbs : Int) ((mp_pv (I3 349) 1 - I3 357 1).natAbs : Int) ((mp_pv (I3 349) 2 - I3 357 2).natAbs : Int))), some (.inl (255 + 8 * (min (I4 349 254 + 1) 20 - 1)))] [.inl (gp_va (mo_v I11 0) (mo_v I11 1) (fun c r => I11 349 (38 + 4 * (7 * c + r) + (2 : Int)).toNat)), .inl ((255 + 8 * (min (I4 349 254 + 1) 20 - 1)) + 6), .inr 349] I11 E
    refine gw_nz (z := gp_va (mo_v I11 0) (mo_v I11 1) (fun c r => I11 349 (38 + 4 * (7 * c + r) + (2 : Int)).toNat)) (fun z3 q14 => ?_)
    have h := h z3 q14
    obtain ⟨g40, h⟩ := h
    obtain ⟨g41, h⟩ := h
    refine gw_iast d_Mo_moves_151 (ga_aM1) g40 g41 ?_
    refine gw_nm (J := (ga_up I11 349 ((255 + 8 * (min (I4 349 254 + 1) 20 - 1)) + 6).toNat (ga_wr z3))) (fun I12 q15 => ?_)
    have h := h I12 q15
    refine gw_RG (fun hI13 => ?_)
    refine gw_aload_n 0 d_Mo_moves_152 rfl rfl ?_
    refine gw_getR d_Mo_moves_153 fl_Mo_7 (ga_oM) rfl ?_
    refine gw_iload 4 d_Mo_moves_156 rfl ?_
    refine gw_bipush d_Mo_moves_158 (by decide +kernel) ?_
    refine gw_iadd d_Mo_moves_160 ?_
    refine gw_iload_n 3 d_Mo_moves_161 rfl rfl ?_
    obtain ⟨g42, h⟩ := h
    obtain ⟨g43, h⟩ := h
    refine gw_iast d_Mo_moves_162 (ga_aM1) g42 g43 ?_
    refine gw_nm (J := (ga_up I12 349 ((255 + 8 * (min (I4 349 254 + 1) 20 - 1)) + 7).toNat (ga_wr (gp_j3 ((mp_pv (I3 349) 0 - I3 357 0).natAbs : Int) ((mp_pv (I3 349) 1 - I3 357 1).natAbs : Int) ((mp_pv (I3 349) 2 - I3 357 2).natAbs : Int))))) (fun I13 q16 => ?_)
    have h := h I13 q16
    refine gw_RG (fun hI14 => ?_)
    refine gw_iload_n 3 d_Mo_moves_163 rfl rfl ?_
    exact gw_ireturn d_Mo_moves_164 rfl h
  · have h := h.2 (of_decide_eq_true hc)
    refine gw_aload_n 0 d_Mo_moves_9 rfl rfl ?_
    refine gw_getR d_Mo_moves_10 fl_Mo_7 (ga_oM) rfl ?_
    refine gw_sipush d_Mo_moves_13 (by decide +kernel) ?_
    refine gw_dup2 d_Mo_moves_16 ?_
    refine gw_iald d_Mo_moves_17 (ga_aM1) (by decide) (by decide) ?_
    refine gw_iconst d_Mo_moves_18 ?_
    refine gw_iadd d_Mo_moves_19 ?_
    refine gw_iast d_Mo_moves_20 (ga_aM1) (by decide) (by decide) ?_
    refine gw_nm (J := (ga_up I 349 239 (ga_wr ((I 349 239) + 1)))) (fun I14 q17 => ?_)
    have h := h I14 q17
    refine gw_RG (fun hI15 => ?_)
    refine gw_ldc (n := (-2000000009)) d_Mo_moves_21 kw_Mo_67 (by decide +kernel) ?_
    exact gw_ireturn d_Mo_moves_23 rfl h

