/-! the reference: its loops over borders -/
theorem k_Mo_sticky_0 {G : ga_G} {d : Nat} {I : ga_I} {E : Option ga_V → ga_I → Prop} {v1 : Int} {v2 : Int} 
    (h : ga_RG I → ga_W G (d + 1) mt_Mo_sticky 5 [some (.inr 348), some (.inl v1), none, some (.inl v2), some (.inl 0)] [] I E) :
    ga_W G (d + 1) mt_Mo_sticky 0 (ga_en 5 [.inr 348, .inl v1, .inl v2]) [] I E := by
  show ga_W G (d + 1) mt_Mo_sticky 0 [some (.inr 348), some (.inl v1), some (.inl v2), none, none] [] I E
  refine gw_RG (fun hI1 => ?_)
  have h := h hI1
  refine gw_iload_n 2 d_Mo_sticky_0 rfl rfl ?_
  refine gw_istore_n 3 d_Mo_sticky_1 rfl (Nat.le_of_ble_eq_true rfl) rfl ?_
  refine gw_iconst d_Mo_sticky_2 ?_
  refine gw_istore 4 d_Mo_sticky_3 (Nat.le_of_ble_eq_true rfl) rfl ?_
  exact gw_le h (by exact ⟨rfl, ⟨rfl, ⟨rfl, ⟨rfl, trivial⟩⟩⟩⟩)
theorem k_Mo_sticky_5 {G : ga_G} {d : Nat} {I : ga_I} {E : Option ga_V → ga_I → Prop} {v1 : Int} {v3 : Int} {v4 : Int} (r3 : ga_rg v3) (r4 : ga_rg v4)
    (h : ga_RG I → (0 ≤ v1 ∧ v1 ≤ 1) ∧ ((((ms_n (I 349) v1) ≤ v4) → E (some (.inl (-2000000009))) I) ∧ ((¬ ((ms_n (I 349) v1) ≤ v4)) → (0 ≤ v4 ∧ v4 ≤ 6) ∧ ((0 ≤ (1 : Int) ∧ (1 : Int) ≤ 2) ∧ ((((ms_b (I 349) v1 v4 (1 : Int)) ≠ 0) → ga_W G (d + 1) mt_Mo_sticky 5 [some (.inr 348), some (.inl v1), none, some (.inl v3), some (.inl (v4 + 1))] [] I E) ∧ (((ms_b (I 349) v1 v4 (1 : Int)) = 0) → ((v3 ≠ 0) → ga_W G (d + 1) mt_Mo_sticky 5 [some (.inr 348), some (.inl v1), none, some (.inl (v3 + (-1))), some (.inl (v4 + 1))] [] I E) ∧ ((v3 = 0) → E (some (.inl v4)) I))))))) :
    ga_W G (d + 1) mt_Mo_sticky 5 [some (.inr 348), some (.inl v1), none, some (.inl v3), some (.inl v4)] [] I E := by
  refine gw_RG (fun hI1 => ?_)
  have h := h hI1
  refine gw_iload 4 d_Mo_sticky_5 rfl ?_
  refine gw_aload_n 0 d_Mo_sticky_7 rfl rfl ?_
  refine gw_iload_n 1 d_Mo_sticky_8 rfl rfl ?_
  obtain ⟨g1, h⟩ := h
  refine gw_invV (as := [.inl v1]) (k := 348) (rest := [.inl v4]) (d' := d) d_Mo_sticky_9 lk_Mo_55 (ga_rcv (ga_oM) rfl rfl) rfl (Nat.le_of_ble_eq_true rfl) (Nat.le_of_ble_eq_true rfl) rfl rfl (s_Mo_borders g1 ?_)
  show ga_W G (d + 1) mt_Mo_sticky 12 [some (.inr 348), some (.inl v1), none, some (.inl v3), some (.inl v4)] [.inl (ms_n (I 349) v1), .inl v4] I E
  refine gw_icmp_ge 42 d_Mo_sticky_12 (by decide) r4 (hI1 _ _) (fun hc => ?_) (fun hc => ?_)
  · have h := h.1 hc
    refine gw_ldc (n := (-2000000009)) d_Mo_sticky_42 kw_Mo_67 (by decide +kernel) ?_
    exact gw_ireturn d_Mo_sticky_44 rfl h
  · have h := h.2 hc
    refine gw_aload_n 0 d_Mo_sticky_15 rfl rfl ?_
    refine gw_iload_n 1 d_Mo_sticky_16 rfl rfl ?_
    refine gw_iload 4 d_Mo_sticky_17 rfl ?_
    refine gw_iconst d_Mo_sticky_19 ?_
    obtain ⟨g2, h⟩ := h
    obtain ⟨g3, h⟩ := h
    refine gw_invV (as := [.inl v1, .inl v4, .inl 1]) (k := 348) (rest := []) (d' := d) d_Mo_sticky_20 lk_Mo_63 (ga_rcv (ga_oM) rfl rfl) rfl (Nat.le_of_ble_eq_true rfl) (Nat.le_of_ble_eq_true rfl) rfl rfl (s_Mo_ofBorder g1 g2 g3 ?_)
    show ga_W G (d + 1) mt_Mo_sticky 23 [some (.inr 348), some (.inl v1), none, some (.inl v3), some (.inl v4)] [.inl (ms_b (I 349) v1 v4 (1 : Int))] I E
    refine gw_if_ne 36 d_Mo_sticky_23 (by decide) (hI1 _ _) (fun hc => ?_) (fun hc => ?_)
    · have h := h.1 hc
      refine gw_iinc 4 d_Mo_sticky_36 rfl rfl ?_
      refine gw_goto 5 d_Mo_sticky_39 (by decide) ?_
      exact gw_le h (by exact ⟨rfl, ⟨rfl, ⟨rfl, ⟨rfl, trivial⟩⟩⟩⟩)
    · have h := h.2 hc
      refine gw_iload_n 3 d_Mo_sticky_26 rfl rfl ?_
      refine gw_if_ne 33 d_Mo_sticky_27 (by decide) r3 (fun hc => ?_) (fun hc => ?_)
      · have h := h.1 hc
        refine gw_iinc 3 d_Mo_sticky_33 rfl rfl ?_
        refine gw_iinc 4 d_Mo_sticky_36 rfl rfl ?_
        refine gw_goto 5 d_Mo_sticky_39 (by decide) ?_
        exact gw_le h (by exact ⟨rfl, ⟨rfl, ⟨rfl, ⟨rfl, trivial⟩⟩⟩⟩)
      · have h := h.2 hc
        refine gw_iload 4 d_Mo_sticky_30 rfl ?_
        exact gw_ireturn d_Mo_sticky_32 rfl h

theorem k_Mo_stickyMany_0 {G : ga_G} {d : Nat} {I : ga_I} {E : Option ga_V → ga_I → Prop} {v1 : Int} 
    (h : ga_RG I → ga_W G (d + 1) mt_Mo_stickyMany 4 [some (.inr 348), some (.inl v1), some (.inl 0), some (.inl 0)] [] I E) :
    ga_W G (d + 1) mt_Mo_stickyMany 0 (ga_en 4 [.inr 348, .inl v1]) [] I E := by
  show ga_W G (d + 1) mt_Mo_stickyMany 0 [some (.inr 348), some (.inl v1), none, none] [] I E
  refine gw_RG (fun hI1 => ?_)
  have h := h hI1
  refine gw_iconst d_Mo_stickyMany_0 ?_
  refine gw_istore_n 2 d_Mo_stickyMany_1 rfl (Nat.le_of_ble_eq_true rfl) rfl ?_
  refine gw_iconst d_Mo_stickyMany_2 ?_
  refine gw_istore_n 3 d_Mo_stickyMany_3 rfl (Nat.le_of_ble_eq_true rfl) rfl ?_
  exact gw_le h (by exact ⟨rfl, ⟨rfl, ⟨rfl, ⟨rfl, trivial⟩⟩⟩⟩)
theorem k_Mo_stickyMany_4 {G : ga_G} {d : Nat} {I : ga_I} {E : Option ga_V → ga_I → Prop} {v1 : Int} {v2 : Int} {v3 : Int} (r3 : ga_rg v3)
    (h : ga_RG I → (0 ≤ v1 ∧ v1 ≤ 1) ∧ ((((ms_n (I 349) v1) ≤ v3) → E (some (.inl v2)) I) ∧ ((¬ ((ms_n (I 349) v1) ≤ v3)) → (0 ≤ v3 ∧ v3 ≤ 6) ∧ ((0 ≤ (1 : Int) ∧ (1 : Int) ≤ 2) ∧ ((((ms_b (I 349) v1 v3 (1 : Int)) ≠ 0) → ga_W G (d + 1) mt_Mo_stickyMany 4 [some (.inr 348), some (.inl v1), some (.inl (v2 + 0)), some (.inl (v3 + 1))] [] I E) ∧ (((ms_b (I 349) v1 v3 (1 : Int)) = 0) → ga_W G (d + 1) mt_Mo_stickyMany 4 [some (.inr 348), some (.inl v1), some (.inl (v2 + 1)), some (.inl (v3 + 1))] [] I E)))))) :
    ga_W G (d + 1) mt_Mo_stickyMany 4 [some (.inr 348), some (.inl v1), some (.inl v2), some (.inl v3)] [] I E := by
  refine gw_RG (fun hI1 => ?_)
  have h := h hI1
  refine gw_iload_n 3 d_Mo_stickyMany_4 rfl rfl ?_
  refine gw_aload_n 0 d_Mo_stickyMany_5 rfl rfl ?_
  refine gw_iload_n 1 d_Mo_stickyMany_6 rfl rfl ?_
  obtain ⟨g1, h⟩ := h
  refine gw_invV (as := [.inl v1]) (k := 348) (rest := [.inl v3]) (d' := d) d_Mo_stickyMany_7 lk_Mo_55 (ga_rcv (ga_oM) rfl rfl) rfl (Nat.le_of_ble_eq_true rfl) (Nat.le_of_ble_eq_true rfl) rfl rfl (s_Mo_borders g1 ?_)
  show ga_W G (d + 1) mt_Mo_stickyMany 10 [some (.inr 348), some (.inl v1), some (.inl v2), some (.inl v3)] [.inl (ms_n (I 349) v1), .inl v3] I E
  refine gw_icmp_ge 37 d_Mo_stickyMany_10 (by decide) r3 (hI1 _ _) (fun hc => ?_) (fun hc => ?_)
  · have h := h.1 hc
    refine gw_iload_n 2 d_Mo_stickyMany_37 rfl rfl ?_
    exact gw_ireturn d_Mo_stickyMany_38 rfl h
  · have h := h.2 hc
    refine gw_iload_n 2 d_Mo_stickyMany_13 rfl rfl ?_
    refine gw_aload_n 0 d_Mo_stickyMany_14 rfl rfl ?_
    refine gw_iload_n 1 d_Mo_stickyMany_15 rfl rfl ?_
    refine gw_iload_n 3 d_Mo_stickyMany_16 rfl rfl ?_
    refine gw_iconst d_Mo_stickyMany_17 ?_
    obtain ⟨g2, h⟩ := h
    obtain ⟨g3, h⟩ := h
    refine gw_invV (as := [.inl v1, .inl v3, .inl 1]) (k := 348) (rest := [.inl v2]) (d' := d) d_Mo_stickyMany_18 lk_Mo_63 (ga_rcv (ga_oM) rfl rfl) rfl (Nat.le_of_ble_eq_true rfl) (Nat.le_of_ble_eq_true rfl) rfl rfl (s_Mo_ofBorder g1 g2 g3 ?_)
    show ga_W G (d + 1) mt_Mo_stickyMany 21 [some (.inr 348), some (.inl v1), some (.inl v2), some (.inl v3)] [.inl (ms_b (I 349) v1 v3 (1 : Int)), .inl v2] I E
    refine gw_if_ne 28 d_Mo_stickyMany_21 (by decide) (hI1 _ _) (fun hc => ?_) (fun hc => ?_)
    · have h := h.1 hc
      refine gw_iconst d_Mo_stickyMany_28 ?_
      refine gw_iadd d_Mo_stickyMany_29 ?_
      refine gw_istore_n 2 d_Mo_stickyMany_30 rfl (Nat.le_of_ble_eq_true rfl) rfl ?_
      refine gw_iinc 3 d_Mo_stickyMany_31 rfl rfl ?_
      refine gw_goto 4 d_Mo_stickyMany_34 (by decide) ?_
      exact gw_le h (by exact ⟨rfl, ⟨rfl, ⟨rfl, ⟨rfl, trivial⟩⟩⟩⟩)
    · have h := h.2 hc
      refine gw_iconst d_Mo_stickyMany_24 ?_
      refine gw_goto 29 d_Mo_stickyMany_25 (by decide) ?_
      refine gw_iadd d_Mo_stickyMany_29 ?_
      refine gw_istore_n 2 d_Mo_stickyMany_30 rfl (Nat.le_of_ble_eq_true rfl) rfl ?_
      refine gw_iinc 3 d_Mo_stickyMany_31 rfl rfl ?_
      refine gw_goto 4 d_Mo_stickyMany_34 (by decide) ?_
      exact gw_le h (by exact ⟨rfl, ⟨rfl, ⟨rfl, ⟨rfl, trivial⟩⟩⟩⟩)

theorem k_Mo_zoneOf_0 {G : ga_G} {d : Nat} {I : ga_I} {E : Option ga_V → ga_I → Prop} {v1 : Int} {v2 : Int} 
    (h : ga_RG I → ga_W G (d + 1) mt_Mo_zoneOf 5 [some (.inr 348), some (.inl v1), some (.inl v2), some (.inl 0), some (.inl 0)] [] I E) :
    ga_W G (d + 1) mt_Mo_zoneOf 0 (ga_en 5 [.inr 348, .inl v1, .inl v2]) [] I E := by
  show ga_W G (d + 1) mt_Mo_zoneOf 0 [some (.inr 348), some (.inl v1), some (.inl v2), none, none] [] I E
  refine gw_RG (fun hI1 => ?_)
  have h := h hI1
  refine gw_iconst d_Mo_zoneOf_0 ?_
  refine gw_istore_n 3 d_Mo_zoneOf_1 rfl (Nat.le_of_ble_eq_true rfl) rfl ?_
  refine gw_iconst d_Mo_zoneOf_2 ?_
  refine gw_istore 4 d_Mo_zoneOf_3 (Nat.le_of_ble_eq_true rfl) rfl ?_
  exact gw_le h (by exact ⟨rfl, ⟨rfl, ⟨rfl, ⟨rfl, ⟨rfl, trivial⟩⟩⟩⟩⟩)
theorem k_Mo_zoneOf_5 {G : ga_G} {d : Nat} {I : ga_I} {E : Option ga_V → ga_I → Prop} {v1 : Int} {v2 : Int} {v3 : Int} {v4 : Int} (r2 : ga_rg v2) (r4 : ga_rg v4)
    (h : ga_RG I → (0 ≤ v1 ∧ v1 ≤ 1) ∧ ((((ms_n (I 349) v1) ≤ v4) → E (some (.inl v3)) I) ∧ ((¬ ((ms_n (I 349) v1) ≤ v4)) → (0 ≤ v4 ∧ v4 ≤ 6) ∧ ((0 ≤ (1 : Int) ∧ (1 : Int) ≤ 2) ∧ ((((ms_b (I 349) v1 v4 (1 : Int)) ≠ 0) → ga_W G (d + 1) mt_Mo_zoneOf 5 [some (.inr 348), some (.inl v1), some (.inl v2), some (.inl (v3 + 0)), some (.inl (v4 + 1))] [] I E) ∧ (((ms_b (I 349) v1 v4 (1 : Int)) = 0) → (0 ≤ (0 : Int) ∧ (0 : Int) ≤ 2) ∧ (((v2 < (ms_b (I 349) v1 v4 (0 : Int))) → ga_W G (d + 1) mt_Mo_zoneOf 5 [some (.inr 348), some (.inl v1), some (.inl v2), some (.inl (v3 + 0)), some (.inl (v4 + 1))] [] I E) ∧ ((¬ (v2 < (ms_b (I 349) v1 v4 (0 : Int)))) → ga_W G (d + 1) mt_Mo_zoneOf 5 [some (.inr 348), some (.inl v1), some (.inl v2), some (.inl (v3 + 1)), some (.inl (v4 + 1))] [] I E)))))))) :
    ga_W G (d + 1) mt_Mo_zoneOf 5 [some (.inr 348), some (.inl v1), some (.inl v2), some (.inl v3), some (.inl v4)] [] I E := by
  refine gw_RG (fun hI1 => ?_)
  have h := h hI1
  refine gw_iload 4 d_Mo_zoneOf_5 rfl ?_
  refine gw_aload_n 0 d_Mo_zoneOf_7 rfl rfl ?_
  refine gw_iload_n 1 d_Mo_zoneOf_8 rfl rfl ?_
  obtain ⟨g1, h⟩ := h
  refine gw_invV (as := [.inl v1]) (k := 348) (rest := [.inl v4]) (d' := d) d_Mo_zoneOf_9 lk_Mo_55 (ga_rcv (ga_oM) rfl rfl) rfl (Nat.le_of_ble_eq_true rfl) (Nat.le_of_ble_eq_true rfl) rfl rfl (s_Mo_borders g1 ?_)
  show ga_W G (d + 1) mt_Mo_zoneOf 12 [some (.inr 348), some (.inl v1), some (.inl v2), some (.inl v3), some (.inl v4)] [.inl (ms_n (I 349) v1), .inl v4] I E
  refine gw_icmp_ge 52 d_Mo_zoneOf_12 (by decide) r4 (hI1 _ _) (fun hc => ?_) (fun hc => ?_)
  · have h := h.1 hc
    refine gw_iload_n 3 d_Mo_zoneOf_52 rfl rfl ?_
    exact gw_ireturn d_Mo_zoneOf_53 rfl h
  · have h := h.2 hc
    refine gw_iload_n 3 d_Mo_zoneOf_15 rfl rfl ?_
    refine gw_aload_n 0 d_Mo_zoneOf_16 rfl rfl ?_
    refine gw_iload_n 1 d_Mo_zoneOf_17 rfl rfl ?_
    refine gw_iload 4 d_Mo_zoneOf_18 rfl ?_
    refine gw_iconst d_Mo_zoneOf_20 ?_
    obtain ⟨g2, h⟩ := h
    obtain ⟨g3, h⟩ := h
    refine gw_invV (as := [.inl v1, .inl v4, .inl 1]) (k := 348) (rest := [.inl v3]) (d' := d) d_Mo_zoneOf_21 lk_Mo_63 (ga_rcv (ga_oM) rfl rfl) rfl (Nat.le_of_ble_eq_true rfl) (Nat.le_of_ble_eq_true rfl) rfl rfl (s_Mo_ofBorder g1 g2 g3 ?_)
    show ga_W G (d + 1) mt_Mo_zoneOf 24 [some (.inr 348), some (.inl v1), some (.inl v2), some (.inl v3), some (.inl v4)] [.inl (ms_b (I 349) v1 v4 (1 : Int)), .inl v3] I E
    refine gw_if_ne 43 d_Mo_zoneOf_24 (by decide) (hI1 _ _) (fun hc => ?_) (fun hc => ?_)
    · have h := h.1 hc
      refine gw_iconst d_Mo_zoneOf_43 ?_
      refine gw_iadd d_Mo_zoneOf_44 ?_
      refine gw_istore_n 3 d_Mo_zoneOf_45 rfl (Nat.le_of_ble_eq_true rfl) rfl ?_
      refine gw_iinc 4 d_Mo_zoneOf_46 rfl rfl ?_
      refine gw_goto 5 d_Mo_zoneOf_49 (by decide) ?_
      exact gw_le h (by exact ⟨rfl, ⟨rfl, ⟨rfl, ⟨rfl, ⟨rfl, trivial⟩⟩⟩⟩⟩)
    · have h := h.2 hc
      refine gw_aload_n 0 d_Mo_zoneOf_27 rfl rfl ?_
      refine gw_iload_n 1 d_Mo_zoneOf_28 rfl rfl ?_
      refine gw_iload 4 d_Mo_zoneOf_29 rfl ?_
      refine gw_iconst d_Mo_zoneOf_31 ?_
      obtain ⟨g4, h⟩ := h
      refine gw_invV (as := [.inl v1, .inl v4, .inl 0]) (k := 348) (rest := [.inl v3]) (d' := d) d_Mo_zoneOf_32 lk_Mo_63 (ga_rcv (ga_oM) rfl rfl) rfl (Nat.le_of_ble_eq_true rfl) (Nat.le_of_ble_eq_true rfl) rfl rfl (s_Mo_ofBorder g1 g2 g4 ?_)
      show ga_W G (d + 1) mt_Mo_zoneOf 35 [some (.inr 348), some (.inl v1), some (.inl v2), some (.inl v3), some (.inl v4)] [.inl (ms_b (I 349) v1 v4 (0 : Int)), .inl v3] I E
      refine gw_iload_n 2 d_Mo_zoneOf_35 rfl rfl ?_
      refine gw_icmp_gt 43 d_Mo_zoneOf_36 (by decide) (hI1 _ _) r2 (fun hc => ?_) (fun hc => ?_)
      · have h := h.1 hc
        refine gw_iconst d_Mo_zoneOf_43 ?_
        refine gw_iadd d_Mo_zoneOf_44 ?_
        refine gw_istore_n 3 d_Mo_zoneOf_45 rfl (Nat.le_of_ble_eq_true rfl) rfl ?_
        refine gw_iinc 4 d_Mo_zoneOf_46 rfl rfl ?_
        refine gw_goto 5 d_Mo_zoneOf_49 (by decide) ?_
        exact gw_le h (by exact ⟨rfl, ⟨rfl, ⟨rfl, ⟨rfl, ⟨rfl, trivial⟩⟩⟩⟩⟩)
      · have h := h.2 hc
        refine gw_iconst d_Mo_zoneOf_39 ?_
        refine gw_goto 44 d_Mo_zoneOf_40 (by decide) ?_
        refine gw_iadd d_Mo_zoneOf_44 ?_
        refine gw_istore_n 3 d_Mo_zoneOf_45 rfl (Nat.le_of_ble_eq_true rfl) rfl ?_
        refine gw_iinc 4 d_Mo_zoneOf_46 rfl rfl ?_
        refine gw_goto 5 d_Mo_zoneOf_49 (by decide) ?_
        exact gw_le h (by exact ⟨rfl, ⟨rfl, ⟨rfl, ⟨rfl, ⟨rfl, trivial⟩⟩⟩⟩⟩)

theorem k_Mo_isOccupied_0 {G : ga_G} {d : Nat} {I : ga_I} {E : Option ga_V → ga_I → Prop} {v1 : Int} {v2 : Int} {v3 : Int} {v4 : Int} 
    (h : ga_RG I → ga_W G (d + 1) mt_Mo_isOccupied 6 [some (.inr 348), some (.inl v1), some (.inl v2), some (.inl v3), some (.inl v4), some (.inl 0), some (.inl 0)] [] I E) :
    ga_W G (d + 1) mt_Mo_isOccupied 0 (ga_en 7 [.inr 348, .inl v1, .inl v2, .inl v3, .inl v4]) [] I E := by
  show ga_W G (d + 1) mt_Mo_isOccupied 0 [some (.inr 348), some (.inl v1), some (.inl v2), some (.inl v3), some (.inl v4), none, none] [] I E
  refine gw_RG (fun hI1 => ?_)
  have h := h hI1
  refine gw_iconst d_Mo_isOccupied_0 ?_
  refine gw_istore 5 d_Mo_isOccupied_1 (Nat.le_of_ble_eq_true rfl) rfl ?_
  refine gw_iconst d_Mo_isOccupied_3 ?_
  refine gw_istore 6 d_Mo_isOccupied_4 (Nat.le_of_ble_eq_true rfl) rfl ?_
  exact gw_le h (by exact ⟨rfl, ⟨rfl, ⟨rfl, ⟨rfl, ⟨rfl, ⟨rfl, ⟨rfl, trivial⟩⟩⟩⟩⟩⟩⟩)
theorem k_Mo_isOccupied_6 {G : ga_G} {d : Nat} {I : ga_I} {E : Option ga_V → ga_I → Prop} {v1 : Int} {v2 : Int} {v3 : Int} {v4 : Int} {v5 : Int} {v6 : Int} (r2 : ga_rg v2) (r4 : ga_rg v4) (r5 : ga_rg v5) (r6 : ga_rg v6)
    (h : ga_RG I → (0 ≤ v1 ∧ v1 ≤ 1) ∧ ((((ms_n (I 349) v1) ≤ v6) → (v5 = 0 ∨ v5 = 1) ∧ (E (some (.inl v5)) I)) ∧ ((¬ ((ms_n (I 349) v1) ≤ v6)) → ((v5 ≠ 0) → ga_W G (d + 1) mt_Mo_isOccupied 6 [some (.inr 348), some (.inl v1), some (.inl v2), some (.inl v3), some (.inl v4), some (.inl 1), some (.inl (v6 + 1))] [] I E) ∧ ((v5 = 0) → ((v6 = v4) → ga_W G (d + 1) mt_Mo_isOccupied 6 [some (.inr 348), some (.inl v1), some (.inl v2), some (.inl v3), some (.inl v4), some (.inl 0), some (.inl (v6 + 1))] [] I E) ∧ ((¬ (v6 = v4)) → (0 ≤ v6 ∧ v6 ≤ 6) ∧ ((0 ≤ (0 : Int) ∧ (0 : Int) ≤ 2) ∧ ((0 ≤ (2 : Int) ∧ (2 : Int) ≤ 2) ∧ ((ga_rg ((v2 - (ms_b (I 349) v1 v6 (0 : Int))).natAbs : Int)) ∧ ((ga_rg (v3 + (ms_b (I 349) v1 v6 (2 : Int)))) ∧ ((((v3 + (ms_b (I 349) v1 v6 (2 : Int))) < ((v2 - (ms_b (I 349) v1 v6 (0 : Int))).natAbs : Int)) → ga_W G (d + 1) mt_Mo_isOccupied 6 [some (.inr 348), some (.inl v1), some (.inl v2), some (.inl v3), some (.inl v4), some (.inl 0), some (.inl (v6 + 1))] [] I E) ∧ ((¬ ((v3 + (ms_b (I 349) v1 v6 (2 : Int))) < ((v2 - (ms_b (I 349) v1 v6 (0 : Int))).natAbs : Int))) → ga_W G (d + 1) mt_Mo_isOccupied 6 [some (.inr 348), some (.inl v1), some (.inl v2), some (.inl v3), some (.inl v4), some (.inl 1), some (.inl (v6 + 1))] [] I E))))))))))) :
    ga_W G (d + 1) mt_Mo_isOccupied 6 [some (.inr 348), some (.inl v1), some (.inl v2), some (.inl v3), some (.inl v4), some (.inl v5), some (.inl v6)] [] I E := by
  refine gw_RG (fun hI1 => ?_)
  have h := h hI1
  refine gw_iload 6 d_Mo_isOccupied_6 rfl ?_
  refine gw_aload_n 0 d_Mo_isOccupied_8 rfl rfl ?_
  refine gw_iload_n 1 d_Mo_isOccupied_9 rfl rfl ?_
  obtain ⟨g1, h⟩ := h
  refine gw_invV (as := [.inl v1]) (k := 348) (rest := [.inl v6]) (d' := d) d_Mo_isOccupied_10 lk_Mo_55 (ga_rcv (ga_oM) rfl rfl) rfl (Nat.le_of_ble_eq_true rfl) (Nat.le_of_ble_eq_true rfl) rfl rfl (s_Mo_borders g1 ?_)
  show ga_W G (d + 1) mt_Mo_isOccupied 13 [some (.inr 348), some (.inl v1), some (.inl v2), some (.inl v3), some (.inl v4), some (.inl v5), some (.inl v6)] [.inl (ms_n (I 349) v1), .inl v6] I E
  refine gw_icmp_ge 66 d_Mo_isOccupied_13 (by decide) r6 (hI1 _ _) (fun hc => ?_) (fun hc => ?_)
  · have h := h.1 hc
    refine gw_iload 5 d_Mo_isOccupied_66 rfl ?_
    obtain ⟨g2, h⟩ := h
    exact gw_zreturn d_Mo_isOccupied_68 rfl g2 h
  · have h := h.2 hc
    refine gw_iload 5 d_Mo_isOccupied_16 rfl ?_
    refine gw_if_ne 53 d_Mo_isOccupied_18 (by decide) r5 (fun hc => ?_) (fun hc => ?_)
    · have h := h.1 hc
      refine gw_iconst d_Mo_isOccupied_53 ?_
      refine gw_goto 58 d_Mo_isOccupied_54 (by decide) ?_
      refine gw_istore 5 d_Mo_isOccupied_58 (Nat.le_of_ble_eq_true rfl) rfl ?_
      refine gw_iinc 6 d_Mo_isOccupied_60 rfl rfl ?_
      refine gw_goto 6 d_Mo_isOccupied_63 (by decide) ?_
      exact gw_le h (by exact ⟨rfl, ⟨rfl, ⟨rfl, ⟨rfl, ⟨rfl, ⟨rfl, ⟨rfl, trivial⟩⟩⟩⟩⟩⟩⟩)
    · have h := h.2 hc
      refine gw_iload 6 d_Mo_isOccupied_21 rfl ?_
      refine gw_iload 4 d_Mo_isOccupied_23 rfl ?_
      refine gw_icmp_eq 57 d_Mo_isOccupied_25 (by decide) r6 r4 (fun hc => ?_) (fun hc => ?_)
      · have h := h.1 hc
        refine gw_iconst d_Mo_isOccupied_57 ?_
        refine gw_istore 5 d_Mo_isOccupied_58 (Nat.le_of_ble_eq_true rfl) rfl ?_
        refine gw_iinc 6 d_Mo_isOccupied_60 rfl rfl ?_
        refine gw_goto 6 d_Mo_isOccupied_63 (by decide) ?_
        exact gw_le h (by exact ⟨rfl, ⟨rfl, ⟨rfl, ⟨rfl, ⟨rfl, ⟨rfl, ⟨rfl, trivial⟩⟩⟩⟩⟩⟩⟩)
      · have h := h.2 hc
        refine gw_iload_n 2 d_Mo_isOccupied_28 rfl rfl ?_
        refine gw_aload_n 0 d_Mo_isOccupied_29 rfl rfl ?_
        refine gw_iload_n 1 d_Mo_isOccupied_30 rfl rfl ?_
        refine gw_iload 6 d_Mo_isOccupied_31 rfl ?_
        refine gw_iconst d_Mo_isOccupied_33 ?_
        obtain ⟨g3, h⟩ := h
        obtain ⟨g4, h⟩ := h
        refine gw_invV (as := [.inl v1, .inl v6, .inl 0]) (k := 348) (rest := [.inl v2]) (d' := d) d_Mo_isOccupied_34 lk_Mo_63 (ga_rcv (ga_oM) rfl rfl) rfl (Nat.le_of_ble_eq_true rfl) (Nat.le_of_ble_eq_true rfl) rfl rfl (s_Mo_ofBorder g1 g3 g4 ?_)
        show ga_W G (d + 1) mt_Mo_isOccupied 37 [some (.inr 348), some (.inl v1), some (.inl v2), some (.inl v3), some (.inl v4), some (.inl v5), some (.inl v6)] [.inl (ms_b (I 349) v1 v6 (0 : Int)), .inl v2] I E
        refine gw_invS (as := [.inl v2, .inl (ms_b (I 349) v1 v6 (0 : Int))]) (rest := []) (d' := d) d_Mo_isOccupied_37 lk_Mo_85 rfl (Nat.le_of_ble_eq_true rfl) (Nat.le_of_ble_eq_true rfl) rfl rfl (s_Mo_apart r2 (hI1 _ _) ?_)
        show ga_W G (d + 1) mt_Mo_isOccupied 40 [some (.inr 348), some (.inl v1), some (.inl v2), some (.inl v3), some (.inl v4), some (.inl v5), some (.inl v6)] [.inl ((v2 - (ms_b (I 349) v1 v6 (0 : Int))).natAbs : Int)] I E
        refine gw_iload_n 3 d_Mo_isOccupied_40 rfl rfl ?_
        refine gw_aload_n 0 d_Mo_isOccupied_41 rfl rfl ?_
        refine gw_iload_n 1 d_Mo_isOccupied_42 rfl rfl ?_
        refine gw_iload 6 d_Mo_isOccupied_43 rfl ?_
        refine gw_iconst d_Mo_isOccupied_45 ?_
        obtain ⟨g5, h⟩ := h
        refine gw_invV (as := [.inl v1, .inl v6, .inl 2]) (k := 348) (rest := [.inl v3, .inl ((v2 - (ms_b (I 349) v1 v6 (0 : Int))).natAbs : Int)]) (d' := d) d_Mo_isOccupied_46 lk_Mo_63 (ga_rcv (ga_oM) rfl rfl) rfl (Nat.le_of_ble_eq_true rfl) (Nat.le_of_ble_eq_true rfl) rfl rfl (s_Mo_ofBorder g1 g3 g5 ?_)
        show ga_W G (d + 1) mt_Mo_isOccupied 49 [some (.inr 348), some (.inl v1), some (.inl v2), some (.inl v3), some (.inl v4), some (.inl v5), some (.inl v6)] [.inl (ms_b (I 349) v1 v6 (2 : Int)), .inl v3, .inl ((v2 - (ms_b (I 349) v1 v6 (0 : Int))).natAbs : Int)] I E
        refine gw_iadd d_Mo_isOccupied_49 ?_
        obtain ⟨g6, h⟩ := h
        obtain ⟨g7, h⟩ := h
        refine gw_icmp_gt 57 d_Mo_isOccupied_50 (by decide) g6 g7 (fun hc => ?_) (fun hc => ?_)
        · have h := h.1 hc
          refine gw_iconst d_Mo_isOccupied_57 ?_
          refine gw_istore 5 d_Mo_isOccupied_58 (Nat.le_of_ble_eq_true rfl) rfl ?_
          refine gw_iinc 6 d_Mo_isOccupied_60 rfl rfl ?_
          refine gw_goto 6 d_Mo_isOccupied_63 (by decide) ?_
          exact gw_le h (by exact ⟨rfl, ⟨rfl, ⟨rfl, ⟨rfl, ⟨rfl, ⟨rfl, ⟨rfl, trivial⟩⟩⟩⟩⟩⟩⟩)
        · have h := h.2 hc
          refine gw_iconst d_Mo_isOccupied_53 ?_
          refine gw_goto 58 d_Mo_isOccupied_54 (by decide) ?_
          refine gw_istore 5 d_Mo_isOccupied_58 (Nat.le_of_ble_eq_true rfl) rfl ?_
          refine gw_iinc 6 d_Mo_isOccupied_60 rfl rfl ?_
          refine gw_goto 6 d_Mo_isOccupied_63 (by decide) ?_
          exact gw_le h (by exact ⟨rfl, ⟨rfl, ⟨rfl, ⟨rfl, ⟨rfl, ⟨rfl, ⟨rfl, trivial⟩⟩⟩⟩⟩⟩⟩)

section MB
variable {G : ga_G} {d : Nat} {I : ga_I} {E : Option ga_V → ga_I → Prop}
/-- the border that is the sticky one of a number -/
def mp_sy (q : Nat → Int) (n : Nat) (z : Int) : Int := if gp_ff (fun b => decide (q b = 0 ∧ gp_ct (gp_sk q) b = z)) n = -1 then -2000000009 else gp_ff (fun b => decide (q b = 0 ∧ gp_ct (gp_sk q) b = z)) n
abbrev mo_ok (I : ga_I) (ax : Int) : Prop := gp_ok (ms_n (I 349) ax) (ms_p (I 349) ax) (ms_q (I 349) ax) (ms_r (I 349) ax)
theorem ms_b0 (s : Nat → Int) (ax : Int) (b : Nat) : ms_b s ax (b : Int) 0 = ms_p s ax b := by unfold ms_b ms_p; rw [Int.toNat_natCast]; rfl
theorem ms_b1 (s : Nat → Int) (ax : Int) (b : Nat) : ms_b s ax (b : Int) 1 = ms_q s ax b := by unfold ms_b ms_q; rw [Int.toNat_natCast]; rfl
theorem ms_b2 (s : Nat → Int) (ax : Int) (b : Nat) : ms_b s ax (b : Int) 2 = ms_r s ax b := by unfold ms_b ms_r; rw [Int.toNat_natCast]; rfl
theorem l_Mo_sticky {ax : Int} (ha : 0 ≤ ax ∧ ax ≤ 1) {n : Nat} (hn : (n : Int) = ms_n (I 349) ax) (hn6 : n ≤ 6) {z : Int} (hz : -10 ≤ z ∧ z ≤ 10) (h : E (some (.inl (mp_sy (ms_q (I 349) ax) n z))) I) : ∀ (m b : Nat), b + m = n → (∀ a, a < b → decide (ms_q (I 349) ax a = 0 ∧ gp_ct (gp_sk (ms_q (I 349) ax)) a = z) = false) → ga_W G (d + 1) mt_Mo_sticky 5 [some (.inr 348), some (.inl ax), none, some (.inl (z - gp_ct (gp_sk (ms_q (I 349) ax)) b)), some (.inl (b : Int))] [] I E := by
  intro m
  induction m with
  | zero =>
    intro b hb hf
    have ht := gp_ct_le (gp_sk (ms_q (I 349) ax)) b
    refine k_Mo_sticky_5 ⟨by omega, by omega⟩ ⟨by omega, by omega⟩ (fun hI => ⟨ha, fun h1 => ?_, fun h1 => by exfalso; omega⟩)
    have e : b = n := by omega
    subst e
    unfold mp_sy at h
    rw [gp_ff_none _ _ hf, if_pos rfl] at h
    exact h
  | succ m ih =>
    intro b hb hf
    have ht := gp_ct_le (gp_sk (ms_q (I 349) ax)) b
    have no : ¬ (ms_q (I 349) ax b = 0 ∧ gp_ct (gp_sk (ms_q (I 349) ax)) b = z) → ∀ a, a < b + 1 → decide (ms_q (I 349) ax a = 0 ∧ gp_ct (gp_sk (ms_q (I 349) ax)) a = z) = false := fun q a h9 => by
      by_cases e : a = b
      · rw [e]; exact decide_eq_false q
      · exact hf a (by omega)
    refine k_Mo_sticky_5 ⟨by omega, by omega⟩ ⟨by omega, by omega⟩ (fun hI => ⟨ha, fun h1 => by exfalso; omega, fun h1 => ⟨by omega, by omega, fun h2 => ?_, fun h2 => ⟨fun h3 => ?_, fun h3 => ?_⟩⟩⟩) <;> rw [ms_b1] at h2
    · have e := ih (b + 1) (by omega) (no (fun q => h2 q.1))
      refine gw_eq e ?_ rfl
      rw [gp_sk_F h2]; rfl
    · have e := ih (b + 1) (by omega) (no (fun q => h3 (by omega)))
      refine gw_eq e ?_ rfl
      rw [gp_sk_T h2, show z - (gp_ct (gp_sk (ms_q (I 349) ax)) b + 1) = z - gp_ct (gp_sk (ms_q (I 349) ax)) b + (-1) by omega]; rfl
    · have e : gp_ff (fun b => decide (ms_q (I 349) ax b = 0 ∧ gp_ct (gp_sk (ms_q (I 349) ax)) b = z)) n = (b : Int) := gp_ff_at _ (decide_eq_true ⟨h2, by omega⟩) hf n (by omega)
      unfold mp_sy at h
      rw [e, if_neg (by omega)] at h
      exact h
theorem s_Mo_sticky (hn : mo_n I) {ax : Int} (ha : 0 ≤ ax ∧ ax ≤ 1) {z : Int} (hz : -10 ≤ z ∧ z ≤ 10) (h : E (some (.inl (mp_sy (ms_q (I 349) ax) (ms_n (I 349) ax).toNat z))) I) : ga_W G (d + 1) mt_Mo_sticky 0 (ga_en 5 [.inr 348, .inl ax, .inl z]) [] I E := by
  have h6 := mo_n_ax hn ha
  refine k_Mo_sticky_0 (fun hI => ?_)
  have e := l_Mo_sticky (G := G) (d := d) ha (n := (ms_n (I 349) ax).toNat) (by omega) (by omega) hz h (ms_n (I 349) ax).toNat 0 (by omega) (fun a h => absurd h (Nat.not_lt_zero a))
  refine gw_eq e ?_ rfl
  rw [show gp_ct (gp_sk (ms_q (I 349) ax)) 0 = 0 from rfl, Int.sub_zero]; rfl
theorem l_Mo_stickyMany {ax : Int} (ha : 0 ≤ ax ∧ ax ≤ 1) {n : Nat} (hn : (n : Int) = ms_n (I 349) ax) (hn6 : n ≤ 6) (h : E (some (.inl (gp_ct (gp_sk (ms_q (I 349) ax)) n))) I) : ∀ (m b : Nat), b + m = n → ga_W G (d + 1) mt_Mo_stickyMany 4 [some (.inr 348), some (.inl ax), some (.inl (gp_ct (gp_sk (ms_q (I 349) ax)) b)), some (.inl (b : Int))] [] I E := by
  intro m
  induction m with
  | zero =>
    intro b hb
    refine k_Mo_stickyMany_4 ⟨by omega, by omega⟩ (fun hI => ⟨ha, fun h1 => ?_, fun h1 => by exfalso; omega⟩)
    rwa [show b = n by omega]
  | succ m ih =>
    intro b hb
    have e := ih (b + 1) (by omega)
    refine k_Mo_stickyMany_4 ⟨by omega, by omega⟩ (fun hI => ⟨ha, fun h1 => by exfalso; omega, fun h1 => ⟨by omega, by omega, fun h2 => ?_, fun h2 => ?_⟩⟩) <;> rw [ms_b1] at h2
    · refine gw_eq e ?_ rfl
      rw [gp_sk_F h2, Int.add_zero]; rfl
    · refine gw_eq e ?_ rfl
      rw [gp_sk_T h2]; rfl
theorem s_Mo_stickyMany (hn : mo_n I) {ax : Int} (ha : 0 ≤ ax ∧ ax ≤ 1) (h : E (some (.inl (gp_ct (gp_sk (ms_q (I 349) ax)) (ms_n (I 349) ax).toNat))) I) : ga_W G (d + 1) mt_Mo_stickyMany 0 (ga_en 4 [.inr 348, .inl ax]) [] I E := by
  have h6 := mo_n_ax hn ha
  exact k_Mo_stickyMany_0 (fun hI => l_Mo_stickyMany ha (by omega) (by omega) h (ms_n (I 349) ax).toNat 0 (by omega))
theorem l_Mo_zoneOf {ax : Int} (ha : 0 ≤ ax ∧ ax ≤ 1) {n : Nat} (hn : (n : Int) = ms_n (I 349) ax) (hn6 : n ≤ 6) {c : Int} (hc : ga_rg c) (h : E (some (.inl (gp_zo (ms_p (I 349) ax) (ms_q (I 349) ax) c n))) I) : ∀ (m b : Nat), b + m = n → ga_W G (d + 1) mt_Mo_zoneOf 5 [some (.inr 348), some (.inl ax), some (.inl c), some (.inl (gp_zo (ms_p (I 349) ax) (ms_q (I 349) ax) c b)), some (.inl (b : Int))] [] I E := by
  intro m
  induction m with
  | zero =>
    intro b hb
    refine k_Mo_zoneOf_5 hc ⟨by omega, by omega⟩ (fun hI => ⟨ha, fun h1 => ?_, fun h1 => by exfalso; omega⟩)
    rwa [show b = n by omega]
  | succ m ih =>
    intro b hb
    have e := ih (b + 1) (by omega)
    refine k_Mo_zoneOf_5 hc ⟨by omega, by omega⟩ (fun hI => ⟨ha, fun h1 => by exfalso; omega, fun h1 => ⟨by omega, by omega, fun h2 => ?_, fun h2 => ⟨by omega, fun h3 => ?_, fun h3 => ?_⟩⟩⟩) <;> rw [ms_b1] at h2
    · refine gw_eq e ?_ rfl
      rw [show gp_zo (ms_p (I 349) ax) (ms_q (I 349) ax) c (b + 1) = gp_zo (ms_p (I 349) ax) (ms_q (I 349) ax) c b from gp_ct_F (decide_eq_false (fun q => h2 q.1)), Int.add_zero]; rfl
    · rw [ms_b0] at h3
      refine gw_eq e ?_ rfl
      rw [show gp_zo (ms_p (I 349) ax) (ms_q (I 349) ax) c (b + 1) = gp_zo (ms_p (I 349) ax) (ms_q (I 349) ax) c b from gp_ct_F (decide_eq_false (by omega)), Int.add_zero]; rfl
    · rw [ms_b0] at h3
      refine gw_eq e ?_ rfl
      rw [show gp_zo (ms_p (I 349) ax) (ms_q (I 349) ax) c (b + 1) = gp_zo (ms_p (I 349) ax) (ms_q (I 349) ax) c b + 1 from gp_ct_T (decide_eq_true (by omega))]; rfl
theorem s_Mo_zoneOf (hn : mo_n I) {ax : Int} (ha : 0 ≤ ax ∧ ax ≤ 1) {c : Int} (hc : ga_rg c) (h : E (some (.inl (gp_zo (ms_p (I 349) ax) (ms_q (I 349) ax) c (ms_n (I 349) ax).toNat))) I) : ga_W G (d + 1) mt_Mo_zoneOf 0 (ga_en 5 [.inr 348, .inl ax, .inl c]) [] I E := by
  have h6 := mo_n_ax hn ha
  exact k_Mo_zoneOf_0 (fun hI => l_Mo_zoneOf ha (by omega) (by omega) hc h (ms_n (I 349) ax).toNat 0 (by omega))
theorem l_Mo_isOccupied {ax : Int} (ha : 0 ≤ ax ∧ ax ≤ 1) (hok : mo_ok I ax) {n : Nat} (hn : (n : Int) = ms_n (I 349) ax) {x y ex : Int} (hx : -3000 ≤ x ∧ x ≤ 3000) (hy : -3000 ≤ y ∧ y ≤ 3000) (he : ga_rg ex) (h : E (some (.inl (ga_bb (!gp_fr (ms_p (I 349) ax) (ms_r (I 349) ax) x y ex n)))) I) : ∀ (m b : Nat), b + m = n → ga_W G (d + 1) mt_Mo_isOccupied 6 [some (.inr 348), some (.inl ax), some (.inl x), some (.inl y), some (.inl ex), some (.inl (ga_bb (!gp_fr (ms_p (I 349) ax) (ms_r (I 349) ax) x y ex b))), some (.inl (b : Int))] [] I E := by
  have h6 := hok.2.1
  intro m
  induction m with
  | zero =>
    intro b hb
    refine k_Mo_isOccupied_6 ⟨by omega, by omega⟩ he (ga_bb_rg _) ⟨by omega, by omega⟩ (fun hI => ⟨ha, fun h1 => ⟨ga_bb_01 _, ?_⟩, fun h1 => by exfalso; omega⟩)
    rwa [show b = n by omega]
  | succ m ih =>
    intro b hb
    have e := ih (b + 1) (by omega)
    have hv := hok.2.2.1 b (by omega)
    have st : gp_fr (ms_p (I 349) ax) (ms_r (I 349) ax) x y ex (b + 1) = (gp_fr (ms_p (I 349) ax) (ms_r (I 349) ax) x y ex b && decide ((b : Int) = ex ∨ ¬ (x - y ≤ ms_p (I 349) ax b + ms_r (I 349) ax b ∧ ms_p (I 349) ax b - ms_r (I 349) ax b ≤ x + y))) := rfl
    refine k_Mo_isOccupied_6 ⟨by omega, by omega⟩ he (ga_bb_rg _) ⟨by omega, by omega⟩ (fun hI => ⟨ha, fun h1 => by exfalso; omega, fun h1 => ⟨fun h2 => ?_, fun h2 => ⟨fun h3 => ?_, fun h3 => ⟨by omega, by omega, by omega, ?_, ?_, fun h4 => ?_, fun h4 => ?_⟩⟩⟩⟩)
    · refine gw_eq e ?_ rfl
      have q : gp_fr (ms_p (I 349) ax) (ms_r (I 349) ax) x y ex b = false := by
        cases w : gp_fr (ms_p (I 349) ax) (ms_r (I 349) ax) x y ex b
        · rfl
        · rw [w] at h2; exact absurd rfl h2
      rw [st, q]; rfl
    all_goals
      have q : gp_fr (ms_p (I 349) ax) (ms_r (I 349) ax) x y ex b = true := by
        cases w : gp_fr (ms_p (I 349) ax) (ms_r (I 349) ax) x y ex b
        · rw [w] at h2; exact absurd h2 (by decide)
        · rfl
    · refine gw_eq e ?_ rfl
      rw [st, q, decide_eq_true (Or.inl h3)]; rfl
    · rw [ms_b0]; constructor <;> omega
    · rw [ms_b2]; constructor <;> omega
    · rw [ms_b0, ms_b2] at h4
      refine gw_eq e ?_ rfl
      rw [st, q, decide_eq_true (by omega)]; rfl
    · rw [ms_b0, ms_b2] at h4
      refine gw_eq e ?_ rfl
      rw [st, q, decide_eq_false (by omega)]; rfl
theorem s_Mo_isOccupied {ax : Int} (hok : mo_ok I ax) (ha : 0 ≤ ax ∧ ax ≤ 1) {x y ex : Int} (hx : -3000 ≤ x ∧ x ≤ 3000) (hy : -3000 ≤ y ∧ y ≤ 3000) (he : ga_rg ex) (h : E (some (.inl (ga_bb (!gp_fr (ms_p (I 349) ax) (ms_r (I 349) ax) x y ex (ms_n (I 349) ax).toNat)))) I) : ga_W G (d + 1) mt_Mo_isOccupied 0 (ga_en 7 [.inr 348, .inl ax, .inl x, .inl y, .inl ex]) [] I E := by
  have h0 := hok.1
  exact k_Mo_isOccupied_0 (fun hI => l_Mo_isOccupied ha hok (by omega) hx hy he h (ms_n (I 349) ax).toNat 0 (by omega))
end MB
theorem k_Mo_findZones_0 {G : ga_G} {d : Nat} {I : ga_I} {E : Option ga_V → ga_I → Prop}  
    (h : ga_RG I → (mo_n I) ∧ ((0 ≤ (0 : Int) ∧ (0 : Int) ≤ 1) ∧ ((∀ z1 : Int, z1 = gp_zo (ms_p (I 349) (0 : Int)) (ms_q (I 349) (0 : Int)) (I 349 234) (ms_n (I 349) (0 : Int)).toNat → (∀ I1 : ga_I, I1 = (ga_up I 349 236 (ga_wr z1)) → (mo_n I1) ∧ ((0 ≤ (1 : Int) ∧ (1 : Int) ≤ 1) ∧ ((∀ z2 : Int, z2 = gp_zo (ms_p (I1 349) (1 : Int)) (ms_q (I1 349) (1 : Int)) (I1 349 235) (ms_n (I1 349) (1 : Int)).toNat → (∀ I2 : ga_I, I2 = (ga_up I1 349 237 (ga_wr z2)) → E none I2))))))))) :
    ga_W G (d + 2) mt_Mo_findZones 0 (ga_en 1 [.inr 348]) [] I E := by
  show ga_W G (d + 2) mt_Mo_findZones 0 [some (.inr 348)] [] I E
  refine gw_RG (fun hI1 => ?_)
  have h := h hI1
  refine gw_aload_n 0 d_Mo_findZones_0 rfl rfl ?_
  refine gw_getR d_Mo_findZones_1 fl_Mo_7 (ga_oM) rfl ?_
  refine gw_sipush d_Mo_findZones_4 (by decide +kernel) ?_
  refine gw_aload_n 0 d_Mo_findZones_7 rfl rfl ?_
  refine gw_iconst d_Mo_findZones_8 ?_
  refine gw_aload_n 0 d_Mo_findZones_9 rfl rfl ?_
  refine gw_getR d_Mo_findZones_10 fl_Mo_7 (ga_oM) rfl ?_
  refine gw_sipush d_Mo_findZones_13 (by decide +kernel) ?_
  refine gw_iald d_Mo_findZones_16 (ga_aM1) (by decide) (by decide) ?_
  obtain ⟨g1, h⟩ := h
  obtain ⟨g2, h⟩ := h
  refine gw_invV (as := [.inl 0, .inl (I 349 234)]) (k := 348) (rest := [.inl 236, .inr 349]) (d' := (d + 1)) d_Mo_findZones_17 lk_Mo_68 (ga_rcv (ga_oM) rfl rfl) rfl (Nat.le_of_ble_eq_true rfl) (Nat.le_of_ble_eq_true rfl) rfl rfl (s_Mo_zoneOf g1 g2 (hI1 _ _) ?_)
  show ga_W G (d + 2) mt_Mo_findZones 20 [some (.inr 348)] [.inl (gp_zo (ms_p (I 349) (0 : Int)) (ms_q (I 349) (0 : Int)) (I 349 234) (ms_n (I 349) (0 : Int)).toNat), .inl 236, .inr 349] I E
  refine gw_nz (z := gp_zo (ms_p (I 349) (0 : Int)) (ms_q (I 349) (0 : Int)) (I 349 234) (ms_n (I 349) (0 : Int)).toNat) (fun z1 q1 => ?_)
  have h := h z1 q1
  refine gw_iast d_Mo_findZones_20 (ga_aM1) (by decide) (by decide) ?_
  refine gw_nm (J := (ga_up I 349 236 (ga_wr z1))) (fun I1 q2 => ?_)
  have h := h I1 q2
  refine gw_RG (fun hI2 => ?_)
  refine gw_aload_n 0 d_Mo_findZones_21 rfl rfl ?_
  refine gw_getR d_Mo_findZones_22 fl_Mo_7 (ga_oM) rfl ?_
  refine gw_sipush d_Mo_findZones_25 (by decide +kernel) ?_
  refine gw_aload_n 0 d_Mo_findZones_28 rfl rfl ?_
  refine gw_iconst d_Mo_findZones_29 ?_
  refine gw_aload_n 0 d_Mo_findZones_30 rfl rfl ?_
  refine gw_getR d_Mo_findZones_31 fl_Mo_7 (ga_oM) rfl ?_
  refine gw_sipush d_Mo_findZones_34 (by decide +kernel) ?_
  refine gw_iald d_Mo_findZones_37 (ga_aM1) (by decide) (by decide) ?_
  obtain ⟨g3, h⟩ := h
  obtain ⟨g4, h⟩ := h
  refine gw_invV (as := [.inl 1, .inl (I1 349 235)]) (k := 348) (rest := [.inl 237, .inr 349]) (d' := (d + 1)) d_Mo_findZones_38 lk_Mo_68 (ga_rcv (ga_oM) rfl rfl) rfl (Nat.le_of_ble_eq_true rfl) (Nat.le_of_ble_eq_true rfl) rfl rfl (s_Mo_zoneOf g3 g4 (hI2 _ _) ?_)
  show ga_W G (d + 2) mt_Mo_findZones 41 [some (.inr 348)] [.inl (gp_zo (ms_p (I1 349) (1 : Int)) (ms_q (I1 349) (1 : Int)) (I1 349 235) (ms_n (I1 349) (1 : Int)).toNat), .inl 237, .inr 349] I1 E
  refine gw_nz (z := gp_zo (ms_p (I1 349) (1 : Int)) (ms_q (I1 349) (1 : Int)) (I1 349 235) (ms_n (I1 349) (1 : Int)).toNat) (fun z2 q3 => ?_)
  have h := h z2 q3
  refine gw_iast d_Mo_findZones_41 (ga_aM1) (by decide) (by decide) ?_
  refine gw_nm (J := (ga_up I1 349 237 (ga_wr z2))) (fun I2 q4 => ?_)
  have h := h I2 q4
  refine gw_RG (fun hI3 => ?_)
  exact gw_return d_Mo_findZones_42 rfl h

theorem k_Mo_zoneBehind_0 {G : ga_G} {d : Nat} {I : ga_I} {E : Option ga_V → ga_I → Prop} {v1 : Int} {v2 : Int} {v3 : Int} 
    (h : ga_RG I → (mo_n I) ∧ ((0 ≤ v1 ∧ v1 ≤ 1) ∧ ((-10 ≤ v2 ∧ v2 ≤ 10) ∧ (ga_W G (d + 2) mt_Mo_zoneBehind 12 [some (.inr 348), some (.inl v1), none, some (.inl v3), some (.inl v2), some (.inl (mp_sy (ms_q (I 349) v1) (ms_n (I 349) v1).toNat v2))] [] I E)))) :
    ga_W G (d + 2) mt_Mo_zoneBehind 0 (ga_en 6 [.inr 348, .inl v1, .inl v2, .inl v3]) [] I E := by
  show ga_W G (d + 2) mt_Mo_zoneBehind 0 [some (.inr 348), some (.inl v1), some (.inl v2), some (.inl v3), none, none] [] I E
  refine gw_RG (fun hI1 => ?_)
  have h := h hI1
  refine gw_iload_n 2 d_Mo_zoneBehind_0 rfl rfl ?_
  refine gw_istore 4 d_Mo_zoneBehind_1 (Nat.le_of_ble_eq_true rfl) rfl ?_
  refine gw_aload_n 0 d_Mo_zoneBehind_3 rfl rfl ?_
  refine gw_iload_n 1 d_Mo_zoneBehind_4 rfl rfl ?_
  refine gw_iload 4 d_Mo_zoneBehind_5 rfl ?_
  obtain ⟨g1, h⟩ := h
  obtain ⟨g2, h⟩ := h
  obtain ⟨g3, h⟩ := h
  refine gw_invV (as := [.inl v1, .inl v2]) (k := 348) (rest := []) (d' := (d + 1)) d_Mo_zoneBehind_7 lk_Mo_71 (ga_rcv (ga_oM) rfl rfl) rfl (Nat.le_of_ble_eq_true rfl) (Nat.le_of_ble_eq_true rfl) rfl rfl (s_Mo_sticky g1 g2 g3 ?_)
  show ga_W G (d + 2) mt_Mo_zoneBehind 10 [some (.inr 348), some (.inl v1), some (.inl v2), some (.inl v3), some (.inl v2), none] [.inl (mp_sy (ms_q (I 349) v1) (ms_n (I 349) v1).toNat v2)] I E
  refine gw_istore 5 d_Mo_zoneBehind_10 (Nat.le_of_ble_eq_true rfl) rfl ?_
  exact gw_le h (by exact ⟨rfl, ⟨rfl, ⟨rfl, ⟨rfl, ⟨rfl, trivial⟩⟩⟩⟩⟩)
theorem k_Mo_zoneBehind_12 {G : ga_G} {d : Nat} {I : ga_I} {E : Option ga_V → ga_I → Prop} {v1 : Int} {v3 : Int} {v4 : Int} {v5 : Int} (r3 : ga_rg v3) (r4 : ga_rg v4) (r5 : ga_rg v5)
    (h : ga_RG I → ((v5 = (-2000000009)) → ((v4 ≠ 0) → (mo_n I) ∧ ((0 ≤ v1 ∧ v1 ≤ 1) ∧ ((-10 ≤ (v4 - 1) ∧ (v4 - 1) ≤ 10) ∧ (ga_W G (d + 2) mt_Mo_zoneBehind 76 [some (.inr 348), some (.inl v1), none, some (.inl v3), some (.inl v4), some (.inl (mp_sy (ms_q (I 349) v1) (ms_n (I 349) v1).toNat (v4 - 1)))] [] I E)))) ∧ ((v4 = 0) → ga_W G (d + 2) mt_Mo_zoneBehind 76 [some (.inr 348), some (.inl v1), none, some (.inl v3), some (.inl v4), some (.inl (-2000000009))] [] I E)) ∧ ((¬ (v5 = (-2000000009))) → (0 ≤ v1 ∧ v1 ≤ 1) ∧ ((0 ≤ v5 ∧ v5 ≤ 6) ∧ ((0 ≤ (0 : Int) ∧ (0 : Int) ≤ 2) ∧ ((0 ≤ (2 : Int) ∧ (2 : Int) ≤ 2) ∧ ((ga_rg ((ms_b (I 349) v1 v5 (0 : Int)) + (ms_b (I 349) v1 v5 (2 : Int)))) ∧ (((v3 < ((ms_b (I 349) v1 v5 (0 : Int)) + (ms_b (I 349) v1 v5 (2 : Int)))) → ((v4 ≠ 0) → (mo_n I) ∧ ((-10 ≤ (v4 - 1) ∧ (v4 - 1) ≤ 10) ∧ (ga_W G (d + 2) mt_Mo_zoneBehind 76 [some (.inr 348), some (.inl v1), none, some (.inl v3), some (.inl v4), some (.inl (mp_sy (ms_q (I 349) v1) (ms_n (I 349) v1).toNat (v4 - 1)))] [] I E))) ∧ ((v4 = 0) → ga_W G (d + 2) mt_Mo_zoneBehind 76 [some (.inr 348), some (.inl v1), none, some (.inl v3), some (.inl v4), some (.inl (-2000000009))] [] I E)) ∧ ((¬ (v3 < ((ms_b (I 349) v1 v5 (0 : Int)) + (ms_b (I 349) v1 v5 (2 : Int))))) → (mo_n I) ∧ ((-10 ≤ (v4 + 1) ∧ (v4 + 1) ≤ 10) ∧ (ga_W G (d + 2) mt_Mo_zoneBehind 12 [some (.inr 348), some (.inl v1), none, some (.inl v3), some (.inl (v4 + 1)), some (.inl (mp_sy (ms_q (I 349) v1) (ms_n (I 349) v1).toNat (v4 + 1)))] [] I E)))))))))) :
    ga_W G (d + 2) mt_Mo_zoneBehind 12 [some (.inr 348), some (.inl v1), none, some (.inl v3), some (.inl v4), some (.inl v5)] [] I E := by
  refine gw_RG (fun hI1 => ?_)
  have h := h hI1
  refine gw_iload 5 d_Mo_zoneBehind_12 rfl ?_
  refine gw_ldc (n := (-2000000009)) d_Mo_zoneBehind_14 kw_Mo_67 (by decide +kernel) ?_
  refine gw_icmp_eq 55 d_Mo_zoneBehind_16 (by decide) r5 ⟨by decide, by decide⟩ (fun hc => ?_) (fun hc => ?_)
  · have h := h.1 hc
    refine gw_iload 4 d_Mo_zoneBehind_55 rfl ?_
    refine gw_if_ne 65 d_Mo_zoneBehind_57 (by decide) r4 (fun hc => ?_) (fun hc => ?_)
    · have h := h.1 hc
      refine gw_aload_n 0 d_Mo_zoneBehind_65 rfl rfl ?_
      refine gw_iload_n 1 d_Mo_zoneBehind_66 rfl rfl ?_
      refine gw_iload 4 d_Mo_zoneBehind_67 rfl ?_
      refine gw_iconst d_Mo_zoneBehind_69 ?_
      refine gw_isub d_Mo_zoneBehind_70 ?_
      obtain ⟨g1, h⟩ := h
      obtain ⟨g2, h⟩ := h
      obtain ⟨g3, h⟩ := h
      refine gw_invV (as := [.inl v1, .inl (v4 - 1)]) (k := 348) (rest := []) (d' := (d + 1)) d_Mo_zoneBehind_71 lk_Mo_71 (ga_rcv (ga_oM) rfl rfl) rfl (Nat.le_of_ble_eq_true rfl) (Nat.le_of_ble_eq_true rfl) rfl rfl (s_Mo_sticky g1 g2 g3 ?_)
      show ga_W G (d + 2) mt_Mo_zoneBehind 74 [some (.inr 348), some (.inl v1), none, some (.inl v3), some (.inl v4), some (.inl v5)] [.inl (mp_sy (ms_q (I 349) v1) (ms_n (I 349) v1).toNat (v4 - 1))] I E
      refine gw_istore 5 d_Mo_zoneBehind_74 (Nat.le_of_ble_eq_true rfl) rfl ?_
      exact gw_le h (by exact ⟨rfl, ⟨rfl, ⟨rfl, ⟨rfl, ⟨rfl, trivial⟩⟩⟩⟩⟩)
    · have h := h.2 hc
      refine gw_ldc (n := (-2000000009)) d_Mo_zoneBehind_60 kw_Mo_67 (by decide +kernel) ?_
      refine gw_goto 74 d_Mo_zoneBehind_62 (by decide) ?_
      refine gw_istore 5 d_Mo_zoneBehind_74 (Nat.le_of_ble_eq_true rfl) rfl ?_
      exact gw_le h (by exact ⟨rfl, ⟨rfl, ⟨rfl, ⟨rfl, ⟨rfl, trivial⟩⟩⟩⟩⟩)
  · have h := h.2 hc
    refine gw_iload_n 3 d_Mo_zoneBehind_19 rfl rfl ?_
    refine gw_aload_n 0 d_Mo_zoneBehind_20 rfl rfl ?_
    refine gw_iload_n 1 d_Mo_zoneBehind_21 rfl rfl ?_
    refine gw_iload 5 d_Mo_zoneBehind_22 rfl ?_
    refine gw_iconst d_Mo_zoneBehind_24 ?_
    obtain ⟨g4, h⟩ := h
    obtain ⟨g5, h⟩ := h
    obtain ⟨g6, h⟩ := h
    refine gw_invV (as := [.inl v1, .inl v5, .inl 0]) (k := 348) (rest := [.inl v3]) (d' := (d + 1)) d_Mo_zoneBehind_25 lk_Mo_63 (ga_rcv (ga_oM) rfl rfl) rfl (Nat.le_of_ble_eq_true rfl) (Nat.le_of_ble_eq_true rfl) rfl rfl (s_Mo_ofBorder g4 g5 g6 ?_)
    show ga_W G (d + 2) mt_Mo_zoneBehind 28 [some (.inr 348), some (.inl v1), none, some (.inl v3), some (.inl v4), some (.inl v5)] [.inl (ms_b (I 349) v1 v5 (0 : Int)), .inl v3] I E
    refine gw_aload_n 0 d_Mo_zoneBehind_28 rfl rfl ?_
    refine gw_iload_n 1 d_Mo_zoneBehind_29 rfl rfl ?_
    refine gw_iload 5 d_Mo_zoneBehind_30 rfl ?_
    refine gw_iconst d_Mo_zoneBehind_32 ?_
    obtain ⟨g7, h⟩ := h
    refine gw_invV (as := [.inl v1, .inl v5, .inl 2]) (k := 348) (rest := [.inl (ms_b (I 349) v1 v5 (0 : Int)), .inl v3]) (d' := (d + 1)) d_Mo_zoneBehind_33 lk_Mo_63 (ga_rcv (ga_oM) rfl rfl) rfl (Nat.le_of_ble_eq_true rfl) (Nat.le_of_ble_eq_true rfl) rfl rfl (s_Mo_ofBorder g4 g5 g7 ?_)
    show ga_W G (d + 2) mt_Mo_zoneBehind 36 [some (.inr 348), some (.inl v1), none, some (.inl v3), some (.inl v4), some (.inl v5)] [.inl (ms_b (I 349) v1 v5 (2 : Int)), .inl (ms_b (I 349) v1 v5 (0 : Int)), .inl v3] I E
    refine gw_iadd d_Mo_zoneBehind_36 ?_
    obtain ⟨g8, h⟩ := h
    refine gw_icmp_lt 55 d_Mo_zoneBehind_37 (by decide) r3 g8 (fun hc => ?_) (fun hc => ?_)
    · have h := h.1 hc
      refine gw_iload 4 d_Mo_zoneBehind_55 rfl ?_
      refine gw_if_ne 65 d_Mo_zoneBehind_57 (by decide) r4 (fun hc => ?_) (fun hc => ?_)
      · have h := h.1 hc
        refine gw_aload_n 0 d_Mo_zoneBehind_65 rfl rfl ?_
        refine gw_iload_n 1 d_Mo_zoneBehind_66 rfl rfl ?_
        refine gw_iload 4 d_Mo_zoneBehind_67 rfl ?_
        refine gw_iconst d_Mo_zoneBehind_69 ?_
        refine gw_isub d_Mo_zoneBehind_70 ?_
        obtain ⟨g9, h⟩ := h
        obtain ⟨g10, h⟩ := h
        refine gw_invV (as := [.inl v1, .inl (v4 - 1)]) (k := 348) (rest := []) (d' := (d + 1)) d_Mo_zoneBehind_71 lk_Mo_71 (ga_rcv (ga_oM) rfl rfl) rfl (Nat.le_of_ble_eq_true rfl) (Nat.le_of_ble_eq_true rfl) rfl rfl (s_Mo_sticky g9 g4 g10 ?_)
        show ga_W G (d + 2) mt_Mo_zoneBehind 74 [some (.inr 348), some (.inl v1), none, some (.inl v3), some (.inl v4), some (.inl v5)] [.inl (mp_sy (ms_q (I 349) v1) (ms_n (I 349) v1).toNat (v4 - 1))] I E
        refine gw_istore 5 d_Mo_zoneBehind_74 (Nat.le_of_ble_eq_true rfl) rfl ?_
        exact gw_le h (by exact ⟨rfl, ⟨rfl, ⟨rfl, ⟨rfl, ⟨rfl, trivial⟩⟩⟩⟩⟩)
      · have h := h.2 hc
        refine gw_ldc (n := (-2000000009)) d_Mo_zoneBehind_60 kw_Mo_67 (by decide +kernel) ?_
        refine gw_goto 74 d_Mo_zoneBehind_62 (by decide) ?_
        refine gw_istore 5 d_Mo_zoneBehind_74 (Nat.le_of_ble_eq_true rfl) rfl ?_
        exact gw_le h (by exact ⟨rfl, ⟨rfl, ⟨rfl, ⟨rfl, ⟨rfl, trivial⟩⟩⟩⟩⟩)
    · have h := h.2 hc
      refine gw_iinc 4 d_Mo_zoneBehind_40 rfl rfl ?_
      refine gw_aload_n 0 d_Mo_zoneBehind_43 rfl rfl ?_
      refine gw_iload_n 1 d_Mo_zoneBehind_44 rfl rfl ?_
      refine gw_iload 4 d_Mo_zoneBehind_45 rfl ?_
      obtain ⟨g11, h⟩ := h
      obtain ⟨g12, h⟩ := h
      refine gw_invV (as := [.inl v1, .inl (v4 + 1)]) (k := 348) (rest := []) (d' := (d + 1)) d_Mo_zoneBehind_47 lk_Mo_71 (ga_rcv (ga_oM) rfl rfl) rfl (Nat.le_of_ble_eq_true rfl) (Nat.le_of_ble_eq_true rfl) rfl rfl (s_Mo_sticky g11 g4 g12 ?_)
      show ga_W G (d + 2) mt_Mo_zoneBehind 50 [some (.inr 348), some (.inl v1), none, some (.inl v3), some (.inl (v4 + 1)), some (.inl v5)] [.inl (mp_sy (ms_q (I 349) v1) (ms_n (I 349) v1).toNat (v4 + 1))] I E
      refine gw_istore 5 d_Mo_zoneBehind_50 (Nat.le_of_ble_eq_true rfl) rfl ?_
      refine gw_goto 12 d_Mo_zoneBehind_52 (by decide) ?_
      exact gw_le h (by exact ⟨rfl, ⟨rfl, ⟨rfl, ⟨rfl, ⟨rfl, trivial⟩⟩⟩⟩⟩)
theorem k_Mo_zoneBehind_76 {G : ga_G} {d : Nat} {I : ga_I} {E : Option ga_V → ga_I → Prop} {v1 : Int} {v3 : Int} {v4 : Int} {v5 : Int} (r3 : ga_rg v3) (r5 : ga_rg v5)
    (h : ga_RG I → ((v5 = (-2000000009)) → E (some (.inl v4)) I) ∧ ((¬ (v5 = (-2000000009))) → (0 ≤ v1 ∧ v1 ≤ 1) ∧ ((0 ≤ v5 ∧ v5 ≤ 6) ∧ ((0 ≤ (0 : Int) ∧ (0 : Int) ≤ 2) ∧ ((0 ≤ (2 : Int) ∧ (2 : Int) ≤ 2) ∧ ((ga_rg ((ms_b (I 349) v1 v5 (0 : Int)) - (ms_b (I 349) v1 v5 (2 : Int)))) ∧ (((((ms_b (I 349) v1 v5 (0 : Int)) - (ms_b (I 349) v1 v5 (2 : Int))) ≤ v3) → E (some (.inl v4)) I) ∧ ((¬ (((ms_b (I 349) v1 v5 (0 : Int)) - (ms_b (I 349) v1 v5 (2 : Int))) ≤ v3)) → (ga_rg (v4 + (-1))) ∧ ((((v4 + (-1)) ≠ 0) → (mo_n I) ∧ ((-10 ≤ ((v4 + (-1)) - 1) ∧ ((v4 + (-1)) - 1) ≤ 10) ∧ (ga_W G (d + 2) mt_Mo_zoneBehind 76 [some (.inr 348), some (.inl v1), none, some (.inl v3), some (.inl (v4 + (-1))), some (.inl (mp_sy (ms_q (I 349) v1) (ms_n (I 349) v1).toNat ((v4 + (-1)) - 1)))] [] I E))) ∧ (((v4 + (-1)) = 0) → ga_W G (d + 2) mt_Mo_zoneBehind 76 [some (.inr 348), some (.inl v1), none, some (.inl v3), some (.inl (v4 + (-1))), some (.inl (-2000000009))] [] I E)))))))))) :
    ga_W G (d + 2) mt_Mo_zoneBehind 76 [some (.inr 348), some (.inl v1), none, some (.inl v3), some (.inl v4), some (.inl v5)] [] I E := by
  refine gw_RG (fun hI1 => ?_)
  have h := h hI1
  refine gw_iload 5 d_Mo_zoneBehind_76 rfl ?_
  refine gw_ldc (n := (-2000000009)) d_Mo_zoneBehind_78 kw_Mo_67 (by decide +kernel) ?_
  refine gw_icmp_eq 131 d_Mo_zoneBehind_80 (by decide) r5 ⟨by decide, by decide⟩ (fun hc => ?_) (fun hc => ?_)
  · have h := h.1 hc
    refine gw_iload 4 d_Mo_zoneBehind_131 rfl ?_
    exact gw_ireturn d_Mo_zoneBehind_133 rfl h
  · have h := h.2 hc
    refine gw_iload_n 3 d_Mo_zoneBehind_83 rfl rfl ?_
    refine gw_aload_n 0 d_Mo_zoneBehind_84 rfl rfl ?_
    refine gw_iload_n 1 d_Mo_zoneBehind_85 rfl rfl ?_
    refine gw_iload 5 d_Mo_zoneBehind_86 rfl ?_
    refine gw_iconst d_Mo_zoneBehind_88 ?_
    obtain ⟨g1, h⟩ := h
    obtain ⟨g2, h⟩ := h
    obtain ⟨g3, h⟩ := h
    refine gw_invV (as := [.inl v1, .inl v5, .inl 0]) (k := 348) (rest := [.inl v3]) (d' := (d + 1)) d_Mo_zoneBehind_89 lk_Mo_63 (ga_rcv (ga_oM) rfl rfl) rfl (Nat.le_of_ble_eq_true rfl) (Nat.le_of_ble_eq_true rfl) rfl rfl (s_Mo_ofBorder g1 g2 g3 ?_)
    show ga_W G (d + 2) mt_Mo_zoneBehind 92 [some (.inr 348), some (.inl v1), none, some (.inl v3), some (.inl v4), some (.inl v5)] [.inl (ms_b (I 349) v1 v5 (0 : Int)), .inl v3] I E
    refine gw_aload_n 0 d_Mo_zoneBehind_92 rfl rfl ?_
    refine gw_iload_n 1 d_Mo_zoneBehind_93 rfl rfl ?_
    refine gw_iload 5 d_Mo_zoneBehind_94 rfl ?_
    refine gw_iconst d_Mo_zoneBehind_96 ?_
    obtain ⟨g4, h⟩ := h
    refine gw_invV (as := [.inl v1, .inl v5, .inl 2]) (k := 348) (rest := [.inl (ms_b (I 349) v1 v5 (0 : Int)), .inl v3]) (d' := (d + 1)) d_Mo_zoneBehind_97 lk_Mo_63 (ga_rcv (ga_oM) rfl rfl) rfl (Nat.le_of_ble_eq_true rfl) (Nat.le_of_ble_eq_true rfl) rfl rfl (s_Mo_ofBorder g1 g2 g4 ?_)
    show ga_W G (d + 2) mt_Mo_zoneBehind 100 [some (.inr 348), some (.inl v1), none, some (.inl v3), some (.inl v4), some (.inl v5)] [.inl (ms_b (I 349) v1 v5 (2 : Int)), .inl (ms_b (I 349) v1 v5 (0 : Int)), .inl v3] I E
    refine gw_isub d_Mo_zoneBehind_100 ?_
    obtain ⟨g5, h⟩ := h
    refine gw_icmp_ge 131 d_Mo_zoneBehind_101 (by decide) r3 g5 (fun hc => ?_) (fun hc => ?_)
    · have h := h.1 hc
      refine gw_iload 4 d_Mo_zoneBehind_131 rfl ?_
      exact gw_ireturn d_Mo_zoneBehind_133 rfl h
    · have h := h.2 hc
      refine gw_iinc 4 d_Mo_zoneBehind_104 rfl rfl ?_
      refine gw_iload 4 d_Mo_zoneBehind_107 rfl ?_
      obtain ⟨g6, h⟩ := h
      refine gw_if_ne 117 d_Mo_zoneBehind_109 (by decide) g6 (fun hc => ?_) (fun hc => ?_)
      · have h := h.1 hc
        refine gw_aload_n 0 d_Mo_zoneBehind_117 rfl rfl ?_
        refine gw_iload_n 1 d_Mo_zoneBehind_118 rfl rfl ?_
        refine gw_iload 4 d_Mo_zoneBehind_119 rfl ?_
        refine gw_iconst d_Mo_zoneBehind_121 ?_
        refine gw_isub d_Mo_zoneBehind_122 ?_
        obtain ⟨g7, h⟩ := h
        obtain ⟨g8, h⟩ := h
        refine gw_invV (as := [.inl v1, .inl ((v4 + (-1)) - 1)]) (k := 348) (rest := []) (d' := (d + 1)) d_Mo_zoneBehind_123 lk_Mo_71 (ga_rcv (ga_oM) rfl rfl) rfl (Nat.le_of_ble_eq_true rfl) (Nat.le_of_ble_eq_true rfl) rfl rfl (s_Mo_sticky g7 g1 g8 ?_)
        show ga_W G (d + 2) mt_Mo_zoneBehind 126 [some (.inr 348), some (.inl v1), none, some (.inl v3), some (.inl (v4 + (-1))), some (.inl v5)] [.inl (mp_sy (ms_q (I 349) v1) (ms_n (I 349) v1).toNat ((v4 + (-1)) - 1))] I E
        refine gw_istore 5 d_Mo_zoneBehind_126 (Nat.le_of_ble_eq_true rfl) rfl ?_
        refine gw_goto 76 d_Mo_zoneBehind_128 (by decide) ?_
        exact gw_le h (by exact ⟨rfl, ⟨rfl, ⟨rfl, ⟨rfl, ⟨rfl, trivial⟩⟩⟩⟩⟩)
      · have h := h.2 hc
        refine gw_ldc (n := (-2000000009)) d_Mo_zoneBehind_112 kw_Mo_67 (by decide +kernel) ?_
        refine gw_goto 126 d_Mo_zoneBehind_114 (by decide) ?_
        refine gw_istore 5 d_Mo_zoneBehind_126 (Nat.le_of_ble_eq_true rfl) rfl ?_
        refine gw_goto 76 d_Mo_zoneBehind_128 (by decide) ?_
        exact gw_le h (by exact ⟨rfl, ⟨rfl, ⟨rfl, ⟨rfl, ⟨rfl, trivial⟩⟩⟩⟩⟩)

