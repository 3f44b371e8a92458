/-! Borders: what its questions answer -/
theorem k_Borders_positionOf_0 {G : ga_G} {d : Nat} {I : ga_I} {E : Option ga_V → ga_I → Prop} {k : Nat} {v1 : Int} (hk : ga_isB k) (r1 : ga_rg v1)
    (h : ga_RG I → ((¬ (0 ≤ v1 ∧ v1 < I k 0)) → E (some (.inl 0)) I) ∧ ((0 ≤ v1 ∧ v1 < I k 0) → (0 ≤ v1) ∧ ((v1 < 6) ∧ (E (some (.inl (I (k + 1) v1.toNat))) I)))) :
    ga_W G (d + 1) mt_Borders_positionOf 0 (ga_en 2 [.inr k, .inl v1]) [] I E := by
  show ga_W G (d + 1) mt_Borders_positionOf 0 [some (.inr k), some (.inl v1)] [] I E
  refine gw_RG (fun hI1 => ?_)
  have h := h hI1
  refine gw_aload_n 0 d_Borders_positionOf_0 rfl rfl ?_
  refine gw_iload_n 1 d_Borders_positionOf_1 rfl rfl ?_
  refine gw_invV (as := [.inl v1]) (k := k) (rest := []) (d' := d) d_Borders_positionOf_2 lk_Borders_31 (ga_rcv (hk.1) rfl rfl) rfl (Nat.le_of_ble_eq_true rfl) (Nat.le_of_ble_eq_true rfl) rfl rfl (s_Borders_has hk r1 ?_)
  show ga_W G (d + 1) mt_Borders_positionOf 5 [some (.inr k), some (.inl v1)] [.inl (ga_bb (decide (0 ≤ v1 ∧ v1 < I k 0)))] I E
  refine gw_ifb_eq 17 d_Borders_positionOf_5 (by decide) (fun hc => ?_) (fun hc => ?_)
  · have h := h.1 (of_decide_eq_false hc)
    refine gw_iconst d_Borders_positionOf_17 ?_
    exact gw_ireturn d_Borders_positionOf_18 rfl h
  · have h := h.2 (of_decide_eq_true hc)
    refine gw_aload_n 0 d_Borders_positionOf_8 rfl rfl ?_
    refine gw_getR d_Borders_positionOf_9 fl_Borders_9 (hk.1) rfl ?_
    refine gw_iload_n 1 d_Borders_positionOf_12 rfl rfl ?_
    obtain ⟨g1, h⟩ := h
    obtain ⟨g2, h⟩ := h
    refine gw_iald d_Borders_positionOf_13 (hk.2.1) g1 g2 ?_
    refine gw_goto 18 d_Borders_positionOf_14 (by decide) ?_
    exact gw_ireturn d_Borders_positionOf_18 rfl h

theorem k_Borders_kindOf_0 {G : ga_G} {d : Nat} {I : ga_I} {E : Option ga_V → ga_I → Prop} {k : Nat} {v1 : Int} (hk : ga_isB k) (r1 : ga_rg v1)
    (h : ga_RG I → ((¬ (0 ≤ v1 ∧ v1 < I k 0)) → E (some (.inl 0)) I) ∧ ((0 ≤ v1 ∧ v1 < I k 0) → (0 ≤ v1) ∧ ((v1 < 6) ∧ (E (some (.inl (I (k + 2) v1.toNat))) I)))) :
    ga_W G (d + 1) mt_Borders_kindOf 0 (ga_en 2 [.inr k, .inl v1]) [] I E := by
  show ga_W G (d + 1) mt_Borders_kindOf 0 [some (.inr k), some (.inl v1)] [] I E
  refine gw_RG (fun hI1 => ?_)
  have h := h hI1
  refine gw_aload_n 0 d_Borders_kindOf_0 rfl rfl ?_
  refine gw_iload_n 1 d_Borders_kindOf_1 rfl rfl ?_
  refine gw_invV (as := [.inl v1]) (k := k) (rest := []) (d' := d) d_Borders_kindOf_2 lk_Borders_31 (ga_rcv (hk.1) rfl rfl) rfl (Nat.le_of_ble_eq_true rfl) (Nat.le_of_ble_eq_true rfl) rfl rfl (s_Borders_has hk r1 ?_)
  show ga_W G (d + 1) mt_Borders_kindOf 5 [some (.inr k), some (.inl v1)] [.inl (ga_bb (decide (0 ≤ v1 ∧ v1 < I k 0)))] I E
  refine gw_ifb_eq 17 d_Borders_kindOf_5 (by decide) (fun hc => ?_) (fun hc => ?_)
  · have h := h.1 (of_decide_eq_false hc)
    refine gw_iconst d_Borders_kindOf_17 ?_
    exact gw_ireturn d_Borders_kindOf_18 rfl h
  · have h := h.2 (of_decide_eq_true hc)
    refine gw_aload_n 0 d_Borders_kindOf_8 rfl rfl ?_
    refine gw_getR d_Borders_kindOf_9 fl_Borders_15 (hk.1) rfl ?_
    refine gw_iload_n 1 d_Borders_kindOf_12 rfl rfl ?_
    obtain ⟨g1, h⟩ := h
    obtain ⟨g2, h⟩ := h
    refine gw_iald d_Borders_kindOf_13 (hk.2.2.1) g1 g2 ?_
    refine gw_goto 18 d_Borders_kindOf_14 (by decide) ?_
    exact gw_ireturn d_Borders_kindOf_18 rfl h

theorem k_Borders_reachOf_0 {G : ga_G} {d : Nat} {I : ga_I} {E : Option ga_V → ga_I → Prop} {k : Nat} {v1 : Int} (hk : ga_isB k) (r1 : ga_rg v1)
    (h : ga_RG I → ((¬ (0 ≤ v1 ∧ v1 < I k 0)) → E (some (.inl 0)) I) ∧ ((0 ≤ v1 ∧ v1 < I k 0) → (0 ≤ v1) ∧ ((v1 < 6) ∧ (E (some (.inl (I (k + 3) v1.toNat))) I)))) :
    ga_W G (d + 1) mt_Borders_reachOf 0 (ga_en 2 [.inr k, .inl v1]) [] I E := by
  show ga_W G (d + 1) mt_Borders_reachOf 0 [some (.inr k), some (.inl v1)] [] I E
  refine gw_RG (fun hI1 => ?_)
  have h := h hI1
  refine gw_aload_n 0 d_Borders_reachOf_0 rfl rfl ?_
  refine gw_iload_n 1 d_Borders_reachOf_1 rfl rfl ?_
  refine gw_invV (as := [.inl v1]) (k := k) (rest := []) (d' := d) d_Borders_reachOf_2 lk_Borders_31 (ga_rcv (hk.1) rfl rfl) rfl (Nat.le_of_ble_eq_true rfl) (Nat.le_of_ble_eq_true rfl) rfl rfl (s_Borders_has hk r1 ?_)
  show ga_W G (d + 1) mt_Borders_reachOf 5 [some (.inr k), some (.inl v1)] [.inl (ga_bb (decide (0 ≤ v1 ∧ v1 < I k 0)))] I E
  refine gw_ifb_eq 17 d_Borders_reachOf_5 (by decide) (fun hc => ?_) (fun hc => ?_)
  · have h := h.1 (of_decide_eq_false hc)
    refine gw_iconst d_Borders_reachOf_17 ?_
    exact gw_ireturn d_Borders_reachOf_18 rfl h
  · have h := h.2 (of_decide_eq_true hc)
    refine gw_aload_n 0 d_Borders_reachOf_8 rfl rfl ?_
    refine gw_getR d_Borders_reachOf_9 fl_Borders_18 (hk.1) rfl ?_
    refine gw_iload_n 1 d_Borders_reachOf_12 rfl rfl ?_
    obtain ⟨g1, h⟩ := h
    obtain ⟨g2, h⟩ := h
    refine gw_iald d_Borders_reachOf_13 (hk.2.2.2) g1 g2 ?_
    refine gw_goto 18 d_Borders_reachOf_14 (by decide) ?_
    exact gw_ireturn d_Borders_reachOf_18 rfl h

theorem k_Borders_stripOf_0 {G : ga_G} {d : Nat} {I : ga_I} {E : Option ga_V → ga_I → Prop} {k : Nat} {v1 : Int} 
    (h : ga_RG I → ga_W G d mt_Borders_stripOf 4 [some (.inr k), some (.inl v1), some (.inl 0), some (.inl 0)] [] I E) :
    ga_W G d mt_Borders_stripOf 0 (ga_en 4 [.inr k, .inl v1]) [] I E := by
  show ga_W G d mt_Borders_stripOf 0 [some (.inr k), some (.inl v1), none, none] [] I E
  refine gw_RG (fun hI1 => ?_)
  have h := h hI1
  refine gw_iconst d_Borders_stripOf_0 ?_
  refine gw_istore_n 2 d_Borders_stripOf_1 rfl (Nat.le_of_ble_eq_true rfl) rfl ?_
  refine gw_iconst d_Borders_stripOf_2 ?_
  refine gw_istore_n 3 d_Borders_stripOf_3 rfl (Nat.le_of_ble_eq_true rfl) rfl ?_
  exact gw_le h (by exact ⟨rfl, ⟨rfl, ⟨rfl, ⟨rfl, trivial⟩⟩⟩⟩)
theorem k_Borders_stripOf_4 {G : ga_G} {d : Nat} {I : ga_I} {E : Option ga_V → ga_I → Prop} {k : Nat} {v1 : Int} {v2 : Int} {v3 : Int} (hk : ga_isB k) (r1 : ga_rg v1) (r3 : ga_rg v3)
    (h : ga_RG I → (((I k 0) ≤ v3) → E (some (.inl v2)) I) ∧ ((¬ ((I k 0) ≤ v3)) → (0 ≤ v3) ∧ ((v3 < 6) ∧ (((v1 < (I (k + 1) v3.toNat)) → ga_W G d mt_Borders_stripOf 4 [some (.inr k), some (.inl v1), some (.inl v2), some (.inl (v3 + 1))] [] I E) ∧ ((¬ (v1 < (I (k + 1) v3.toNat))) → ga_W G d mt_Borders_stripOf 4 [some (.inr k), some (.inl v1), some (.inl (v2 + 1)), some (.inl (v3 + 1))] [] I E))))) :
    ga_W G d mt_Borders_stripOf 4 [some (.inr k), some (.inl v1), some (.inl v2), some (.inl v3)] [] I E := by
  refine gw_RG (fun hI1 => ?_)
  have h := h hI1
  refine gw_iload_n 3 d_Borders_stripOf_4 rfl rfl ?_
  refine gw_aload_n 0 d_Borders_stripOf_5 rfl rfl ?_
  refine gw_getI d_Borders_stripOf_6 fl_Borders_21 (hk.1) rfl ?_
  refine gw_icmp_ge 31 d_Borders_stripOf_9 (by decide) r3 (hI1 _ _) (fun hc => ?_) (fun hc => ?_)
  · have h := h.1 hc
    refine gw_iload_n 2 d_Borders_stripOf_31 rfl rfl ?_
    exact gw_ireturn d_Borders_stripOf_32 rfl h
  · have h := h.2 hc
    refine gw_aload_n 0 d_Borders_stripOf_12 rfl rfl ?_
    refine gw_getR d_Borders_stripOf_13 fl_Borders_9 (hk.1) rfl ?_
    refine gw_iload_n 3 d_Borders_stripOf_16 rfl rfl ?_
    obtain ⟨g1, h⟩ := h
    obtain ⟨g2, h⟩ := h
    refine gw_iald d_Borders_stripOf_17 (hk.2.1) g1 g2 ?_
    refine gw_iload_n 1 d_Borders_stripOf_18 rfl rfl ?_
    refine gw_icmp_gt 25 d_Borders_stripOf_19 (by decide) (hI1 _ _) r1 (fun hc => ?_) (fun hc => ?_)
    · have h := h.1 hc
      refine gw_iinc 3 d_Borders_stripOf_25 rfl rfl ?_
      refine gw_goto 4 d_Borders_stripOf_28 (by decide) ?_
      exact gw_le h (by exact ⟨rfl, ⟨rfl, ⟨rfl, ⟨rfl, trivial⟩⟩⟩⟩)
    · have h := h.2 hc
      refine gw_iinc 2 d_Borders_stripOf_22 rfl rfl ?_
      refine gw_iinc 3 d_Borders_stripOf_25 rfl rfl ?_
      refine gw_goto 4 d_Borders_stripOf_28 (by decide) ?_
      exact gw_le h (by exact ⟨rfl, ⟨rfl, ⟨rfl, ⟨rfl, trivial⟩⟩⟩⟩)

theorem k_Borders_zoneOf_0 {G : ga_G} {d : Nat} {I : ga_I} {E : Option ga_V → ga_I → Prop} {k : Nat} {v1 : Int} 
    (h : ga_RG I → ga_W G d mt_Borders_zoneOf 4 [some (.inr k), some (.inl v1), some (.inl 0), some (.inl 0)] [] I E) :
    ga_W G d mt_Borders_zoneOf 0 (ga_en 4 [.inr k, .inl v1]) [] I E := by
  show ga_W G d mt_Borders_zoneOf 0 [some (.inr k), some (.inl v1), none, none] [] I E
  refine gw_RG (fun hI1 => ?_)
  have h := h hI1
  refine gw_iconst d_Borders_zoneOf_0 ?_
  refine gw_istore_n 2 d_Borders_zoneOf_1 rfl (Nat.le_of_ble_eq_true rfl) rfl ?_
  refine gw_iconst d_Borders_zoneOf_2 ?_
  refine gw_istore_n 3 d_Borders_zoneOf_3 rfl (Nat.le_of_ble_eq_true rfl) rfl ?_
  exact gw_le h (by exact ⟨rfl, ⟨rfl, ⟨rfl, ⟨rfl, trivial⟩⟩⟩⟩)
theorem k_Borders_zoneOf_4 {G : ga_G} {d : Nat} {I : ga_I} {E : Option ga_V → ga_I → Prop} {k : Nat} {v1 : Int} {v2 : Int} {v3 : Int} (hk : ga_isB k) (r1 : ga_rg v1) (r3 : ga_rg v3)
    (h : ga_RG I → (((I k 0) ≤ v3) → E (some (.inl v2)) I) ∧ ((¬ ((I k 0) ≤ v3)) → (0 ≤ v3) ∧ ((v3 < 6) ∧ ((((I (k + 2) v3.toNat) ≠ 0) → ga_W G d mt_Borders_zoneOf 4 [some (.inr k), some (.inl v1), some (.inl v2), some (.inl (v3 + 1))] [] I E) ∧ (((I (k + 2) v3.toNat) = 0) → ((v1 < (I (k + 1) v3.toNat)) → ga_W G d mt_Borders_zoneOf 4 [some (.inr k), some (.inl v1), some (.inl v2), some (.inl (v3 + 1))] [] I E) ∧ ((¬ (v1 < (I (k + 1) v3.toNat))) → ga_W G d mt_Borders_zoneOf 4 [some (.inr k), some (.inl v1), some (.inl (v2 + 1)), some (.inl (v3 + 1))] [] I E)))))) :
    ga_W G d mt_Borders_zoneOf 4 [some (.inr k), some (.inl v1), some (.inl v2), some (.inl v3)] [] I E := by
  refine gw_RG (fun hI1 => ?_)
  have h := h hI1
  refine gw_iload_n 3 d_Borders_zoneOf_4 rfl rfl ?_
  refine gw_aload_n 0 d_Borders_zoneOf_5 rfl rfl ?_
  refine gw_getI d_Borders_zoneOf_6 fl_Borders_21 (hk.1) rfl ?_
  refine gw_icmp_ge 40 d_Borders_zoneOf_9 (by decide) r3 (hI1 _ _) (fun hc => ?_) (fun hc => ?_)
  · have h := h.1 hc
    refine gw_iload_n 2 d_Borders_zoneOf_40 rfl rfl ?_
    exact gw_ireturn d_Borders_zoneOf_41 rfl h
  · have h := h.2 hc
    refine gw_aload_n 0 d_Borders_zoneOf_12 rfl rfl ?_
    refine gw_getR d_Borders_zoneOf_13 fl_Borders_15 (hk.1) rfl ?_
    refine gw_iload_n 3 d_Borders_zoneOf_16 rfl rfl ?_
    obtain ⟨g1, h⟩ := h
    obtain ⟨g2, h⟩ := h
    refine gw_iald d_Borders_zoneOf_17 (hk.2.2.1) g1 g2 ?_
    refine gw_if_ne 34 d_Borders_zoneOf_18 (by decide) (hI1 _ _) (fun hc => ?_) (fun hc => ?_)
    · have h := h.1 hc
      refine gw_iinc 3 d_Borders_zoneOf_34 rfl rfl ?_
      refine gw_goto 4 d_Borders_zoneOf_37 (by decide) ?_
      exact gw_le h (by exact ⟨rfl, ⟨rfl, ⟨rfl, ⟨rfl, trivial⟩⟩⟩⟩)
    · have h := h.2 hc
      refine gw_aload_n 0 d_Borders_zoneOf_21 rfl rfl ?_
      refine gw_getR d_Borders_zoneOf_22 fl_Borders_9 (hk.1) rfl ?_
      refine gw_iload_n 3 d_Borders_zoneOf_25 rfl rfl ?_
      refine gw_iald d_Borders_zoneOf_26 (hk.2.1) g1 g2 ?_
      refine gw_iload_n 1 d_Borders_zoneOf_27 rfl rfl ?_
      refine gw_icmp_gt 34 d_Borders_zoneOf_28 (by decide) (hI1 _ _) r1 (fun hc => ?_) (fun hc => ?_)
      · have h := h.1 hc
        refine gw_iinc 3 d_Borders_zoneOf_34 rfl rfl ?_
        refine gw_goto 4 d_Borders_zoneOf_37 (by decide) ?_
        exact gw_le h (by exact ⟨rfl, ⟨rfl, ⟨rfl, ⟨rfl, trivial⟩⟩⟩⟩)
      · have h := h.2 hc
        refine gw_iinc 2 d_Borders_zoneOf_31 rfl rfl ?_
        refine gw_iinc 3 d_Borders_zoneOf_34 rfl rfl ?_
        refine gw_goto 4 d_Borders_zoneOf_37 (by decide) ?_
        exact gw_le h (by exact ⟨rfl, ⟨rfl, ⟨rfl, ⟨rfl, trivial⟩⟩⟩⟩)

theorem k_Borders_isFree_0 {G : ga_G} {d : Nat} {I : ga_I} {E : Option ga_V → ga_I → Prop} {k : Nat} {v1 : Int} {v2 : Int} {v3 : Int} 
    (h : ga_RG I → ga_W G d mt_Borders_isFree 3 [some (.inr k), some (.inl v1), some (.inl v2), some (.inl v3), some (.inl 0)] [] I E) :
    ga_W G d mt_Borders_isFree 0 (ga_en 5 [.inr k, .inl v1, .inl v2, .inl v3]) [] I E := by
  show ga_W G d mt_Borders_isFree 0 [some (.inr k), some (.inl v1), some (.inl v2), some (.inl v3), none] [] I E
  refine gw_RG (fun hI1 => ?_)
  have h := h hI1
  refine gw_iconst d_Borders_isFree_0 ?_
  refine gw_istore 4 d_Borders_isFree_1 (Nat.le_of_ble_eq_true rfl) rfl ?_
  exact gw_le h (by exact ⟨rfl, ⟨rfl, ⟨rfl, ⟨rfl, ⟨rfl, trivial⟩⟩⟩⟩⟩)
theorem k_Borders_isFree_3 {G : ga_G} {d : Nat} {I : ga_I} {E : Option ga_V → ga_I → Prop} {k : Nat} {v1 : Int} {v2 : Int} {v3 : Int} {v4 : Int} (hk : ga_isB k) (r3 : ga_rg v3) (r4 : ga_rg v4)
    (h : ga_RG I → (((I k 0) ≤ v4) → E (some (.inl 1)) I) ∧ ((¬ ((I k 0) ≤ v4)) → ((v4 = v3) → ga_W G d mt_Borders_isFree 3 [some (.inr k), some (.inl v1), some (.inl v2), some (.inl v3), some (.inl (v4 + 1))] [] I E) ∧ ((¬ (v4 = v3)) → (0 ≤ v4) ∧ ((v4 < 6) ∧ ((ga_rg (v1 - v2)) ∧ ((ga_rg ((I (k + 1) v4.toNat) + (I (k + 3) v4.toNat))) ∧ (((((I (k + 1) v4.toNat) + (I (k + 3) v4.toNat)) < (v1 - v2)) → ga_W G d mt_Borders_isFree 3 [some (.inr k), some (.inl v1), some (.inl v2), some (.inl v3), some (.inl (v4 + 1))] [] I E) ∧ ((¬ (((I (k + 1) v4.toNat) + (I (k + 3) v4.toNat)) < (v1 - v2))) → (ga_rg (v1 + v2)) ∧ ((ga_rg ((I (k + 1) v4.toNat) - (I (k + 3) v4.toNat))) ∧ ((((v1 + v2) < ((I (k + 1) v4.toNat) - (I (k + 3) v4.toNat))) → ga_W G d mt_Borders_isFree 3 [some (.inr k), some (.inl v1), some (.inl v2), some (.inl v3), some (.inl (v4 + 1))] [] I E) ∧ ((¬ ((v1 + v2) < ((I (k + 1) v4.toNat) - (I (k + 3) v4.toNat)))) → E (some (.inl 0)) I))))))))))) :
    ga_W G d mt_Borders_isFree 3 [some (.inr k), some (.inl v1), some (.inl v2), some (.inl v3), some (.inl v4)] [] I E := by
  refine gw_RG (fun hI1 => ?_)
  have h := h hI1
  refine gw_iload 4 d_Borders_isFree_3 rfl ?_
  refine gw_aload_n 0 d_Borders_isFree_5 rfl rfl ?_
  refine gw_getI d_Borders_isFree_6 fl_Borders_21 (hk.1) rfl ?_
  refine gw_icmp_ge 68 d_Borders_isFree_9 (by decide) r4 (hI1 _ _) (fun hc => ?_) (fun hc => ?_)
  · have h := h.1 hc
    refine gw_iconst d_Borders_isFree_68 ?_
    exact gw_zreturn d_Borders_isFree_69 rfl (by decide) h
  · have h := h.2 hc
    refine gw_iload 4 d_Borders_isFree_12 rfl ?_
    refine gw_iload_n 3 d_Borders_isFree_14 rfl rfl ?_
    refine gw_icmp_eq 62 d_Borders_isFree_15 (by decide) r4 r3 (fun hc => ?_) (fun hc => ?_)
    · have h := h.1 hc
      refine gw_iinc 4 d_Borders_isFree_62 rfl rfl ?_
      refine gw_goto 3 d_Borders_isFree_65 (by decide) ?_
      exact gw_le h (by exact ⟨rfl, ⟨rfl, ⟨rfl, ⟨rfl, ⟨rfl, trivial⟩⟩⟩⟩⟩)
    · have h := h.2 hc
      refine gw_iload_n 1 d_Borders_isFree_18 rfl rfl ?_
      refine gw_iload_n 2 d_Borders_isFree_19 rfl rfl ?_
      refine gw_isub d_Borders_isFree_20 ?_
      refine gw_aload_n 0 d_Borders_isFree_21 rfl rfl ?_
      refine gw_getR d_Borders_isFree_22 fl_Borders_9 (hk.1) rfl ?_
      refine gw_iload 4 d_Borders_isFree_25 rfl ?_
      obtain ⟨g1, h⟩ := h
      obtain ⟨g2, h⟩ := h
      refine gw_iald d_Borders_isFree_27 (hk.2.1) g1 g2 ?_
      refine gw_aload_n 0 d_Borders_isFree_28 rfl rfl ?_
      refine gw_getR d_Borders_isFree_29 fl_Borders_18 (hk.1) rfl ?_
      refine gw_iload 4 d_Borders_isFree_32 rfl ?_
      refine gw_iald d_Borders_isFree_34 (hk.2.2.2) g1 g2 ?_
      refine gw_iadd d_Borders_isFree_35 ?_
      obtain ⟨g3, h⟩ := h
      obtain ⟨g4, h⟩ := h
      refine gw_icmp_gt 62 d_Borders_isFree_36 (by decide) g3 g4 (fun hc => ?_) (fun hc => ?_)
      · have h := h.1 hc
        refine gw_iinc 4 d_Borders_isFree_62 rfl rfl ?_
        refine gw_goto 3 d_Borders_isFree_65 (by decide) ?_
        exact gw_le h (by exact ⟨rfl, ⟨rfl, ⟨rfl, ⟨rfl, ⟨rfl, trivial⟩⟩⟩⟩⟩)
      · have h := h.2 hc
        refine gw_iload_n 1 d_Borders_isFree_39 rfl rfl ?_
        refine gw_iload_n 2 d_Borders_isFree_40 rfl rfl ?_
        refine gw_iadd d_Borders_isFree_41 ?_
        refine gw_aload_n 0 d_Borders_isFree_42 rfl rfl ?_
        refine gw_getR d_Borders_isFree_43 fl_Borders_9 (hk.1) rfl ?_
        refine gw_iload 4 d_Borders_isFree_46 rfl ?_
        refine gw_iald d_Borders_isFree_48 (hk.2.1) g1 g2 ?_
        refine gw_aload_n 0 d_Borders_isFree_49 rfl rfl ?_
        refine gw_getR d_Borders_isFree_50 fl_Borders_18 (hk.1) rfl ?_
        refine gw_iload 4 d_Borders_isFree_53 rfl ?_
        refine gw_iald d_Borders_isFree_55 (hk.2.2.2) g1 g2 ?_
        refine gw_isub d_Borders_isFree_56 ?_
        obtain ⟨g5, h⟩ := h
        obtain ⟨g6, h⟩ := h
        refine gw_icmp_lt 62 d_Borders_isFree_57 (by decide) g5 g6 (fun hc => ?_) (fun hc => ?_)
        · have h := h.1 hc
          refine gw_iinc 4 d_Borders_isFree_62 rfl rfl ?_
          refine gw_goto 3 d_Borders_isFree_65 (by decide) ?_
          exact gw_le h (by exact ⟨rfl, ⟨rfl, ⟨rfl, ⟨rfl, ⟨rfl, trivial⟩⟩⟩⟩⟩)
        · have h := h.2 hc
          refine gw_iconst d_Borders_isFree_60 ?_
          exact gw_zreturn d_Borders_isFree_61 rfl (by decide) h

theorem k_Borders_zoneAfter_0 {G : ga_G} {d : Nat} {I : ga_I} {E : Option ga_V → ga_I → Prop} {k : Nat} {v1 : Int} {v2 : Int} 
    (h : ga_RG I → ga_W G d mt_Borders_zoneAfter 8 [some (.inr k), none, some (.inl v2), some (.inl v1), some (.inl 0), some (.inl 0)] [] I E) :
    ga_W G d mt_Borders_zoneAfter 0 (ga_en 6 [.inr k, .inl v1, .inl v2]) [] I E := by
  show ga_W G d mt_Borders_zoneAfter 0 [some (.inr k), some (.inl v1), some (.inl v2), none, none, none] [] I E
  refine gw_RG (fun hI1 => ?_)
  have h := h hI1
  refine gw_iload_n 1 d_Borders_zoneAfter_0 rfl rfl ?_
  refine gw_istore_n 3 d_Borders_zoneAfter_1 rfl (Nat.le_of_ble_eq_true rfl) rfl ?_
  refine gw_iconst d_Borders_zoneAfter_2 ?_
  refine gw_istore 4 d_Borders_zoneAfter_3 (Nat.le_of_ble_eq_true rfl) rfl ?_
  refine gw_iconst d_Borders_zoneAfter_5 ?_
  refine gw_istore 5 d_Borders_zoneAfter_6 (Nat.le_of_ble_eq_true rfl) rfl ?_
  exact gw_le h (by exact ⟨rfl, ⟨rfl, ⟨rfl, ⟨rfl, ⟨rfl, trivial⟩⟩⟩⟩⟩)
theorem k_Borders_zoneAfter_8 {G : ga_G} {d : Nat} {I : ga_I} {E : Option ga_V → ga_I → Prop} {k : Nat} {v2 : Int} {v3 : Int} {v4 : Int} {v5 : Int} (hk : ga_isB k) (r2 : ga_rg v2) (r3 : ga_rg v3) (r4 : ga_rg v4) (r5 : ga_rg v5)
    (h : ga_RG I → (((I k 0) ≤ v5) → ga_W G d mt_Borders_zoneAfter 72 [some (.inr k), none, some (.inl v2), some (.inl v3), some (.inl v4), some (.inl ((I k 0) - 1))] [] I E) ∧ ((¬ ((I k 0) ≤ v5)) → (0 ≤ v5) ∧ ((v5 < 6) ∧ ((((I (k + 2) v5.toNat) ≠ 0) → ga_W G d mt_Borders_zoneAfter 8 [some (.inr k), none, some (.inl v2), some (.inl v3), some (.inl v4), some (.inl (v5 + 1))] [] I E) ∧ (((I (k + 2) v5.toNat) = 0) → ((v4 ≠ v3) → ga_W G d mt_Borders_zoneAfter 8 [some (.inr k), none, some (.inl v2), some (.inl v3), some (.inl (v4 + 1)), some (.inl (v5 + 1))] [] I E) ∧ ((v4 = v3) → (ga_rg ((I (k + 1) v5.toNat) + (I (k + 3) v5.toNat))) ∧ (((v2 < ((I (k + 1) v5.toNat) + (I (k + 3) v5.toNat))) → ga_W G d mt_Borders_zoneAfter 8 [some (.inr k), none, some (.inl v2), some (.inl v3), some (.inl (v4 + 1)), some (.inl (v5 + 1))] [] I E) ∧ ((¬ (v2 < ((I (k + 1) v5.toNat) + (I (k + 3) v5.toNat)))) → ga_W G d mt_Borders_zoneAfter 8 [some (.inr k), none, some (.inl v2), some (.inl (v3 + 1)), some (.inl (v4 + 1)), some (.inl (v5 + 1))] [] I E)))))))) :
    ga_W G d mt_Borders_zoneAfter 8 [some (.inr k), none, some (.inl v2), some (.inl v3), some (.inl v4), some (.inl v5)] [] I E := by
  refine gw_RG (fun hI1 => ?_)
  have h := h hI1
  refine gw_iload 5 d_Borders_zoneAfter_8 rfl ?_
  refine gw_aload_n 0 d_Borders_zoneAfter_10 rfl rfl ?_
  refine gw_getI d_Borders_zoneAfter_11 fl_Borders_21 (hk.1) rfl ?_
  refine gw_icmp_ge 64 d_Borders_zoneAfter_14 (by decide) r5 (hI1 _ _) (fun hc => ?_) (fun hc => ?_)
  · have h := h.1 hc
    refine gw_aload_n 0 d_Borders_zoneAfter_64 rfl rfl ?_
    refine gw_getI d_Borders_zoneAfter_65 fl_Borders_21 (hk.1) rfl ?_
    refine gw_iconst d_Borders_zoneAfter_68 ?_
    refine gw_isub d_Borders_zoneAfter_69 ?_
    refine gw_istore 5 d_Borders_zoneAfter_70 (Nat.le_of_ble_eq_true rfl) rfl ?_
    exact gw_le h (by exact ⟨rfl, ⟨rfl, ⟨rfl, ⟨rfl, ⟨rfl, trivial⟩⟩⟩⟩⟩)
  · have h := h.2 hc
    refine gw_aload_n 0 d_Borders_zoneAfter_17 rfl rfl ?_
    refine gw_getR d_Borders_zoneAfter_18 fl_Borders_15 (hk.1) rfl ?_
    refine gw_iload 5 d_Borders_zoneAfter_21 rfl ?_
    obtain ⟨g1, h⟩ := h
    obtain ⟨g2, h⟩ := h
    refine gw_iald d_Borders_zoneAfter_23 (hk.2.2.1) g1 g2 ?_
    refine gw_if_ne 58 d_Borders_zoneAfter_24 (by decide) (hI1 _ _) (fun hc => ?_) (fun hc => ?_)
    · have h := h.1 hc
      refine gw_iinc 5 d_Borders_zoneAfter_58 rfl rfl ?_
      refine gw_goto 8 d_Borders_zoneAfter_61 (by decide) ?_
      exact gw_le h (by exact ⟨rfl, ⟨rfl, ⟨rfl, ⟨rfl, ⟨rfl, trivial⟩⟩⟩⟩⟩)
    · have h := h.2 hc
      refine gw_iload 4 d_Borders_zoneAfter_27 rfl ?_
      refine gw_iload_n 3 d_Borders_zoneAfter_29 rfl rfl ?_
      refine gw_icmp_ne 55 d_Borders_zoneAfter_30 (by decide) r4 r3 (fun hc => ?_) (fun hc => ?_)
      · have h := h.1 hc
        refine gw_iinc 4 d_Borders_zoneAfter_55 rfl rfl ?_
        refine gw_iinc 5 d_Borders_zoneAfter_58 rfl rfl ?_
        refine gw_goto 8 d_Borders_zoneAfter_61 (by decide) ?_
        exact gw_le h (by exact ⟨rfl, ⟨rfl, ⟨rfl, ⟨rfl, ⟨rfl, trivial⟩⟩⟩⟩⟩)
      · have h := h.2 hc
        refine gw_iload_n 2 d_Borders_zoneAfter_33 rfl rfl ?_
        refine gw_aload_n 0 d_Borders_zoneAfter_34 rfl rfl ?_
        refine gw_getR d_Borders_zoneAfter_35 fl_Borders_9 (hk.1) rfl ?_
        refine gw_iload 5 d_Borders_zoneAfter_38 rfl ?_
        refine gw_iald d_Borders_zoneAfter_40 (hk.2.1) g1 g2 ?_
        refine gw_aload_n 0 d_Borders_zoneAfter_41 rfl rfl ?_
        refine gw_getR d_Borders_zoneAfter_42 fl_Borders_18 (hk.1) rfl ?_
        refine gw_iload 5 d_Borders_zoneAfter_45 rfl ?_
        refine gw_iald d_Borders_zoneAfter_47 (hk.2.2.2) g1 g2 ?_
        refine gw_iadd d_Borders_zoneAfter_48 ?_
        obtain ⟨g3, h⟩ := h
        refine gw_icmp_lt 55 d_Borders_zoneAfter_49 (by decide) r2 g3 (fun hc => ?_) (fun hc => ?_)
        · have h := h.1 hc
          refine gw_iinc 4 d_Borders_zoneAfter_55 rfl rfl ?_
          refine gw_iinc 5 d_Borders_zoneAfter_58 rfl rfl ?_
          refine gw_goto 8 d_Borders_zoneAfter_61 (by decide) ?_
          exact gw_le h (by exact ⟨rfl, ⟨rfl, ⟨rfl, ⟨rfl, ⟨rfl, trivial⟩⟩⟩⟩⟩)
        · have h := h.2 hc
          refine gw_iinc 3 d_Borders_zoneAfter_52 rfl rfl ?_
          refine gw_iinc 4 d_Borders_zoneAfter_55 rfl rfl ?_
          refine gw_iinc 5 d_Borders_zoneAfter_58 rfl rfl ?_
          refine gw_goto 8 d_Borders_zoneAfter_61 (by decide) ?_
          exact gw_le h (by exact ⟨rfl, ⟨rfl, ⟨rfl, ⟨rfl, ⟨rfl, trivial⟩⟩⟩⟩⟩)
theorem k_Borders_zoneAfter_72 {G : ga_G} {d : Nat} {I : ga_I} {E : Option ga_V → ga_I → Prop} {k : Nat} {v2 : Int} {v3 : Int} {v4 : Int} {v5 : Int} (hk : ga_isB k) (r2 : ga_rg v2) (r3 : ga_rg v3) (r4 : ga_rg v4) (r5 : ga_rg v5)
    (h : ga_RG I → ((v5 < 0) → E (some (.inl v3)) I) ∧ ((¬ (v5 < 0)) → (0 ≤ v5) ∧ ((v5 < 6) ∧ ((((I (k + 2) v5.toNat) ≠ 0) → ga_W G d mt_Borders_zoneAfter 72 [some (.inr k), none, some (.inl v2), some (.inl v3), some (.inl v4), some (.inl (v5 + (-1)))] [] I E) ∧ (((I (k + 2) v5.toNat) = 0) → ((v4 ≠ v3) → ga_W G d mt_Borders_zoneAfter 72 [some (.inr k), none, some (.inl v2), some (.inl v3), some (.inl (v4 + (-1))), some (.inl (v5 + (-1)))] [] I E) ∧ ((v4 = v3) → (ga_rg ((I (k + 1) v5.toNat) - (I (k + 3) v5.toNat))) ∧ (((((I (k + 1) v5.toNat) - (I (k + 3) v5.toNat)) ≤ v2) → ga_W G d mt_Borders_zoneAfter 72 [some (.inr k), none, some (.inl v2), some (.inl v3), some (.inl (v4 + (-1))), some (.inl (v5 + (-1)))] [] I E) ∧ ((¬ (((I (k + 1) v5.toNat) - (I (k + 3) v5.toNat)) ≤ v2)) → ga_W G d mt_Borders_zoneAfter 72 [some (.inr k), none, some (.inl v2), some (.inl (v3 + (-1))), some (.inl (v4 + (-1))), some (.inl (v5 + (-1)))] [] I E)))))))) :
    ga_W G d mt_Borders_zoneAfter 72 [some (.inr k), none, some (.inl v2), some (.inl v3), some (.inl v4), some (.inl v5)] [] I E := by
  refine gw_RG (fun hI1 => ?_)
  have h := h hI1
  refine gw_iload 5 d_Borders_zoneAfter_72 rfl ?_
  refine gw_if_lt 124 d_Borders_zoneAfter_74 (by decide) r5 (fun hc => ?_) (fun hc => ?_)
  · have h := h.1 hc
    refine gw_iload_n 3 d_Borders_zoneAfter_124 rfl rfl ?_
    exact gw_ireturn d_Borders_zoneAfter_125 rfl h
  · have h := h.2 hc
    refine gw_aload_n 0 d_Borders_zoneAfter_77 rfl rfl ?_
    refine gw_getR d_Borders_zoneAfter_78 fl_Borders_15 (hk.1) rfl ?_
    refine gw_iload 5 d_Borders_zoneAfter_81 rfl ?_
    obtain ⟨g1, h⟩ := h
    obtain ⟨g2, h⟩ := h
    refine gw_iald d_Borders_zoneAfter_83 (hk.2.2.1) g1 g2 ?_
    refine gw_if_ne 118 d_Borders_zoneAfter_84 (by decide) (hI1 _ _) (fun hc => ?_) (fun hc => ?_)
    · have h := h.1 hc
      refine gw_iinc 5 d_Borders_zoneAfter_118 rfl rfl ?_
      refine gw_goto 72 d_Borders_zoneAfter_121 (by decide) ?_
      exact gw_le h (by exact ⟨rfl, ⟨rfl, ⟨rfl, ⟨rfl, ⟨rfl, trivial⟩⟩⟩⟩⟩)
    · have h := h.2 hc
      refine gw_iload 4 d_Borders_zoneAfter_87 rfl ?_
      refine gw_iload_n 3 d_Borders_zoneAfter_89 rfl rfl ?_
      refine gw_icmp_ne 115 d_Borders_zoneAfter_90 (by decide) r4 r3 (fun hc => ?_) (fun hc => ?_)
      · have h := h.1 hc
        refine gw_iinc 4 d_Borders_zoneAfter_115 rfl rfl ?_
        refine gw_iinc 5 d_Borders_zoneAfter_118 rfl rfl ?_
        refine gw_goto 72 d_Borders_zoneAfter_121 (by decide) ?_
        exact gw_le h (by exact ⟨rfl, ⟨rfl, ⟨rfl, ⟨rfl, ⟨rfl, trivial⟩⟩⟩⟩⟩)
      · have h := h.2 hc
        refine gw_iload_n 2 d_Borders_zoneAfter_93 rfl rfl ?_
        refine gw_aload_n 0 d_Borders_zoneAfter_94 rfl rfl ?_
        refine gw_getR d_Borders_zoneAfter_95 fl_Borders_9 (hk.1) rfl ?_
        refine gw_iload 5 d_Borders_zoneAfter_98 rfl ?_
        refine gw_iald d_Borders_zoneAfter_100 (hk.2.1) g1 g2 ?_
        refine gw_aload_n 0 d_Borders_zoneAfter_101 rfl rfl ?_
        refine gw_getR d_Borders_zoneAfter_102 fl_Borders_18 (hk.1) rfl ?_
        refine gw_iload 5 d_Borders_zoneAfter_105 rfl ?_
        refine gw_iald d_Borders_zoneAfter_107 (hk.2.2.2) g1 g2 ?_
        refine gw_isub d_Borders_zoneAfter_108 ?_
        obtain ⟨g3, h⟩ := h
        refine gw_icmp_ge 115 d_Borders_zoneAfter_109 (by decide) r2 g3 (fun hc => ?_) (fun hc => ?_)
        · have h := h.1 hc
          refine gw_iinc 4 d_Borders_zoneAfter_115 rfl rfl ?_
          refine gw_iinc 5 d_Borders_zoneAfter_118 rfl rfl ?_
          refine gw_goto 72 d_Borders_zoneAfter_121 (by decide) ?_
          exact gw_le h (by exact ⟨rfl, ⟨rfl, ⟨rfl, ⟨rfl, ⟨rfl, trivial⟩⟩⟩⟩⟩)
        · have h := h.2 hc
          refine gw_iinc 3 d_Borders_zoneAfter_112 rfl rfl ?_
          refine gw_iinc 4 d_Borders_zoneAfter_115 rfl rfl ?_
          refine gw_iinc 5 d_Borders_zoneAfter_118 rfl rfl ?_
          refine gw_goto 72 d_Borders_zoneAfter_121 (by decide) ?_
          exact gw_le h (by exact ⟨rfl, ⟨rfl, ⟨rfl, ⟨rfl, ⟨rfl, trivial⟩⟩⟩⟩⟩)

theorem k_Borders_heldIn_0 {G : ga_G} {d : Nat} {I : ga_I} {E : Option ga_V → ga_I → Prop} {k : Nat} {v1 : Int} {v2 : Int} 
    (h : ga_RG I → ga_W G (d + 1) mt_Borders_heldIn 8 [some (.inr k), some (.inl v1), none, some (.inl v2), some (.inl 0), some (.inl 0)] [] I E) :
    ga_W G (d + 1) mt_Borders_heldIn 0 (ga_en 6 [.inr k, .inl v1, .inl v2]) [] I E := by
  show ga_W G (d + 1) mt_Borders_heldIn 0 [some (.inr k), some (.inl v1), some (.inl v2), none, none, none] [] I E
  refine gw_RG (fun hI1 => ?_)
  have h := h hI1
  refine gw_iload_n 2 d_Borders_heldIn_0 rfl rfl ?_
  refine gw_istore_n 3 d_Borders_heldIn_1 rfl (Nat.le_of_ble_eq_true rfl) rfl ?_
  refine gw_iconst d_Borders_heldIn_2 ?_
  refine gw_istore 4 d_Borders_heldIn_3 (Nat.le_of_ble_eq_true rfl) rfl ?_
  refine gw_iconst d_Borders_heldIn_5 ?_
  refine gw_istore 5 d_Borders_heldIn_6 (Nat.le_of_ble_eq_true rfl) rfl ?_
  exact gw_le h (by exact ⟨rfl, ⟨rfl, ⟨rfl, ⟨rfl, ⟨rfl, trivial⟩⟩⟩⟩⟩)
theorem k_Borders_heldIn_8 {G : ga_G} {d : Nat} {I : ga_I} {E : Option ga_V → ga_I → Prop} {k : Nat} {v1 : Int} {v3 : Int} {v4 : Int} {v5 : Int} (hk : ga_isB k) (r1 : ga_rg v1) (r3 : ga_rg v3) (r4 : ga_rg v4) (r5 : ga_rg v5)
    (h : ga_RG I → (((I k 0) ≤ v5) → E (some (.inl v3)) I) ∧ ((¬ ((I k 0) ≤ v5)) → (0 ≤ v5) ∧ ((v5 < 6) ∧ ((((I (k + 2) v5.toNat) ≠ 0) → ga_W G (d + 1) mt_Borders_heldIn 8 [some (.inr k), some (.inl v1), none, some (.inl v3), some (.inl v4), some (.inl (v5 + 1))] [] I E) ∧ (((I (k + 2) v5.toNat) = 0) → (ga_rg (v1 - 1)) ∧ (((v4 ≠ (v1 - 1)) → ((v4 ≠ v1) → ga_W G (d + 1) mt_Borders_heldIn 8 [some (.inr k), some (.inl v1), none, some (.inl v3), some (.inl (v4 + 1)), some (.inl (v5 + 1))] [] I E) ∧ ((v4 = v1) → (ga_rg ((I (k + 1) v5.toNat) - 1)) ∧ (ga_W G (d + 1) mt_Borders_heldIn 8 [some (.inr k), some (.inl v1), none, some (.inl (min v3 ((I (k + 1) v5.toNat) - 1))), some (.inl (v4 + 1)), some (.inl (v5 + 1))] [] I E))) ∧ ((v4 = (v1 - 1)) → ga_W G (d + 1) mt_Borders_heldIn 8 [some (.inr k), some (.inl v1), none, some (.inl (max v3 (I (k + 1) v5.toNat))), some (.inl (v4 + 1)), some (.inl (v5 + 1))] [] I E))))))) :
    ga_W G (d + 1) mt_Borders_heldIn 8 [some (.inr k), some (.inl v1), none, some (.inl v3), some (.inl v4), some (.inl v5)] [] I E := by
  refine gw_RG (fun hI1 => ?_)
  have h := h hI1
  refine gw_iload 5 d_Borders_heldIn_8 rfl ?_
  refine gw_aload_n 0 d_Borders_heldIn_10 rfl rfl ?_
  refine gw_getI d_Borders_heldIn_11 fl_Borders_21 (hk.1) rfl ?_
  refine gw_icmp_ge 79 d_Borders_heldIn_14 (by decide) r5 (hI1 _ _) (fun hc => ?_) (fun hc => ?_)
  · have h := h.1 hc
    refine gw_iload_n 3 d_Borders_heldIn_79 rfl rfl ?_
    exact gw_ireturn d_Borders_heldIn_80 rfl h
  · have h := h.2 hc
    refine gw_aload_n 0 d_Borders_heldIn_17 rfl rfl ?_
    refine gw_getR d_Borders_heldIn_18 fl_Borders_15 (hk.1) rfl ?_
    refine gw_iload 5 d_Borders_heldIn_21 rfl ?_
    obtain ⟨g1, h⟩ := h
    obtain ⟨g2, h⟩ := h
    refine gw_iald d_Borders_heldIn_23 (hk.2.2.1) g1 g2 ?_
    refine gw_if_ne 73 d_Borders_heldIn_24 (by decide) (hI1 _ _) (fun hc => ?_) (fun hc => ?_)
    · have h := h.1 hc
      refine gw_iinc 5 d_Borders_heldIn_73 rfl rfl ?_
      refine gw_goto 8 d_Borders_heldIn_76 (by decide) ?_
      exact gw_le h (by exact ⟨rfl, ⟨rfl, ⟨rfl, ⟨rfl, ⟨rfl, trivial⟩⟩⟩⟩⟩)
    · have h := h.2 hc
      refine gw_iload 4 d_Borders_heldIn_27 rfl ?_
      refine gw_iload_n 1 d_Borders_heldIn_29 rfl rfl ?_
      refine gw_iconst d_Borders_heldIn_30 ?_
      refine gw_isub d_Borders_heldIn_31 ?_
      obtain ⟨g3, h⟩ := h
      refine gw_icmp_ne 50 d_Borders_heldIn_32 (by decide) r4 g3 (fun hc => ?_) (fun hc => ?_)
      · have h := h.1 hc
        refine gw_iload 4 d_Borders_heldIn_50 rfl ?_
        refine gw_iload_n 1 d_Borders_heldIn_52 rfl rfl ?_
        refine gw_icmp_ne 70 d_Borders_heldIn_53 (by decide) r4 r1 (fun hc => ?_) (fun hc => ?_)
        · have h := h.1 hc
          refine gw_iinc 4 d_Borders_heldIn_70 rfl rfl ?_
          refine gw_iinc 5 d_Borders_heldIn_73 rfl rfl ?_
          refine gw_goto 8 d_Borders_heldIn_76 (by decide) ?_
          exact gw_le h (by exact ⟨rfl, ⟨rfl, ⟨rfl, ⟨rfl, ⟨rfl, trivial⟩⟩⟩⟩⟩)
        · have h := h.2 hc
          refine gw_iload_n 3 d_Borders_heldIn_56 rfl rfl ?_
          refine gw_aload_n 0 d_Borders_heldIn_57 rfl rfl ?_
          refine gw_getR d_Borders_heldIn_58 fl_Borders_9 (hk.1) rfl ?_
          refine gw_iload 5 d_Borders_heldIn_61 rfl ?_
          refine gw_iald d_Borders_heldIn_63 (hk.2.1) g1 g2 ?_
          refine gw_iconst d_Borders_heldIn_64 ?_
          refine gw_isub d_Borders_heldIn_65 ?_
          obtain ⟨g4, h⟩ := h
          refine gw_mmin d_Borders_heldIn_66 lk_Borders_45 r3 g4 (by omega) (Nat.le_of_ble_eq_true rfl) ?_
          refine gw_istore_n 3 d_Borders_heldIn_69 rfl (Nat.le_of_ble_eq_true rfl) rfl ?_
          refine gw_iinc 4 d_Borders_heldIn_70 rfl rfl ?_
          refine gw_iinc 5 d_Borders_heldIn_73 rfl rfl ?_
          refine gw_goto 8 d_Borders_heldIn_76 (by decide) ?_
          exact gw_le h (by exact ⟨rfl, ⟨rfl, ⟨rfl, ⟨rfl, ⟨rfl, trivial⟩⟩⟩⟩⟩)
      · have h := h.2 hc
        refine gw_iload_n 3 d_Borders_heldIn_35 rfl rfl ?_
        refine gw_aload_n 0 d_Borders_heldIn_36 rfl rfl ?_
        refine gw_getR d_Borders_heldIn_37 fl_Borders_9 (hk.1) rfl ?_
        refine gw_iload 5 d_Borders_heldIn_40 rfl ?_
        refine gw_iald d_Borders_heldIn_42 (hk.2.1) g1 g2 ?_
        refine gw_mmax d_Borders_heldIn_43 lk_Borders_39 r3 (hI1 _ _) (by omega) (Nat.le_of_ble_eq_true rfl) ?_
        refine gw_istore_n 3 d_Borders_heldIn_46 rfl (Nat.le_of_ble_eq_true rfl) rfl ?_
        refine gw_goto 70 d_Borders_heldIn_47 (by decide) ?_
        refine gw_iinc 4 d_Borders_heldIn_70 rfl rfl ?_
        refine gw_iinc 5 d_Borders_heldIn_73 rfl rfl ?_
        refine gw_goto 8 d_Borders_heldIn_76 (by decide) ?_
        exact gw_le h (by exact ⟨rfl, ⟨rfl, ⟨rfl, ⟨rfl, ⟨rfl, trivial⟩⟩⟩⟩⟩)

theorem k_Borders_blendingAt_0 {G : ga_G} {d : Nat} {I : ga_I} {E : Option ga_V → ga_I → Prop} {k : Nat} {v1 : Int} 
    (h : ga_RG I → ga_W G d mt_Borders_blendingAt 2 [some (.inr k), some (.inl v1), some (.inl 0)] [] I E) :
    ga_W G d mt_Borders_blendingAt 0 (ga_en 3 [.inr k, .inl v1]) [] I E := by
  show ga_W G d mt_Borders_blendingAt 0 [some (.inr k), some (.inl v1), none] [] I E
  refine gw_RG (fun hI1 => ?_)
  have h := h hI1
  refine gw_iconst d_Borders_blendingAt_0 ?_
  refine gw_istore_n 2 d_Borders_blendingAt_1 rfl (Nat.le_of_ble_eq_true rfl) rfl ?_
  exact gw_le h (by exact ⟨rfl, ⟨rfl, ⟨rfl, trivial⟩⟩⟩)
theorem k_Borders_blendingAt_2 {G : ga_G} {d : Nat} {I : ga_I} {E : Option ga_V → ga_I → Prop} {k : Nat} {v1 : Int} {v2 : Int} (hk : ga_isB k) (r1 : ga_rg v1) (r2 : ga_rg v2)
    (h : ga_RG I → (((I k 0) ≤ v2) → E (some (.inl (-1))) I) ∧ ((¬ ((I k 0) ≤ v2)) → (0 ≤ v2) ∧ ((v2 < 6) ∧ ((((I (k + 2) v2.toNat) ≠ 1) → ga_W G d mt_Borders_blendingAt 2 [some (.inr k), some (.inl v1), some (.inl (v2 + 1))] [] I E) ∧ (((I (k + 2) v2.toNat) = 1) → (ga_rg ((I (k + 1) v2.toNat) - (I (k + 3) v2.toNat))) ∧ (((v1 < ((I (k + 1) v2.toNat) - (I (k + 3) v2.toNat))) → ga_W G d mt_Borders_blendingAt 2 [some (.inr k), some (.inl v1), some (.inl (v2 + 1))] [] I E) ∧ ((¬ (v1 < ((I (k + 1) v2.toNat) - (I (k + 3) v2.toNat)))) → (ga_rg ((I (k + 1) v2.toNat) + (I (k + 3) v2.toNat))) ∧ (((((I (k + 1) v2.toNat) + (I (k + 3) v2.toNat)) < v1) → ga_W G d mt_Borders_blendingAt 2 [some (.inr k), some (.inl v1), some (.inl (v2 + 1))] [] I E) ∧ ((¬ (((I (k + 1) v2.toNat) + (I (k + 3) v2.toNat)) < v1)) → E (some (.inl v2)) I))))))))) :
    ga_W G d mt_Borders_blendingAt 2 [some (.inr k), some (.inl v1), some (.inl v2)] [] I E := by
  refine gw_RG (fun hI1 => ?_)
  have h := h hI1
  refine gw_iload_n 2 d_Borders_blendingAt_2 rfl rfl ?_
  refine gw_aload_n 0 d_Borders_blendingAt_3 rfl rfl ?_
  refine gw_getI d_Borders_blendingAt_4 fl_Borders_21 (hk.1) rfl ?_
  refine gw_icmp_ge 62 d_Borders_blendingAt_7 (by decide) r2 (hI1 _ _) (fun hc => ?_) (fun hc => ?_)
  · have h := h.1 hc
    refine gw_iconst d_Borders_blendingAt_62 ?_
    exact gw_ireturn d_Borders_blendingAt_63 rfl h
  · have h := h.2 hc
    refine gw_aload_n 0 d_Borders_blendingAt_10 rfl rfl ?_
    refine gw_getR d_Borders_blendingAt_11 fl_Borders_15 (hk.1) rfl ?_
    refine gw_iload_n 2 d_Borders_blendingAt_14 rfl rfl ?_
    obtain ⟨g1, h⟩ := h
    obtain ⟨g2, h⟩ := h
    refine gw_iald d_Borders_blendingAt_15 (hk.2.2.1) g1 g2 ?_
    refine gw_iconst d_Borders_blendingAt_16 ?_
    refine gw_icmp_ne 56 d_Borders_blendingAt_17 (by decide) (hI1 _ _) ⟨by decide, by decide⟩ (fun hc => ?_) (fun hc => ?_)
    · have h := h.1 hc
      refine gw_iinc 2 d_Borders_blendingAt_56 rfl rfl ?_
      refine gw_goto 2 d_Borders_blendingAt_59 (by decide) ?_
      exact gw_le h (by exact ⟨rfl, ⟨rfl, ⟨rfl, trivial⟩⟩⟩)
    · have h := h.2 hc
      refine gw_iload_n 1 d_Borders_blendingAt_20 rfl rfl ?_
      refine gw_aload_n 0 d_Borders_blendingAt_21 rfl rfl ?_
      refine gw_getR d_Borders_blendingAt_22 fl_Borders_9 (hk.1) rfl ?_
      refine gw_iload_n 2 d_Borders_blendingAt_25 rfl rfl ?_
      refine gw_iald d_Borders_blendingAt_26 (hk.2.1) g1 g2 ?_
      refine gw_aload_n 0 d_Borders_blendingAt_27 rfl rfl ?_
      refine gw_getR d_Borders_blendingAt_28 fl_Borders_18 (hk.1) rfl ?_
      refine gw_iload_n 2 d_Borders_blendingAt_31 rfl rfl ?_
      refine gw_iald d_Borders_blendingAt_32 (hk.2.2.2) g1 g2 ?_
      refine gw_isub d_Borders_blendingAt_33 ?_
      obtain ⟨g3, h⟩ := h
      refine gw_icmp_lt 56 d_Borders_blendingAt_34 (by decide) r1 g3 (fun hc => ?_) (fun hc => ?_)
      · have h := h.1 hc
        refine gw_iinc 2 d_Borders_blendingAt_56 rfl rfl ?_
        refine gw_goto 2 d_Borders_blendingAt_59 (by decide) ?_
        exact gw_le h (by exact ⟨rfl, ⟨rfl, ⟨rfl, trivial⟩⟩⟩)
      · have h := h.2 hc
        refine gw_iload_n 1 d_Borders_blendingAt_37 rfl rfl ?_
        refine gw_aload_n 0 d_Borders_blendingAt_38 rfl rfl ?_
        refine gw_getR d_Borders_blendingAt_39 fl_Borders_9 (hk.1) rfl ?_
        refine gw_iload_n 2 d_Borders_blendingAt_42 rfl rfl ?_
        refine gw_iald d_Borders_blendingAt_43 (hk.2.1) g1 g2 ?_
        refine gw_aload_n 0 d_Borders_blendingAt_44 rfl rfl ?_
        refine gw_getR d_Borders_blendingAt_45 fl_Borders_18 (hk.1) rfl ?_
        refine gw_iload_n 2 d_Borders_blendingAt_48 rfl rfl ?_
        refine gw_iald d_Borders_blendingAt_49 (hk.2.2.2) g1 g2 ?_
        refine gw_iadd d_Borders_blendingAt_50 ?_
        obtain ⟨g4, h⟩ := h
        refine gw_icmp_gt 56 d_Borders_blendingAt_51 (by decide) r1 g4 (fun hc => ?_) (fun hc => ?_)
        · have h := h.1 hc
          refine gw_iinc 2 d_Borders_blendingAt_56 rfl rfl ?_
          refine gw_goto 2 d_Borders_blendingAt_59 (by decide) ?_
          exact gw_le h (by exact ⟨rfl, ⟨rfl, ⟨rfl, trivial⟩⟩⟩)
        · have h := h.2 hc
          refine gw_iload_n 2 d_Borders_blendingAt_54 rfl rfl ?_
          exact gw_ireturn d_Borders_blendingAt_55 rfl h

theorem k_Borders_putReach_0 {G : ga_G} {d : Nat} {I : ga_I} {E : Option ga_V → ga_I → Prop} {k : Nat} {v1 : Int} {v2 : Int} (hk : ga_isB k) (r1 : ga_rg v1)
    (h : ga_RG I → ((¬ (0 ≤ v1 ∧ v1 < I k 0)) → E none I) ∧ ((0 ≤ v1 ∧ v1 < I k 0) → (0 ≤ v1) ∧ ((v1 < 6) ∧ (E none (ga_up I (k + 3) v1.toNat (ga_wr v2)))))) :
    ga_W G (d + 1) mt_Borders_putReach 0 (ga_en 3 [.inr k, .inl v1, .inl v2]) [] I E := by
  show ga_W G (d + 1) mt_Borders_putReach 0 [some (.inr k), some (.inl v1), some (.inl v2)] [] I E
  refine gw_RG (fun hI1 => ?_)
  have h := h hI1
  refine gw_aload_n 0 d_Borders_putReach_0 rfl rfl ?_
  refine gw_iload_n 1 d_Borders_putReach_1 rfl rfl ?_
  refine gw_invV (as := [.inl v1]) (k := k) (rest := []) (d' := d) d_Borders_putReach_2 lk_Borders_31 (ga_rcv (hk.1) rfl rfl) rfl (Nat.le_of_ble_eq_true rfl) (Nat.le_of_ble_eq_true rfl) rfl rfl (s_Borders_has hk r1 ?_)
  show ga_W G (d + 1) mt_Borders_putReach 5 [some (.inr k), some (.inl v1), some (.inl v2)] [.inl (ga_bb (decide (0 ≤ v1 ∧ v1 < I k 0)))] I E
  refine gw_ifb_eq 15 d_Borders_putReach_5 (by decide) (fun hc => ?_) (fun hc => ?_)
  · have h := h.1 (of_decide_eq_false hc)
    exact gw_return d_Borders_putReach_15 rfl h
  · have h := h.2 (of_decide_eq_true hc)
    refine gw_aload_n 0 d_Borders_putReach_8 rfl rfl ?_
    refine gw_getR d_Borders_putReach_9 fl_Borders_18 (hk.1) rfl ?_
    refine gw_iload_n 1 d_Borders_putReach_12 rfl rfl ?_
    refine gw_iload_n 2 d_Borders_putReach_13 rfl rfl ?_
    obtain ⟨g1, h⟩ := h
    obtain ⟨g2, h⟩ := h
    refine gw_iast d_Borders_putReach_14 (hk.2.2.2) g1 g2 ?_
    refine gw_RG (fun hI2 => ?_)
    exact gw_return d_Borders_putReach_15 rfl h

section LB
variable {G : ga_G} {d : Nat} {I : ga_I} {E : Option ga_V → ga_I → Prop} {k : Nat}
/-- a border's number in a row, or 0 -/
def gb_at (I : ga_I) (k j : Nat) (b : Int) : Int := if 0 ≤ b ∧ b < I k 0 then I j b.toNat else 0
theorem gb_at_rg (hI : ga_RG I) (j : Nat) (b : Int) : ga_rg (gb_at I k j b) := by
  unfold gb_at
  by_cases e : 0 ≤ b ∧ b < I k 0
  · rw [if_pos e]; exact hI _ _
  · rw [if_neg e]; exact ⟨by decide, by decide⟩
theorem s_Borders_positionOf (hk : ga_isB k) (hok : gb_ok I k) {b : Int} (hb : ga_rg b) (h : E (some (.inl (gb_at I k (k + 1) b))) I) : ga_W G (d + 1) mt_Borders_positionOf 0 (ga_en 2 [.inr k, .inl b]) [] I E := by
  have h6 := hok.2.1
  refine k_Borders_positionOf_0 hk hb (fun hI => ⟨fun h1 => ?_, fun h1 => ⟨by omega, by omega, ?_⟩⟩) <;> unfold gb_at at h
  · rwa [if_neg h1] at h
  · rwa [if_pos h1] at h
theorem s_Borders_kindOf (hk : ga_isB k) (hok : gb_ok I k) {b : Int} (hb : ga_rg b) (h : E (some (.inl (gb_at I k (k + 2) b))) I) : ga_W G (d + 1) mt_Borders_kindOf 0 (ga_en 2 [.inr k, .inl b]) [] I E := by
  have h6 := hok.2.1
  refine k_Borders_kindOf_0 hk hb (fun hI => ⟨fun h1 => ?_, fun h1 => ⟨by omega, by omega, ?_⟩⟩) <;> unfold gb_at at h
  · rwa [if_neg h1] at h
  · rwa [if_pos h1] at h
theorem s_Borders_reachOf (hk : ga_isB k) (hok : gb_ok I k) {b : Int} (hb : ga_rg b) (h : E (some (.inl (gb_at I k (k + 3) b))) I) : ga_W G (d + 1) mt_Borders_reachOf 0 (ga_en 2 [.inr k, .inl b]) [] I E := by
  have h6 := hok.2.1
  refine k_Borders_reachOf_0 hk hb (fun hI => ⟨fun h1 => ?_, fun h1 => ⟨by omega, by omega, ?_⟩⟩) <;> unfold gb_at at h
  · rwa [if_neg h1] at h
  · rwa [if_pos h1] at h
theorem l_Borders_stripOf (hk : ga_isB k) (hok : gb_ok I k) {c : Int} (hc : ga_rg c) (h : E (some (.inl (gp_st (I (k + 1)) c (I k 0).toNat))) I) : ∀ (m b : Nat), (b : Int) + m = I k 0 → ga_W G d mt_Borders_stripOf 4 [some (.inr k), some (.inl c), some (.inl (gp_st (I (k + 1)) c b)), some (.inl b)] [] I E := by
  have h6 := hok.2.1
  intro m
  induction m with
  | zero =>
    intro b hb
    refine k_Borders_stripOf_4 hk hc ⟨by omega, by omega⟩ (fun hI => ⟨fun h1 => ?_, fun h1 => by exfalso; omega⟩)
    rwa [show (I k 0).toNat = b by omega] at h
  | succ m ih =>
    intro b hb
    have e := ih (b + 1) (by omega)
    refine k_Borders_stripOf_4 hk hc ⟨by omega, by omega⟩ (fun hI => ⟨fun h1 => by exfalso; omega, fun h1 => ⟨by omega, by omega, fun h2 => ?_, fun h2 => ?_⟩⟩) <;> simp only [Int.toNat_natCast] at h2
    · refine gw_eq e ?_ rfl
      rw [show gp_st (I (k + 1)) c (b + 1) = gp_st (I (k + 1)) c b from gp_ct_F (decide_eq_false (by omega))]
      rfl
    · refine gw_eq e ?_ rfl
      rw [show gp_st (I (k + 1)) c (b + 1) = gp_st (I (k + 1)) c b + 1 from gp_ct_T (decide_eq_true (by omega))]
      rfl
theorem s_Borders_stripOf (hk : ga_isB k) (hok : gb_ok I k) {c : Int} (hc : ga_rg c) (h : E (some (.inl (gp_st (I (k + 1)) c (I k 0).toNat))) I) : ga_W G d mt_Borders_stripOf 0 (ga_en 4 [.inr k, .inl c]) [] I E := by
  have h0 := hok.1
  exact k_Borders_stripOf_0 (fun _ => l_Borders_stripOf hk hok hc h (I k 0).toNat 0 (by omega))
theorem l_Borders_zoneOf (hk : ga_isB k) (hok : gb_ok I k) {c : Int} (hc : ga_rg c) (h : E (some (.inl (gp_zo (I (k + 1)) (I (k + 2)) c (I k 0).toNat))) I) : ∀ (m b : Nat), (b : Int) + m = I k 0 → ga_W G d mt_Borders_zoneOf 4 [some (.inr k), some (.inl c), some (.inl (gp_zo (I (k + 1)) (I (k + 2)) c b)), some (.inl b)] [] I E := by
  have h6 := hok.2.1
  intro m
  induction m with
  | zero =>
    intro b hb
    refine k_Borders_zoneOf_4 hk hc ⟨by omega, by omega⟩ (fun hI => ⟨fun h1 => ?_, fun h1 => by exfalso; omega⟩)
    rwa [show (I k 0).toNat = b by omega] at h
  | succ m ih =>
    intro b hb
    have e := ih (b + 1) (by omega)
    refine k_Borders_zoneOf_4 hk hc ⟨by omega, by omega⟩ (fun hI => ⟨fun h1 => by exfalso; omega, fun h1 => ⟨by omega, by omega, fun h2 => ?_, fun h2 => ⟨fun h3 => ?_, fun h3 => ?_⟩⟩⟩)
    · simp only [Int.toNat_natCast] at h2
      refine gw_eq e ?_ rfl
      rw [show gp_zo (I (k + 1)) (I (k + 2)) c (b + 1) = gp_zo (I (k + 1)) (I (k + 2)) c b from gp_ct_F (decide_eq_false (by omega))]
      rfl
    · simp only [Int.toNat_natCast] at h2 h3
      refine gw_eq e ?_ rfl
      rw [show gp_zo (I (k + 1)) (I (k + 2)) c (b + 1) = gp_zo (I (k + 1)) (I (k + 2)) c b from gp_ct_F (decide_eq_false (by omega))]
      rfl
    · simp only [Int.toNat_natCast] at h2 h3
      refine gw_eq e ?_ rfl
      rw [show gp_zo (I (k + 1)) (I (k + 2)) c (b + 1) = gp_zo (I (k + 1)) (I (k + 2)) c b + 1 from gp_ct_T (decide_eq_true (by omega))]
      rfl
theorem s_Borders_zoneOf (hk : ga_isB k) (hok : gb_ok I k) {c : Int} (hc : ga_rg c) (h : E (some (.inl (gp_zo (I (k + 1)) (I (k + 2)) c (I k 0).toNat))) I) : ga_W G d mt_Borders_zoneOf 0 (ga_en 4 [.inr k, .inl c]) [] I E := by
  have h0 := hok.1
  exact k_Borders_zoneOf_0 (fun _ => l_Borders_zoneOf hk hok hc h (I k 0).toNat 0 (by omega))
theorem l_Borders_isFree (hk : ga_isB k) (hok : gb_ok I k) {x y ex : Int} (hx : ga_rg ex) (h1 : ga_rg (x - y)) (h2 : ga_rg (x + y)) (h : E (some (.inl (ga_bb (gp_fr (I (k + 1)) (I (k + 3)) x y ex (I k 0).toNat)))) I) : ∀ (m b : Nat), (b : Int) + m = I k 0 → gp_fr (I (k + 1)) (I (k + 3)) x y ex b = true → ga_W G d mt_Borders_isFree 3 [some (.inr k), some (.inl x), some (.inl y), some (.inl ex), some (.inl b)] [] I E := by
  have h6 := hok.2.1
  intro m
  induction m with
  | zero =>
    intro b hb hf
    refine k_Borders_isFree_3 hk hx ⟨by omega, by omega⟩ (fun hI => ⟨fun h1 => ?_, fun h1 => by exfalso; omega⟩)
    rw [show (I k 0).toNat = b by omega] at h
    exact ga_bT hf h
  | succ m ih =>
    intro b hb hf
    have e := ih (b + 1) (by omega)
    have hv := hok.2.2.1 b (by omega)
    have stepT : ((b : Int) = ex ∨ ¬ (x - y ≤ I (k + 1) b + I (k + 3) b ∧ I (k + 1) b - I (k + 3) b ≤ x + y)) → gp_fr (I (k + 1)) (I (k + 3)) x y ex (b + 1) = true := fun q => by
      show (gp_fr (I (k + 1)) (I (k + 3)) x y ex b && decide _) = true
      rw [hf, decide_eq_true q]; rfl
    have hF : ¬ ((b : Int) = ex ∨ ¬ (x - y ≤ I (k + 1) b + I (k + 3) b ∧ I (k + 1) b - I (k + 3) b ≤ x + y)) → gp_fr (I (k + 1)) (I (k + 3)) x y ex (I k 0).toNat = false := fun q => by
      rw [Bool.eq_false_iff]
      intro hh
      have := (gp_al_iff _ _).mp hh b (by omega)
      exact q (of_decide_eq_true this)
    refine k_Borders_isFree_3 hk hx ⟨by omega, by omega⟩ (fun hI => ⟨fun h1 => by exfalso; omega, fun h3 => ⟨fun h4 => e (stepT (by omega)), fun h4 => ⟨by omega, by omega, h1, ?_, fun h5 => ?_, fun h5 => ⟨h2, ?_, fun h6 => ?_, fun h6 => ?_⟩⟩⟩⟩) <;> simp only [Int.toNat_natCast] at *
    · constructor <;> omega
    · exact e (stepT (by omega))
    · constructor <;> omega
    · exact e (stepT (by omega))
    · exact ga_bF (hF (by omega)) h
theorem s_Borders_isFree (hk : ga_isB k) (hok : gb_ok I k) {x y ex : Int} (hx : ga_rg ex) (h1 : ga_rg (x - y)) (h2 : ga_rg (x + y)) (h : E (some (.inl (ga_bb (gp_fr (I (k + 1)) (I (k + 3)) x y ex (I k 0).toNat)))) I) : ga_W G d mt_Borders_isFree 0 (ga_en 5 [.inr k, .inl x, .inl y, .inl ex]) [] I E := by
  have h0 := hok.1
  exact k_Borders_isFree_0 (fun _ => l_Borders_isFree hk hok hx h1 h2 h (I k 0).toNat 0 (by omega) rfl)
end LB
