/-! Table: sums, locks, numerators, strips -/
theorem k_Table_locksOf_0 {G : ga_G} {d : Nat} {I : ga_I} {E : Option ga_V → ga_I → Prop} {k : Nat} {v1 : Int} 
    (h : ga_RG I → ga_W G (d + 1) mt_Table_locksOf 4 [some (.inr k), some (.inl v1), some (.inl 0), some (.inl 0), none] [] I E) :
    ga_W G (d + 1) mt_Table_locksOf 0 (ga_en 5 [.inr k, .inl v1]) [] I E := by
  show ga_W G (d + 1) mt_Table_locksOf 0 [some (.inr k), some (.inl v1), none, none, none] [] I E
  refine gw_RG (fun hI1 => ?_)
  have h := h hI1
  refine gw_iconst d_Table_locksOf_0 ?_
  refine gw_istore_n 2 d_Table_locksOf_1 rfl (Nat.le_of_ble_eq_true rfl) rfl ?_
  refine gw_iconst d_Table_locksOf_2 ?_
  refine gw_istore_n 3 d_Table_locksOf_3 rfl (Nat.le_of_ble_eq_true rfl) rfl ?_
  exact gw_le h (by exact ⟨rfl, ⟨rfl, ⟨rfl, ⟨rfl, trivial⟩⟩⟩⟩)
theorem k_Table_locksOf_4 {G : ga_G} {d : Nat} {I : ga_I} {E : Option ga_V → ga_I → Prop} {k : Nat} {v1 : Int} {v2 : Int} {v3 : Int} (hk : ga_isT k) (r3 : ga_rg v3)
    (h : ga_RG I → (((I (k + 1) 0) < v3) → E (some (.inl v2)) I) ∧ ((¬ ((I (k + 1) 0) < v3)) → ga_W G (d + 1) mt_Table_locksOf 18 [some (.inr k), some (.inl v1), some (.inl v2), some (.inl v3), some (.inl 0)] [] I E)) :
    ga_W G (d + 1) mt_Table_locksOf 4 [some (.inr k), some (.inl v1), some (.inl v2), some (.inl v3), none] [] I E := by
  refine gw_RG (fun hI1 => ?_)
  have h := h hI1
  refine gw_iload_n 3 d_Table_locksOf_4 rfl rfl ?_
  refine gw_aload_n 0 d_Table_locksOf_5 rfl rfl ?_
  refine gw_getR d_Table_locksOf_6 fl_Table_12 (hk.1) rfl ?_
  refine gw_getI d_Table_locksOf_9 fl_Table_35 (hk.2.1.1) rfl ?_
  refine gw_icmp_gt 59 d_Table_locksOf_12 (by decide) r3 (hI1 _ _) (fun hc => ?_) (fun hc => ?_)
  · have h := h.1 hc
    refine gw_iload_n 2 d_Table_locksOf_59 rfl rfl ?_
    exact gw_ireturn d_Table_locksOf_60 rfl h
  · have h := h.2 hc
    refine gw_iconst d_Table_locksOf_15 ?_
    refine gw_istore 4 d_Table_locksOf_16 (Nat.le_of_ble_eq_true rfl) rfl ?_
    exact gw_le h (by exact ⟨rfl, ⟨rfl, ⟨rfl, ⟨rfl, ⟨rfl, trivial⟩⟩⟩⟩⟩)
theorem k_Table_locksOf_18 {G : ga_G} {d : Nat} {I : ga_I} {E : Option ga_V → ga_I → Prop} {k : Nat} {v1 : Int} {v2 : Int} {v3 : Int} {v4 : Int} (hk : ga_isT k) (r1 : ga_rg v1) (r4 : ga_rg v4)
    (h : ga_RG I → (((I (k + 5) 0) < v4) → ga_W G (d + 1) mt_Table_locksOf 4 [some (.inr k), some (.inl v1), some (.inl v2), some (.inl (v3 + 1)), none] [] I E) ∧ ((¬ ((I (k + 5) 0) < v4)) → (0 ≤ (v3 * 7 + v4) ∧ (v3 * 7 + v4) < 49) ∧ ((((I (k + 10) (v3 * 7 + v4).toNat) ≠ v1) → ga_W G (d + 1) mt_Table_locksOf 18 [some (.inr k), some (.inl v1), some (.inl v2), some (.inl v3), some (.inl (v4 + 1))] [] I E) ∧ (((I (k + 10) (v3 * 7 + v4).toNat) = v1) → ga_W G (d + 1) mt_Table_locksOf 18 [some (.inr k), some (.inl v1), some (.inl (v2 + 1)), some (.inl v3), some (.inl (v4 + 1))] [] I E)))) :
    ga_W G (d + 1) mt_Table_locksOf 18 [some (.inr k), some (.inl v1), some (.inl v2), some (.inl v3), some (.inl v4)] [] I E := by
  refine gw_RG (fun hI1 => ?_)
  have h := h hI1
  refine gw_iload 4 d_Table_locksOf_18 rfl ?_
  refine gw_aload_n 0 d_Table_locksOf_20 rfl rfl ?_
  refine gw_getR d_Table_locksOf_21 fl_Table_18 (hk.1) rfl ?_
  refine gw_getI d_Table_locksOf_24 fl_Table_35 (hk.2.2.1.1) rfl ?_
  refine gw_icmp_gt 53 d_Table_locksOf_27 (by decide) r4 (hI1 _ _) (fun hc => ?_) (fun hc => ?_)
  · have h := h.1 hc
    refine gw_iinc 3 d_Table_locksOf_53 rfl rfl ?_
    refine gw_goto 4 d_Table_locksOf_56 (by decide) ?_
    exact gw_le h (by exact ⟨rfl, ⟨rfl, ⟨rfl, ⟨rfl, trivial⟩⟩⟩⟩)
  · have h := h.2 hc
    refine gw_aload_n 0 d_Table_locksOf_30 rfl rfl ?_
    refine gw_iload_n 3 d_Table_locksOf_31 rfl rfl ?_
    refine gw_iload 4 d_Table_locksOf_32 rfl ?_
    refine gw_invS (as := [.inl v3, .inl v4]) (rest := [.inr k]) (d' := d) d_Table_locksOf_34 lk_Table_49 rfl (Nat.le_of_ble_eq_true rfl) (Nat.le_of_ble_eq_true rfl) rfl rfl (s_Table_regionAt  ?_)
    show ga_W G (d + 1) mt_Table_locksOf 37 [some (.inr k), some (.inl v1), some (.inl v2), some (.inl v3), some (.inl v4)] [.inl (v3 * 7 + v4), .inr k] I E
    obtain ⟨g1, h⟩ := h
    refine gw_invV (as := [.inl (v3 * 7 + v4)]) (k := k) (rest := []) (d' := d) d_Table_locksOf_37 lk_Table_53 (ga_rcv (hk.1) rfl rfl) rfl (Nat.le_of_ble_eq_true rfl) (Nat.le_of_ble_eq_true rfl) rfl rfl (s_Table_lockAt hk g1 ?_)
    show ga_W G (d + 1) mt_Table_locksOf 40 [some (.inr k), some (.inl v1), some (.inl v2), some (.inl v3), some (.inl v4)] [.inl (I (k + 10) (v3 * 7 + v4).toNat)] I E
    refine gw_iload_n 1 d_Table_locksOf_40 rfl rfl ?_
    refine gw_icmp_ne 47 d_Table_locksOf_41 (by decide) (hI1 _ _) r1 (fun hc => ?_) (fun hc => ?_)
    · have h := h.1 hc
      refine gw_iinc 4 d_Table_locksOf_47 rfl rfl ?_
      refine gw_goto 18 d_Table_locksOf_50 (by decide) ?_
      exact gw_le h (by exact ⟨rfl, ⟨rfl, ⟨rfl, ⟨rfl, ⟨rfl, trivial⟩⟩⟩⟩⟩)
    · have h := h.2 hc
      refine gw_iinc 2 d_Table_locksOf_44 rfl rfl ?_
      refine gw_iinc 4 d_Table_locksOf_47 rfl rfl ?_
      refine gw_goto 18 d_Table_locksOf_50 (by decide) ?_
      exact gw_le h (by exact ⟨rfl, ⟨rfl, ⟨rfl, ⟨rfl, ⟨rfl, trivial⟩⟩⟩⟩⟩)

theorem k_Table_sumOfGains_0 {G : ga_G} {d : Nat} {I : ga_I} {E : Option ga_V → ga_I → Prop} {k : Nat} 
    (h : ga_RG I → ga_W G (d + 1) mt_Table_sumOfGains 4 [some (.inr k), some (.inl 0), some (.inl 0), none, none] [] I E) :
    ga_W G (d + 1) mt_Table_sumOfGains 0 (ga_en 5 [.inr k]) [] I E := by
  show ga_W G (d + 1) mt_Table_sumOfGains 0 [some (.inr k), none, none, none, none] [] I E
  refine gw_RG (fun hI1 => ?_)
  have h := h hI1
  refine gw_iconst d_Table_sumOfGains_0 ?_
  refine gw_istore_n 1 d_Table_sumOfGains_1 rfl (Nat.le_of_ble_eq_true rfl) rfl ?_
  refine gw_iconst d_Table_sumOfGains_2 ?_
  refine gw_istore_n 2 d_Table_sumOfGains_3 rfl (Nat.le_of_ble_eq_true rfl) rfl ?_
  exact gw_le h (by exact ⟨rfl, ⟨rfl, ⟨rfl, trivial⟩⟩⟩)
theorem k_Table_sumOfGains_4 {G : ga_G} {d : Nat} {I : ga_I} {E : Option ga_V → ga_I → Prop} {k : Nat} {v1 : Int} {v2 : Int} (hk : ga_isT k) (r2 : ga_rg v2)
    (h : ga_RG I → (((I (k + 1) 0) < v2) → E (some (.inl v1)) I) ∧ ((¬ ((I (k + 1) 0) < v2)) → ga_W G (d + 1) mt_Table_sumOfGains 17 [some (.inr k), some (.inl v1), some (.inl v2), some (.inl 0), none] [] I E)) :
    ga_W G (d + 1) mt_Table_sumOfGains 4 [some (.inr k), some (.inl v1), some (.inl v2), none, none] [] I E := by
  refine gw_RG (fun hI1 => ?_)
  have h := h hI1
  refine gw_iload_n 2 d_Table_sumOfGains_4 rfl rfl ?_
  refine gw_aload_n 0 d_Table_sumOfGains_5 rfl rfl ?_
  refine gw_getR d_Table_sumOfGains_6 fl_Table_12 (hk.1) rfl ?_
  refine gw_getI d_Table_sumOfGains_9 fl_Table_35 (hk.2.1.1) rfl ?_
  refine gw_icmp_gt 69 d_Table_sumOfGains_12 (by decide) r2 (hI1 _ _) (fun hc => ?_) (fun hc => ?_)
  · have h := h.1 hc
    refine gw_iload_n 1 d_Table_sumOfGains_69 rfl rfl ?_
    exact gw_ireturn d_Table_sumOfGains_70 rfl h
  · have h := h.2 hc
    refine gw_iconst d_Table_sumOfGains_15 ?_
    refine gw_istore_n 3 d_Table_sumOfGains_16 rfl (Nat.le_of_ble_eq_true rfl) rfl ?_
    exact gw_le h (by exact ⟨rfl, ⟨rfl, ⟨rfl, ⟨rfl, trivial⟩⟩⟩⟩)
theorem k_Table_sumOfGains_17 {G : ga_G} {d : Nat} {I : ga_I} {E : Option ga_V → ga_I → Prop} {k : Nat} {v1 : Int} {v2 : Int} {v3 : Int} (hk : ga_isT k) (r3 : ga_rg v3)
    (h : ga_RG I → (((I (k + 5) 0) < v3) → ga_W G (d + 1) mt_Table_sumOfGains 4 [some (.inr k), some (.inl v1), some (.inl (v2 + 1)), none, none] [] I E) ∧ ((¬ ((I (k + 5) 0) < v3)) → ga_W G (d + 1) mt_Table_sumOfGains 31 [some (.inr k), some (.inl v1), some (.inl v2), some (.inl v3), some (.inl 0)] [] I E)) :
    ga_W G (d + 1) mt_Table_sumOfGains 17 [some (.inr k), some (.inl v1), some (.inl v2), some (.inl v3), none] [] I E := by
  refine gw_RG (fun hI1 => ?_)
  have h := h hI1
  refine gw_iload_n 3 d_Table_sumOfGains_17 rfl rfl ?_
  refine gw_aload_n 0 d_Table_sumOfGains_18 rfl rfl ?_
  refine gw_getR d_Table_sumOfGains_19 fl_Table_18 (hk.1) rfl ?_
  refine gw_getI d_Table_sumOfGains_22 fl_Table_35 (hk.2.2.1.1) rfl ?_
  refine gw_icmp_gt 63 d_Table_sumOfGains_25 (by decide) r3 (hI1 _ _) (fun hc => ?_) (fun hc => ?_)
  · have h := h.1 hc
    refine gw_iinc 2 d_Table_sumOfGains_63 rfl rfl ?_
    refine gw_goto 4 d_Table_sumOfGains_66 (by decide) ?_
    exact gw_le h (by exact ⟨rfl, ⟨rfl, ⟨rfl, trivial⟩⟩⟩)
  · have h := h.2 hc
    refine gw_iconst d_Table_sumOfGains_28 ?_
    refine gw_istore 4 d_Table_sumOfGains_29 (Nat.le_of_ble_eq_true rfl) rfl ?_
    exact gw_le h (by exact ⟨rfl, ⟨rfl, ⟨rfl, ⟨rfl, ⟨rfl, trivial⟩⟩⟩⟩⟩)
theorem k_Table_sumOfGains_31 {G : ga_G} {d : Nat} {I : ga_I} {E : Option ga_V → ga_I → Prop} {k : Nat} {v1 : Int} {v2 : Int} {v3 : Int} {v4 : Int} (hk : ga_isT k) (r4 : ga_rg v4)
    (h : ga_RG I → ((3 ≤ v4) → ga_W G (d + 1) mt_Table_sumOfGains 17 [some (.inr k), some (.inl v1), some (.inl v2), some (.inl (v3 + 1)), none] [] I E) ∧ ((¬ (3 ≤ v4)) → (0 ≤ (v2 * 7 + v3) * 3 + v4 ∧ (v2 * 7 + v3) * 3 + v4 < 147) ∧ (ga_W G (d + 1) mt_Table_sumOfGains 31 [some (.inr k), some (.inl (v1 + (I (k + 9) ((v2 * 7 + v3) * 3 + v4).toNat))), some (.inl v2), some (.inl v3), some (.inl (v4 + 1))] [] I E))) :
    ga_W G (d + 1) mt_Table_sumOfGains 31 [some (.inr k), some (.inl v1), some (.inl v2), some (.inl v3), some (.inl v4)] [] I E := by
  refine gw_RG (fun hI1 => ?_)
  have h := h hI1
  refine gw_iload 4 d_Table_sumOfGains_31 rfl ?_
  refine gw_iconst d_Table_sumOfGains_33 ?_
  refine gw_icmp_ge 57 d_Table_sumOfGains_34 (by decide) r4 ⟨by decide, by decide⟩ (fun hc => ?_) (fun hc => ?_)
  · have h := h.1 hc
    refine gw_iinc 3 d_Table_sumOfGains_57 rfl rfl ?_
    refine gw_goto 17 d_Table_sumOfGains_60 (by decide) ?_
    exact gw_le h (by exact ⟨rfl, ⟨rfl, ⟨rfl, ⟨rfl, trivial⟩⟩⟩⟩)
  · have h := h.2 hc
    refine gw_iload_n 1 d_Table_sumOfGains_37 rfl rfl ?_
    refine gw_aload_n 0 d_Table_sumOfGains_38 rfl rfl ?_
    refine gw_iload_n 2 d_Table_sumOfGains_39 rfl rfl ?_
    refine gw_iload_n 3 d_Table_sumOfGains_40 rfl rfl ?_
    refine gw_invS (as := [.inl v2, .inl v3]) (rest := [.inr k, .inl v1]) (d' := d) d_Table_sumOfGains_41 lk_Table_49 rfl (Nat.le_of_ble_eq_true rfl) (Nat.le_of_ble_eq_true rfl) rfl rfl (s_Table_regionAt  ?_)
    show ga_W G (d + 1) mt_Table_sumOfGains 44 [some (.inr k), some (.inl v1), some (.inl v2), some (.inl v3), some (.inl v4)] [.inl (v2 * 7 + v3), .inr k, .inl v1] I E
    refine gw_iload 4 d_Table_sumOfGains_44 rfl ?_
    obtain ⟨g1, h⟩ := h
    refine gw_invV (as := [.inl (v2 * 7 + v3), .inl v4]) (k := k) (rest := [.inl v1]) (d' := d) d_Table_sumOfGains_46 lk_Table_57 (ga_rcv (hk.1) rfl rfl) rfl (Nat.le_of_ble_eq_true rfl) (Nat.le_of_ble_eq_true rfl) rfl rfl (s_Table_gainAt hk g1 ?_)
    show ga_W G (d + 1) mt_Table_sumOfGains 49 [some (.inr k), some (.inl v1), some (.inl v2), some (.inl v3), some (.inl v4)] [.inl (I (k + 9) ((v2 * 7 + v3) * 3 + v4).toNat), .inl v1] I E
    refine gw_iadd d_Table_sumOfGains_49 ?_
    refine gw_istore_n 1 d_Table_sumOfGains_50 rfl (Nat.le_of_ble_eq_true rfl) rfl ?_
    refine gw_iinc 4 d_Table_sumOfGains_51 rfl rfl ?_
    refine gw_goto 31 d_Table_sumOfGains_54 (by decide) ?_
    exact gw_le h (by exact ⟨rfl, ⟨rfl, ⟨rfl, ⟨rfl, ⟨rfl, trivial⟩⟩⟩⟩⟩)

theorem k_Table_numerator_0 {G : ga_G} {d : Nat} {I : ga_I} {E : Option ga_V → ga_I → Prop} {k : Nat} {o1 : Nat} {o2 : Nat} {v3 : Int} (hk : ga_isT k) (ho1 : ga_isL o1) (ho2 : ga_isL o2)
    (h : ga_RG I → (0 ≤ ((I o1 0) * 7 + (I o2 0)) * 3 + v3 ∧ ((I o1 0) * 7 + (I o2 0)) * 3 + v3 < 147) ∧ ((0 ≤ ((I o1 1) * 7 + (I o2 0)) * 3 + v3 ∧ ((I o1 1) * 7 + (I o2 0)) * 3 + v3 < 147) ∧ ((0 ≤ ((I o1 0) * 7 + (I o2 1)) * 3 + v3 ∧ ((I o1 0) * 7 + (I o2 1)) * 3 + v3 < 147) ∧ ((0 ≤ ((I o1 1) * 7 + (I o2 1)) * 3 + v3 ∧ ((I o1 1) * 7 + (I o2 1)) * 3 + v3 < 147) ∧ (E (some (.inl (((((((I o1 3) - (I o1 2)) * ((I o2 3) - (I o2 2))) * (I (k + 9) (((I o1 0) * 7 + (I o2 0)) * 3 + v3).toNat)) + (((I o1 2) * ((I o2 3) - (I o2 2))) * (I (k + 9) (((I o1 1) * 7 + (I o2 0)) * 3 + v3).toNat))) + ((((I o1 3) - (I o1 2)) * (I o2 2)) * (I (k + 9) (((I o1 0) * 7 + (I o2 1)) * 3 + v3).toNat))) + (((I o1 2) * (I o2 2)) * (I (k + 9) (((I o1 1) * 7 + (I o2 1)) * 3 + v3).toNat))))) I))))) :
    ga_W G (d + 1) mt_Table_numerator 0 (ga_en 6 [.inr k, .inr o1, .inr o2, .inl v3]) [] I E := by
  show ga_W G (d + 1) mt_Table_numerator 0 [some (.inr k), some (.inr o1), some (.inr o2), some (.inl v3), none, none] [] I E
  refine gw_RG (fun hI1 => ?_)
  have h := h hI1
  refine gw_aload_n 1 d_Table_numerator_0 rfl rfl ?_
  refine gw_getI d_Table_numerator_1 fl_Table_60 (ho1) rfl ?_
  refine gw_aload_n 1 d_Table_numerator_4 rfl rfl ?_
  refine gw_getI d_Table_numerator_5 fl_Table_65 (ho1) rfl ?_
  refine gw_isub d_Table_numerator_8 ?_
  refine gw_istore 4 d_Table_numerator_9 (Nat.le_of_ble_eq_true rfl) rfl ?_
  refine gw_aload_n 2 d_Table_numerator_11 rfl rfl ?_
  refine gw_getI d_Table_numerator_12 fl_Table_60 (ho2) rfl ?_
  refine gw_aload_n 2 d_Table_numerator_15 rfl rfl ?_
  refine gw_getI d_Table_numerator_16 fl_Table_65 (ho2) rfl ?_
  refine gw_isub d_Table_numerator_19 ?_
  refine gw_istore 5 d_Table_numerator_20 (Nat.le_of_ble_eq_true rfl) rfl ?_
  refine gw_iload 4 d_Table_numerator_22 rfl ?_
  refine gw_iload 5 d_Table_numerator_24 rfl ?_
  refine gw_imul d_Table_numerator_26 ?_
  refine gw_aload_n 0 d_Table_numerator_27 rfl rfl ?_
  refine gw_aload_n 1 d_Table_numerator_28 rfl rfl ?_
  refine gw_getI d_Table_numerator_29 fl_Table_68 (ho1) rfl ?_
  refine gw_aload_n 2 d_Table_numerator_32 rfl rfl ?_
  refine gw_getI d_Table_numerator_33 fl_Table_68 (ho2) rfl ?_
  refine gw_invS (as := [.inl (I o1 0), .inl (I o2 0)]) (rest := [.inr k, .inl (((I o1 3) - (I o1 2)) * ((I o2 3) - (I o2 2)))]) (d' := d) d_Table_numerator_36 lk_Table_49 rfl (Nat.le_of_ble_eq_true rfl) (Nat.le_of_ble_eq_true rfl) rfl rfl (s_Table_regionAt  ?_)
  show ga_W G (d + 1) mt_Table_numerator 39 [some (.inr k), some (.inr o1), some (.inr o2), some (.inl v3), some (.inl ((I o1 3) - (I o1 2))), some (.inl ((I o2 3) - (I o2 2)))] [.inl ((I o1 0) * 7 + (I o2 0)), .inr k, .inl (((I o1 3) - (I o1 2)) * ((I o2 3) - (I o2 2)))] I E
  refine gw_iload_n 3 d_Table_numerator_39 rfl rfl ?_
  obtain ⟨g1, h⟩ := h
  refine gw_invV (as := [.inl ((I o1 0) * 7 + (I o2 0)), .inl v3]) (k := k) (rest := [.inl (((I o1 3) - (I o1 2)) * ((I o2 3) - (I o2 2)))]) (d' := d) d_Table_numerator_40 lk_Table_57 (ga_rcv (hk.1) rfl rfl) rfl (Nat.le_of_ble_eq_true rfl) (Nat.le_of_ble_eq_true rfl) rfl rfl (s_Table_gainAt hk g1 ?_)
  show ga_W G (d + 1) mt_Table_numerator 43 [some (.inr k), some (.inr o1), some (.inr o2), some (.inl v3), some (.inl ((I o1 3) - (I o1 2))), some (.inl ((I o2 3) - (I o2 2)))] [.inl (I (k + 9) (((I o1 0) * 7 + (I o2 0)) * 3 + v3).toNat), .inl (((I o1 3) - (I o1 2)) * ((I o2 3) - (I o2 2)))] I E
  refine gw_imul d_Table_numerator_43 ?_
  refine gw_aload_n 1 d_Table_numerator_44 rfl rfl ?_
  refine gw_getI d_Table_numerator_45 fl_Table_65 (ho1) rfl ?_
  refine gw_iload 5 d_Table_numerator_48 rfl ?_
  refine gw_imul d_Table_numerator_50 ?_
  refine gw_aload_n 0 d_Table_numerator_51 rfl rfl ?_
  refine gw_aload_n 1 d_Table_numerator_52 rfl rfl ?_
  refine gw_getI d_Table_numerator_53 fl_Table_71 (ho1) rfl ?_
  refine gw_aload_n 2 d_Table_numerator_56 rfl rfl ?_
  refine gw_getI d_Table_numerator_57 fl_Table_68 (ho2) rfl ?_
  refine gw_invS (as := [.inl (I o1 1), .inl (I o2 0)]) (rest := [.inr k, .inl ((I o1 2) * ((I o2 3) - (I o2 2))), .inl ((((I o1 3) - (I o1 2)) * ((I o2 3) - (I o2 2))) * (I (k + 9) (((I o1 0) * 7 + (I o2 0)) * 3 + v3).toNat))]) (d' := d) d_Table_numerator_60 lk_Table_49 rfl (Nat.le_of_ble_eq_true rfl) (Nat.le_of_ble_eq_true rfl) rfl rfl (s_Table_regionAt  ?_)
  show ga_W G (d + 1) mt_Table_numerator 63 [some (.inr k), some (.inr o1), some (.inr o2), some (.inl v3), some (.inl ((I o1 3) - (I o1 2))), some (.inl ((I o2 3) - (I o2 2)))] [.inl ((I o1 1) * 7 + (I o2 0)), .inr k, .inl ((I o1 2) * ((I o2 3) - (I o2 2))), .inl ((((I o1 3) - (I o1 2)) * ((I o2 3) - (I o2 2))) * (I (k + 9) (((I o1 0) * 7 + (I o2 0)) * 3 + v3).toNat))] I E
  refine gw_iload_n 3 d_Table_numerator_63 rfl rfl ?_
  obtain ⟨g2, h⟩ := h
  refine gw_invV (as := [.inl ((I o1 1) * 7 + (I o2 0)), .inl v3]) (k := k) (rest := [.inl ((I o1 2) * ((I o2 3) - (I o2 2))), .inl ((((I o1 3) - (I o1 2)) * ((I o2 3) - (I o2 2))) * (I (k + 9) (((I o1 0) * 7 + (I o2 0)) * 3 + v3).toNat))]) (d' := d) d_Table_numerator_64 lk_Table_57 (ga_rcv (hk.1) rfl rfl) rfl (Nat.le_of_ble_eq_true rfl) (Nat.le_of_ble_eq_true rfl) rfl rfl (s_Table_gainAt hk g2 ?_)
  show ga_W G (d + 1) mt_Table_numerator 67 [some (.inr k), some (.inr o1), some (.inr o2), some (.inl v3), some (.inl ((I o1 3) - (I o1 2))), some (.inl ((I o2 3) - (I o2 2)))] [.inl (I (k + 9) (((I o1 1) * 7 + (I o2 0)) * 3 + v3).toNat), .inl ((I o1 2) * ((I o2 3) - (I o2 2))), .inl ((((I o1 3) - (I o1 2)) * ((I o2 3) - (I o2 2))) * (I (k + 9) (((I o1 0) * 7 + (I o2 0)) * 3 + v3).toNat))] I E
  refine gw_imul d_Table_numerator_67 ?_
  refine gw_iadd d_Table_numerator_68 ?_
  refine gw_iload 4 d_Table_numerator_69 rfl ?_
  refine gw_aload_n 2 d_Table_numerator_71 rfl rfl ?_
  refine gw_getI d_Table_numerator_72 fl_Table_65 (ho2) rfl ?_
  refine gw_imul d_Table_numerator_75 ?_
  refine gw_aload_n 0 d_Table_numerator_76 rfl rfl ?_
  refine gw_aload_n 1 d_Table_numerator_77 rfl rfl ?_
  refine gw_getI d_Table_numerator_78 fl_Table_68 (ho1) rfl ?_
  refine gw_aload_n 2 d_Table_numerator_81 rfl rfl ?_
  refine gw_getI d_Table_numerator_82 fl_Table_71 (ho2) rfl ?_
  refine gw_invS (as := [.inl (I o1 0), .inl (I o2 1)]) (rest := [.inr k, .inl (((I o1 3) - (I o1 2)) * (I o2 2)), .inl (((((I o1 3) - (I o1 2)) * ((I o2 3) - (I o2 2))) * (I (k + 9) (((I o1 0) * 7 + (I o2 0)) * 3 + v3).toNat)) + (((I o1 2) * ((I o2 3) - (I o2 2))) * (I (k + 9) (((I o1 1) * 7 + (I o2 0)) * 3 + v3).toNat)))]) (d' := d) d_Table_numerator_85 lk_Table_49 rfl (Nat.le_of_ble_eq_true rfl) (Nat.le_of_ble_eq_true rfl) rfl rfl (s_Table_regionAt  ?_)
  show ga_W G (d + 1) mt_Table_numerator 88 [some (.inr k), some (.inr o1), some (.inr o2), some (.inl v3), some (.inl ((I o1 3) - (I o1 2))), some (.inl ((I o2 3) - (I o2 2)))] [.inl ((I o1 0) * 7 + (I o2 1)), .inr k, .inl (((I o1 3) - (I o1 2)) * (I o2 2)), .inl (((((I o1 3) - (I o1 2)) * ((I o2 3) - (I o2 2))) * (I (k + 9) (((I o1 0) * 7 + (I o2 0)) * 3 + v3).toNat)) + (((I o1 2) * ((I o2 3) - (I o2 2))) * (I (k + 9) (((I o1 1) * 7 + (I o2 0)) * 3 + v3).toNat)))] I E
  refine gw_iload_n 3 d_Table_numerator_88 rfl rfl ?_
  obtain ⟨g3, h⟩ := h
  refine gw_invV (as := [.inl ((I o1 0) * 7 + (I o2 1)), .inl v3]) (k := k) (rest := [.inl (((I o1 3) - (I o1 2)) * (I o2 2)), .inl (((((I o1 3) - (I o1 2)) * ((I o2 3) - (I o2 2))) * (I (k + 9) (((I o1 0) * 7 + (I o2 0)) * 3 + v3).toNat)) + (((I o1 2) * ((I o2 3) - (I o2 2))) * (I (k + 9) (((I o1 1) * 7 + (I o2 0)) * 3 + v3).toNat)))]) (d' := d) d_Table_numerator_89 lk_Table_57 (ga_rcv (hk.1) rfl rfl) rfl (Nat.le_of_ble_eq_true rfl) (Nat.le_of_ble_eq_true rfl) rfl rfl (s_Table_gainAt hk g3 ?_)
  show ga_W G (d + 1) mt_Table_numerator 92 [some (.inr k), some (.inr o1), some (.inr o2), some (.inl v3), some (.inl ((I o1 3) - (I o1 2))), some (.inl ((I o2 3) - (I o2 2)))] [.inl (I (k + 9) (((I o1 0) * 7 + (I o2 1)) * 3 + v3).toNat), .inl (((I o1 3) - (I o1 2)) * (I o2 2)), .inl (((((I o1 3) - (I o1 2)) * ((I o2 3) - (I o2 2))) * (I (k + 9) (((I o1 0) * 7 + (I o2 0)) * 3 + v3).toNat)) + (((I o1 2) * ((I o2 3) - (I o2 2))) * (I (k + 9) (((I o1 1) * 7 + (I o2 0)) * 3 + v3).toNat)))] I E
  refine gw_imul d_Table_numerator_92 ?_
  refine gw_iadd d_Table_numerator_93 ?_
  refine gw_aload_n 1 d_Table_numerator_94 rfl rfl ?_
  refine gw_getI d_Table_numerator_95 fl_Table_65 (ho1) rfl ?_
  refine gw_aload_n 2 d_Table_numerator_98 rfl rfl ?_
  refine gw_getI d_Table_numerator_99 fl_Table_65 (ho2) rfl ?_
  refine gw_imul d_Table_numerator_102 ?_
  refine gw_aload_n 0 d_Table_numerator_103 rfl rfl ?_
  refine gw_aload_n 1 d_Table_numerator_104 rfl rfl ?_
  refine gw_getI d_Table_numerator_105 fl_Table_71 (ho1) rfl ?_
  refine gw_aload_n 2 d_Table_numerator_108 rfl rfl ?_
  refine gw_getI d_Table_numerator_109 fl_Table_71 (ho2) rfl ?_
  refine gw_invS (as := [.inl (I o1 1), .inl (I o2 1)]) (rest := [.inr k, .inl ((I o1 2) * (I o2 2)), .inl ((((((I o1 3) - (I o1 2)) * ((I o2 3) - (I o2 2))) * (I (k + 9) (((I o1 0) * 7 + (I o2 0)) * 3 + v3).toNat)) + (((I o1 2) * ((I o2 3) - (I o2 2))) * (I (k + 9) (((I o1 1) * 7 + (I o2 0)) * 3 + v3).toNat))) + ((((I o1 3) - (I o1 2)) * (I o2 2)) * (I (k + 9) (((I o1 0) * 7 + (I o2 1)) * 3 + v3).toNat)))]) (d' := d) d_Table_numerator_112 lk_Table_49 rfl (Nat.le_of_ble_eq_true rfl) (Nat.le_of_ble_eq_true rfl) rfl rfl (s_Table_regionAt  ?_)
  show ga_W G (d + 1) mt_Table_numerator 115 [some (.inr k), some (.inr o1), some (.inr o2), some (.inl v3), some (.inl ((I o1 3) - (I o1 2))), some (.inl ((I o2 3) - (I o2 2)))] [.inl ((I o1 1) * 7 + (I o2 1)), .inr k, .inl ((I o1 2) * (I o2 2)), .inl ((((((I o1 3) - (I o1 2)) * ((I o2 3) - (I o2 2))) * (I (k + 9) (((I o1 0) * 7 + (I o2 0)) * 3 + v3).toNat)) + (((I o1 2) * ((I o2 3) - (I o2 2))) * (I (k + 9) (((I o1 1) * 7 + (I o2 0)) * 3 + v3).toNat))) + ((((I o1 3) - (I o1 2)) * (I o2 2)) * (I (k + 9) (((I o1 0) * 7 + (I o2 1)) * 3 + v3).toNat)))] I E
  refine gw_iload_n 3 d_Table_numerator_115 rfl rfl ?_
  obtain ⟨g4, h⟩ := h
  refine gw_invV (as := [.inl ((I o1 1) * 7 + (I o2 1)), .inl v3]) (k := k) (rest := [.inl ((I o1 2) * (I o2 2)), .inl ((((((I o1 3) - (I o1 2)) * ((I o2 3) - (I o2 2))) * (I (k + 9) (((I o1 0) * 7 + (I o2 0)) * 3 + v3).toNat)) + (((I o1 2) * ((I o2 3) - (I o2 2))) * (I (k + 9) (((I o1 1) * 7 + (I o2 0)) * 3 + v3).toNat))) + ((((I o1 3) - (I o1 2)) * (I o2 2)) * (I (k + 9) (((I o1 0) * 7 + (I o2 1)) * 3 + v3).toNat)))]) (d' := d) d_Table_numerator_116 lk_Table_57 (ga_rcv (hk.1) rfl rfl) rfl (Nat.le_of_ble_eq_true rfl) (Nat.le_of_ble_eq_true rfl) rfl rfl (s_Table_gainAt hk g4 ?_)
  show ga_W G (d + 1) mt_Table_numerator 119 [some (.inr k), some (.inr o1), some (.inr o2), some (.inl v3), some (.inl ((I o1 3) - (I o1 2))), some (.inl ((I o2 3) - (I o2 2)))] [.inl (I (k + 9) (((I o1 1) * 7 + (I o2 1)) * 3 + v3).toNat), .inl ((I o1 2) * (I o2 2)), .inl ((((((I o1 3) - (I o1 2)) * ((I o2 3) - (I o2 2))) * (I (k + 9) (((I o1 0) * 7 + (I o2 0)) * 3 + v3).toNat)) + (((I o1 2) * ((I o2 3) - (I o2 2))) * (I (k + 9) (((I o1 1) * 7 + (I o2 0)) * 3 + v3).toNat))) + ((((I o1 3) - (I o1 2)) * (I o2 2)) * (I (k + 9) (((I o1 0) * 7 + (I o2 1)) * 3 + v3).toNat)))] I E
  refine gw_imul d_Table_numerator_119 ?_
  refine gw_iadd d_Table_numerator_120 ?_
  exact gw_ireturn d_Table_numerator_121 rfl h

theorem k_Table_copyStrip_0 {G : ga_G} {d : Nat} {I : ga_I} {E : Option ga_V → ga_I → Prop} {k : Nat} {v1 : Int} {v2 : Int} {v3 : Int} 
    (h : ga_RG I → ga_W G (d + 1) mt_Table_copyStrip 3 [some (.inr k), some (.inl v1), some (.inl v2), some (.inl v3), some (.inl 0), none, none, none] [] I E) :
    ga_W G (d + 1) mt_Table_copyStrip 0 (ga_en 8 [.inr k, .inl v1, .inl v2, .inl v3]) [] I E := by
  show ga_W G (d + 1) mt_Table_copyStrip 0 [some (.inr k), some (.inl v1), some (.inl v2), some (.inl v3), none, none, none, none] [] I E
  refine gw_RG (fun hI1 => ?_)
  have h := h hI1
  refine gw_iconst d_Table_copyStrip_0 ?_
  refine gw_istore 4 d_Table_copyStrip_1 (Nat.le_of_ble_eq_true rfl) rfl ?_
  exact gw_le h (by exact ⟨rfl, ⟨rfl, ⟨rfl, ⟨rfl, ⟨rfl, trivial⟩⟩⟩⟩⟩)
theorem k_Table_copyStrip_3 {G : ga_G} {d : Nat} {I : ga_I} {E : Option ga_V → ga_I → Prop} {k : Nat} {v1 : Int} {v2 : Int} {v3 : Int} {v4 : Int} (r1 : ga_rg v1) (r4 : ga_rg v4)
    (h : ga_RG I → ((7 ≤ v4) → E none I) ∧ ((¬ (7 ≤ v4)) → ((v1 ≠ 0) → ((v1 ≠ 0) → ga_W G (d + 1) mt_Table_copyStrip 55 [some (.inr k), some (.inl v1), some (.inl v2), some (.inl v3), some (.inl v4), some (.inl (v4 * 7 + v2)), some (.inl (v4 * 7 + v3)), some (.inl 0)] [] I E) ∧ ((v1 = 0) → ga_W G (d + 1) mt_Table_copyStrip 55 [some (.inr k), some (.inl v1), some (.inl v2), some (.inl v3), some (.inl v4), some (.inl (v4 * 7 + v2)), some (.inl (v3 * 7 + v4)), some (.inl 0)] [] I E)) ∧ ((v1 = 0) → ((v1 ≠ 0) → ga_W G (d + 1) mt_Table_copyStrip 55 [some (.inr k), some (.inl v1), some (.inl v2), some (.inl v3), some (.inl v4), some (.inl (v2 * 7 + v4)), some (.inl (v4 * 7 + v3)), some (.inl 0)] [] I E) ∧ ((v1 = 0) → ga_W G (d + 1) mt_Table_copyStrip 55 [some (.inr k), some (.inl v1), some (.inl v2), some (.inl v3), some (.inl v4), some (.inl (v2 * 7 + v4)), some (.inl (v3 * 7 + v4)), some (.inl 0)] [] I E)))) :
    ga_W G (d + 1) mt_Table_copyStrip 3 [some (.inr k), some (.inl v1), some (.inl v2), some (.inl v3), some (.inl v4), none, none, none] [] I E := by
  refine gw_RG (fun hI1 => ?_)
  have h := h hI1
  refine gw_iload 4 d_Table_copyStrip_3 rfl ?_
  refine gw_bipush d_Table_copyStrip_5 (by decide +kernel) ?_
  refine gw_icmp_ge 101 d_Table_copyStrip_7 (by decide) r4 ⟨by decide, by decide⟩ (fun hc => ?_) (fun hc => ?_)
  · have h := h.1 hc
    exact gw_return d_Table_copyStrip_101 rfl h
  · have h := h.2 hc
    refine gw_iload_n 1 d_Table_copyStrip_10 rfl rfl ?_
    refine gw_if_ne 23 d_Table_copyStrip_11 (by decide) r1 (fun hc => ?_) (fun hc => ?_)
    · have h := h.1 hc
      refine gw_iload 4 d_Table_copyStrip_23 rfl ?_
      refine gw_iload_n 2 d_Table_copyStrip_25 rfl rfl ?_
      refine gw_invS (as := [.inl v4, .inl v2]) (rest := []) (d' := d) d_Table_copyStrip_26 lk_Table_49 rfl (Nat.le_of_ble_eq_true rfl) (Nat.le_of_ble_eq_true rfl) rfl rfl (s_Table_regionAt  ?_)
      show ga_W G (d + 1) mt_Table_copyStrip 29 [some (.inr k), some (.inl v1), some (.inl v2), some (.inl v3), some (.inl v4), none, none, none] [.inl (v4 * 7 + v2)] I E
      refine gw_istore 5 d_Table_copyStrip_29 (Nat.le_of_ble_eq_true rfl) rfl ?_
      refine gw_iload_n 1 d_Table_copyStrip_31 rfl rfl ?_
      refine gw_if_ne 44 d_Table_copyStrip_32 (by decide) r1 (fun hc => ?_) (fun hc => ?_)
      · have h := h.1 hc
        refine gw_iload 4 d_Table_copyStrip_44 rfl ?_
        refine gw_iload_n 3 d_Table_copyStrip_46 rfl rfl ?_
        refine gw_invS (as := [.inl v4, .inl v3]) (rest := []) (d' := d) d_Table_copyStrip_47 lk_Table_49 rfl (Nat.le_of_ble_eq_true rfl) (Nat.le_of_ble_eq_true rfl) rfl rfl (s_Table_regionAt  ?_)
        show ga_W G (d + 1) mt_Table_copyStrip 50 [some (.inr k), some (.inl v1), some (.inl v2), some (.inl v3), some (.inl v4), some (.inl (v4 * 7 + v2)), none, none] [.inl (v4 * 7 + v3)] I E
        refine gw_istore 6 d_Table_copyStrip_50 (Nat.le_of_ble_eq_true rfl) rfl ?_
        refine gw_iconst d_Table_copyStrip_52 ?_
        refine gw_istore 7 d_Table_copyStrip_53 (Nat.le_of_ble_eq_true rfl) rfl ?_
        exact gw_le h (by exact ⟨rfl, ⟨rfl, ⟨rfl, ⟨rfl, ⟨rfl, ⟨rfl, ⟨rfl, ⟨rfl, trivial⟩⟩⟩⟩⟩⟩⟩⟩)
      · have h := h.2 hc
        refine gw_iload_n 3 d_Table_copyStrip_35 rfl rfl ?_
        refine gw_iload 4 d_Table_copyStrip_36 rfl ?_
        refine gw_invS (as := [.inl v3, .inl v4]) (rest := []) (d' := d) d_Table_copyStrip_38 lk_Table_49 rfl (Nat.le_of_ble_eq_true rfl) (Nat.le_of_ble_eq_true rfl) rfl rfl (s_Table_regionAt  ?_)
        show ga_W G (d + 1) mt_Table_copyStrip 41 [some (.inr k), some (.inl v1), some (.inl v2), some (.inl v3), some (.inl v4), some (.inl (v4 * 7 + v2)), none, none] [.inl (v3 * 7 + v4)] I E
        refine gw_goto 50 d_Table_copyStrip_41 (by decide) ?_
        refine gw_istore 6 d_Table_copyStrip_50 (Nat.le_of_ble_eq_true rfl) rfl ?_
        refine gw_iconst d_Table_copyStrip_52 ?_
        refine gw_istore 7 d_Table_copyStrip_53 (Nat.le_of_ble_eq_true rfl) rfl ?_
        exact gw_le h (by exact ⟨rfl, ⟨rfl, ⟨rfl, ⟨rfl, ⟨rfl, ⟨rfl, ⟨rfl, ⟨rfl, trivial⟩⟩⟩⟩⟩⟩⟩⟩)
    · have h := h.2 hc
      refine gw_iload_n 2 d_Table_copyStrip_14 rfl rfl ?_
      refine gw_iload 4 d_Table_copyStrip_15 rfl ?_
      refine gw_invS (as := [.inl v2, .inl v4]) (rest := []) (d' := d) d_Table_copyStrip_17 lk_Table_49 rfl (Nat.le_of_ble_eq_true rfl) (Nat.le_of_ble_eq_true rfl) rfl rfl (s_Table_regionAt  ?_)
      show ga_W G (d + 1) mt_Table_copyStrip 20 [some (.inr k), some (.inl v1), some (.inl v2), some (.inl v3), some (.inl v4), none, none, none] [.inl (v2 * 7 + v4)] I E
      refine gw_goto 29 d_Table_copyStrip_20 (by decide) ?_
      refine gw_istore 5 d_Table_copyStrip_29 (Nat.le_of_ble_eq_true rfl) rfl ?_
      refine gw_iload_n 1 d_Table_copyStrip_31 rfl rfl ?_
      refine gw_if_ne 44 d_Table_copyStrip_32 (by decide) r1 (fun hc => ?_) (fun hc => ?_)
      · have h := h.1 hc
        refine gw_iload 4 d_Table_copyStrip_44 rfl ?_
        refine gw_iload_n 3 d_Table_copyStrip_46 rfl rfl ?_
        refine gw_invS (as := [.inl v4, .inl v3]) (rest := []) (d' := d) d_Table_copyStrip_47 lk_Table_49 rfl (Nat.le_of_ble_eq_true rfl) (Nat.le_of_ble_eq_true rfl) rfl rfl (s_Table_regionAt  ?_)
        show ga_W G (d + 1) mt_Table_copyStrip 50 [some (.inr k), some (.inl v1), some (.inl v2), some (.inl v3), some (.inl v4), some (.inl (v2 * 7 + v4)), none, none] [.inl (v4 * 7 + v3)] I E
        refine gw_istore 6 d_Table_copyStrip_50 (Nat.le_of_ble_eq_true rfl) rfl ?_
        refine gw_iconst d_Table_copyStrip_52 ?_
        refine gw_istore 7 d_Table_copyStrip_53 (Nat.le_of_ble_eq_true rfl) rfl ?_
        exact gw_le h (by exact ⟨rfl, ⟨rfl, ⟨rfl, ⟨rfl, ⟨rfl, ⟨rfl, ⟨rfl, ⟨rfl, trivial⟩⟩⟩⟩⟩⟩⟩⟩)
      · have h := h.2 hc
        refine gw_iload_n 3 d_Table_copyStrip_35 rfl rfl ?_
        refine gw_iload 4 d_Table_copyStrip_36 rfl ?_
        refine gw_invS (as := [.inl v3, .inl v4]) (rest := []) (d' := d) d_Table_copyStrip_38 lk_Table_49 rfl (Nat.le_of_ble_eq_true rfl) (Nat.le_of_ble_eq_true rfl) rfl rfl (s_Table_regionAt  ?_)
        show ga_W G (d + 1) mt_Table_copyStrip 41 [some (.inr k), some (.inl v1), some (.inl v2), some (.inl v3), some (.inl v4), some (.inl (v2 * 7 + v4)), none, none] [.inl (v3 * 7 + v4)] I E
        refine gw_goto 50 d_Table_copyStrip_41 (by decide) ?_
        refine gw_istore 6 d_Table_copyStrip_50 (Nat.le_of_ble_eq_true rfl) rfl ?_
        refine gw_iconst d_Table_copyStrip_52 ?_
        refine gw_istore 7 d_Table_copyStrip_53 (Nat.le_of_ble_eq_true rfl) rfl ?_
        exact gw_le h (by exact ⟨rfl, ⟨rfl, ⟨rfl, ⟨rfl, ⟨rfl, ⟨rfl, ⟨rfl, ⟨rfl, trivial⟩⟩⟩⟩⟩⟩⟩⟩)
theorem k_Table_copyStrip_55 {G : ga_G} {d : Nat} {I : ga_I} {E : Option ga_V → ga_I → Prop} {k : Nat} {v1 : Int} {v2 : Int} {v3 : Int} {v4 : Int} {v5 : Int} {v6 : Int} {v7 : Int} (hk : ga_isT k) (r7 : ga_rg v7)
    (h : ga_RG I → ((3 ≤ v7) → (0 ≤ v5 ∧ v5 < 49) ∧ ((0 ≤ v6 ∧ v6 < 49) ∧ (ga_W G (d + 1) mt_Table_copyStrip 3 [some (.inr k), some (.inl v1), some (.inl v2), some (.inl v3), some (.inl (v4 + 1)), none, none, none] [] (ga_up I (k + 10) v6.toNat (I (k + 10) v5.toNat)) E))) ∧ ((¬ (3 ≤ v7)) → (0 ≤ v5 * 3 + v7 ∧ v5 * 3 + v7 < 147) ∧ ((0 ≤ v6 * 3 + v7 ∧ v6 * 3 + v7 < 147) ∧ (ga_W G (d + 1) mt_Table_copyStrip 55 [some (.inr k), some (.inl v1), some (.inl v2), some (.inl v3), some (.inl v4), some (.inl v5), some (.inl v6), some (.inl (v7 + 1))] [] (ga_up I (k + 9) (v6 * 3 + v7).toNat (I (k + 9) (v5 * 3 + v7).toNat)) E)))) :
    ga_W G (d + 1) mt_Table_copyStrip 55 [some (.inr k), some (.inl v1), some (.inl v2), some (.inl v3), some (.inl v4), some (.inl v5), some (.inl v6), some (.inl v7)] [] I E := by
  refine gw_RG (fun hI1 => ?_)
  have h := h hI1
  refine gw_iload 7 d_Table_copyStrip_55 rfl ?_
  refine gw_iconst d_Table_copyStrip_57 ?_
  refine gw_icmp_ge 83 d_Table_copyStrip_58 (by decide) r7 ⟨by decide, by decide⟩ (fun hc => ?_) (fun hc => ?_)
  · have h := h.1 hc
    refine gw_aload_n 0 d_Table_copyStrip_83 rfl rfl ?_
    refine gw_iload 6 d_Table_copyStrip_84 rfl ?_
    refine gw_aload_n 0 d_Table_copyStrip_86 rfl rfl ?_
    refine gw_iload 5 d_Table_copyStrip_87 rfl ?_
    obtain ⟨g1, h⟩ := h
    refine gw_invV (as := [.inl v5]) (k := k) (rest := [.inl v6, .inr k]) (d' := d) d_Table_copyStrip_89 lk_Table_53 (ga_rcv (hk.1) rfl rfl) rfl (Nat.le_of_ble_eq_true rfl) (Nat.le_of_ble_eq_true rfl) rfl rfl (s_Table_lockAt hk g1 ?_)
    show ga_W G (d + 1) mt_Table_copyStrip 92 [some (.inr k), some (.inl v1), some (.inl v2), some (.inl v3), some (.inl v4), some (.inl v5), some (.inl v6), some (.inl v7)] [.inl (I (k + 10) v5.toNat), .inl v6, .inr k] I E
    obtain ⟨g2, h⟩ := h
    refine gw_invV (as := [.inl v6, .inl (I (k + 10) v5.toNat)]) (k := k) (rest := []) (d' := d) d_Table_copyStrip_92 lk_Table_93 (ga_rcv (hk.1) rfl rfl) rfl (Nat.le_of_ble_eq_true rfl) (Nat.le_of_ble_eq_true rfl) rfl rfl (s_Table_putLock hk g2 (hI1 _ _) ?_)
    show ga_W G (d + 1) mt_Table_copyStrip 95 [some (.inr k), some (.inl v1), some (.inl v2), some (.inl v3), some (.inl v4), some (.inl v5), some (.inl v6), some (.inl v7)] [] (ga_up I (k + 10) v6.toNat (I (k + 10) v5.toNat)) E
    refine gw_RG (fun hI2 => ?_)
    refine gw_iinc 4 d_Table_copyStrip_95 rfl rfl ?_
    refine gw_goto 3 d_Table_copyStrip_98 (by decide) ?_
    exact gw_le h (by exact ⟨rfl, ⟨rfl, ⟨rfl, ⟨rfl, ⟨rfl, trivial⟩⟩⟩⟩⟩)
  · have h := h.2 hc
    refine gw_aload_n 0 d_Table_copyStrip_61 rfl rfl ?_
    refine gw_iload 6 d_Table_copyStrip_62 rfl ?_
    refine gw_iload 7 d_Table_copyStrip_64 rfl ?_
    refine gw_aload_n 0 d_Table_copyStrip_66 rfl rfl ?_
    refine gw_iload 5 d_Table_copyStrip_67 rfl ?_
    refine gw_iload 7 d_Table_copyStrip_69 rfl ?_
    obtain ⟨g3, h⟩ := h
    refine gw_invV (as := [.inl v5, .inl v7]) (k := k) (rest := [.inl v7, .inl v6, .inr k]) (d' := d) d_Table_copyStrip_71 lk_Table_57 (ga_rcv (hk.1) rfl rfl) rfl (Nat.le_of_ble_eq_true rfl) (Nat.le_of_ble_eq_true rfl) rfl rfl (s_Table_gainAt hk g3 ?_)
    show ga_W G (d + 1) mt_Table_copyStrip 74 [some (.inr k), some (.inl v1), some (.inl v2), some (.inl v3), some (.inl v4), some (.inl v5), some (.inl v6), some (.inl v7)] [.inl (I (k + 9) (v5 * 3 + v7).toNat), .inl v7, .inl v6, .inr k] I E
    obtain ⟨g4, h⟩ := h
    refine gw_invV (as := [.inl v6, .inl v7, .inl (I (k + 9) (v5 * 3 + v7).toNat)]) (k := k) (rest := []) (d' := d) d_Table_copyStrip_74 lk_Table_90 (ga_rcv (hk.1) rfl rfl) rfl (Nat.le_of_ble_eq_true rfl) (Nat.le_of_ble_eq_true rfl) rfl rfl (s_Table_putGain hk g4 (hI1 _ _) ?_)
    show ga_W G (d + 1) mt_Table_copyStrip 77 [some (.inr k), some (.inl v1), some (.inl v2), some (.inl v3), some (.inl v4), some (.inl v5), some (.inl v6), some (.inl v7)] [] (ga_up I (k + 9) (v6 * 3 + v7).toNat (I (k + 9) (v5 * 3 + v7).toNat)) E
    refine gw_RG (fun hI3 => ?_)
    refine gw_iinc 7 d_Table_copyStrip_77 rfl rfl ?_
    refine gw_goto 55 d_Table_copyStrip_80 (by decide) ?_
    exact gw_le h (by exact ⟨rfl, ⟨rfl, ⟨rfl, ⟨rfl, ⟨rfl, ⟨rfl, ⟨rfl, ⟨rfl, trivial⟩⟩⟩⟩⟩⟩⟩⟩)

