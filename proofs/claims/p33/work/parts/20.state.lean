/-! State -/
theorem gw_nm {G : ga_G} {d : Nat} {mt : ga_M} {pc : Nat} {lst : List (Option ga_V)} {st : List ga_V} {J : ga_I} {E : Option ga_V → ga_I → Prop} (K : ∀ I3 : ga_I, I3 = J → ga_W G d mt pc lst st I3 E) : ga_W G d mt pc lst st J E := K J rfl
theorem gw_nz {G : ga_G} {d : Nat} {mt : ga_M} {pc : Nat} {lst : List (Option ga_V)} {st : List ga_V} {I : ga_I} {E : Option ga_V → ga_I → Prop} {z : Int} (K : ∀ z1 : Int, z1 = z → ga_W G d mt pc lst (.inl z1 :: st) I E) : ga_W G d mt pc lst (.inl z :: st) I E := K z rfl
theorem k_State_snapshotAt_0 {G : ga_G} {d : Nat} {I : ga_I} {E : Option ga_V → ga_I → Prop} {k : Nat} {v1 : Int} (hk : ga_isS k) (r1 : ga_rg v1)
    (h : ga_RG I → ((v1 ≠ 0) → ((v1 ≠ 1) → E (some (.inr (k + 34))) I) ∧ ((v1 = 1) → E (some (.inr (k + 23))) I)) ∧ ((v1 = 0) → E (some (.inr (k + 12))) I)) :
    ga_W G d mt_State_snapshotAt 0 (ga_en 2 [.inr k, .inl v1]) [] I E := by
  show ga_W G d mt_State_snapshotAt 0 [some (.inr k), some (.inl v1)] [] I E
  refine gw_RG (fun hI1 => ?_)
  have h := h hI1
  refine gw_iload_n 1 d_State_snapshotAt_0 rfl rfl ?_
  refine gw_if_ne 9 d_State_snapshotAt_1 (by decide) r1 (fun hc => ?_) (fun hc => ?_)
  · have h := h.1 hc
    refine gw_iload_n 1 d_State_snapshotAt_9 rfl rfl ?_
    refine gw_iconst d_State_snapshotAt_10 ?_
    refine gw_icmp_ne 21 d_State_snapshotAt_11 (by decide) r1 ⟨by decide, by decide⟩ (fun hc => ?_) (fun hc => ?_)
    · have h := h.1 hc
      refine gw_aload_n 0 d_State_snapshotAt_21 rfl rfl ?_
      refine gw_getR d_State_snapshotAt_22 fl_State_24 (hk.1) rfl ?_
      exact gw_areturn d_State_snapshotAt_25 rfl h
    · have h := h.2 hc
      refine gw_aload_n 0 d_State_snapshotAt_14 rfl rfl ?_
      refine gw_getR d_State_snapshotAt_15 fl_State_21 (hk.1) rfl ?_
      refine gw_goto 25 d_State_snapshotAt_18 (by decide) ?_
      exact gw_areturn d_State_snapshotAt_25 rfl h
  · have h := h.2 hc
    refine gw_aload_n 0 d_State_snapshotAt_4 rfl rfl ?_
    refine gw_getR d_State_snapshotAt_5 fl_State_18 (hk.1) rfl ?_
    exact gw_areturn d_State_snapshotAt_8 rfl h

theorem k_State_placesTaken_0 {G : ga_G} {d : Nat} {I : ga_I} {E : Option ga_V → ga_I → Prop} {k : Nat} 
    (h : ga_RG I → ga_W G d mt_State_placesTaken 4 [some (.inr k), some (.inl 0), some (.inl 0)] [] I E) :
    ga_W G d mt_State_placesTaken 0 (ga_en 3 [.inr k]) [] I E := by
  show ga_W G d mt_State_placesTaken 0 [some (.inr k), none, none] [] I E
  refine gw_RG (fun hI1 => ?_)
  have h := h hI1
  refine gw_iconst d_State_placesTaken_0 ?_
  refine gw_istore_n 1 d_State_placesTaken_1 rfl (Nat.le_of_ble_eq_true rfl) rfl ?_
  refine gw_iconst d_State_placesTaken_2 ?_
  refine gw_istore_n 2 d_State_placesTaken_3 rfl (Nat.le_of_ble_eq_true rfl) rfl ?_
  exact gw_le h (by exact ⟨rfl, ⟨rfl, ⟨rfl, trivial⟩⟩⟩)
theorem k_State_placesTaken_4 {G : ga_G} {d : Nat} {I : ga_I} {E : Option ga_V → ga_I → Prop} {k : Nat} {v1 : Int} {v2 : Int} (hk : ga_isS k) (r2 : ga_rg v2)
    (h : ga_RG I → ((3 ≤ v2) → E (some (.inl v1)) I) ∧ ((¬ (3 ≤ v2)) → (0 ≤ v2) ∧ ((v2 < 3) ∧ ((((I (k + 45) v2.toNat) = 0) → ga_W G d mt_State_placesTaken 4 [some (.inr k), some (.inl v1), some (.inl (v2 + 1))] [] I E) ∧ ((¬ ((I (k + 45) v2.toNat) = 0)) → ga_W G d mt_State_placesTaken 4 [some (.inr k), some (.inl (v1 + 1)), some (.inl (v2 + 1))] [] I E))))) :
    ga_W G d mt_State_placesTaken 4 [some (.inr k), some (.inl v1), some (.inl v2)] [] I E := by
  refine gw_RG (fun hI1 => ?_)
  have h := h hI1
  refine gw_iload_n 2 d_State_placesTaken_4 rfl rfl ?_
  refine gw_iconst d_State_placesTaken_5 ?_
  refine gw_icmp_ge 27 d_State_placesTaken_6 (by decide) r2 ⟨by decide, by decide⟩ (fun hc => ?_) (fun hc => ?_)
  · have h := h.1 hc
    refine gw_iload_n 1 d_State_placesTaken_27 rfl rfl ?_
    exact gw_ireturn d_State_placesTaken_28 rfl h
  · have h := h.2 hc
    refine gw_aload_n 0 d_State_placesTaken_9 rfl rfl ?_
    refine gw_getR d_State_placesTaken_10 fl_State_27 (hk.1) rfl ?_
    refine gw_iload_n 2 d_State_placesTaken_13 rfl rfl ?_
    obtain ⟨g1, h⟩ := h
    obtain ⟨g2, h⟩ := h
    refine gw_zald d_State_placesTaken_14 (hk.2.2.2.2.2.1) g1 g2 ?_
    refine gw_if_eq 21 d_State_placesTaken_15 (by decide) (hI1 _ _) (fun hc => ?_) (fun hc => ?_)
    · have h := h.1 hc
      refine gw_iinc 2 d_State_placesTaken_21 rfl rfl ?_
      refine gw_goto 4 d_State_placesTaken_24 (by decide) ?_
      exact gw_le h (by exact ⟨rfl, ⟨rfl, ⟨rfl, trivial⟩⟩⟩)
    · have h := h.2 hc
      refine gw_iinc 1 d_State_placesTaken_18 rfl rfl ?_
      refine gw_iinc 2 d_State_placesTaken_21 rfl rfl ?_
      refine gw_goto 4 d_State_placesTaken_24 (by decide) ?_
      exact gw_le h (by exact ⟨rfl, ⟨rfl, ⟨rfl, trivial⟩⟩⟩)

theorem k_State_sumOfAccounts_0 {G : ga_G} {d : Nat} {I : ga_I} {E : Option ga_V → ga_I → Prop} {k : Nat} 
    (h : ga_RG I → ga_W G d mt_State_sumOfAccounts 4 [some (.inr k), some (.inl 0), some (.inl 0)] [] I E) :
    ga_W G d mt_State_sumOfAccounts 0 (ga_en 3 [.inr k]) [] I E := by
  show ga_W G d mt_State_sumOfAccounts 0 [some (.inr k), none, none] [] I E
  refine gw_RG (fun hI1 => ?_)
  have h := h hI1
  refine gw_iconst d_State_sumOfAccounts_0 ?_
  refine gw_istore_n 1 d_State_sumOfAccounts_1 rfl (Nat.le_of_ble_eq_true rfl) rfl ?_
  refine gw_iconst d_State_sumOfAccounts_2 ?_
  refine gw_istore_n 2 d_State_sumOfAccounts_3 rfl (Nat.le_of_ble_eq_true rfl) rfl ?_
  exact gw_le h (by exact ⟨rfl, ⟨rfl, ⟨rfl, trivial⟩⟩⟩)
theorem k_State_sumOfAccounts_4 {G : ga_G} {d : Nat} {I : ga_I} {E : Option ga_V → ga_I → Prop} {k : Nat} {v1 : Int} {v2 : Int} (hk : ga_isS k) (r2 : ga_rg v2)
    (h : ga_RG I → ((4 ≤ v2) → E (some (.inl v1)) I) ∧ ((¬ (4 ≤ v2)) → (0 ≤ v2) ∧ ((v2 < 4) ∧ (ga_W G d mt_State_sumOfAccounts 4 [some (.inr k), some (.inl (v1 + (I (k + 53) v2.toNat))), some (.inl (v2 + 1))] [] I E)))) :
    ga_W G d mt_State_sumOfAccounts 4 [some (.inr k), some (.inl v1), some (.inl v2)] [] I E := by
  refine gw_RG (fun hI1 => ?_)
  have h := h hI1
  refine gw_iload_n 2 d_State_sumOfAccounts_4 rfl rfl ?_
  refine gw_aload_n 0 d_State_sumOfAccounts_5 rfl rfl ?_
  refine gw_getR d_State_sumOfAccounts_6 fl_State_54 (hk.1) rfl ?_
  refine gw_alenZ (z := 4) d_State_sumOfAccounts_9 (hk.2.2.2.2.2.2.2.2.2.2.2.2) (by decide) rfl ?_
  refine gw_icmp_ge 28 d_State_sumOfAccounts_10 (by decide) r2 ⟨by decide, by decide⟩ (fun hc => ?_) (fun hc => ?_)
  · have h := h.1 hc
    refine gw_iload_n 1 d_State_sumOfAccounts_28 rfl rfl ?_
    exact gw_ireturn d_State_sumOfAccounts_29 rfl h
  · have h := h.2 hc
    refine gw_iload_n 1 d_State_sumOfAccounts_13 rfl rfl ?_
    refine gw_aload_n 0 d_State_sumOfAccounts_14 rfl rfl ?_
    refine gw_getR d_State_sumOfAccounts_15 fl_State_54 (hk.1) rfl ?_
    refine gw_iload_n 2 d_State_sumOfAccounts_18 rfl rfl ?_
    obtain ⟨g1, h⟩ := h
    obtain ⟨g2, h⟩ := h
    refine gw_iald d_State_sumOfAccounts_19 (hk.2.2.2.2.2.2.2.2.2.2.2.2) g1 g2 ?_
    refine gw_iadd d_State_sumOfAccounts_20 ?_
    refine gw_istore_n 1 d_State_sumOfAccounts_21 rfl (Nat.le_of_ble_eq_true rfl) rfl ?_
    refine gw_iinc 2 d_State_sumOfAccounts_22 rfl rfl ?_
    refine gw_goto 4 d_State_sumOfAccounts_25 (by decide) ?_
    exact gw_le h (by exact ⟨rfl, ⟨rfl, ⟨rfl, trivial⟩⟩⟩)

theorem k_State_findZones_0 {G : ga_G} {d : Nat} {I : ga_I} {E : Option ga_V → ga_I → Prop} {k : Nat} (hk : ga_isS k)
    (h : ga_RG I → (gb_ok I (k + 2)) ∧ ((∀ z1 : Int, z1 = gp_zo (I ((k + 2) + 1)) (I ((k + 2) + 2)) (I (k + 46) 0) (I (k + 2) 0).toNat → (∀ I1 : ga_I, I1 = (ga_up I (k + 47) 0 (ga_wr z1)) → (gb_ok I1 (k + 6)) ∧ ((∀ z2 : Int, z2 = gp_zo (I1 ((k + 6) + 1)) (I1 ((k + 6) + 2)) (I1 (k + 46) 1) (I1 (k + 6) 0).toNat → (∀ I2 : ga_I, I2 = (ga_up I1 (k + 47) 1 (ga_wr z2)) → E none I2))))))) :
    ga_W G (d + 1) mt_State_findZones 0 (ga_en 1 [.inr k]) [] I E := by
  show ga_W G (d + 1) mt_State_findZones 0 [some (.inr k)] [] I E
  refine gw_RG (fun hI1 => ?_)
  have h := h hI1
  refine gw_aload_n 0 d_State_findZones_0 rfl rfl ?_
  refine gw_getR d_State_findZones_1 fl_State_35 (hk.1) rfl ?_
  refine gw_iconst d_State_findZones_4 ?_
  refine gw_aload_n 0 d_State_findZones_5 rfl rfl ?_
  refine gw_getR d_State_findZones_6 fl_State_12 (hk.1) rfl ?_
  refine gw_getR d_State_findZones_9 fl_State_86 (hk.2.1.1) rfl ?_
  refine gw_aload_n 0 d_State_findZones_12 rfl rfl ?_
  refine gw_getR d_State_findZones_13 fl_State_31 (hk.1) rfl ?_
  refine gw_iconst d_State_findZones_16 ?_
  refine gw_iald d_State_findZones_17 (hk.2.2.2.2.2.2.1) (by decide) (by decide) ?_
  obtain ⟨g1, h⟩ := h
  refine gw_invV (as := [.inl (I (k + 46) 0)]) (k := k + 2) (rest := [.inl 0, .inr (k + 47)]) (d' := d) d_State_findZones_18 lk_State_90 (ga_rcv (hk.2.1.2.1.1) rfl rfl) rfl (Nat.le_of_ble_eq_true rfl) (Nat.le_of_ble_eq_true rfl) rfl rfl (s_Borders_zoneOf hk.2.1.2.1 g1 (hI1 _ _) ?_)
  show ga_W G (d + 1) mt_State_findZones 21 [some (.inr k)] [.inl (gp_zo (I ((k + 2) + 1)) (I ((k + 2) + 2)) (I (k + 46) 0) (I (k + 2) 0).toNat), .inl 0, .inr (k + 47)] I E
  refine gw_nz (z := gp_zo (I ((k + 2) + 1)) (I ((k + 2) + 2)) (I (k + 46) 0) (I (k + 2) 0).toNat) (fun z1 q1 => ?_)
  have h := h z1 q1
  refine gw_iast d_State_findZones_21 (hk.2.2.2.2.2.2.2.1) (by decide) (by decide) ?_
  refine gw_nm (J := (ga_up I (k + 47) 0 (ga_wr z1))) (fun I1 q2 => ?_)
  have h := h I1 q2
  refine gw_RG (fun hI2 => ?_)
  refine gw_aload_n 0 d_State_findZones_22 rfl rfl ?_
  refine gw_getR d_State_findZones_23 fl_State_35 (hk.1) rfl ?_
  refine gw_iconst d_State_findZones_26 ?_
  refine gw_aload_n 0 d_State_findZones_27 rfl rfl ?_
  refine gw_getR d_State_findZones_28 fl_State_12 (hk.1) rfl ?_
  refine gw_getR d_State_findZones_31 fl_State_96 (hk.2.1.1) rfl ?_
  refine gw_aload_n 0 d_State_findZones_34 rfl rfl ?_
  refine gw_getR d_State_findZones_35 fl_State_31 (hk.1) rfl ?_
  refine gw_iconst d_State_findZones_38 ?_
  refine gw_iald d_State_findZones_39 (hk.2.2.2.2.2.2.1) (by decide) (by decide) ?_
  obtain ⟨g2, h⟩ := h
  refine gw_invV (as := [.inl (I1 (k + 46) 1)]) (k := k + 6) (rest := [.inl 1, .inr (k + 47)]) (d' := d) d_State_findZones_40 lk_State_90 (ga_rcv (hk.2.1.2.2.1.1) rfl rfl) rfl (Nat.le_of_ble_eq_true rfl) (Nat.le_of_ble_eq_true rfl) rfl rfl (s_Borders_zoneOf hk.2.1.2.2.1 g2 (hI2 _ _) ?_)
  show ga_W G (d + 1) mt_State_findZones 43 [some (.inr k)] [.inl (gp_zo (I1 ((k + 6) + 1)) (I1 ((k + 6) + 2)) (I1 (k + 46) 1) (I1 (k + 6) 0).toNat), .inl 1, .inr (k + 47)] I1 E
  refine gw_nz (z := gp_zo (I1 ((k + 6) + 1)) (I1 ((k + 6) + 2)) (I1 (k + 46) 1) (I1 (k + 6) 0).toNat) (fun z2 q3 => ?_)
  have h := h z2 q3
  refine gw_iast d_State_findZones_43 (hk.2.2.2.2.2.2.2.1) (by decide) (by decide) ?_
  refine gw_nm (J := (ga_up I1 (k + 47) 1 (ga_wr z2))) (fun I2 q4 => ?_)
  have h := h I2 q4
  refine gw_RG (fun hI3 => ?_)
  exact gw_return d_State_findZones_44 rfl h

theorem k_State_ignores_0 {G : ga_G} {d : Nat} {I : ga_I} {E : Option ga_V → ga_I → Prop} {k : Nat} {v1 : Int} {v2 : Int} (hk : ga_isS k)
    (h : ga_RG I → (ga_rg (v1 - (I (k + 46) 0))) ∧ ((ga_rg ((v1 - (I (k + 46) 0)).natAbs : Int)) ∧ ((((I k 7) ≤ ((v1 - (I (k + 46) 0)).natAbs : Int)) → E (some (.inl 0)) I) ∧ ((¬ ((I k 7) ≤ ((v1 - (I (k + 46) 0)).natAbs : Int))) → (ga_rg (v2 - (I (k + 46) 1))) ∧ ((ga_rg ((v2 - (I (k + 46) 1)).natAbs : Int)) ∧ ((((I k 7) ≤ ((v2 - (I (k + 46) 1)).natAbs : Int)) → E (some (.inl 0)) I) ∧ ((¬ ((I k 7) ≤ ((v2 - (I (k + 46) 1)).natAbs : Int))) → E (some (.inl 1)) I))))))) :
    ga_W G (d + 1) mt_State_ignores 0 (ga_en 3 [.inr k, .inl v1, .inl v2]) [] I E := by
  show ga_W G (d + 1) mt_State_ignores 0 [some (.inr k), some (.inl v1), some (.inl v2)] [] I E
  refine gw_RG (fun hI1 => ?_)
  have h := h hI1
  refine gw_iload_n 1 d_State_ignores_0 rfl rfl ?_
  refine gw_aload_n 0 d_State_ignores_1 rfl rfl ?_
  refine gw_getR d_State_ignores_2 fl_State_31 (hk.1) rfl ?_
  refine gw_iconst d_State_ignores_5 ?_
  refine gw_iald d_State_ignores_6 (hk.2.2.2.2.2.2.1) (by decide) (by decide) ?_
  refine gw_isub d_State_ignores_7 ?_
  obtain ⟨g1, h⟩ := h
  refine gw_mabs d_State_ignores_8 lk_State_110 g1 (by omega) (Nat.le_of_ble_eq_true rfl) ?_
  refine gw_aload_n 0 d_State_ignores_11 rfl rfl ?_
  refine gw_getI d_State_ignores_12 fl_State_73 (hk.1) rfl ?_
  obtain ⟨g2, h⟩ := h
  refine gw_icmp_ge 40 d_State_ignores_15 (by decide) g2 (hI1 _ _) (fun hc => ?_) (fun hc => ?_)
  · have h := h.1 hc
    refine gw_iconst d_State_ignores_40 ?_
    exact gw_zreturn d_State_ignores_41 rfl (by decide) h
  · have h := h.2 hc
    refine gw_iload_n 2 d_State_ignores_18 rfl rfl ?_
    refine gw_aload_n 0 d_State_ignores_19 rfl rfl ?_
    refine gw_getR d_State_ignores_20 fl_State_31 (hk.1) rfl ?_
    refine gw_iconst d_State_ignores_23 ?_
    refine gw_iald d_State_ignores_24 (hk.2.2.2.2.2.2.1) (by decide) (by decide) ?_
    refine gw_isub d_State_ignores_25 ?_
    obtain ⟨g3, h⟩ := h
    refine gw_mabs d_State_ignores_26 lk_State_110 g3 (by omega) (Nat.le_of_ble_eq_true rfl) ?_
    refine gw_aload_n 0 d_State_ignores_29 rfl rfl ?_
    refine gw_getI d_State_ignores_30 fl_State_73 (hk.1) rfl ?_
    obtain ⟨g4, h⟩ := h
    refine gw_icmp_ge 40 d_State_ignores_33 (by decide) g4 (hI1 _ _) (fun hc => ?_) (fun hc => ?_)
    · have h := h.1 hc
      refine gw_iconst d_State_ignores_40 ?_
      exact gw_zreturn d_State_ignores_41 rfl (by decide) h
    · have h := h.2 hc
      refine gw_iconst d_State_ignores_36 ?_
      refine gw_goto 41 d_State_ignores_37 (by decide) ?_
      exact gw_zreturn d_State_ignores_41 rfl (by decide) h

theorem k_State_reasonAgainst_0 {G : ga_G} {d : Nat} {I : ga_I} {E : Option ga_V → ga_I → Prop} {k : Nat} {v1 : Int} {v2 : Int} {v3 : Int} {v4 : Int} (hk : ga_isS k) (r1 : ga_rg v1)
    (h : ga_RG I → (0 ≤ v2 ∧ v2 < 49) ∧ ((((I ((k + 1) + 10) v2.toNat) = (-2000000009)) → (0 ≤ v2 * 3 + v3 ∧ v2 * 3 + v3 < 147) ∧ ((ga_rg (v4 - (I ((k + 1) + 9) (v2 * 3 + v3).toNat))) ∧ ((0 ≤ v1) ∧ ((v1 < 3) ∧ ((ga_rg ((v4 - (I ((k + 1) + 9) (v2 * 3 + v3).toNat)).natAbs : Int)) ∧ (((((v4 - (I ((k + 1) + 9) (v2 * 3 + v3).toNat)).natAbs : Int) ≤ (I (k + 50) v1.toNat)) → ((((v4 - (I ((k + 1) + 9) (v2 * 3 + v3).toNat)).natAbs : Int) ≤ (I (k + 51) v1.toNat)) → E (some (.inl 0)) I) ∧ ((¬ (((v4 - (I ((k + 1) + 9) (v2 * 3 + v3).toNat)).natAbs : Int) ≤ (I (k + 51) v1.toNat))) → E (some (.inl 3)) I)) ∧ ((¬ (((v4 - (I ((k + 1) + 9) (v2 * 3 + v3).toNat)).natAbs : Int) ≤ (I (k + 50) v1.toNat))) → E (some (.inl 2)) I))))))) ∧ ((¬ ((I ((k + 1) + 10) v2.toNat) = (-2000000009))) → (((I ((k + 1) + 10) v2.toNat) = v1) → (0 ≤ v2 * 3 + v3 ∧ v2 * 3 + v3 < 147) ∧ ((ga_rg (v4 - (I ((k + 1) + 9) (v2 * 3 + v3).toNat))) ∧ ((0 ≤ v1) ∧ ((v1 < 3) ∧ ((ga_rg ((v4 - (I ((k + 1) + 9) (v2 * 3 + v3).toNat)).natAbs : Int)) ∧ (((((v4 - (I ((k + 1) + 9) (v2 * 3 + v3).toNat)).natAbs : Int) ≤ (I (k + 50) v1.toNat)) → ((((v4 - (I ((k + 1) + 9) (v2 * 3 + v3).toNat)).natAbs : Int) ≤ (I (k + 51) v1.toNat)) → E (some (.inl 0)) I) ∧ ((¬ (((v4 - (I ((k + 1) + 9) (v2 * 3 + v3).toNat)).natAbs : Int) ≤ (I (k + 51) v1.toNat))) → E (some (.inl 3)) I)) ∧ ((¬ (((v4 - (I ((k + 1) + 9) (v2 * 3 + v3).toNat)).natAbs : Int) ≤ (I (k + 50) v1.toNat))) → E (some (.inl 2)) I))))))) ∧ ((¬ ((I ((k + 1) + 10) v2.toNat) = v1)) → E (some (.inl 1)) I)))) :
    ga_W G (d + 1) mt_State_reasonAgainst 0 (ga_en 7 [.inr k, .inl v1, .inl v2, .inl v3, .inl v4]) [] I E := by
  show ga_W G (d + 1) mt_State_reasonAgainst 0 [some (.inr k), some (.inl v1), some (.inl v2), some (.inl v3), some (.inl v4), none, none] [] I E
  refine gw_RG (fun hI1 => ?_)
  have h := h hI1
  refine gw_aload_n 0 d_State_reasonAgainst_0 rfl rfl ?_
  refine gw_getR d_State_reasonAgainst_1 fl_State_12 (hk.1) rfl ?_
  refine gw_iload_n 2 d_State_reasonAgainst_4 rfl rfl ?_
  obtain ⟨g1, h⟩ := h
  refine gw_invV (as := [.inl v2]) (k := k + 1) (rest := []) (d' := d) d_State_reasonAgainst_5 lk_State_126 (ga_rcv (hk.2.1.1) rfl rfl) rfl (Nat.le_of_ble_eq_true rfl) (Nat.le_of_ble_eq_true rfl) rfl rfl (s_Table_lockAt hk.2.1 g1 ?_)
  show ga_W G (d + 1) mt_State_reasonAgainst 8 [some (.inr k), some (.inl v1), some (.inl v2), some (.inl v3), some (.inl v4), none, none] [.inl (I ((k + 1) + 10) v2.toNat)] I E
  refine gw_istore 5 d_State_reasonAgainst_8 (Nat.le_of_ble_eq_true rfl) rfl ?_
  refine gw_iload 5 d_State_reasonAgainst_10 rfl ?_
  refine gw_ldc (n := (-2000000009)) d_State_reasonAgainst_12 kw_State_129 (by decide +kernel) ?_
  refine gw_icmp_eq 25 d_State_reasonAgainst_14 (by decide) (hI1 _ _) ⟨by decide, by decide⟩ (fun hc => ?_) (fun hc => ?_)
  · have h := h.1 hc
    refine gw_iload 4 d_State_reasonAgainst_25 rfl ?_
    refine gw_aload_n 0 d_State_reasonAgainst_27 rfl rfl ?_
    refine gw_getR d_State_reasonAgainst_28 fl_State_12 (hk.1) rfl ?_
    refine gw_iload_n 2 d_State_reasonAgainst_31 rfl rfl ?_
    refine gw_iload_n 3 d_State_reasonAgainst_32 rfl rfl ?_
    obtain ⟨g2, h⟩ := h
    refine gw_invV (as := [.inl v2, .inl v3]) (k := k + 1) (rest := [.inl v4]) (d' := d) d_State_reasonAgainst_33 lk_State_130 (ga_rcv (hk.2.1.1) rfl rfl) rfl (Nat.le_of_ble_eq_true rfl) (Nat.le_of_ble_eq_true rfl) rfl rfl (s_Table_gainAt hk.2.1 g2 ?_)
    show ga_W G (d + 1) mt_State_reasonAgainst 36 [some (.inr k), some (.inl v1), some (.inl v2), some (.inl v3), some (.inl v4), some (.inl (I ((k + 1) + 10) v2.toNat)), none] [.inl (I ((k + 1) + 9) (v2 * 3 + v3).toNat), .inl v4] I E
    refine gw_isub d_State_reasonAgainst_36 ?_
    obtain ⟨g3, h⟩ := h
    refine gw_mabs d_State_reasonAgainst_37 lk_State_110 g3 (by omega) (Nat.le_of_ble_eq_true rfl) ?_
    refine gw_istore 6 d_State_reasonAgainst_40 (Nat.le_of_ble_eq_true rfl) rfl ?_
    refine gw_iload 6 d_State_reasonAgainst_42 rfl ?_
    refine gw_aload_n 0 d_State_reasonAgainst_44 rfl rfl ?_
    refine gw_getR d_State_reasonAgainst_45 fl_State_45 (hk.1) rfl ?_
    refine gw_iload_n 1 d_State_reasonAgainst_48 rfl rfl ?_
    obtain ⟨g4, h⟩ := h
    obtain ⟨g5, h⟩ := h
    refine gw_iald d_State_reasonAgainst_49 (hk.2.2.2.2.2.2.2.2.2.1) g4 g5 ?_
    obtain ⟨g6, h⟩ := h
    refine gw_icmp_le 55 d_State_reasonAgainst_50 (by decide) g6 (hI1 _ _) (fun hc => ?_) (fun hc => ?_)
    · have h := h.1 hc
      refine gw_iload 6 d_State_reasonAgainst_55 rfl ?_
      refine gw_aload_n 0 d_State_reasonAgainst_57 rfl rfl ?_
      refine gw_getR d_State_reasonAgainst_58 fl_State_48 (hk.1) rfl ?_
      refine gw_iload_n 1 d_State_reasonAgainst_61 rfl rfl ?_
      refine gw_iald d_State_reasonAgainst_62 (hk.2.2.2.2.2.2.2.2.2.2.1) g4 g5 ?_
      refine gw_icmp_le 70 d_State_reasonAgainst_63 (by decide) g6 (hI1 _ _) (fun hc => ?_) (fun hc => ?_)
      · have h := h.1 hc
        refine gw_iconst d_State_reasonAgainst_70 ?_
        exact gw_ireturn d_State_reasonAgainst_71 rfl h
      · have h := h.2 hc
        refine gw_iconst d_State_reasonAgainst_66 ?_
        refine gw_goto 71 d_State_reasonAgainst_67 (by decide) ?_
        exact gw_ireturn d_State_reasonAgainst_71 rfl h
    · have h := h.2 hc
      refine gw_iconst d_State_reasonAgainst_53 ?_
      exact gw_ireturn d_State_reasonAgainst_54 rfl h
  · have h := h.2 hc
    refine gw_iload 5 d_State_reasonAgainst_17 rfl ?_
    refine gw_iload_n 1 d_State_reasonAgainst_19 rfl rfl ?_
    refine gw_icmp_eq 25 d_State_reasonAgainst_20 (by decide) (hI1 _ _) r1 (fun hc => ?_) (fun hc => ?_)
    · have h := h.1 hc
      refine gw_iload 4 d_State_reasonAgainst_25 rfl ?_
      refine gw_aload_n 0 d_State_reasonAgainst_27 rfl rfl ?_
      refine gw_getR d_State_reasonAgainst_28 fl_State_12 (hk.1) rfl ?_
      refine gw_iload_n 2 d_State_reasonAgainst_31 rfl rfl ?_
      refine gw_iload_n 3 d_State_reasonAgainst_32 rfl rfl ?_
      obtain ⟨g7, h⟩ := h
      refine gw_invV (as := [.inl v2, .inl v3]) (k := k + 1) (rest := [.inl v4]) (d' := d) d_State_reasonAgainst_33 lk_State_130 (ga_rcv (hk.2.1.1) rfl rfl) rfl (Nat.le_of_ble_eq_true rfl) (Nat.le_of_ble_eq_true rfl) rfl rfl (s_Table_gainAt hk.2.1 g7 ?_)
      show ga_W G (d + 1) mt_State_reasonAgainst 36 [some (.inr k), some (.inl v1), some (.inl v2), some (.inl v3), some (.inl v4), some (.inl (I ((k + 1) + 10) v2.toNat)), none] [.inl (I ((k + 1) + 9) (v2 * 3 + v3).toNat), .inl v4] I E
      refine gw_isub d_State_reasonAgainst_36 ?_
      obtain ⟨g8, h⟩ := h
      refine gw_mabs d_State_reasonAgainst_37 lk_State_110 g8 (by omega) (Nat.le_of_ble_eq_true rfl) ?_
      refine gw_istore 6 d_State_reasonAgainst_40 (Nat.le_of_ble_eq_true rfl) rfl ?_
      refine gw_iload 6 d_State_reasonAgainst_42 rfl ?_
      refine gw_aload_n 0 d_State_reasonAgainst_44 rfl rfl ?_
      refine gw_getR d_State_reasonAgainst_45 fl_State_45 (hk.1) rfl ?_
      refine gw_iload_n 1 d_State_reasonAgainst_48 rfl rfl ?_
      obtain ⟨g9, h⟩ := h
      obtain ⟨g10, h⟩ := h
      refine gw_iald d_State_reasonAgainst_49 (hk.2.2.2.2.2.2.2.2.2.1) g9 g10 ?_
      obtain ⟨g11, h⟩ := h
      refine gw_icmp_le 55 d_State_reasonAgainst_50 (by decide) g11 (hI1 _ _) (fun hc => ?_) (fun hc => ?_)
      · have h := h.1 hc
        refine gw_iload 6 d_State_reasonAgainst_55 rfl ?_
        refine gw_aload_n 0 d_State_reasonAgainst_57 rfl rfl ?_
        refine gw_getR d_State_reasonAgainst_58 fl_State_48 (hk.1) rfl ?_
        refine gw_iload_n 1 d_State_reasonAgainst_61 rfl rfl ?_
        refine gw_iald d_State_reasonAgainst_62 (hk.2.2.2.2.2.2.2.2.2.2.1) g9 g10 ?_
        refine gw_icmp_le 70 d_State_reasonAgainst_63 (by decide) g11 (hI1 _ _) (fun hc => ?_) (fun hc => ?_)
        · have h := h.1 hc
          refine gw_iconst d_State_reasonAgainst_70 ?_
          exact gw_ireturn d_State_reasonAgainst_71 rfl h
        · have h := h.2 hc
          refine gw_iconst d_State_reasonAgainst_66 ?_
          refine gw_goto 71 d_State_reasonAgainst_67 (by decide) ?_
          exact gw_ireturn d_State_reasonAgainst_71 rfl h
      · have h := h.2 hc
        refine gw_iconst d_State_reasonAgainst_53 ?_
        exact gw_ireturn d_State_reasonAgainst_54 rfl h
    · have h := h.2 hc
      refine gw_iconst d_State_reasonAgainst_23 ?_
      exact gw_ireturn d_State_reasonAgainst_24 rfl h

theorem k_State_carryOutEdit_0 {G : ga_G} {d : Nat} {I : ga_I} {E : Option ga_V → ga_I → Prop} {k : Nat} {v1 : Int} {v2 : Int} {v3 : Int} {v4 : Int} (hk : ga_isS k) (r4 : ga_rg v4)
    (h : ga_RG I → (0 ≤ v2 * 3 + v3 ∧ v2 * 3 + v3 < 147) ∧ ((∀ z1 : Int, z1 = I ((k + 1) + 9) (v2 * 3 + v3).toNat → (∀ I1 : ga_I, I1 = (ga_up I ((k + 1) + 9) (v2 * 3 + v3).toNat v4) → (0 ≤ v1) ∧ ((v1 < 3) ∧ ((ga_rg (v4 - z1)) ∧ ((∀ I2 : ga_I, I2 = (ga_up I1 (k + 51) v1.toNat (ga_wr ((I1 (k + 51) v1.toNat) - ((v4 - z1).natAbs : Int)))) → (v1 < 4) ∧ ((∀ I3 : ga_I, I3 = (ga_up I2 (k + 53) v1.toNat (ga_wr ((I2 (k + 53) v1.toNat) + (v4 - z1)))) → (∀ I4 : ga_I, I4 = (ga_up I3 (k + 52) v1.toNat (ga_wr ((I3 (k + 52) v1.toNat) + 1))) → E none I4))))))))))) :
    ga_W G (d + 1) mt_State_carryOutEdit 0 (ga_en 6 [.inr k, .inl v1, .inl v2, .inl v3, .inl v4]) [] I E := by
  show ga_W G (d + 1) mt_State_carryOutEdit 0 [some (.inr k), some (.inl v1), some (.inl v2), some (.inl v3), some (.inl v4), none] [] I E
  refine gw_RG (fun hI1 => ?_)
  have h := h hI1
  refine gw_iload 4 d_State_carryOutEdit_0 rfl ?_
  refine gw_aload_n 0 d_State_carryOutEdit_2 rfl rfl ?_
  refine gw_getR d_State_carryOutEdit_3 fl_State_12 (hk.1) rfl ?_
  refine gw_iload_n 2 d_State_carryOutEdit_6 rfl rfl ?_
  refine gw_iload_n 3 d_State_carryOutEdit_7 rfl rfl ?_
  obtain ⟨g1, h⟩ := h
  refine gw_invV (as := [.inl v2, .inl v3]) (k := k + 1) (rest := [.inl v4]) (d' := d) d_State_carryOutEdit_8 lk_State_130 (ga_rcv (hk.2.1.1) rfl rfl) rfl (Nat.le_of_ble_eq_true rfl) (Nat.le_of_ble_eq_true rfl) rfl rfl (s_Table_gainAt hk.2.1 g1 ?_)
  show ga_W G (d + 1) mt_State_carryOutEdit 11 [some (.inr k), some (.inl v1), some (.inl v2), some (.inl v3), some (.inl v4), none] [.inl (I ((k + 1) + 9) (v2 * 3 + v3).toNat), .inl v4] I E
  refine gw_nz (z := I ((k + 1) + 9) (v2 * 3 + v3).toNat) (fun z1 q1 => ?_)
  have h := h z1 q1
  refine gw_isub d_State_carryOutEdit_11 ?_
  refine gw_istore 5 d_State_carryOutEdit_12 (Nat.le_of_ble_eq_true rfl) rfl ?_
  refine gw_aload_n 0 d_State_carryOutEdit_14 rfl rfl ?_
  refine gw_getR d_State_carryOutEdit_15 fl_State_12 (hk.1) rfl ?_
  refine gw_iload_n 2 d_State_carryOutEdit_18 rfl rfl ?_
  refine gw_iload_n 3 d_State_carryOutEdit_19 rfl rfl ?_
  refine gw_iload 4 d_State_carryOutEdit_20 rfl ?_
  refine gw_invV (as := [.inl v2, .inl v3, .inl v4]) (k := k + 1) (rest := []) (d' := d) d_State_carryOutEdit_22 lk_State_133 (ga_rcv (hk.2.1.1) rfl rfl) rfl (Nat.le_of_ble_eq_true rfl) (Nat.le_of_ble_eq_true rfl) rfl rfl (s_Table_putGain hk.2.1 g1 r4 ?_)
  show ga_W G (d + 1) mt_State_carryOutEdit 25 [some (.inr k), some (.inl v1), some (.inl v2), some (.inl v3), some (.inl v4), some (.inl (v4 - z1))] [] (ga_up I ((k + 1) + 9) (v2 * 3 + v3).toNat v4) E
  refine gw_nm (fun I1 q2 => ?_)
  have h := h I1 q2
  refine gw_RG (fun hI2 => ?_)
  refine gw_aload_n 0 d_State_carryOutEdit_25 rfl rfl ?_
  refine gw_getR d_State_carryOutEdit_26 fl_State_48 (hk.1) rfl ?_
  refine gw_iload_n 1 d_State_carryOutEdit_29 rfl rfl ?_
  refine gw_dup2 d_State_carryOutEdit_30 ?_
  obtain ⟨g2, h⟩ := h
  obtain ⟨g3, h⟩ := h
  refine gw_iald d_State_carryOutEdit_31 (hk.2.2.2.2.2.2.2.2.2.2.1) g2 g3 ?_
  refine gw_iload 5 d_State_carryOutEdit_32 rfl ?_
  obtain ⟨g4, h⟩ := h
  refine gw_mabs d_State_carryOutEdit_34 lk_State_110 g4 (by omega) (Nat.le_of_ble_eq_true rfl) ?_
  refine gw_isub d_State_carryOutEdit_37 ?_
  refine gw_iast d_State_carryOutEdit_38 (hk.2.2.2.2.2.2.2.2.2.2.1) g2 g3 ?_
  refine gw_nm (J := (ga_up I1 (k + 51) v1.toNat (ga_wr ((I1 (k + 51) v1.toNat) - ((v4 - z1).natAbs : Int))))) (fun I2 q3 => ?_)
  have h := h I2 q3
  refine gw_RG (fun hI3 => ?_)
  refine gw_aload_n 0 d_State_carryOutEdit_39 rfl rfl ?_
  refine gw_getR d_State_carryOutEdit_40 fl_State_54 (hk.1) rfl ?_
  refine gw_iload_n 1 d_State_carryOutEdit_43 rfl rfl ?_
  refine gw_dup2 d_State_carryOutEdit_44 ?_
  obtain ⟨g5, h⟩ := h
  refine gw_iald d_State_carryOutEdit_45 (hk.2.2.2.2.2.2.2.2.2.2.2.2) g2 g5 ?_
  refine gw_iload 5 d_State_carryOutEdit_46 rfl ?_
  refine gw_iadd d_State_carryOutEdit_48 ?_
  refine gw_iast d_State_carryOutEdit_49 (hk.2.2.2.2.2.2.2.2.2.2.2.2) g2 g5 ?_
  refine gw_nm (J := (ga_up I2 (k + 53) v1.toNat (ga_wr ((I2 (k + 53) v1.toNat) + (v4 - z1))))) (fun I3 q4 => ?_)
  have h := h I3 q4
  refine gw_RG (fun hI4 => ?_)
  refine gw_aload_n 0 d_State_carryOutEdit_50 rfl rfl ?_
  refine gw_getR d_State_carryOutEdit_51 fl_State_51 (hk.1) rfl ?_
  refine gw_iload_n 1 d_State_carryOutEdit_54 rfl rfl ?_
  refine gw_dup2 d_State_carryOutEdit_55 ?_
  refine gw_iald d_State_carryOutEdit_56 (hk.2.2.2.2.2.2.2.2.2.2.2.1) g2 g3 ?_
  refine gw_iconst d_State_carryOutEdit_57 ?_
  refine gw_iadd d_State_carryOutEdit_58 ?_
  refine gw_iast d_State_carryOutEdit_59 (hk.2.2.2.2.2.2.2.2.2.2.2.1) g2 g3 ?_
  refine gw_nm (J := (ga_up I3 (k + 52) v1.toNat (ga_wr ((I3 (k + 52) v1.toNat) + 1)))) (fun I4 q5 => ?_)
  have h := h I4 q5
  refine gw_RG (fun hI5 => ?_)
  exact gw_return d_State_carryOutEdit_60 rfl h

theorem k_State_putPoint_0 {G : ga_G} {d : Nat} {I : ga_I} {E : Option ga_V → ga_I → Prop} {k : Nat} {v1 : Int} {v2 : Int} (hk : ga_isS k) (r1 : ga_rg v1) (r2 : ga_rg v2)
    (h : ga_RG I → (∀ I1 : ga_I, I1 = (ga_up I (k + 46) 0 (ga_wr v1)) → (∀ I2 : ga_I, I2 = (ga_up I1 (k + 46) 1 (ga_wr v2)) → (gb_ok I2 (k + 2)) ∧ ((-10 ≤ (I2 (k + 47) 0) ∧ (I2 (k + 47) 0) ≤ 10) ∧ ((∀ z1 : Int, z1 = gp_za (I2 ((k + 2) + 1)) (I2 ((k + 2) + 2)) (I2 ((k + 2) + 3)) (I2 (k + 2) 0).toNat (I2 (k + 47) 0) v1 → (∀ I3 : ga_I, I3 = (ga_up I2 (k + 47) 0 (ga_wr z1)) → (gb_ok I3 (k + 6)) ∧ ((-10 ≤ (I3 (k + 47) 1) ∧ (I3 (k + 47) 1) ≤ 10) ∧ ((∀ z2 : Int, z2 = gp_za (I3 ((k + 6) + 1)) (I3 ((k + 6) + 2)) (I3 ((k + 6) + 3)) (I3 (k + 6) 0).toNat (I3 (k + 47) 1) v2 → (∀ I4 : ga_I, I4 = (ga_up I3 (k + 47) 1 (ga_wr z2)) → E none I4))))))))))) :
    ga_W G (d + 1) mt_State_putPoint 0 (ga_en 3 [.inr k, .inl v1, .inl v2]) [] I E := by
  show ga_W G (d + 1) mt_State_putPoint 0 [some (.inr k), some (.inl v1), some (.inl v2)] [] I E
  refine gw_RG (fun hI1 => ?_)
  have h := h hI1
  refine gw_aload_n 0 d_State_putPoint_0 rfl rfl ?_
  refine gw_getR d_State_putPoint_1 fl_State_31 (hk.1) rfl ?_
  refine gw_iconst d_State_putPoint_4 ?_
  refine gw_iload_n 1 d_State_putPoint_5 rfl rfl ?_
  refine gw_iast d_State_putPoint_6 (hk.2.2.2.2.2.2.1) (by decide) (by decide) ?_
  refine gw_nm (J := (ga_up I (k + 46) 0 (ga_wr v1))) (fun I1 q1 => ?_)
  have h := h I1 q1
  refine gw_RG (fun hI2 => ?_)
  refine gw_aload_n 0 d_State_putPoint_7 rfl rfl ?_
  refine gw_getR d_State_putPoint_8 fl_State_31 (hk.1) rfl ?_
  refine gw_iconst d_State_putPoint_11 ?_
  refine gw_iload_n 2 d_State_putPoint_12 rfl rfl ?_
  refine gw_iast d_State_putPoint_13 (hk.2.2.2.2.2.2.1) (by decide) (by decide) ?_
  refine gw_nm (J := (ga_up I1 (k + 46) 1 (ga_wr v2))) (fun I2 q2 => ?_)
  have h := h I2 q2
  refine gw_RG (fun hI3 => ?_)
  refine gw_aload_n 0 d_State_putPoint_14 rfl rfl ?_
  refine gw_getR d_State_putPoint_15 fl_State_35 (hk.1) rfl ?_
  refine gw_iconst d_State_putPoint_18 ?_
  refine gw_aload_n 0 d_State_putPoint_19 rfl rfl ?_
  refine gw_getR d_State_putPoint_20 fl_State_12 (hk.1) rfl ?_
  refine gw_getR d_State_putPoint_23 fl_State_86 (hk.2.1.1) rfl ?_
  refine gw_aload_n 0 d_State_putPoint_26 rfl rfl ?_
  refine gw_getR d_State_putPoint_27 fl_State_35 (hk.1) rfl ?_
  refine gw_iconst d_State_putPoint_30 ?_
  refine gw_iald d_State_putPoint_31 (hk.2.2.2.2.2.2.2.1) (by decide) (by decide) ?_
  refine gw_iload_n 1 d_State_putPoint_32 rfl rfl ?_
  obtain ⟨g1, h⟩ := h
  obtain ⟨g2, h⟩ := h
  refine gw_invV (as := [.inl (I2 (k + 47) 0), .inl v1]) (k := k + 2) (rest := [.inl 0, .inr (k + 47)]) (d' := d) d_State_putPoint_33 lk_State_115 (ga_rcv (hk.2.1.2.1.1) rfl rfl) rfl (Nat.le_of_ble_eq_true rfl) (Nat.le_of_ble_eq_true rfl) rfl rfl (s_Borders_zoneAfter hk.2.1.2.1 g1 g2 r1 ?_)
  show ga_W G (d + 1) mt_State_putPoint 36 [some (.inr k), some (.inl v1), some (.inl v2)] [.inl (gp_za (I2 ((k + 2) + 1)) (I2 ((k + 2) + 2)) (I2 ((k + 2) + 3)) (I2 (k + 2) 0).toNat (I2 (k + 47) 0) v1), .inl 0, .inr (k + 47)] I2 E
  refine gw_nz (z := gp_za (I2 ((k + 2) + 1)) (I2 ((k + 2) + 2)) (I2 ((k + 2) + 3)) (I2 (k + 2) 0).toNat (I2 (k + 47) 0) v1) (fun z1 q3 => ?_)
  have h := h z1 q3
  refine gw_iast d_State_putPoint_36 (hk.2.2.2.2.2.2.2.1) (by decide) (by decide) ?_
  refine gw_nm (J := (ga_up I2 (k + 47) 0 (ga_wr z1))) (fun I3 q4 => ?_)
  have h := h I3 q4
  refine gw_RG (fun hI4 => ?_)
  refine gw_aload_n 0 d_State_putPoint_37 rfl rfl ?_
  refine gw_getR d_State_putPoint_38 fl_State_35 (hk.1) rfl ?_
  refine gw_iconst d_State_putPoint_41 ?_
  refine gw_aload_n 0 d_State_putPoint_42 rfl rfl ?_
  refine gw_getR d_State_putPoint_43 fl_State_12 (hk.1) rfl ?_
  refine gw_getR d_State_putPoint_46 fl_State_96 (hk.2.1.1) rfl ?_
  refine gw_aload_n 0 d_State_putPoint_49 rfl rfl ?_
  refine gw_getR d_State_putPoint_50 fl_State_35 (hk.1) rfl ?_
  refine gw_iconst d_State_putPoint_53 ?_
  refine gw_iald d_State_putPoint_54 (hk.2.2.2.2.2.2.2.1) (by decide) (by decide) ?_
  refine gw_iload_n 2 d_State_putPoint_55 rfl rfl ?_
  obtain ⟨g3, h⟩ := h
  obtain ⟨g4, h⟩ := h
  refine gw_invV (as := [.inl (I3 (k + 47) 1), .inl v2]) (k := k + 6) (rest := [.inl 1, .inr (k + 47)]) (d' := d) d_State_putPoint_56 lk_State_115 (ga_rcv (hk.2.1.2.2.1.1) rfl rfl) rfl (Nat.le_of_ble_eq_true rfl) (Nat.le_of_ble_eq_true rfl) rfl rfl (s_Borders_zoneAfter hk.2.1.2.2.1 g3 g4 r2 ?_)
  show ga_W G (d + 1) mt_State_putPoint 59 [some (.inr k), some (.inl v1), some (.inl v2)] [.inl (gp_za (I3 ((k + 6) + 1)) (I3 ((k + 6) + 2)) (I3 ((k + 6) + 3)) (I3 (k + 6) 0).toNat (I3 (k + 47) 1) v2), .inl 1, .inr (k + 47)] I3 E
  refine gw_nz (z := gp_za (I3 ((k + 6) + 1)) (I3 ((k + 6) + 2)) (I3 ((k + 6) + 3)) (I3 (k + 6) 0).toNat (I3 (k + 47) 1) v2) (fun z2 q5 => ?_)
  have h := h z2 q5
  refine gw_iast d_State_putPoint_59 (hk.2.2.2.2.2.2.2.1) (by decide) (by decide) ?_
  refine gw_nm (J := (ga_up I3 (k + 47) 1 (ga_wr z2))) (fun I4 q6 => ?_)
  have h := h I4 q6
  refine gw_RG (fun hI5 => ?_)
  exact gw_return d_State_putPoint_60 rfl h

