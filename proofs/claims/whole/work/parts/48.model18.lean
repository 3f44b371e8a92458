theorem k_Mo_takes_0 {G : ga_G} {d : Nat} {I : ga_I} {E : Option ga_V → ga_I → Prop} {v1 : Int} (r1 : ga_rg v1)
    (h : ga_RG I → (mo_x I) ∧ ((∀ I1 : ga_I, I1 = (ga_up I 348 12 (mt_p I : Nat)) → (ga_rg (mt_hv I)) ∧ ((((mt_hv I) ≠ v1) → (((0 : Int) = 0) → (∀ I2 : ga_I, I2 = (ga_up I1 348 12 (ga_wr ((I1 348 12) + 0))) → E (some (.inl 0)) I2)) ∧ ((¬ ((0 : Int) = 0)) → (∀ I3 : ga_I, I3 = (ga_up I1 348 12 (ga_wr ((I1 348 12) + 1))) → E (some (.inl 0)) I3))) ∧ (((mt_hv I) = v1) → (((1 : Int) = 0) → (∀ I4 : ga_I, I4 = (ga_up I1 348 12 (ga_wr ((I1 348 12) + 0))) → E (some (.inl 1)) I4)) ∧ ((¬ ((1 : Int) = 0)) → (∀ I5 : ga_I, I5 = (ga_up I1 348 12 (ga_wr ((I1 348 12) + 1))) → E (some (.inl 1)) I5))))))) :
    ga_W G (d + 1) mt_Mo_takes 0 (ga_en 3 [.inr 348, .inl v1]) [] I E := by
  show ga_W G (d + 1) mt_Mo_takes 0 [some (.inr 348), some (.inl v1), none] [] I E
  refine gw_RG (fun hI1 => ?_)
  have h := h hI1
  refine gw_aload_n 0 d_Mo_takes_0 rfl rfl ?_
  obtain ⟨g1, h⟩ := h
  refine gw_invV (as := []) (k := 348) (rest := []) (d' := d) d_Mo_takes_1 lk_Mo_197 (ga_rcv (ga_oM) rfl rfl) rfl (Nat.le_of_ble_eq_true rfl) (Nat.le_of_ble_eq_true rfl) rfl rfl (s_Mo_here g1 ?_)
  show ga_W G (d + 1) mt_Mo_takes 4 [some (.inr 348), some (.inl v1), none] [.inl (mt_hv I)] (ga_up I 348 12 (mt_p I : Nat)) E
  refine gw_nm (fun I1 q1 => ?_)
  have h := h I1 q1
  refine gw_RG (fun hI2 => ?_)
  refine gw_iload_n 1 d_Mo_takes_4 rfl rfl ?_
  obtain ⟨g2, h⟩ := h
  refine gw_icmp_ne 12 d_Mo_takes_5 (by decide) g2 r1 (fun hc => ?_) (fun hc => ?_)
  · have h := h.1 hc
    refine gw_iconst d_Mo_takes_12 ?_
    refine gw_istore_n 2 d_Mo_takes_13 rfl (Nat.le_of_ble_eq_true rfl) rfl ?_
    refine gw_aload_n 0 d_Mo_takes_14 rfl rfl ?_
    refine gw_dup d_Mo_takes_15 ?_
    refine gw_getI d_Mo_takes_16 fl_Mo_194 (ga_oM) rfl ?_
    refine gw_iload_n 2 d_Mo_takes_19 rfl rfl ?_
    refine gw_if_eq 27 d_Mo_takes_20 (by decide) ⟨by decide, by decide⟩ (fun hc => ?_) (fun hc => ?_)
    · have h := h.1 hc
      refine gw_iconst d_Mo_takes_27 ?_
      refine gw_iadd d_Mo_takes_28 ?_
      refine gw_putI d_Mo_takes_29 fp_Mo_194 (ga_oM) rfl ?_
      refine gw_nm (J := (ga_up I1 348 12 (ga_wr ((I1 348 12) + 0)))) (fun I2 q2 => ?_)
      have h := h I2 q2
      refine gw_RG (fun hI3 => ?_)
      refine gw_iload_n 2 d_Mo_takes_32 rfl rfl ?_
      exact gw_zreturn d_Mo_takes_33 rfl (by decide) h
    · have h := h.2 hc
      refine gw_iconst d_Mo_takes_23 ?_
      refine gw_goto 28 d_Mo_takes_24 (by decide) ?_
      refine gw_iadd d_Mo_takes_28 ?_
      refine gw_putI d_Mo_takes_29 fp_Mo_194 (ga_oM) rfl ?_
      refine gw_nm (J := (ga_up I1 348 12 (ga_wr ((I1 348 12) + 1)))) (fun I3 q3 => ?_)
      have h := h I3 q3
      refine gw_RG (fun hI4 => ?_)
      refine gw_iload_n 2 d_Mo_takes_32 rfl rfl ?_
      exact gw_zreturn d_Mo_takes_33 rfl (by decide) h
  · have h := h.2 hc
    refine gw_iconst d_Mo_takes_8 ?_
    refine gw_goto 13 d_Mo_takes_9 (by decide) ?_
    refine gw_istore_n 2 d_Mo_takes_13 rfl (Nat.le_of_ble_eq_true rfl) rfl ?_
    refine gw_aload_n 0 d_Mo_takes_14 rfl rfl ?_
    refine gw_dup d_Mo_takes_15 ?_
    refine gw_getI d_Mo_takes_16 fl_Mo_194 (ga_oM) rfl ?_
    refine gw_iload_n 2 d_Mo_takes_19 rfl rfl ?_
    refine gw_if_eq 27 d_Mo_takes_20 (by decide) ⟨by decide, by decide⟩ (fun hc => ?_) (fun hc => ?_)
    · have h := h.1 hc
      refine gw_iconst d_Mo_takes_27 ?_
      refine gw_iadd d_Mo_takes_28 ?_
      refine gw_putI d_Mo_takes_29 fp_Mo_194 (ga_oM) rfl ?_
      refine gw_nm (J := (ga_up I1 348 12 (ga_wr ((I1 348 12) + 0)))) (fun I4 q4 => ?_)
      have h := h I4 q4
      refine gw_RG (fun hI5 => ?_)
      refine gw_iload_n 2 d_Mo_takes_32 rfl rfl ?_
      exact gw_zreturn d_Mo_takes_33 rfl (by decide) h
    · have h := h.2 hc
      refine gw_iconst d_Mo_takes_23 ?_
      refine gw_goto 28 d_Mo_takes_24 (by decide) ?_
      refine gw_iadd d_Mo_takes_28 ?_
      refine gw_putI d_Mo_takes_29 fp_Mo_194 (ga_oM) rfl ?_
      refine gw_nm (J := (ga_up I1 348 12 (ga_wr ((I1 348 12) + 1)))) (fun I5 q5 => ?_)
      have h := h I5 q5
      refine gw_RG (fun hI6 => ?_)
      refine gw_iload_n 2 d_Mo_takes_32 rfl rfl ?_
      exact gw_zreturn d_Mo_takes_33 rfl (by decide) h

theorem k_Mo_reads_0 {G : ga_G} {d : Nat} {I : ga_I} {E : Option ga_V → ga_I → Prop} {v1 : Int} {v2 : Int} 
    (h : ga_RG I → (mo_x I) ∧ ((∀ I1 : ga_I, I1 = (ga_up I 348 12 (mt_p I : Nat)) → ga_W G (d + 1) mt_Mo_reads 14 [some (.inr 348), some (.inl v1), some (.inl v2), some (.inl (mt_hv I)), some (.inl (I1 348 12)), some (.inl 0), none] [] I1 E))) :
    ga_W G (d + 1) mt_Mo_reads 0 (ga_en 7 [.inr 348, .inl v1, .inl v2]) [] I E := by
  show ga_W G (d + 1) mt_Mo_reads 0 [some (.inr 348), some (.inl v1), some (.inl v2), none, none, none, none] [] I E
  refine gw_RG (fun hI1 => ?_)
  have h := h hI1
  refine gw_aload_n 0 d_Mo_reads_0 rfl rfl ?_
  obtain ⟨g1, h⟩ := h
  refine gw_invV (as := []) (k := 348) (rest := []) (d' := d) d_Mo_reads_1 lk_Mo_197 (ga_rcv (ga_oM) rfl rfl) rfl (Nat.le_of_ble_eq_true rfl) (Nat.le_of_ble_eq_true rfl) rfl rfl (s_Mo_here g1 ?_)
  show ga_W G (d + 1) mt_Mo_reads 4 [some (.inr 348), some (.inl v1), some (.inl v2), none, none, none, none] [.inl (mt_hv I)] (ga_up I 348 12 (mt_p I : Nat)) E
  refine gw_nm (fun I1 q1 => ?_)
  have h := h I1 q1
  refine gw_RG (fun hI2 => ?_)
  refine gw_istore_n 3 d_Mo_reads_4 rfl (Nat.le_of_ble_eq_true rfl) rfl ?_
  refine gw_aload_n 0 d_Mo_reads_5 rfl rfl ?_
  refine gw_getI d_Mo_reads_6 fl_Mo_194 (ga_oM) rfl ?_
  refine gw_istore 4 d_Mo_reads_9 (Nat.le_of_ble_eq_true rfl) rfl ?_
  refine gw_iconst d_Mo_reads_11 ?_
  refine gw_istore 5 d_Mo_reads_12 (Nat.le_of_ble_eq_true rfl) rfl ?_
  exact gw_le h (by exact ⟨rfl, ⟨rfl, ⟨rfl, ⟨rfl, ⟨rfl, ⟨rfl, trivial⟩⟩⟩⟩⟩⟩)
theorem k_Mo_reads_14 {G : ga_G} {d : Nat} {I : ga_I} {E : Option ga_V → ga_I → Prop} {v1 : Int} {v2 : Int} {v3 : Int} {v4 : Int} {v5 : Int} (r1 : ga_rg v1) (r2 : ga_rg v2) (r3 : ga_rg v3) (r4 : ga_rg v4) (r5 : ga_rg v5)
    (h : ga_RG I → (((I 348 6) ≤ (I 348 12)) → (((I 348 12) ≤ v4) → (((0 : Int) = 0) → (∀ I1 : ga_I, I1 = (ga_up I 348 12 v4) → (∀ I2 : ga_I, I2 = (ga_up I1 348 13 (ga_wr v5)) → E (some (.inl 0)) I2))) ∧ ((¬ ((0 : Int) = 0)) → (∀ I3 : ga_I, I3 = (ga_up I 348 12 (I 348 12)) → (∀ I4 : ga_I, I4 = (ga_up I3 348 13 (ga_wr v5)) → E (some (.inl 0)) I4)))) ∧ ((¬ ((I 348 12) ≤ v4)) → ((v3 ≠ 48) → ((¬ (v1 ≤ v5 ∧ v5 ≤ v2)) → (((0 : Int) = 0) → (∀ I5 : ga_I, I5 = (ga_up I 348 12 v4) → (∀ I6 : ga_I, I6 = (ga_up I5 348 13 v5) → E (some (.inl 0)) I6))) ∧ ((¬ ((0 : Int) = 0)) → (∀ I7 : ga_I, I7 = (ga_up I 348 12 (I 348 12)) → (∀ I8 : ga_I, I8 = (ga_up I7 348 13 v5) → E (some (.inl 0)) I8)))) ∧ ((v1 ≤ v5 ∧ v5 ≤ v2) → (((1 : Int) = 0) → (∀ I9 : ga_I, I9 = (ga_up I 348 12 v4) → (∀ I10 : ga_I, I10 = (ga_up I9 348 13 v5) → E (some (.inl 1)) I10))) ∧ ((¬ ((1 : Int) = 0)) → (∀ I11 : ga_I, I11 = (ga_up I 348 12 (I 348 12)) → (∀ I12 : ga_I, I12 = (ga_up I11 348 13 v5) → E (some (.inl 1)) I12))))) ∧ ((v3 = 48) → (ga_rg (v4 + 1)) ∧ ((((I 348 12) ≠ (v4 + 1)) → (((0 : Int) = 0) → (∀ I13 : ga_I, I13 = (ga_up I 348 12 v4) → (∀ I14 : ga_I, I14 = (ga_up I13 348 13 v5) → E (some (.inl 0)) I14))) ∧ ((¬ ((0 : Int) = 0)) → (∀ I15 : ga_I, I15 = (ga_up I 348 12 (I 348 12)) → (∀ I16 : ga_I, I16 = (ga_up I15 348 13 v5) → E (some (.inl 0)) I16)))) ∧ (((I 348 12) = (v4 + 1)) → ((¬ (v1 ≤ v5 ∧ v5 ≤ v2)) → (((0 : Int) = 0) → (∀ I17 : ga_I, I17 = (ga_up I 348 12 v4) → (∀ I18 : ga_I, I18 = (ga_up I17 348 13 v5) → E (some (.inl 0)) I18))) ∧ ((¬ ((0 : Int) = 0)) → (∀ I19 : ga_I, I19 = (ga_up I 348 12 (I 348 12)) → (∀ I20 : ga_I, I20 = (ga_up I19 348 13 v5) → E (some (.inl 0)) I20)))) ∧ ((v1 ≤ v5 ∧ v5 ≤ v2) → (((1 : Int) = 0) → (∀ I21 : ga_I, I21 = (ga_up I 348 12 v4) → (∀ I22 : ga_I, I22 = (ga_up I21 348 13 v5) → E (some (.inl 1)) I22))) ∧ ((¬ ((1 : Int) = 0)) → (∀ I23 : ga_I, I23 = (ga_up I 348 12 (I 348 12)) → (∀ I24 : ga_I, I24 = (ga_up I23 348 13 v5) → E (some (.inl 1)) I24))))))))) ∧ ((¬ ((I 348 6) ≤ (I 348 12))) → (0 ≤ (I 348 12)) ∧ (((I 348 12) < 160) ∧ (((¬ ((48 : Int) ≤ (I 352 (I 348 12).toNat) ∧ (I 352 (I 348 12).toNat) ≤ (57 : Int))) → (((I 348 12) ≤ v4) → (((0 : Int) = 0) → (∀ I25 : ga_I, I25 = (ga_up I 348 12 v4) → (∀ I26 : ga_I, I26 = (ga_up I25 348 13 v5) → E (some (.inl 0)) I26))) ∧ ((¬ ((0 : Int) = 0)) → (∀ I27 : ga_I, I27 = (ga_up I 348 12 (I 348 12)) → (∀ I28 : ga_I, I28 = (ga_up I27 348 13 v5) → E (some (.inl 0)) I28)))) ∧ ((¬ ((I 348 12) ≤ v4)) → ((v3 ≠ 48) → ((¬ (v1 ≤ v5 ∧ v5 ≤ v2)) → (((0 : Int) = 0) → (∀ I29 : ga_I, I29 = (ga_up I 348 12 v4) → (∀ I30 : ga_I, I30 = (ga_up I29 348 13 v5) → E (some (.inl 0)) I30))) ∧ ((¬ ((0 : Int) = 0)) → (∀ I31 : ga_I, I31 = (ga_up I 348 12 (I 348 12)) → (∀ I32 : ga_I, I32 = (ga_up I31 348 13 v5) → E (some (.inl 0)) I32)))) ∧ ((v1 ≤ v5 ∧ v5 ≤ v2) → (((1 : Int) = 0) → (∀ I33 : ga_I, I33 = (ga_up I 348 12 v4) → (∀ I34 : ga_I, I34 = (ga_up I33 348 13 v5) → E (some (.inl 1)) I34))) ∧ ((¬ ((1 : Int) = 0)) → (∀ I35 : ga_I, I35 = (ga_up I 348 12 (I 348 12)) → (∀ I36 : ga_I, I36 = (ga_up I35 348 13 v5) → E (some (.inl 1)) I36))))) ∧ ((v3 = 48) → (ga_rg (v4 + 1)) ∧ ((((I 348 12) ≠ (v4 + 1)) → (((0 : Int) = 0) → (∀ I37 : ga_I, I37 = (ga_up I 348 12 v4) → (∀ I38 : ga_I, I38 = (ga_up I37 348 13 v5) → E (some (.inl 0)) I38))) ∧ ((¬ ((0 : Int) = 0)) → (∀ I39 : ga_I, I39 = (ga_up I 348 12 (I 348 12)) → (∀ I40 : ga_I, I40 = (ga_up I39 348 13 v5) → E (some (.inl 0)) I40)))) ∧ (((I 348 12) = (v4 + 1)) → ((¬ (v1 ≤ v5 ∧ v5 ≤ v2)) → (((0 : Int) = 0) → (∀ I41 : ga_I, I41 = (ga_up I 348 12 v4) → (∀ I42 : ga_I, I42 = (ga_up I41 348 13 v5) → E (some (.inl 0)) I42))) ∧ ((¬ ((0 : Int) = 0)) → (∀ I43 : ga_I, I43 = (ga_up I 348 12 (I 348 12)) → (∀ I44 : ga_I, I44 = (ga_up I43 348 13 v5) → E (some (.inl 0)) I44)))) ∧ ((v1 ≤ v5 ∧ v5 ≤ v2) → (((1 : Int) = 0) → (∀ I45 : ga_I, I45 = (ga_up I 348 12 v4) → (∀ I46 : ga_I, I46 = (ga_up I45 348 13 v5) → E (some (.inl 1)) I46))) ∧ ((¬ ((1 : Int) = 0)) → (∀ I47 : ga_I, I47 = (ga_up I 348 12 (I 348 12)) → (∀ I48 : ga_I, I48 = (ga_up I47 348 13 v5) → E (some (.inl 1)) I48))))))))) ∧ (((48 : Int) ≤ (I 352 (I 348 12).toNat) ∧ (I 352 (I 348 12).toNat) ≤ (57 : Int)) → ((100000 ≤ v5) → (∀ I49 : ga_I, I49 = (ga_up I 348 12 (ga_wr ((I 348 12) + 1))) → ga_W G (d + 1) mt_Mo_reads 14 [some (.inr 348), some (.inl v1), some (.inl v2), some (.inl v3), some (.inl v4), some (.inl v5), none] [] I49 E)) ∧ ((¬ (100000 ≤ v5)) → (∀ I50 : ga_I, I50 = (ga_up I 348 12 (ga_wr ((I 348 12) + 1))) → ga_W G (d + 1) mt_Mo_reads 14 [some (.inr 348), some (.inl v1), some (.inl v2), some (.inl v3), some (.inl v4), some (.inl (((10 * v5) + (I 352 (I 348 12).toNat)) - 48)), none] [] I50 E))))))) :
    ga_W G (d + 1) mt_Mo_reads 14 [some (.inr 348), some (.inl v1), some (.inl v2), some (.inl v3), some (.inl v4), some (.inl v5), none] [] I E := by
  refine gw_RG (fun hI1 => ?_)
  have h := h hI1
  refine gw_aload_n 0 d_Mo_reads_14 rfl rfl ?_
  refine gw_getI d_Mo_reads_15 fl_Mo_194 (ga_oM) rfl ?_
  refine gw_aload_n 0 d_Mo_reads_18 rfl rfl ?_
  refine gw_getI d_Mo_reads_19 fl_Mo_191 (ga_oM) rfl ?_
  refine gw_icmp_ge 89 d_Mo_reads_22 (by decide) (hI1 _ _) (hI1 _ _) (fun hc => ?_) (fun hc => ?_)
  · have h := h.1 hc
    refine gw_aload_n 0 d_Mo_reads_89 rfl rfl ?_
    refine gw_getI d_Mo_reads_90 fl_Mo_194 (ga_oM) rfl ?_
    refine gw_iload 4 d_Mo_reads_93 rfl ?_
    refine gw_icmp_le 129 d_Mo_reads_95 (by decide) (hI1 _ _) r4 (fun hc => ?_) (fun hc => ?_)
    · have h := h.1 hc
      refine gw_iconst d_Mo_reads_129 ?_
      refine gw_istore 6 d_Mo_reads_130 (Nat.le_of_ble_eq_true rfl) rfl ?_
      refine gw_aload_n 0 d_Mo_reads_132 rfl rfl ?_
      refine gw_iload 6 d_Mo_reads_133 rfl ?_
      refine gw_if_eq 145 d_Mo_reads_135 (by decide) ⟨by decide, by decide⟩ (fun hc => ?_) (fun hc => ?_)
      · have h := h.1 hc
        refine gw_iload 4 d_Mo_reads_145 rfl ?_
        refine gw_putI d_Mo_reads_147 fp_Mo_194 (ga_oM) rfl ?_
        show ga_W G (d + 1) mt_Mo_reads 150 [some (.inr 348), some (.inl v1), some (.inl v2), some (.inl v3), some (.inl v4), some (.inl v5), some (.inl 0)] [] (ga_up I 348 12 (ga_wr v4)) E
        rw [ga_wr_eq (z := v4) r4]
        refine gw_nm (J := (ga_up I 348 12 v4)) (fun I1 q1 => ?_)
        have h := h I1 q1
        refine gw_RG (fun hI2 => ?_)
        refine gw_aload_n 0 d_Mo_reads_150 rfl rfl ?_
        refine gw_iload 5 d_Mo_reads_151 rfl ?_
        refine gw_putI d_Mo_reads_153 fp_Mo_201 (ga_oM) rfl ?_
        refine gw_nm (J := (ga_up I1 348 13 (ga_wr v5))) (fun I2 q2 => ?_)
        have h := h I2 q2
        refine gw_RG (fun hI3 => ?_)
        refine gw_iload 6 d_Mo_reads_156 rfl ?_
        exact gw_zreturn d_Mo_reads_158 rfl (by decide) h
      · have h := h.2 hc
        refine gw_aload_n 0 d_Mo_reads_138 rfl rfl ?_
        refine gw_getI d_Mo_reads_139 fl_Mo_194 (ga_oM) rfl ?_
        refine gw_goto 147 d_Mo_reads_142 (by decide) ?_
        refine gw_putI d_Mo_reads_147 fp_Mo_194 (ga_oM) rfl ?_
        show ga_W G (d + 1) mt_Mo_reads 150 [some (.inr 348), some (.inl v1), some (.inl v2), some (.inl v3), some (.inl v4), some (.inl v5), some (.inl 0)] [] (ga_up I 348 12 (ga_wr (I 348 12))) E
        rw [ga_wr_eq (z := (I 348 12)) (hI1 _ _)]
        refine gw_nm (J := (ga_up I 348 12 (I 348 12))) (fun I3 q3 => ?_)
        have h := h I3 q3
        refine gw_RG (fun hI4 => ?_)
        refine gw_aload_n 0 d_Mo_reads_150 rfl rfl ?_
        refine gw_iload 5 d_Mo_reads_151 rfl ?_
        refine gw_putI d_Mo_reads_153 fp_Mo_201 (ga_oM) rfl ?_
        refine gw_nm (J := (ga_up I3 348 13 (ga_wr v5))) (fun I4 q4 => ?_)
        have h := h I4 q4
        refine gw_RG (fun hI5 => ?_)
        refine gw_iload 6 d_Mo_reads_156 rfl ?_
        exact gw_zreturn d_Mo_reads_158 rfl (by decide) h
    · have h := h.2 hc
      refine gw_iload_n 3 d_Mo_reads_98 rfl rfl ?_
      refine gw_bipush d_Mo_reads_99 (by decide +kernel) ?_
      refine gw_icmp_ne 115 d_Mo_reads_101 (by decide) r3 ⟨by decide, by decide⟩ (fun hc => ?_) (fun hc => ?_)
      · have h := h.1 hc
        refine gw_iload 5 d_Mo_reads_115 rfl ?_
        refine gw_iload_n 1 d_Mo_reads_117 rfl rfl ?_
        refine gw_iload_n 2 d_Mo_reads_118 rfl rfl ?_
        refine gw_invS (as := [.inl v5, .inl v1, .inl v2]) (rest := []) (d' := d) d_Mo_reads_119 lk_Mo_47 rfl (Nat.le_of_ble_eq_true rfl) (Nat.le_of_ble_eq_true rfl) rfl rfl (s_Mo_in r5 r1 r2 ?_)
        show ga_W G (d + 1) mt_Mo_reads 122 [some (.inr 348), some (.inl v1), some (.inl v2), some (.inl v3), some (.inl v4), some (.inl v5), none] [.inl (ga_bb (decide (v1 ≤ v5 ∧ v5 ≤ v2)))] I E
        refine gw_ifb_eq 129 d_Mo_reads_122 (by decide) (fun hc => ?_) (fun hc => ?_)
        · have h := h.1 (of_decide_eq_false hc)
          refine gw_iconst d_Mo_reads_129 ?_
          refine gw_istore 6 d_Mo_reads_130 (Nat.le_of_ble_eq_true rfl) rfl ?_
          refine gw_aload_n 0 d_Mo_reads_132 rfl rfl ?_
          refine gw_iload 6 d_Mo_reads_133 rfl ?_
          refine gw_if_eq 145 d_Mo_reads_135 (by decide) ⟨by decide, by decide⟩ (fun hc => ?_) (fun hc => ?_)
          · have h := h.1 hc
            refine gw_iload 4 d_Mo_reads_145 rfl ?_
            refine gw_putI d_Mo_reads_147 fp_Mo_194 (ga_oM) rfl ?_
            show ga_W G (d + 1) mt_Mo_reads 150 [some (.inr 348), some (.inl v1), some (.inl v2), some (.inl v3), some (.inl v4), some (.inl v5), some (.inl 0)] [] (ga_up I 348 12 (ga_wr v4)) E
            rw [ga_wr_eq (z := v4) r4]
            refine gw_nm (J := (ga_up I 348 12 v4)) (fun I5 q5 => ?_)
            have h := h I5 q5
            refine gw_RG (fun hI6 => ?_)
            refine gw_aload_n 0 d_Mo_reads_150 rfl rfl ?_
            refine gw_iload 5 d_Mo_reads_151 rfl ?_
            refine gw_putI d_Mo_reads_153 fp_Mo_201 (ga_oM) rfl ?_
            show ga_W G (d + 1) mt_Mo_reads 156 [some (.inr 348), some (.inl v1), some (.inl v2), some (.inl v3), some (.inl v4), some (.inl v5), some (.inl 0)] [] (ga_up I5 348 13 (ga_wr v5)) E
            rw [ga_wr_eq (z := v5) r5]
            refine gw_nm (J := (ga_up I5 348 13 v5)) (fun I6 q6 => ?_)
            have h := h I6 q6
            refine gw_RG (fun hI7 => ?_)
            refine gw_iload 6 d_Mo_reads_156 rfl ?_
            exact gw_zreturn d_Mo_reads_158 rfl (by decide) h
          · have h := h.2 hc
            refine gw_aload_n 0 d_Mo_reads_138 rfl rfl ?_
            refine gw_getI d_Mo_reads_139 fl_Mo_194 (ga_oM) rfl ?_
            refine gw_goto 147 d_Mo_reads_142 (by decide) ?_
            refine gw_putI d_Mo_reads_147 fp_Mo_194 (ga_oM) rfl ?_
            show ga_W G (d + 1) mt_Mo_reads 150 [some (.inr 348), some (.inl v1), some (.inl v2), some (.inl v3), some (.inl v4), some (.inl v5), some (.inl 0)] [] (ga_up I 348 12 (ga_wr (I 348 12))) E
            rw [ga_wr_eq (z := (I 348 12)) (hI1 _ _)]
            refine gw_nm (J := (ga_up I 348 12 (I 348 12))) (fun I7 q7 => ?_)
            have h := h I7 q7
            refine gw_RG (fun hI8 => ?_)
            refine gw_aload_n 0 d_Mo_reads_150 rfl rfl ?_
            refine gw_iload 5 d_Mo_reads_151 rfl ?_
            refine gw_putI d_Mo_reads_153 fp_Mo_201 (ga_oM) rfl ?_
            show ga_W G (d + 1) mt_Mo_reads 156 [some (.inr 348), some (.inl v1), some (.inl v2), some (.inl v3), some (.inl v4), some (.inl v5), some (.inl 0)] [] (ga_up I7 348 13 (ga_wr v5)) E
            rw [ga_wr_eq (z := v5) r5]
            refine gw_nm (J := (ga_up I7 348 13 v5)) (fun I8 q8 => ?_)
            have h := h I8 q8
            refine gw_RG (fun hI9 => ?_)
            refine gw_iload 6 d_Mo_reads_156 rfl ?_
            exact gw_zreturn d_Mo_reads_158 rfl (by decide) h
        · have h := h.2 (of_decide_eq_true hc)
          refine gw_iconst d_Mo_reads_125 ?_
          refine gw_goto 130 d_Mo_reads_126 (by decide) ?_
          refine gw_istore 6 d_Mo_reads_130 (Nat.le_of_ble_eq_true rfl) rfl ?_
          refine gw_aload_n 0 d_Mo_reads_132 rfl rfl ?_
          refine gw_iload 6 d_Mo_reads_133 rfl ?_
          refine gw_if_eq 145 d_Mo_reads_135 (by decide) ⟨by decide, by decide⟩ (fun hc => ?_) (fun hc => ?_)
          · have h := h.1 hc
            refine gw_iload 4 d_Mo_reads_145 rfl ?_
            refine gw_putI d_Mo_reads_147 fp_Mo_194 (ga_oM) rfl ?_
            show ga_W G (d + 1) mt_Mo_reads 150 [some (.inr 348), some (.inl v1), some (.inl v2), some (.inl v3), some (.inl v4), some (.inl v5), some (.inl 1)] [] (ga_up I 348 12 (ga_wr v4)) E
            rw [ga_wr_eq (z := v4) r4]
            refine gw_nm (J := (ga_up I 348 12 v4)) (fun I9 q9 => ?_)
            have h := h I9 q9
            refine gw_RG (fun hI10 => ?_)
            refine gw_aload_n 0 d_Mo_reads_150 rfl rfl ?_
            refine gw_iload 5 d_Mo_reads_151 rfl ?_
            refine gw_putI d_Mo_reads_153 fp_Mo_201 (ga_oM) rfl ?_
            show ga_W G (d + 1) mt_Mo_reads 156 [some (.inr 348), some (.inl v1), some (.inl v2), some (.inl v3), some (.inl v4), some (.inl v5), some (.inl 1)] [] (ga_up I9 348 13 (ga_wr v5)) E
            rw [ga_wr_eq (z := v5) r5]
            refine gw_nm (J := (ga_up I9 348 13 v5)) (fun I10 q10 => ?_)
            have h := h I10 q10
            refine gw_RG (fun hI11 => ?_)
            refine gw_iload 6 d_Mo_reads_156 rfl ?_
            exact gw_zreturn d_Mo_reads_158 rfl (by decide) h
          · have h := h.2 hc
            refine gw_aload_n 0 d_Mo_reads_138 rfl rfl ?_
            refine gw_getI d_Mo_reads_139 fl_Mo_194 (ga_oM) rfl ?_
            refine gw_goto 147 d_Mo_reads_142 (by decide) ?_
            refine gw_putI d_Mo_reads_147 fp_Mo_194 (ga_oM) rfl ?_
            show ga_W G (d + 1) mt_Mo_reads 150 [some (.inr 348), some (.inl v1), some (.inl v2), some (.inl v3), some (.inl v4), some (.inl v5), some (.inl 1)] [] (ga_up I 348 12 (ga_wr (I 348 12))) E
            rw [ga_wr_eq (z := (I 348 12)) (hI1 _ _)]
            refine gw_nm (J := (ga_up I 348 12 (I 348 12))) (fun I11 q11 => ?_)
            have h := h I11 q11
            refine gw_RG (fun hI12 => ?_)
            refine gw_aload_n 0 d_Mo_reads_150 rfl rfl ?_
            refine gw_iload 5 d_Mo_reads_151 rfl ?_
            refine gw_putI d_Mo_reads_153 fp_Mo_201 (ga_oM) rfl ?_
            show ga_W G (d + 1) mt_Mo_reads 156 [some (.inr 348), some (.inl v1), some (.inl v2), some (.inl v3), some (.inl v4), some (.inl v5), some (.inl 1)] [] (ga_up I11 348 13 (ga_wr v5)) E
            rw [ga_wr_eq (z := v5) r5]
            refine gw_nm (J := (ga_up I11 348 13 v5)) (fun I12 q12 => ?_)
            have h := h I12 q12
            refine gw_RG (fun hI13 => ?_)
            refine gw_iload 6 d_Mo_reads_156 rfl ?_
            exact gw_zreturn d_Mo_reads_158 rfl (by decide) h
      · have h := h.2 hc
        refine gw_aload_n 0 d_Mo_reads_104 rfl rfl ?_
        refine gw_getI d_Mo_reads_105 fl_Mo_194 (ga_oM) rfl ?_
        refine gw_iload 4 d_Mo_reads_108 rfl ?_
        refine gw_iconst d_Mo_reads_110 ?_
        refine gw_iadd d_Mo_reads_111 ?_
        obtain ⟨g1, h⟩ := h
        refine gw_icmp_ne 129 d_Mo_reads_112 (by decide) (hI1 _ _) g1 (fun hc => ?_) (fun hc => ?_)
        · have h := h.1 hc
          refine gw_iconst d_Mo_reads_129 ?_
          refine gw_istore 6 d_Mo_reads_130 (Nat.le_of_ble_eq_true rfl) rfl ?_
          refine gw_aload_n 0 d_Mo_reads_132 rfl rfl ?_
          refine gw_iload 6 d_Mo_reads_133 rfl ?_
          refine gw_if_eq 145 d_Mo_reads_135 (by decide) ⟨by decide, by decide⟩ (fun hc => ?_) (fun hc => ?_)
          · have h := h.1 hc
            refine gw_iload 4 d_Mo_reads_145 rfl ?_
            refine gw_putI d_Mo_reads_147 fp_Mo_194 (ga_oM) rfl ?_
            show ga_W G (d + 1) mt_Mo_reads 150 [some (.inr 348), some (.inl v1), some (.inl v2), some (.inl v3), some (.inl v4), some (.inl v5), some (.inl 0)] [] (ga_up I 348 12 (ga_wr v4)) E
            rw [ga_wr_eq (z := v4) r4]
            refine gw_nm (J := (ga_up I 348 12 v4)) (fun I13 q13 => ?_)
            have h := h I13 q13
            refine gw_RG (fun hI14 => ?_)
            refine gw_aload_n 0 d_Mo_reads_150 rfl rfl ?_
            refine gw_iload 5 d_Mo_reads_151 rfl ?_
            refine gw_putI d_Mo_reads_153 fp_Mo_201 (ga_oM) rfl ?_
            show ga_W G (d + 1) mt_Mo_reads 156 [some (.inr 348), some (.inl v1), some (.inl v2), some (.inl v3), some (.inl v4), some (.inl v5), some (.inl 0)] [] (ga_up I13 348 13 (ga_wr v5)) E
            rw [ga_wr_eq (z := v5) r5]
            refine gw_nm (J := (ga_up I13 348 13 v5)) (fun I14 q14 => ?_)
            have h := h I14 q14
            refine gw_RG (fun hI15 => ?_)
            refine gw_iload 6 d_Mo_reads_156 rfl ?_
            exact gw_zreturn d_Mo_reads_158 rfl (by decide) h
          · have h := h.2 hc
            refine gw_aload_n 0 d_Mo_reads_138 rfl rfl ?_
            refine gw_getI d_Mo_reads_139 fl_Mo_194 (ga_oM) rfl ?_
            refine gw_goto 147 d_Mo_reads_142 (by decide) ?_
            refine gw_putI d_Mo_reads_147 fp_Mo_194 (ga_oM) rfl ?_
            show ga_W G (d + 1) mt_Mo_reads 150 [some (.inr 348), some (.inl v1), some (.inl v2), some (.inl v3), some (.inl v4), some (.inl v5), some (.inl 0)] [] (ga_up I 348 12 (ga_wr (I 348 12))) E
            rw [ga_wr_eq (z := (I 348 12)) (hI1 _ _)]
            refine gw_nm (J := (ga_up I 348 12 (I 348 12))) (fun I15 q15 => ?_)
            have h := h I15 q15
            refine gw_RG (fun hI16 => ?_)
            refine gw_aload_n 0 d_Mo_reads_150 rfl rfl ?_
            refine gw_iload 5 d_Mo_reads_151 rfl ?_
            refine gw_putI d_Mo_reads_153 fp_Mo_201 (ga_oM) rfl ?_
            show ga_W G (d + 1) mt_Mo_reads 156 [some (.inr 348), some (.inl v1), some (.inl v2), some (.inl v3), some (.inl v4), some (.inl v5), some (.inl 0)] [] (ga_up I15 348 13 (ga_wr v5)) E
            rw [ga_wr_eq (z := v5) r5]
            refine gw_nm (J := (ga_up I15 348 13 v5)) (fun I16 q16 => ?_)
            have h := h I16 q16
            refine gw_RG (fun hI17 => ?_)
            refine gw_iload 6 d_Mo_reads_156 rfl ?_
            exact gw_zreturn d_Mo_reads_158 rfl (by decide) h
        · have h := h.2 hc
          refine gw_iload 5 d_Mo_reads_115 rfl ?_
          refine gw_iload_n 1 d_Mo_reads_117 rfl rfl ?_
          refine gw_iload_n 2 d_Mo_reads_118 rfl rfl ?_
          refine gw_invS (as := [.inl v5, .inl v1, .inl v2]) (rest := []) (d' := d) d_Mo_reads_119 lk_Mo_47 rfl (Nat.le_of_ble_eq_true rfl) (Nat.le_of_ble_eq_true rfl) rfl rfl (s_Mo_in r5 r1 r2 ?_)
          show ga_W G (d + 1) mt_Mo_reads 122 [some (.inr 348), some (.inl v1), some (.inl v2), some (.inl v3), some (.inl v4), some (.inl v5), none] [.inl (ga_bb (decide (v1 ≤ v5 ∧ v5 ≤ v2)))] I E
          refine gw_ifb_eq 129 d_Mo_reads_122 (by decide) (fun hc => ?_) (fun hc => ?_)
          · have h := h.1 (of_decide_eq_false hc)
            refine gw_iconst d_Mo_reads_129 ?_
            refine gw_istore 6 d_Mo_reads_130 (Nat.le_of_ble_eq_true rfl) rfl ?_
            refine gw_aload_n 0 d_Mo_reads_132 rfl rfl ?_
            refine gw_iload 6 d_Mo_reads_133 rfl ?_
            refine gw_if_eq 145 d_Mo_reads_135 (by decide) ⟨by decide, by decide⟩ (fun hc => ?_) (fun hc => ?_)
            · have h := h.1 hc
              refine gw_iload 4 d_Mo_reads_145 rfl ?_
              refine gw_putI d_Mo_reads_147 fp_Mo_194 (ga_oM) rfl ?_
              show ga_W G (d + 1) mt_Mo_reads 150 [some (.inr 348), some (.inl v1), some (.inl v2), some (.inl v3), some (.inl v4), some (.inl v5), some (.inl 0)] [] (ga_up I 348 12 (ga_wr v4)) E
              rw [ga_wr_eq (z := v4) r4]
              refine gw_nm (J := (ga_up I 348 12 v4)) (fun I17 q17 => ?_)
              have h := h I17 q17
              refine gw_RG (fun hI18 => ?_)
              refine gw_aload_n 0 d_Mo_reads_150 rfl rfl ?_
              refine gw_iload 5 d_Mo_reads_151 rfl ?_
              refine gw_putI d_Mo_reads_153 fp_Mo_201 (ga_oM) rfl ?_
              show ga_W G (d + 1) mt_Mo_reads 156 [some (.inr 348), some (.inl v1), some (.inl v2), some (.inl v3), some (.inl v4), some (.inl v5), some (.inl 0)] [] (ga_up I17 348 13 (ga_wr v5)) E
              rw [ga_wr_eq (z := v5) r5]
              refine gw_nm (J := (ga_up I17 348 13 v5)) (fun I18 q18 => ?_)
              have h := h I18 q18
              refine gw_RG (fun hI19 => ?_)
              refine gw_iload 6 d_Mo_reads_156 rfl ?_
              exact gw_zreturn d_Mo_reads_158 rfl (by decide) h
            · have h := h.2 hc
              refine gw_aload_n 0 d_Mo_reads_138 rfl rfl ?_
              refine gw_getI d_Mo_reads_139 fl_Mo_194 (ga_oM) rfl ?_
              refine gw_goto 147 d_Mo_reads_142 (by decide) ?_
              refine gw_putI d_Mo_reads_147 fp_Mo_194 (ga_oM) rfl ?_
              show ga_W G (d + 1) mt_Mo_reads 150 [some (.inr 348), some (.inl v1), some (.inl v2), some (.inl v3), some (.inl v4), some (.inl v5), some (.inl 0)] [] (ga_up I 348 12 (ga_wr (I 348 12))) E
              rw [ga_wr_eq (z := (I 348 12)) (hI1 _ _)]
              refine gw_nm (J := (ga_up I 348 12 (I 348 12))) (fun I19 q19 => ?_)
              have h := h I19 q19
              refine gw_RG (fun hI20 => ?_)
              refine gw_aload_n 0 d_Mo_reads_150 rfl rfl ?_
              refine gw_iload 5 d_Mo_reads_151 rfl ?_
              refine gw_putI d_Mo_reads_153 fp_Mo_201 (ga_oM) rfl ?_
              show ga_W G (d + 1) mt_Mo_reads 156 [some (.inr 348), some (.inl v1), some (.inl v2), some (.inl v3), some (.inl v4), some (.inl v5), some (.inl 0)] [] (ga_up I19 348 13 (ga_wr v5)) E
              rw [ga_wr_eq (z := v5) r5]
              refine gw_nm (J := (ga_up I19 348 13 v5)) (fun I20 q20 => ?_)
              have h := h I20 q20
              refine gw_RG (fun hI21 => ?_)
              refine gw_iload 6 d_Mo_reads_156 rfl ?_
              exact gw_zreturn d_Mo_reads_158 rfl (by decide) h
          · have h := h.2 (of_decide_eq_true hc)
            refine gw_iconst d_Mo_reads_125 ?_
            refine gw_goto 130 d_Mo_reads_126 (by decide) ?_
            refine gw_istore 6 d_Mo_reads_130 (Nat.le_of_ble_eq_true rfl) rfl ?_
            refine gw_aload_n 0 d_Mo_reads_132 rfl rfl ?_
            refine gw_iload 6 d_Mo_reads_133 rfl ?_
            refine gw_if_eq 145 d_Mo_reads_135 (by decide) ⟨by decide, by decide⟩ (fun hc => ?_) (fun hc => ?_)
            · have h := h.1 hc
              refine gw_iload 4 d_Mo_reads_145 rfl ?_
              refine gw_putI d_Mo_reads_147 fp_Mo_194 (ga_oM) rfl ?_
              show ga_W G (d + 1) mt_Mo_reads 150 [some (.inr 348), some (.inl v1), some (.inl v2), some (.inl v3), some (.inl v4), some (.inl v5), some (.inl 1)] [] (ga_up I 348 12 (ga_wr v4)) E
              rw [ga_wr_eq (z := v4) r4]
              refine gw_nm (J := (ga_up I 348 12 v4)) (fun I21 q21 => ?_)
              have h := h I21 q21
              refine gw_RG (fun hI22 => ?_)
              refine gw_aload_n 0 d_Mo_reads_150 rfl rfl ?_
              refine gw_iload 5 d_Mo_reads_151 rfl ?_
              refine gw_putI d_Mo_reads_153 fp_Mo_201 (ga_oM) rfl ?_
              show ga_W G (d + 1) mt_Mo_reads 156 [some (.inr 348), some (.inl v1), some (.inl v2), some (.inl v3), some (.inl v4), some (.inl v5), some (.inl 1)] [] (ga_up I21 348 13 (ga_wr v5)) E
              rw [ga_wr_eq (z := v5) r5]
              refine gw_nm (J := (ga_up I21 348 13 v5)) (fun I22 q22 => ?_)
              have h := h I22 q22
              refine gw_RG (fun hI23 => ?_)
              refine gw_iload 6 d_Mo_reads_156 rfl ?_
              exact gw_zreturn d_Mo_reads_158 rfl (by decide) h
            · have h := h.2 hc
              refine gw_aload_n 0 d_Mo_reads_138 rfl rfl ?_
              refine gw_getI d_Mo_reads_139 fl_Mo_194 (ga_oM) rfl ?_
              refine gw_goto 147 d_Mo_reads_142 (by decide) ?_
              refine gw_putI d_Mo_reads_147 fp_Mo_194 (ga_oM) rfl ?_
              show ga_W G (d + 1) mt_Mo_reads 150 [some (.inr 348), some (.inl v1), some (.inl v2), some (.inl v3), some (.inl v4), some (.inl v5), some (.inl 1)] [] (ga_up I 348 12 (ga_wr (I 348 12))) E
              rw [ga_wr_eq (z := (I 348 12)) (hI1 _ _)]
              refine gw_nm (J := (ga_up I 348 12 (I 348 12))) (fun I23 q23 => ?_)
              have h := h I23 q23
              refine gw_RG (fun hI24 => ?_)
              refine gw_aload_n 0 d_Mo_reads_150 rfl rfl ?_
              refine gw_iload 5 d_Mo_reads_151 rfl ?_
              refine gw_putI d_Mo_reads_153 fp_Mo_201 (ga_oM) rfl ?_
              show ga_W G (d + 1) mt_Mo_reads 156 [some (.inr 348), some (.inl v1), some (.inl v2), some (.inl v3), some (.inl v4), some (.inl v5), some (.inl 1)] [] (ga_up I23 348 13 (ga_wr v5)) E
              rw [ga_wr_eq (z := v5) r5]
              refine gw_nm (J := (ga_up I23 348 13 v5)) (fun I24 q24 => ?_)
              have h := h I24 q24
              refine gw_RG (fun hI25 => ?_)
              refine gw_iload 6 d_Mo_reads_156 rfl ?_
              exact gw_zreturn d_Mo_reads_158 rfl (by decide) h
  · have h := h.2 hc
    refine gw_aload_n 0 d_Mo_reads_25 rfl rfl ?_
    refine gw_getR d_Mo_reads_26 fl_Mo_19 (ga_oM) rfl ?_
    refine gw_aload_n 0 d_Mo_reads_29 rfl rfl ?_
    refine gw_getI d_Mo_reads_30 fl_Mo_194 (ga_oM) rfl ?_
    obtain ⟨g2, h⟩ := h
    obtain ⟨g3, h⟩ := h
    refine gw_iald d_Mo_reads_33 (ga_aM4) g2 g3 ?_
    refine gw_bipush d_Mo_reads_34 (by decide +kernel) ?_
    refine gw_bipush d_Mo_reads_36 (by decide +kernel) ?_
    refine gw_invS (as := [.inl (I 352 (I 348 12).toNat), .inl 48, .inl 57]) (rest := []) (d' := d) d_Mo_reads_38 lk_Mo_47 rfl (Nat.le_of_ble_eq_true rfl) (Nat.le_of_ble_eq_true rfl) rfl rfl (s_Mo_in (hI1 _ _) ⟨by decide, by decide⟩ ⟨by decide, by decide⟩ ?_)
    show ga_W G (d + 1) mt_Mo_reads 41 [some (.inr 348), some (.inl v1), some (.inl v2), some (.inl v3), some (.inl v4), some (.inl v5), none] [.inl (ga_bb (decide ((48 : Int) ≤ (I 352 (I 348 12).toNat) ∧ (I 352 (I 348 12).toNat) ≤ (57 : Int))))] I E
    refine gw_ifb_eq 89 d_Mo_reads_41 (by decide) (fun hc => ?_) (fun hc => ?_)
    · have h := h.1 (of_decide_eq_false hc)
      refine gw_aload_n 0 d_Mo_reads_89 rfl rfl ?_
      refine gw_getI d_Mo_reads_90 fl_Mo_194 (ga_oM) rfl ?_
      refine gw_iload 4 d_Mo_reads_93 rfl ?_
      refine gw_icmp_le 129 d_Mo_reads_95 (by decide) (hI1 _ _) r4 (fun hc => ?_) (fun hc => ?_)
      · have h := h.1 hc
        refine gw_iconst d_Mo_reads_129 ?_
        refine gw_istore 6 d_Mo_reads_130 (Nat.le_of_ble_eq_true rfl) rfl ?_
        refine gw_aload_n 0 d_Mo_reads_132 rfl rfl ?_
        refine gw_iload 6 d_Mo_reads_133 rfl ?_
        refine gw_if_eq 145 d_Mo_reads_135 (by decide) ⟨by decide, by decide⟩ (fun hc => ?_) (fun hc => ?_)
        · have h := h.1 hc
          refine gw_iload 4 d_Mo_reads_145 rfl ?_
          refine gw_putI d_Mo_reads_147 fp_Mo_194 (ga_oM) rfl ?_
          show ga_W G (d + 1) mt_Mo_reads 150 [some (.inr 348), some (.inl v1), some (.inl v2), some (.inl v3), some (.inl v4), some (.inl v5), some (.inl 0)] [] (ga_up I 348 12 (ga_wr v4)) E
          rw [ga_wr_eq (z := v4) r4]
          refine gw_nm (J := (ga_up I 348 12 v4)) (fun I25 q25 => ?_)
          have h := h I25 q25
          refine gw_RG (fun hI26 => ?_)
          refine gw_aload_n 0 d_Mo_reads_150 rfl rfl ?_
          refine gw_iload 5 d_Mo_reads_151 rfl ?_
          refine gw_putI d_Mo_reads_153 fp_Mo_201 (ga_oM) rfl ?_
          show ga_W G (d + 1) mt_Mo_reads 156 [some (.inr 348), some (.inl v1), some (.inl v2), some (.inl v3), some (.inl v4), some (.inl v5), some (.inl 0)] [] (ga_up I25 348 13 (ga_wr v5)) E
          rw [ga_wr_eq (z := v5) r5]
          refine gw_nm (J := (ga_up I25 348 13 v5)) (fun I26 q26 => ?_)
          have h := h I26 q26
          refine gw_RG (fun hI27 => ?_)
          refine gw_iload 6 d_Mo_reads_156 rfl ?_
          exact gw_zreturn d_Mo_reads_158 rfl (by decide) h
        · have h := h.2 hc
          refine gw_aload_n 0 d_Mo_reads_138 rfl rfl ?_
          refine gw_getI d_Mo_reads_139 fl_Mo_194 (ga_oM) rfl ?_
          refine gw_goto 147 d_Mo_reads_142 (by decide) ?_
          refine gw_putI d_Mo_reads_147 fp_Mo_194 (ga_oM) rfl ?_
          show ga_W G (d + 1) mt_Mo_reads 150 [some (.inr 348), some (.inl v1), some (.inl v2), some (.inl v3), some (.inl v4), some (.inl v5), some (.inl 0)] [] (ga_up I 348 12 (ga_wr (I 348 12))) E
          rw [ga_wr_eq (z := (I 348 12)) (hI1 _ _)]
          refine gw_nm (J := (ga_up I 348 12 (I 348 12))) (fun I27 q27 => ?_)
          have h := h I27 q27
          refine gw_RG (fun hI28 => ?_)
          refine gw_aload_n 0 d_Mo_reads_150 rfl rfl ?_
          refine gw_iload 5 d_Mo_reads_151 rfl ?_
          refine gw_putI d_Mo_reads_153 fp_Mo_201 (ga_oM) rfl ?_
          show ga_W G (d + 1) mt_Mo_reads 156 [some (.inr 348), some (.inl v1), some (.inl v2), some (.inl v3), some (.inl v4), some (.inl v5), some (.inl 0)] [] (ga_up I27 348 13 (ga_wr v5)) E
          rw [ga_wr_eq (z := v5) r5]
          refine gw_nm (J := (ga_up I27 348 13 v5)) (fun I28 q28 => ?_)
          have h := h I28 q28
          refine gw_RG (fun hI29 => ?_)
          refine gw_iload 6 d_Mo_reads_156 rfl ?_
          exact gw_zreturn d_Mo_reads_158 rfl (by decide) h
      · have h := h.2 hc
        refine gw_iload_n 3 d_Mo_reads_98 rfl rfl ?_
        refine gw_bipush d_Mo_reads_99 (by decide +kernel) ?_
        refine gw_icmp_ne 115 d_Mo_reads_101 (by decide) r3 ⟨by decide, by decide⟩ (fun hc => ?_) (fun hc => ?_)
        · have h := h.1 hc
          refine gw_iload 5 d_Mo_reads_115 rfl ?_
          refine gw_iload_n 1 d_Mo_reads_117 rfl rfl ?_
          refine gw_iload_n 2 d_Mo_reads_118 rfl rfl ?_
          refine gw_invS (as := [.inl v5, .inl v1, .inl v2]) (rest := []) (d' := d) d_Mo_reads_119 lk_Mo_47 rfl (Nat.le_of_ble_eq_true rfl) (Nat.le_of_ble_eq_true rfl) rfl rfl (s_Mo_in r5 r1 r2 ?_)
          show ga_W G (d + 1) mt_Mo_reads 122 [some (.inr 348), some (.inl v1), some (.inl v2), some (.inl v3), some (.inl v4), some (.inl v5), none] [.inl (ga_bb (decide (v1 ≤ v5 ∧ v5 ≤ v2)))] I E
          refine gw_ifb_eq 129 d_Mo_reads_122 (by decide) (fun hc => ?_) (fun hc => ?_)
          · have h := h.1 (of_decide_eq_false hc)
            refine gw_iconst d_Mo_reads_129 ?_
            refine gw_istore 6 d_Mo_reads_130 (Nat.le_of_ble_eq_true rfl) rfl ?_
            refine gw_aload_n 0 d_Mo_reads_132 rfl rfl ?_
            refine gw_iload 6 d_Mo_reads_133 rfl ?_
            refine gw_if_eq 145 d_Mo_reads_135 (by decide) ⟨by decide, by decide⟩ (fun hc => ?_) (fun hc => ?_)
            · have h := h.1 hc
              refine gw_iload 4 d_Mo_reads_145 rfl ?_
              refine gw_putI d_Mo_reads_147 fp_Mo_194 (ga_oM) rfl ?_
              show ga_W G (d + 1) mt_Mo_reads 150 [some (.inr 348), some (.inl v1), some (.inl v2), some (.inl v3), some (.inl v4), some (.inl v5), some (.inl 0)] [] (ga_up I 348 12 (ga_wr v4)) E
              rw [ga_wr_eq (z := v4) r4]
              refine gw_nm (J := (ga_up I 348 12 v4)) (fun I29 q29 => ?_)
              have h := h I29 q29
              refine gw_RG (fun hI30 => ?_)
              refine gw_aload_n 0 d_Mo_reads_150 rfl rfl ?_
              refine gw_iload 5 d_Mo_reads_151 rfl ?_
              refine gw_putI d_Mo_reads_153 fp_Mo_201 (ga_oM) rfl ?_
              show ga_W G (d + 1) mt_Mo_reads 156 [some (.inr 348), some (.inl v1), some (.inl v2), some (.inl v3), some (.inl v4), some (.inl v5), some (.inl 0)] [] (ga_up I29 348 13 (ga_wr v5)) E
              rw [ga_wr_eq (z := v5) r5]
              refine gw_nm (J := (ga_up I29 348 13 v5)) (fun I30 q30 => ?_)
              have h := h I30 q30
              refine gw_RG (fun hI31 => ?_)
              refine gw_iload 6 d_Mo_reads_156 rfl ?_
              exact gw_zreturn d_Mo_reads_158 rfl (by decide) h
            · have h := h.2 hc
              refine gw_aload_n 0 d_Mo_reads_138 rfl rfl ?_
              refine gw_getI d_Mo_reads_139 fl_Mo_194 (ga_oM) rfl ?_
              refine gw_goto 147 d_Mo_reads_142 (by decide) ?_
              refine gw_putI d_Mo_reads_147 fp_Mo_194 (ga_oM) rfl ?_
              show ga_W G (d + 1) mt_Mo_reads 150 [some (.inr 348), some (.inl v1), some (.inl v2), some (.inl v3), some (.inl v4), some (.inl v5), some (.inl 0)] [] (ga_up I 348 12 (ga_wr (I 348 12))) E
              rw [ga_wr_eq (z := (I 348 12)) (hI1 _ _)]
              refine gw_nm (J := (ga_up I 348 12 (I 348 12))) (fun I31 q31 => ?_)
              have h := h I31 q31
              refine gw_RG (fun hI32 => ?_)
              refine gw_aload_n 0 d_Mo_reads_150 rfl rfl ?_
              refine gw_iload 5 d_Mo_reads_151 rfl ?_
              refine gw_putI d_Mo_reads_153 fp_Mo_201 (ga_oM) rfl ?_
              show ga_W G (d + 1) mt_Mo_reads 156 [some (.inr 348), some (.inl v1), some (.inl v2), some (.inl v3), some (.inl v4), some (.inl v5), some (.inl 0)] [] (ga_up I31 348 13 (ga_wr v5)) E
              rw [ga_wr_eq (z := v5) r5]
              refine gw_nm (J := (ga_up I31 348 13 v5)) (fun I32 q32 => ?_)
              have h := h I32 q32
              refine gw_RG (fun hI33 => ?_)
              refine gw_iload 6 d_Mo_reads_156 rfl ?_
              exact gw_zreturn d_Mo_reads_158 rfl (by decide) h
          · have h := h.2 (of_decide_eq_true hc)
            refine gw_iconst d_Mo_reads_125 ?_
            refine gw_goto 130 d_Mo_reads_126 (by decide) ?_
            refine gw_istore 6 d_Mo_reads_130 (Nat.le_of_ble_eq_true rfl) rfl ?_
            refine gw_aload_n 0 d_Mo_reads_132 rfl rfl ?_
            refine gw_iload 6 d_Mo_reads_133 rfl ?_
            refine gw_if_eq 145 d_Mo_reads_135 (by decide) ⟨by decide, by decide⟩ (fun hc => ?_) (fun hc => ?_)
            · have h := h.1 hc
              refine gw_iload 4 d_Mo_reads_145 rfl ?_
              refine gw_putI d_Mo_reads_147 fp_Mo_194 (ga_oM) rfl ?_
              show ga_W G (d + 1) mt_Mo_reads 150 [some (.inr 348), some (.inl v1), some (.inl v2), some (.inl v3), some (.inl v4), some (.inl v5), some (.inl 1)] [] (ga_up I 348 12 (ga_wr v4)) E
              rw [ga_wr_eq (z := v4) r4]
              refine gw_nm (J := (ga_up I 348 12 v4)) (fun I33 q33 => ?_)
              have h := h I33 q33
              refine gw_RG (fun hI34 => ?_)
              refine gw_aload_n 0 d_Mo_reads_150 rfl rfl ?_
              refine gw_iload 5 d_Mo_reads_151 rfl ?_
              refine gw_putI d_Mo_reads_153 fp_Mo_201 (ga_oM) rfl ?_
              show ga_W G (d + 1) mt_Mo_reads 156 [some (.inr 348), some (.inl v1), some (.inl v2), some (.inl v3), some (.inl v4), some (.inl v5), some (.inl 1)] [] (ga_up I33 348 13 (ga_wr v5)) E
              rw [ga_wr_eq (z := v5) r5]
              refine gw_nm (J := (ga_up I33 348 13 v5)) (fun I34 q34 => ?_)
              have h := h I34 q34
              refine gw_RG (fun hI35 => ?_)
              refine gw_iload 6 d_Mo_reads_156 rfl ?_
              exact gw_zreturn d_Mo_reads_158 rfl (by decide) h
            · have h := h.2 hc
              refine gw_aload_n 0 d_Mo_reads_138 rfl rfl ?_
              refine gw_getI d_Mo_reads_139 fl_Mo_194 (ga_oM) rfl ?_
              refine gw_goto 147 d_Mo_reads_142 (by decide) ?_
              refine gw_putI d_Mo_reads_147 fp_Mo_194 (ga_oM) rfl ?_
              show ga_W G (d + 1) mt_Mo_reads 150 [some (.inr 348), some (.inl v1), some (.inl v2), some (.inl v3), some (.inl v4), some (.inl v5), some (.inl 1)] [] (ga_up I 348 12 (ga_wr (I 348 12))) E
              rw [ga_wr_eq (z := (I 348 12)) (hI1 _ _)]
              refine gw_nm (J := (ga_up I 348 12 (I 348 12))) (fun I35 q35 => ?_)
              have h := h I35 q35
              refine gw_RG (fun hI36 => ?_)
              refine gw_aload_n 0 d_Mo_reads_150 rfl rfl ?_
              refine gw_iload 5 d_Mo_reads_151 rfl ?_
              refine gw_putI d_Mo_reads_153 fp_Mo_201 (ga_oM) rfl ?_
              show ga_W G (d + 1) mt_Mo_reads 156 [some (.inr 348), some (.inl v1), some (.inl v2), some (.inl v3), some (.inl v4), some (.inl v5), some (.inl 1)] [] (ga_up I35 348 13 (ga_wr v5)) E
              rw [ga_wr_eq (z := v5) r5]
              refine gw_nm (J := (ga_up I35 348 13 v5)) (fun I36 q36 => ?_)
              have h := h I36 q36
              refine gw_RG (fun hI37 => ?_)
              refine gw_iload 6 d_Mo_reads_156 rfl ?_
              exact gw_zreturn d_Mo_reads_158 rfl (by decide) h
        · have h := h.2 hc
          refine gw_aload_n 0 d_Mo_reads_104 rfl rfl ?_
          refine gw_getI d_Mo_reads_105 fl_Mo_194 (ga_oM) rfl ?_
          refine gw_iload 4 d_Mo_reads_108 rfl ?_
          refine gw_iconst d_Mo_reads_110 ?_
          refine gw_iadd d_Mo_reads_111 ?_
          obtain ⟨g4, h⟩ := h
          refine gw_icmp_ne 129 d_Mo_reads_112 (by decide) (hI1 _ _) g4 (fun hc => ?_) (fun hc => ?_)
          · have h := h.1 hc
            refine gw_iconst d_Mo_reads_129 ?_
            refine gw_istore 6 d_Mo_reads_130 (Nat.le_of_ble_eq_true rfl) rfl ?_
            refine gw_aload_n 0 d_Mo_reads_132 rfl rfl ?_
            refine gw_iload 6 d_Mo_reads_133 rfl ?_
            refine gw_if_eq 145 d_Mo_reads_135 (by decide) ⟨by decide, by decide⟩ (fun hc => ?_) (fun hc => ?_)
            · have h := h.1 hc
              refine gw_iload 4 d_Mo_reads_145 rfl ?_
              refine gw_putI d_Mo_reads_147 fp_Mo_194 (ga_oM) rfl ?_
              show ga_W G (d + 1) mt_Mo_reads 150 [some (.inr 348), some (.inl v1), some (.inl v2), some (.inl v3), some (.inl v4), some (.inl v5), some (.inl 0)] [] (ga_up I 348 12 (ga_wr v4)) E
              rw [ga_wr_eq (z := v4) r4]
              refine gw_nm (J := (ga_up I 348 12 v4)) (fun I37 q37 => ?_)
              have h := h I37 q37
              refine gw_RG (fun hI38 => ?_)
              refine gw_aload_n 0 d_Mo_reads_150 rfl rfl ?_
              refine gw_iload 5 d_Mo_reads_151 rfl ?_
              refine gw_putI d_Mo_reads_153 fp_Mo_201 (ga_oM) rfl ?_
              show ga_W G (d + 1) mt_Mo_reads 156 [some (.inr 348), some (.inl v1), some (.inl v2), some (.inl v3), some (.inl v4), some (.inl v5), some (.inl 0)] [] (ga_up I37 348 13 (ga_wr v5)) E
              rw [ga_wr_eq (z := v5) r5]
              refine gw_nm (J := (ga_up I37 348 13 v5)) (fun I38 q38 => ?_)
              have h := h I38 q38
              refine gw_RG (fun hI39 => ?_)
              refine gw_iload 6 d_Mo_reads_156 rfl ?_
              exact gw_zreturn d_Mo_reads_158 rfl (by decide) h
            · have h := h.2 hc
              refine gw_aload_n 0 d_Mo_reads_138 rfl rfl ?_
              refine gw_getI d_Mo_reads_139 fl_Mo_194 (ga_oM) rfl ?_
              refine gw_goto 147 d_Mo_reads_142 (by decide) ?_
              refine gw_putI d_Mo_reads_147 fp_Mo_194 (ga_oM) rfl ?_
              show ga_W G (d + 1) mt_Mo_reads 150 [some (.inr 348), some (.inl v1), some (.inl v2), some (.inl v3), some (.inl v4), some (.inl v5), some (.inl 0)] [] (ga_up I 348 12 (ga_wr (I 348 12))) E
              rw [ga_wr_eq (z := (I 348 12)) (hI1 _ _)]
              refine gw_nm (J := (ga_up I 348 12 (I 348 12))) (fun I39 q39 => ?_)
              have h := h I39 q39
              refine gw_RG (fun hI40 => ?_)
              refine gw_aload_n 0 d_Mo_reads_150 rfl rfl ?_
              refine gw_iload 5 d_Mo_reads_151 rfl ?_
              refine gw_putI d_Mo_reads_153 fp_Mo_201 (ga_oM) rfl ?_
              show ga_W G (d + 1) mt_Mo_reads 156 [some (.inr 348), some (.inl v1), some (.inl v2), some (.inl v3), some (.inl v4), some (.inl v5), some (.inl 0)] [] (ga_up I39 348 13 (ga_wr v5)) E
              rw [ga_wr_eq (z := v5) r5]
              refine gw_nm (J := (ga_up I39 348 13 v5)) (fun I40 q40 => ?_)
              have h := h I40 q40
              refine gw_RG (fun hI41 => ?_)
              refine gw_iload 6 d_Mo_reads_156 rfl ?_
              exact gw_zreturn d_Mo_reads_158 rfl (by decide) h
          · have h := h.2 hc
            refine gw_iload 5 d_Mo_reads_115 rfl ?_
            refine gw_iload_n 1 d_Mo_reads_117 rfl rfl ?_
            refine gw_iload_n 2 d_Mo_reads_118 rfl rfl ?_
            refine gw_invS (as := [.inl v5, .inl v1, .inl v2]) (rest := []) (d' := d) d_Mo_reads_119 lk_Mo_47 rfl (Nat.le_of_ble_eq_true rfl) (Nat.le_of_ble_eq_true rfl) rfl rfl (s_Mo_in r5 r1 r2 ?_)
            show ga_W G (d + 1) mt_Mo_reads 122 [some (.inr 348), some (.inl v1), some (.inl v2), some (.inl v3), some (.inl v4), some (.inl v5), none] [.inl (ga_bb (decide (v1 ≤ v5 ∧ v5 ≤ v2)))] I E
            refine gw_ifb_eq 129 d_Mo_reads_122 (by decide) (fun hc => ?_) (fun hc => ?_)
            · have h := h.1 (of_decide_eq_false hc)
              refine gw_iconst d_Mo_reads_129 ?_
              refine gw_istore 6 d_Mo_reads_130 (Nat.le_of_ble_eq_true rfl) rfl ?_
              refine gw_aload_n 0 d_Mo_reads_132 rfl rfl ?_
              refine gw_iload 6 d_Mo_reads_133 rfl ?_
              refine gw_if_eq 145 d_Mo_reads_135 (by decide) ⟨by decide, by decide⟩ (fun hc => ?_) (fun hc => ?_)
              · have h := h.1 hc
                refine gw_iload 4 d_Mo_reads_145 rfl ?_
                refine gw_putI d_Mo_reads_147 fp_Mo_194 (ga_oM) rfl ?_
                show ga_W G (d + 1) mt_Mo_reads 150 [some (.inr 348), some (.inl v1), some (.inl v2), some (.inl v3), some (.inl v4), some (.inl v5), some (.inl 0)] [] (ga_up I 348 12 (ga_wr v4)) E
                rw [ga_wr_eq (z := v4) r4]
                refine gw_nm (J := (ga_up I 348 12 v4)) (fun I41 q41 => ?_)
                have h := h I41 q41
                refine gw_RG (fun hI42 => ?_)
                refine gw_aload_n 0 d_Mo_reads_150 rfl rfl ?_
                refine gw_iload 5 d_Mo_reads_151 rfl ?_
                refine gw_putI d_Mo_reads_153 fp_Mo_201 (ga_oM) rfl ?_
                show ga_W G (d + 1) mt_Mo_reads 156 [some (.inr 348), some (.inl v1), some (.inl v2), some (.inl v3), some (.inl v4), some (.inl v5), some (.inl 0)] [] (ga_up I41 348 13 (ga_wr v5)) E
                rw [ga_wr_eq (z := v5) r5]
                refine gw_nm (J := (ga_up I41 348 13 v5)) (fun I42 q42 => ?_)
                have h := h I42 q42
                refine gw_RG (fun hI43 => ?_)
                refine gw_iload 6 d_Mo_reads_156 rfl ?_
                exact gw_zreturn d_Mo_reads_158 rfl (by decide) h
              · have h := h.2 hc
                refine gw_aload_n 0 d_Mo_reads_138 rfl rfl ?_
                refine gw_getI d_Mo_reads_139 fl_Mo_194 (ga_oM) rfl ?_
                refine gw_goto 147 d_Mo_reads_142 (by decide) ?_
                refine gw_putI d_Mo_reads_147 fp_Mo_194 (ga_oM) rfl ?_
                show ga_W G (d + 1) mt_Mo_reads 150 [some (.inr 348), some (.inl v1), some (.inl v2), some (.inl v3), some (.inl v4), some (.inl v5), some (.inl 0)] [] (ga_up I 348 12 (ga_wr (I 348 12))) E
                rw [ga_wr_eq (z := (I 348 12)) (hI1 _ _)]
                refine gw_nm (J := (ga_up I 348 12 (I 348 12))) (fun I43 q43 => ?_)
                have h := h I43 q43
                refine gw_RG (fun hI44 => ?_)
                refine gw_aload_n 0 d_Mo_reads_150 rfl rfl ?_
                refine gw_iload 5 d_Mo_reads_151 rfl ?_
                refine gw_putI d_Mo_reads_153 fp_Mo_201 (ga_oM) rfl ?_
                show ga_W G (d + 1) mt_Mo_reads 156 [some (.inr 348), some (.inl v1), some (.inl v2), some (.inl v3), some (.inl v4), some (.inl v5), some (.inl 0)] [] (ga_up I43 348 13 (ga_wr v5)) E
                rw [ga_wr_eq (z := v5) r5]
                refine gw_nm (J := (ga_up I43 348 13 v5)) (fun I44 q44 => ?_)
                have h := h I44 q44
                refine gw_RG (fun hI45 => ?_)
                refine gw_iload 6 d_Mo_reads_156 rfl ?_
                exact gw_zreturn d_Mo_reads_158 rfl (by decide) h
            · have h := h.2 (of_decide_eq_true hc)
              refine gw_iconst d_Mo_reads_125 ?_
              refine gw_goto 130 d_Mo_reads_126 (by decide) ?_
              refine gw_istore 6 d_Mo_reads_130 (Nat.le_of_ble_eq_true rfl) rfl ?_
              refine gw_aload_n 0 d_Mo_reads_132 rfl rfl ?_
              refine gw_iload 6 d_Mo_reads_133 rfl ?_
              refine gw_if_eq 145 d_Mo_reads_135 (by decide) ⟨by decide, by decide⟩ (fun hc => ?_) (fun hc => ?_)
              · have h := h.1 hc
                refine gw_iload 4 d_Mo_reads_145 rfl ?_
                refine gw_putI d_Mo_reads_147 fp_Mo_194 (ga_oM) rfl ?_
                show ga_W G (d + 1) mt_Mo_reads 150 [some (.inr 348), some (.inl v1), some (.inl v2), some (.inl v3), some (.inl v4), some (.inl v5), some (.inl 1)] [] (ga_up I 348 12 (ga_wr v4)) E
                rw [ga_wr_eq (z := v4) r4]
                refine gw_nm (J := (ga_up I 348 12 v4)) (fun I45 q45 => ?_)
                have h := h I45 q45
                refine gw_RG (fun hI46 => ?_)
                refine gw_aload_n 0 d_Mo_reads_150 rfl rfl ?_
                refine gw_iload 5 d_Mo_reads_151 rfl ?_
                refine gw_putI d_Mo_reads_153 fp_Mo_201 (ga_oM) rfl ?_
                show ga_W G (d + 1) mt_Mo_reads 156 [some (.inr 348), some (.inl v1), some (.inl v2), some (.inl v3), some (.inl v4), some (.inl v5), some (.inl 1)] [] (ga_up I45 348 13 (ga_wr v5)) E
                rw [ga_wr_eq (z := v5) r5]
                refine gw_nm (J := (ga_up I45 348 13 v5)) (fun I46 q46 => ?_)
                have h := h I46 q46
                refine gw_RG (fun hI47 => ?_)
                refine gw_iload 6 d_Mo_reads_156 rfl ?_
                exact gw_zreturn d_Mo_reads_158 rfl (by decide) h
              · have h := h.2 hc
                refine gw_aload_n 0 d_Mo_reads_138 rfl rfl ?_
                refine gw_getI d_Mo_reads_139 fl_Mo_194 (ga_oM) rfl ?_
                refine gw_goto 147 d_Mo_reads_142 (by decide) ?_
                refine gw_putI d_Mo_reads_147 fp_Mo_194 (ga_oM) rfl ?_
                show ga_W G (d + 1) mt_Mo_reads 150 [some (.inr 348), some (.inl v1), some (.inl v2), some (.inl v3), some (.inl v4), some (.inl v5), some (.inl 1)] [] (ga_up I 348 12 (ga_wr (I 348 12))) E
                rw [ga_wr_eq (z := (I 348 12)) (hI1 _ _)]
                refine gw_nm (J := (ga_up I 348 12 (I 348 12))) (fun I47 q47 => ?_)
                have h := h I47 q47
                refine gw_RG (fun hI48 => ?_)
                refine gw_aload_n 0 d_Mo_reads_150 rfl rfl ?_
                refine gw_iload 5 d_Mo_reads_151 rfl ?_
                refine gw_putI d_Mo_reads_153 fp_Mo_201 (ga_oM) rfl ?_
                show ga_W G (d + 1) mt_Mo_reads 156 [some (.inr 348), some (.inl v1), some (.inl v2), some (.inl v3), some (.inl v4), some (.inl v5), some (.inl 1)] [] (ga_up I47 348 13 (ga_wr v5)) E
                rw [ga_wr_eq (z := v5) r5]
                refine gw_nm (J := (ga_up I47 348 13 v5)) (fun I48 q48 => ?_)
                have h := h I48 q48
                refine gw_RG (fun hI49 => ?_)
                refine gw_iload 6 d_Mo_reads_156 rfl ?_
                exact gw_zreturn d_Mo_reads_158 rfl (by decide) h
    · have h := h.2 (of_decide_eq_true hc)
      refine gw_iload 5 d_Mo_reads_44 rfl ?_
      refine gw_ldc (n := 100000) d_Mo_reads_46 kw_Mo_200 (by decide +kernel) ?_
      refine gw_icmp_ge 72 d_Mo_reads_48 (by decide) r5 ⟨by decide, by decide⟩ (fun hc => ?_) (fun hc => ?_)
      · have h := h.1 hc
        refine gw_iload 5 d_Mo_reads_72 rfl ?_
        refine gw_istore 5 d_Mo_reads_74 (Nat.le_of_ble_eq_true rfl) rfl ?_
        refine gw_aload_n 0 d_Mo_reads_76 rfl rfl ?_
        refine gw_dup d_Mo_reads_77 ?_
        refine gw_getI d_Mo_reads_78 fl_Mo_194 (ga_oM) rfl ?_
        refine gw_iconst d_Mo_reads_81 ?_
        refine gw_iadd d_Mo_reads_82 ?_
        refine gw_putI d_Mo_reads_83 fp_Mo_194 (ga_oM) rfl ?_
        refine gw_nm (J := (ga_up I 348 12 (ga_wr ((I 348 12) + 1)))) (fun I49 q49 => ?_)
        have h := h I49 q49
        refine gw_RG (fun hI50 => ?_)
        refine gw_goto 14 d_Mo_reads_86 (by decide) ?_
        exact gw_le h (by exact ⟨rfl, ⟨rfl, ⟨rfl, ⟨rfl, ⟨rfl, ⟨rfl, trivial⟩⟩⟩⟩⟩⟩)
      · have h := h.2 hc
        refine gw_bipush d_Mo_reads_51 (by decide +kernel) ?_
        refine gw_iload 5 d_Mo_reads_53 rfl ?_
        refine gw_imul d_Mo_reads_55 ?_
        refine gw_aload_n 0 d_Mo_reads_56 rfl rfl ?_
        refine gw_getR d_Mo_reads_57 fl_Mo_19 (ga_oM) rfl ?_
        refine gw_aload_n 0 d_Mo_reads_60 rfl rfl ?_
        refine gw_getI d_Mo_reads_61 fl_Mo_194 (ga_oM) rfl ?_
        refine gw_iald d_Mo_reads_64 (ga_aM4) g2 g3 ?_
        refine gw_iadd d_Mo_reads_65 ?_
        refine gw_bipush d_Mo_reads_66 (by decide +kernel) ?_
        refine gw_isub d_Mo_reads_68 ?_
        refine gw_goto 74 d_Mo_reads_69 (by decide) ?_
        refine gw_istore 5 d_Mo_reads_74 (Nat.le_of_ble_eq_true rfl) rfl ?_
        refine gw_aload_n 0 d_Mo_reads_76 rfl rfl ?_
        refine gw_dup d_Mo_reads_77 ?_
        refine gw_getI d_Mo_reads_78 fl_Mo_194 (ga_oM) rfl ?_
        refine gw_iconst d_Mo_reads_81 ?_
        refine gw_iadd d_Mo_reads_82 ?_
        refine gw_putI d_Mo_reads_83 fp_Mo_194 (ga_oM) rfl ?_
        refine gw_nm (J := (ga_up I 348 12 (ga_wr ((I 348 12) + 1)))) (fun I50 q50 => ?_)
        have h := h I50 q50
        refine gw_RG (fun hI51 => ?_)
        refine gw_goto 14 d_Mo_reads_86 (by decide) ?_
        exact gw_le h (by exact ⟨rfl, ⟨rfl, ⟨rfl, ⟨rfl, ⟨rfl, ⟨rfl, trivial⟩⟩⟩⟩⟩⟩)

section MS
variable {G : ga_G} {d : Nat} {I : ga_I} {E : Option ga_V → ga_I → Prop}
def mt_tk (I : ga_I) (c : Int) : ga_I := ga_up I 348 12 (if mt_hv I = c then (mt_p I : Nat) + 1 else (mt_p I : Nat))
theorem ga_up_up (I : ga_I) (k j : Nat) (y z : Int) : ga_up (ga_up I k j y) k j z = ga_up I k j z := by
  rw [ga_up_uc, ga_up_uc, ga_up_uc, ga_uc_uc, ga_uc_at]
  congr 1
  funext i
  unfold ns_up
  by_cases w : i = j
  · rw [if_pos w, if_pos w]
  · rw [if_neg w, if_neg w, if_neg w]
theorem s_Mo_takes {c : Int} (hx : mo_x I) (hc : 0 ≤ c ∧ c ≤ 255) (h : E (some (.inl (ga_bb (decide (mt_hv I = c))))) (mt_tk I c)) : ga_W G (d + 1) mt_Mo_takes 0 (ga_en 3 [.inr 348, .inl c]) [] I E := by
  have hb := mt_hv_bd hx
  have hp := mt_p_bd hx
  have hx1 := hx.1
  have hx2 := hx.2.1
  refine k_Mo_takes_0 ⟨by omega, by omega⟩ (fun hI => ⟨hx, fun I1 e1 => ⟨⟨by omega, by omega⟩, fun q => ⟨fun _ I2 e2 => ?_, fun q2 => absurd rfl q2⟩, fun q => ⟨fun q2 => absurd q2 (by decide), fun _ I5 e5 => ?_⟩⟩⟩)
  · have n1 : I1 348 12 = (mt_p I : Nat) := by rw [e1, ga_up_at]
    rw [n1, ga_wr_eq ⟨by omega, by omega⟩, e1, ga_up_up, Int.add_zero] at e2
    unfold mt_tk at h
    rw [if_neg q, ← e2] at h
    exact ga_bF (decide_eq_false q) h
  · have n1 : I1 348 12 = (mt_p I : Nat) := by rw [e1, ga_up_at]
    have hlt : (mt_p I : Int) < I 348 6 := by
      unfold mt_hv at q
      by_cases w : (mt_p I : Int) < I 348 6
      · exact w
      · rw [if_neg w] at q; omega
    rw [n1, ga_wr_eq ⟨by omega, by omega⟩, e1, ga_up_up] at e5
    unfold mt_tk at h
    rw [if_pos q, ← e5] at h
    exact ga_bT (decide_eq_true q) h
def mf (I J : ga_I) : Prop := (∀ a, a ≠ 348 → J a = I a) ∧ ∀ j, j ≠ 12 → j ≠ 13 → J 348 j = I 348 j
def mt_rd (I : ga_I) (lo hi : Int) : Bool × Nat × Int := gp_rd (I 352) (I 348 6).toNat (I 348 12).toNat lo hi
def gr_rd (I J : ga_I) (lo hi : Int) : Prop := mf I J ∧ J 348 12 = ((mt_rd I lo hi).2.1 : Nat) ∧ ((mt_rd I lo hi).1 = true → J 348 13 = (mt_rd I lo hi).2.2)
theorem gp_nx_bd {t : Nat → Int} {p : Nat} : ∀ k : Nat, (∀ i, i < k → 48 ≤ t (p + i) ∧ t (p + i) ≤ 57) → 0 ≤ gp_nx t p k
  | 0, _ => Int.le_refl 0
  | k + 1, h => by
    have h1 := gp_nx_bd (t := t) (p := p) k (fun i hi => h i (by omega))
    have h2 := h k (by omega)
    show 0 ≤ 10 * gp_nx t p k + t (p + k) - 48
    omega
theorem l_Mo_reads (I0 : ga_I) (hx0 : mo_x I0) {lo hi : Int} (hlo : 0 ≤ lo ∧ lo ≤ 9999) (hhi : 0 ≤ hi ∧ hi ≤ 9999) (h : ∀ J : ga_I, gr_rd I0 J lo hi → E (some (.inl (ga_bb (mt_rd I0 lo hi).1))) J) :
    ∀ (j k : Nat) (v : Int) (I : ga_I), mt_p I0 + k + j = (I0 348 6).toNat → mf I0 I → I 348 12 = ((mt_p I0 + k : Nat) : Int) → (∀ i, i < k → 48 ≤ I0 352 (mt_p I0 + i) ∧ I0 352 (mt_p I0 + i) ≤ 57) → (0 ≤ v ∧ v ≤ 1000009) → (v = gp_nx (I0 352) (mt_p I0) k ∨ (100000 ≤ v ∧ 100000 ≤ gp_nx (I0 352) (mt_p I0) k)) → gp_dg (I0 352) (I0 348 6).toNat (mt_p I0) = gp_dg (I0 352) (I0 348 6).toNat (mt_p I0 + k) →
    ga_W G (d + 1) mt_Mo_reads 14 [some (.inr 348), some (.inl lo), some (.inl hi), some (.inl (mt_hv I0)), some (.inl ((mt_p I0 : Nat) : Int)), some (.inl v), none] [] I E := by
  have hx1 := hx0.1
  have hx2 := hx0.2.1
  have hvb := mt_hv_bd hx0
  have core : ∀ (k : Nat) (v : Int) (I : ga_I), mt_p I0 + k ≤ (I0 348 6).toNat → mf I0 I → I 348 12 = ((mt_p I0 + k : Nat) : Int) → (v = gp_nx (I0 352) (mt_p I0) k ∨ (100000 ≤ v ∧ 100000 ≤ gp_nx (I0 352) (mt_p I0) k)) → gp_dg (I0 352) (I0 348 6).toNat (mt_p I0) = mt_p I0 + k →
      ((lo ≤ v ∧ v ≤ hi) ↔ (lo ≤ gp_nx (I0 352) (mt_p I0) (gp_dg (I0 352) (I0 348 6).toNat (mt_p I0) - mt_p I0) ∧ gp_nx (I0 352) (mt_p I0) (gp_dg (I0 352) (I0 348 6).toNat (mt_p I0) - mt_p I0) ≤ hi)) ∧
      (∀ (J1 J2 : ga_I) (z : Int), J1 = ga_up I 348 12 (mt_p I0 : Nat) → J2 = ga_up J1 348 13 z → ¬ (mt_p I0 < gp_dg (I0 352) (I0 348 6).toNat (mt_p I0) ∧ (I0 352 (mt_p I0) ≠ 48 ∨ gp_dg (I0 352) (I0 348 6).toNat (mt_p I0) = mt_p I0 + 1) ∧ (lo ≤ gp_nx (I0 352) (mt_p I0) (gp_dg (I0 352) (I0 348 6).toNat (mt_p I0) - mt_p I0) ∧ gp_nx (I0 352) (mt_p I0) (gp_dg (I0 352) (I0 348 6).toNat (mt_p I0) - mt_p I0) ≤ hi)) → E (some (.inl 0)) J2) ∧
      (∀ (J1 J2 : ga_I), J1 = ga_up I 348 12 (I 348 12) → J2 = ga_up J1 348 13 v → (mt_p I0 < gp_dg (I0 352) (I0 348 6).toNat (mt_p I0) ∧ (I0 352 (mt_p I0) ≠ 48 ∨ gp_dg (I0 352) (I0 348 6).toNat (mt_p I0) = mt_p I0 + 1) ∧ (lo ≤ gp_nx (I0 352) (mt_p I0) (gp_dg (I0 352) (I0 348 6).toNat (mt_p I0) - mt_p I0) ∧ gp_nx (I0 352) (mt_p I0) (gp_dg (I0 352) (I0 348 6).toNat (mt_p I0) - mt_p I0) ≤ hi)) → E (some (.inl 1)) J2) := by
    intro k v I hk hf hn hv hdg
    have ek : gp_dg (I0 352) (I0 348 6).toNat (mt_p I0) - mt_p I0 = k := by omega
    rw [ek]
    have fr : ∀ (J1 J2 : ga_I) (y z : Int), J1 = ga_up I 348 12 y → J2 = ga_up J1 348 13 z → mf I0 J2 ∧ J2 348 12 = y ∧ J2 348 13 = z := fun J1 J2 y z e1 e2 => by
      refine ⟨⟨fun a ha => ?_, fun j h1 h2 => ?_⟩, ?_, ?_⟩
      · rw [e2, ga_up_fn (by omega), e1, ga_up_fn (by omega)]; exact hf.1 a ha
      · rw [e2, ga_up_nj (by omega), e1, ga_up_nj (by omega)]; exact hf.2 j h1 h2
      · rw [e2, ga_up_nj (by omega), e1, ga_up_at]
      · rw [e2, ga_up_at]
    refine ⟨by omega, fun J1 J2 z e1 e2 hq => ?_, fun J1 J2 e1 e2 hq => ?_⟩
    · have eR : mt_rd I0 lo hi = (false, mt_p I0, 0) := by
        unfold mt_rd gp_rd
        rw [← show mt_p I0 = gp_sp (I0 352) (I0 348 6).toNat (I0 348 12).toNat from rfl, ek, if_neg hq]
      obtain ⟨f1, f2, f3⟩ := fr J1 J2 _ _ e1 e2
      have hh := h J2 (by unfold gr_rd; rw [eR]; exact ⟨f1, f2, fun w => by cases w⟩)
      rw [eR] at hh
      exact hh
    · have eR : mt_rd I0 lo hi = (true, mt_p I0 + k, gp_nx (I0 352) (mt_p I0) k) := by
        unfold mt_rd gp_rd
        rw [← show mt_p I0 = gp_sp (I0 352) (I0 348 6).toNat (I0 348 12).toNat from rfl, ek, if_pos hq, hdg]
      obtain ⟨f1, f2, f3⟩ := fr J1 J2 _ _ e1 e2
      have hh := h J2 (by unfold gr_rd; rw [eR]; exact ⟨f1, f2.trans hn, fun _ => f3.trans (show v = gp_nx (I0 352) (mt_p I0) k by have := hq.2.2; omega)⟩)
      rw [eR] at hh
      exact hh
  intro j
  induction j with
  | zero =>
    intro k v I hk hf hn hd hvr hv hdg
    have l1 : I 348 6 = I0 348 6 := hf.2 6 (by omega) (by omega)
    rw [gp_dg_e (n := mt_p I0 + k) (by omega)] at hdg
    obtain ⟨rng, bad, good⟩ := core k v I (by omega) hf hn hv hdg
    refine k_Mo_reads_14 ⟨by omega, by omega⟩ ⟨by omega, by omega⟩ ⟨by omega, by omega⟩ ⟨by omega, by omega⟩ ⟨by omega, by omega⟩ (fun hI => ⟨fun q0 => ?_, fun q0 => by exfalso; omega⟩)
    have hfirst : k ≠ 0 → mt_hv I0 = I0 352 (mt_p I0) := fun hk0 => by unfold mt_hv; rw [if_pos (by omega)]
    exact ⟨fun q1 => ⟨fun _ J1 e1 J2 e2 => bad J1 J2 _ e1 e2 (fun w => by have := w.1; omega), fun q => absurd rfl q⟩, fun q1 => ⟨fun q2 => ⟨fun q3 => ⟨fun _ J1 e1 J2 e2 => bad J1 J2 _ e1 e2 (fun w => q3 (rng.mpr w.2.2)), fun q => absurd rfl q⟩, fun q3 => ⟨fun q => absurd q (by decide), fun _ J1 e1 J2 e2 => good J1 J2 e1 e2 ⟨by omega, Or.inl (by rw [← hfirst (by omega)]; exact q2), rng.mp q3⟩⟩⟩, fun q2 => ⟨⟨by omega, by omega⟩, fun q4 => ⟨fun _ J1 e1 J2 e2 => bad J1 J2 _ e1 e2 (fun w => w.2.1.elim (fun u => u (by rw [← hfirst (by omega)]; exact q2)) (fun u => q4 (by omega))), fun q => absurd rfl q⟩, fun q4 => ⟨fun q3 => ⟨fun _ J1 e1 J2 e2 => bad J1 J2 _ e1 e2 (fun w => q3 (rng.mpr w.2.2)), fun q => absurd rfl q⟩, fun q3 => ⟨fun q => absurd q (by decide), fun _ J1 e1 J2 e2 => good J1 J2 e1 e2 ⟨by omega, Or.inr (by omega), rng.mp q3⟩⟩⟩⟩⟩⟩
  | succ j ih =>
    intro k v I hk hf hn hd hvr hv hdg
    have l1 : I 348 6 = I0 348 6 := hf.2 6 (by omega) (by omega)
    have x1 : I 352 = I0 352 := hf.1 352 (by omega)
    have en : (I 348 12).toNat = mt_p I0 + k := by omega
    have hch := hx0.2.2 (mt_p I0 + k) (by omega)
    refine k_Mo_reads_14 ⟨by omega, by omega⟩ ⟨by omega, by omega⟩ ⟨by omega, by omega⟩ ⟨by omega, by omega⟩ ⟨by omega, by omega⟩ (fun hI => ⟨fun q0 => by exfalso; omega, fun q0 => ⟨by omega, by omega, fun q5 => ?_, fun q5 => ?_⟩⟩)
    · rw [en, x1] at q5
      rw [gp_dg_e (n := mt_p I0 + k) (fun w => q5 w.2)] at hdg
      obtain ⟨rng, bad, good⟩ := core k v I (by omega) hf hn hv hdg
      have hfirst : k ≠ 0 → mt_hv I0 = I0 352 (mt_p I0) := fun hk0 => by unfold mt_hv; rw [if_pos (by omega)]
      exact ⟨fun q1 => ⟨fun _ J1 e1 J2 e2 => bad J1 J2 _ e1 e2 (fun w => by have := w.1; omega), fun q => absurd rfl q⟩, fun q1 => ⟨fun q2 => ⟨fun q3 => ⟨fun _ J1 e1 J2 e2 => bad J1 J2 _ e1 e2 (fun w => q3 (rng.mpr w.2.2)), fun q => absurd rfl q⟩, fun q3 => ⟨fun q => absurd q (by decide), fun _ J1 e1 J2 e2 => good J1 J2 e1 e2 ⟨by omega, Or.inl (by rw [← hfirst (by omega)]; exact q2), rng.mp q3⟩⟩⟩, fun q2 => ⟨⟨by omega, by omega⟩, fun q4 => ⟨fun _ J1 e1 J2 e2 => bad J1 J2 _ e1 e2 (fun w => w.2.1.elim (fun u => u (by rw [← hfirst (by omega)]; exact q2)) (fun u => q4 (by omega))), fun q => absurd rfl q⟩, fun q4 => ⟨fun q3 => ⟨fun _ J1 e1 J2 e2 => bad J1 J2 _ e1 e2 (fun w => q3 (rng.mpr w.2.2)), fun q => absurd rfl q⟩, fun q3 => ⟨fun q => absurd q (by decide), fun _ J1 e1 J2 e2 => good J1 J2 e1 e2 ⟨by omega, Or.inr (by omega), rng.mp q3⟩⟩⟩⟩⟩⟩
    · rw [en, x1] at q5
      have next : ∀ (w : Int) (J : ga_I), (0 ≤ w ∧ w ≤ 1000009) → (w = gp_nx (I0 352) (mt_p I0) (k + 1) ∨ (100000 ≤ w ∧ 100000 ≤ gp_nx (I0 352) (mt_p I0) (k + 1))) → J = ga_up I 348 12 (ga_wr (I 348 12 + 1)) → ga_W G (d + 1) mt_Mo_reads 14 [some (.inr 348), some (.inl lo), some (.inl hi), some (.inl (mt_hv I0)), some (.inl ((mt_p I0 : Nat) : Int)), some (.inl w), none] [] J E := fun w J hw1 hw2 eJ => by
        rw [ga_wr_eq ⟨by omega, by omega⟩] at eJ
        refine ih (k + 1) w J (by omega) ⟨fun a ha => by rw [eJ, ga_up_fn (by omega)]; exact hf.1 a ha, fun j h1 h2 => by rw [eJ, ga_up_nj (by omega)]; exact hf.2 j h1 h2⟩ (by rw [eJ, ga_up_at]; omega) (fun i hi => ?_) hw1 hw2 ?_
        · by_cases e : i = k
          · rw [e]; exact q5
          · exact hd i (by omega)
        · rw [hdg]; exact gp_dg_s ⟨by omega, q5⟩
      have hnx : gp_nx (I0 352) (mt_p I0) (k + 1) = 10 * gp_nx (I0 352) (mt_p I0) k + I0 352 (mt_p I0 + k) - 48 := rfl
      refine ⟨fun q6 J eJ => next v J hvr (Or.inr ⟨q6, ?_⟩) eJ, fun q6 J eJ => ?_⟩
      · rw [hnx]; omega
      · rw [en, x1]
        exact next _ J (by omega) (Or.inl (by rw [hnx]; omega)) eJ
theorem s_Mo_reads {lo hi : Int} (hx : mo_x I) (hlo : 0 ≤ lo ∧ lo ≤ 9999) (hhi : 0 ≤ hi ∧ hi ≤ 9999) (h : ∀ J : ga_I, gr_rd I J lo hi → E (some (.inl (ga_bb (mt_rd I lo hi).1))) J) : ga_W G (d + 1) mt_Mo_reads 0 (ga_en 7 [.inr 348, .inl lo, .inl hi]) [] I E := by
  have hp := mt_p_bd hx
  have hx1 := hx.1
  refine k_Mo_reads_0 (fun hI => ⟨hx, fun I1 e1 => ?_⟩)
  have n1 : I1 348 12 = (mt_p I : Nat) := by rw [e1, ga_up_at]
  rw [n1]
  exact l_Mo_reads I hx hlo hhi h ((I 348 6).toNat - mt_p I) 0 0 I1 (by omega) ⟨fun a ha => by rw [e1, ga_up_fn (by omega)], fun j h1 h2 => by rw [e1, ga_up_nj (by omega)]⟩ (by rw [n1]; rfl) (fun i hi => absurd hi (Nat.not_lt_zero i)) (by omega) (Or.inl rfl) rfl
end MS
