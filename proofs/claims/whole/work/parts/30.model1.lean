/-! the reference: leaves -/
-- borders in the row of the reference
def ms_n (s : Nat → Int) (ax : Int) : Int := s (19 * ax).toNat
def ms_b (s : Nat → Int) (ax b w : Int) : Int := s ((19 * ax).toNat + 1 + 3 * b.toNat + w.toNat)
def ms_p (s : Nat → Int) (ax : Int) : Nat → Int := fun b => s ((19 * ax).toNat + 1 + 3 * b)
def ms_q (s : Nat → Int) (ax : Int) : Nat → Int := fun b => s ((19 * ax).toNat + 1 + 3 * b + 1)
def ms_r (s : Nat → Int) (ax : Int) : Nat → Int := fun b => s ((19 * ax).toNat + 1 + 3 * b + 2)
def mo_n (I : ga_I) : Prop := (0 ≤ ms_n (I 349) 0 ∧ ms_n (I 349) 0 ≤ 6) ∧ (0 ≤ ms_n (I 349) 1 ∧ ms_n (I 349) 1 ≤ 6)
def mx_sb (I : ga_I) (ax b p q r : Int) : ga_I := ga_up (ga_up (ga_up I 349 ((19 * ax).toNat + 1 + 3 * b.toNat) p) 349 ((19 * ax).toNat + 1 + 3 * b.toNat + 1) q) 349 ((19 * ax).toNat + 1 + 3 * b.toNat + 2) r
theorem k_Mo_in_0 {G : ga_G} {d : Nat} {I : ga_I} {E : Option ga_V → ga_I → Prop} {v0 : Int} {v1 : Int} {v2 : Int} (r0 : ga_rg v0) (r1 : ga_rg v1) (r2 : ga_rg v2)
    (h : ga_RG I → ((v0 < v1) → E (some (.inl 0)) I) ∧ ((¬ (v0 < v1)) → ((v2 < v0) → E (some (.inl 0)) I) ∧ ((¬ (v2 < v0)) → E (some (.inl 1)) I))) :
    ga_W G d mt_Mo_in 0 (ga_en 3 [.inl v0, .inl v1, .inl v2]) [] I E := by
  show ga_W G d mt_Mo_in 0 [some (.inl v0), some (.inl v1), some (.inl v2)] [] I E
  refine gw_RG (fun hI1 => ?_)
  have h := h hI1
  refine gw_iload_n 0 d_Mo_in_0 rfl rfl ?_
  refine gw_iload_n 1 d_Mo_in_1 rfl rfl ?_
  refine gw_icmp_lt 14 d_Mo_in_2 (by decide) r0 r1 (fun hc => ?_) (fun hc => ?_)
  · have h := h.1 hc
    refine gw_iconst d_Mo_in_14 ?_
    exact gw_zreturn d_Mo_in_15 rfl (by decide) h
  · have h := h.2 hc
    refine gw_iload_n 0 d_Mo_in_5 rfl rfl ?_
    refine gw_iload_n 2 d_Mo_in_6 rfl rfl ?_
    refine gw_icmp_gt 14 d_Mo_in_7 (by decide) r0 r2 (fun hc => ?_) (fun hc => ?_)
    · have h := h.1 hc
      refine gw_iconst d_Mo_in_14 ?_
      exact gw_zreturn d_Mo_in_15 rfl (by decide) h
    · have h := h.2 hc
      refine gw_iconst d_Mo_in_10 ?_
      refine gw_goto 15 d_Mo_in_11 (by decide) ?_
      exact gw_zreturn d_Mo_in_15 rfl (by decide) h

theorem k_Mo_apart_0 {G : ga_G} {d : Nat} {I : ga_I} {E : Option ga_V → ga_I → Prop} {v0 : Int} {v1 : Int} (r0 : ga_rg v0) (r1 : ga_rg v1)
    (h : ga_RG I → ((v1 ≤ v0) → E (some (.inl (v0 - v1))) I) ∧ ((¬ (v1 ≤ v0)) → E (some (.inl (v1 - v0))) I)) :
    ga_W G d mt_Mo_apart 0 (ga_en 2 [.inl v0, .inl v1]) [] I E := by
  show ga_W G d mt_Mo_apart 0 [some (.inl v0), some (.inl v1)] [] I E
  refine gw_RG (fun hI1 => ?_)
  have h := h hI1
  refine gw_iload_n 0 d_Mo_apart_0 rfl rfl ?_
  refine gw_iload_n 1 d_Mo_apart_1 rfl rfl ?_
  refine gw_icmp_ge 11 d_Mo_apart_2 (by decide) r0 r1 (fun hc => ?_) (fun hc => ?_)
  · have h := h.1 hc
    refine gw_iload_n 0 d_Mo_apart_11 rfl rfl ?_
    refine gw_iload_n 1 d_Mo_apart_12 rfl rfl ?_
    refine gw_isub d_Mo_apart_13 ?_
    exact gw_ireturn d_Mo_apart_14 rfl h
  · have h := h.2 hc
    refine gw_iload_n 1 d_Mo_apart_5 rfl rfl ?_
    refine gw_iload_n 0 d_Mo_apart_6 rfl rfl ?_
    refine gw_isub d_Mo_apart_7 ?_
    refine gw_goto 14 d_Mo_apart_8 (by decide) ?_
    exact gw_ireturn d_Mo_apart_14 rfl h

theorem k_Mo_isInside_0 {G : ga_G} {d : Nat} {I : ga_I} {E : Option ga_V → ga_I → Prop} {v0 : Int} {v1 : Int} 
    (h : ga_RG I → (ga_rg (v0 - v1)) ∧ ((((v0 - v1) < 0) → E (some (.inl 0)) I) ∧ ((¬ ((v0 - v1) < 0)) → (ga_rg (v0 + v1)) ∧ (((1000 < (v0 + v1)) → E (some (.inl 0)) I) ∧ ((¬ (1000 < (v0 + v1))) → E (some (.inl 1)) I))))) :
    ga_W G d mt_Mo_isInside 0 (ga_en 2 [.inl v0, .inl v1]) [] I E := by
  show ga_W G d mt_Mo_isInside 0 [some (.inl v0), some (.inl v1)] [] I E
  refine gw_RG (fun hI1 => ?_)
  have h := h hI1
  refine gw_iload_n 0 d_Mo_isInside_0 rfl rfl ?_
  refine gw_iload_n 1 d_Mo_isInside_1 rfl rfl ?_
  refine gw_isub d_Mo_isInside_2 ?_
  obtain ⟨g1, h⟩ := h
  refine gw_if_lt 19 d_Mo_isInside_3 (by decide) g1 (fun hc => ?_) (fun hc => ?_)
  · have h := h.1 hc
    refine gw_iconst d_Mo_isInside_19 ?_
    exact gw_zreturn d_Mo_isInside_20 rfl (by decide) h
  · have h := h.2 hc
    refine gw_iload_n 0 d_Mo_isInside_6 rfl rfl ?_
    refine gw_iload_n 1 d_Mo_isInside_7 rfl rfl ?_
    refine gw_iadd d_Mo_isInside_8 ?_
    refine gw_sipush d_Mo_isInside_9 (by decide +kernel) ?_
    obtain ⟨g2, h⟩ := h
    refine gw_icmp_gt 19 d_Mo_isInside_12 (by decide) g2 ⟨by decide, by decide⟩ (fun hc => ?_) (fun hc => ?_)
    · have h := h.1 hc
      refine gw_iconst d_Mo_isInside_19 ?_
      exact gw_zreturn d_Mo_isInside_20 rfl (by decide) h
    · have h := h.2 hc
      refine gw_iconst d_Mo_isInside_15 ?_
      refine gw_goto 20 d_Mo_isInside_16 (by decide) ?_
      exact gw_zreturn d_Mo_isInside_20 rfl (by decide) h

theorem k_Mo_borders_0 {G : ga_G} {d : Nat} {I : ga_I} {E : Option ga_V → ga_I → Prop} {v1 : Int} 
    (h : ga_RG I → (0 ≤ (0 + (19 * v1))) ∧ (((0 + (19 * v1)) < 1120) ∧ (E (some (.inl (I 349 (0 + (19 * v1)).toNat))) I))) :
    ga_W G d mt_Mo_borders 0 (ga_en 2 [.inr 348, .inl v1]) [] I E := by
  show ga_W G d mt_Mo_borders 0 [some (.inr 348), some (.inl v1)] [] I E
  refine gw_RG (fun hI1 => ?_)
  have h := h hI1
  refine gw_aload_n 0 d_Mo_borders_0 rfl rfl ?_
  refine gw_getR d_Mo_borders_1 fl_Mo_7 (ga_oM) rfl ?_
  refine gw_iconst d_Mo_borders_4 ?_
  refine gw_bipush d_Mo_borders_5 (by decide +kernel) ?_
  refine gw_iload_n 1 d_Mo_borders_7 rfl rfl ?_
  refine gw_imul d_Mo_borders_8 ?_
  refine gw_iadd d_Mo_borders_9 ?_
  obtain ⟨g1, h⟩ := h
  obtain ⟨g2, h⟩ := h
  refine gw_iald d_Mo_borders_10 (ga_aM1) g1 g2 ?_
  exact gw_ireturn d_Mo_borders_11 rfl h

theorem k_Mo_ofBorder_0 {G : ga_G} {d : Nat} {I : ga_I} {E : Option ga_V → ga_I → Prop} {v1 : Int} {v2 : Int} {v3 : Int} 
    (h : ga_RG I → (0 ≤ ((((0 + (19 * v1)) + 1) + (3 * v2)) + v3)) ∧ ((((((0 + (19 * v1)) + 1) + (3 * v2)) + v3) < 1120) ∧ (E (some (.inl (I 349 ((((0 + (19 * v1)) + 1) + (3 * v2)) + v3).toNat))) I))) :
    ga_W G d mt_Mo_ofBorder 0 (ga_en 4 [.inr 348, .inl v1, .inl v2, .inl v3]) [] I E := by
  show ga_W G d mt_Mo_ofBorder 0 [some (.inr 348), some (.inl v1), some (.inl v2), some (.inl v3)] [] I E
  refine gw_RG (fun hI1 => ?_)
  have h := h hI1
  refine gw_aload_n 0 d_Mo_ofBorder_0 rfl rfl ?_
  refine gw_getR d_Mo_ofBorder_1 fl_Mo_7 (ga_oM) rfl ?_
  refine gw_iconst d_Mo_ofBorder_4 ?_
  refine gw_bipush d_Mo_ofBorder_5 (by decide +kernel) ?_
  refine gw_iload_n 1 d_Mo_ofBorder_7 rfl rfl ?_
  refine gw_imul d_Mo_ofBorder_8 ?_
  refine gw_iadd d_Mo_ofBorder_9 ?_
  refine gw_iconst d_Mo_ofBorder_10 ?_
  refine gw_iadd d_Mo_ofBorder_11 ?_
  refine gw_iconst d_Mo_ofBorder_12 ?_
  refine gw_iload_n 2 d_Mo_ofBorder_13 rfl rfl ?_
  refine gw_imul d_Mo_ofBorder_14 ?_
  refine gw_iadd d_Mo_ofBorder_15 ?_
  refine gw_iload_n 3 d_Mo_ofBorder_16 rfl rfl ?_
  refine gw_iadd d_Mo_ofBorder_17 ?_
  obtain ⟨g1, h⟩ := h
  obtain ⟨g2, h⟩ := h
  refine gw_iald d_Mo_ofBorder_18 (ga_aM1) g1 g2 ?_
  exact gw_ireturn d_Mo_ofBorder_19 rfl h

theorem k_Mo_setBorder_0 {G : ga_G} {d : Nat} {I : ga_I} {E : Option ga_V → ga_I → Prop} {v1 : Int} {v2 : Int} {v3 : Int} {v4 : Int} {v5 : Int} 
    (h : ga_RG I → (0 ≤ ((((0 + (19 * v1)) + 1) + (3 * v2)) + 0)) ∧ ((((((0 + (19 * v1)) + 1) + (3 * v2)) + 0) < 1120) ∧ ((∀ I1 : ga_I, I1 = (ga_up I 349 ((((0 + (19 * v1)) + 1) + (3 * v2)) + 0).toNat (ga_wr v3)) → (0 ≤ ((((0 + (19 * v1)) + 1) + (3 * v2)) + 1)) ∧ ((((((0 + (19 * v1)) + 1) + (3 * v2)) + 1) < 1120) ∧ ((∀ I2 : ga_I, I2 = (ga_up I1 349 ((((0 + (19 * v1)) + 1) + (3 * v2)) + 1).toNat (ga_wr v4)) → (0 ≤ ((((0 + (19 * v1)) + 1) + (3 * v2)) + 2)) ∧ ((((((0 + (19 * v1)) + 1) + (3 * v2)) + 2) < 1120) ∧ ((∀ I3 : ga_I, I3 = (ga_up I2 349 ((((0 + (19 * v1)) + 1) + (3 * v2)) + 2).toNat (ga_wr v5)) → E none I3)))))))))) :
    ga_W G d mt_Mo_setBorder 0 (ga_en 7 [.inr 348, .inl v1, .inl v2, .inl v3, .inl v4, .inl v5]) [] I E := by
  show ga_W G d mt_Mo_setBorder 0 [some (.inr 348), some (.inl v1), some (.inl v2), some (.inl v3), some (.inl v4), some (.inl v5), none] [] I E
  refine gw_RG (fun hI1 => ?_)
  have h := h hI1
  refine gw_iconst d_Mo_setBorder_0 ?_
  refine gw_bipush d_Mo_setBorder_1 (by decide +kernel) ?_
  refine gw_iload_n 1 d_Mo_setBorder_3 rfl rfl ?_
  refine gw_imul d_Mo_setBorder_4 ?_
  refine gw_iadd d_Mo_setBorder_5 ?_
  refine gw_iconst d_Mo_setBorder_6 ?_
  refine gw_iadd d_Mo_setBorder_7 ?_
  refine gw_iconst d_Mo_setBorder_8 ?_
  refine gw_iload_n 2 d_Mo_setBorder_9 rfl rfl ?_
  refine gw_imul d_Mo_setBorder_10 ?_
  refine gw_iadd d_Mo_setBorder_11 ?_
  refine gw_istore 6 d_Mo_setBorder_12 (Nat.le_of_ble_eq_true rfl) rfl ?_
  refine gw_aload_n 0 d_Mo_setBorder_14 rfl rfl ?_
  refine gw_getR d_Mo_setBorder_15 fl_Mo_7 (ga_oM) rfl ?_
  refine gw_iload 6 d_Mo_setBorder_18 rfl ?_
  refine gw_iconst d_Mo_setBorder_20 ?_
  refine gw_iadd d_Mo_setBorder_21 ?_
  refine gw_iload_n 3 d_Mo_setBorder_22 rfl rfl ?_
  obtain ⟨g1, h⟩ := h
  obtain ⟨g2, h⟩ := h
  refine gw_iast d_Mo_setBorder_23 (ga_aM1) g1 g2 ?_
  refine gw_nm (J := (ga_up I 349 ((((0 + (19 * v1)) + 1) + (3 * v2)) + 0).toNat (ga_wr v3))) (fun I1 q1 => ?_)
  have h := h I1 q1
  refine gw_RG (fun hI2 => ?_)
  refine gw_aload_n 0 d_Mo_setBorder_24 rfl rfl ?_
  refine gw_getR d_Mo_setBorder_25 fl_Mo_7 (ga_oM) rfl ?_
  refine gw_iload 6 d_Mo_setBorder_28 rfl ?_
  refine gw_iconst d_Mo_setBorder_30 ?_
  refine gw_iadd d_Mo_setBorder_31 ?_
  refine gw_iload 4 d_Mo_setBorder_32 rfl ?_
  obtain ⟨g3, h⟩ := h
  obtain ⟨g4, h⟩ := h
  refine gw_iast d_Mo_setBorder_34 (ga_aM1) g3 g4 ?_
  refine gw_nm (J := (ga_up I1 349 ((((0 + (19 * v1)) + 1) + (3 * v2)) + 1).toNat (ga_wr v4))) (fun I2 q2 => ?_)
  have h := h I2 q2
  refine gw_RG (fun hI3 => ?_)
  refine gw_aload_n 0 d_Mo_setBorder_35 rfl rfl ?_
  refine gw_getR d_Mo_setBorder_36 fl_Mo_7 (ga_oM) rfl ?_
  refine gw_iload 6 d_Mo_setBorder_39 rfl ?_
  refine gw_iconst d_Mo_setBorder_41 ?_
  refine gw_iadd d_Mo_setBorder_42 ?_
  refine gw_iload 5 d_Mo_setBorder_43 rfl ?_
  obtain ⟨g5, h⟩ := h
  obtain ⟨g6, h⟩ := h
  refine gw_iast d_Mo_setBorder_45 (ga_aM1) g5 g6 ?_
  refine gw_nm (J := (ga_up I2 349 ((((0 + (19 * v1)) + 1) + (3 * v2)) + 2).toNat (ga_wr v5))) (fun I3 q3 => ?_)
  have h := h I3 q3
  refine gw_RG (fun hI4 => ?_)
  exact gw_return d_Mo_setBorder_46 rfl h

theorem k_Mo_at_0 {G : ga_G} {d : Nat} {I : ga_I} {E : Option ga_V → ga_I → Prop} {v0 : Int} {v1 : Int} 
    (h : ga_RG I → E (some (.inl (38 + (4 * ((7 * v0) + v1))))) I) :
    ga_W G d mt_Mo_at 0 (ga_en 2 [.inl v0, .inl v1]) [] I E := by
  show ga_W G d mt_Mo_at 0 [some (.inl v0), some (.inl v1)] [] I E
  refine gw_RG (fun hI1 => ?_)
  have h := h hI1
  refine gw_bipush d_Mo_at_0 (by decide +kernel) ?_
  refine gw_iconst d_Mo_at_2 ?_
  refine gw_bipush d_Mo_at_3 (by decide +kernel) ?_
  refine gw_iload_n 0 d_Mo_at_5 rfl rfl ?_
  refine gw_imul d_Mo_at_6 ?_
  refine gw_iload_n 1 d_Mo_at_7 rfl rfl ?_
  refine gw_iadd d_Mo_at_8 ?_
  refine gw_imul d_Mo_at_9 ?_
  refine gw_iadd d_Mo_at_10 ?_
  exact gw_ireturn d_Mo_at_11 rfl h

section MA
variable {G : ga_G} {d : Nat} {I : ga_I} {E : Option ga_V → ga_I → Prop}
theorem s_Mo_in {a b c : Int} (ha : ga_rg a) (hb : ga_rg b) (hc : ga_rg c) (h : E (some (.inl (ga_bb (decide (b ≤ a ∧ a ≤ c))))) I) : ga_W G d mt_Mo_in 0 (ga_en 3 [.inl a, .inl b, .inl c]) [] I E := by
  refine k_Mo_in_0 ha hb hc (fun hI => ⟨fun h1 => ?_, fun h1 => ⟨fun h2 => ?_, fun h2 => ?_⟩⟩)
  · exact ga_bF (decide_eq_false (by omega)) h
  · exact ga_bF (decide_eq_false (by omega)) h
  · exact ga_bT (decide_eq_true (by omega)) h
theorem s_Mo_apart {a b : Int} (ha : ga_rg a) (hb : ga_rg b) (h : E (some (.inl ((a - b).natAbs : Int))) I) : ga_W G d mt_Mo_apart 0 (ga_en 2 [.inl a, .inl b]) [] I E := by
  refine k_Mo_apart_0 ha hb (fun hI => ⟨fun h1 => ?_, fun h1 => ?_⟩)
  · exact ga_eI (by omega) h
  · exact ga_eI (by omega) h
end MA
theorem k_Mo_isAxis_0 {G : ga_G} {d : Nat} {I : ga_I} {E : Option ga_V → ga_I → Prop} {v0 : Int} (r0 : ga_rg v0)
    (h : ga_RG I → E (some (.inl (ga_bb (decide ((0 : Int) ≤ v0 ∧ v0 ≤ (1 : Int)))))) I) :
    ga_W G (d + 1) mt_Mo_isAxis 0 (ga_en 1 [.inl v0]) [] I E := by
  show ga_W G (d + 1) mt_Mo_isAxis 0 [some (.inl v0)] [] I E
  refine gw_RG (fun hI1 => ?_)
  have h := h hI1
  refine gw_iload_n 0 d_Mo_isAxis_0 rfl rfl ?_
  refine gw_iconst d_Mo_isAxis_1 ?_
  refine gw_iconst d_Mo_isAxis_2 ?_
  refine gw_invS (as := [.inl v0, .inl 0, .inl 1]) (rest := []) (d' := d) d_Mo_isAxis_3 lk_Mo_47 rfl (Nat.le_of_ble_eq_true rfl) (Nat.le_of_ble_eq_true rfl) rfl rfl (s_Mo_in r0 ⟨by decide, by decide⟩ ⟨by decide, by decide⟩ ?_)
  show ga_W G (d + 1) mt_Mo_isAxis 6 [some (.inl v0)] [.inl (ga_bb (decide ((0 : Int) ≤ v0 ∧ v0 ≤ (1 : Int))))] I E
  exact gw_zreturn d_Mo_isAxis_6 rfl (ga_bb_01 _) h

theorem k_Mo_isCoordinate_0 {G : ga_G} {d : Nat} {I : ga_I} {E : Option ga_V → ga_I → Prop} {v0 : Int} (r0 : ga_rg v0)
    (h : ga_RG I → E (some (.inl (ga_bb (decide ((0 : Int) ≤ v0 ∧ v0 ≤ (1000 : Int)))))) I) :
    ga_W G (d + 1) mt_Mo_isCoordinate 0 (ga_en 1 [.inl v0]) [] I E := by
  show ga_W G (d + 1) mt_Mo_isCoordinate 0 [some (.inl v0)] [] I E
  refine gw_RG (fun hI1 => ?_)
  have h := h hI1
  refine gw_iload_n 0 d_Mo_isCoordinate_0 rfl rfl ?_
  refine gw_iconst d_Mo_isCoordinate_1 ?_
  refine gw_sipush d_Mo_isCoordinate_2 (by decide +kernel) ?_
  refine gw_invS (as := [.inl v0, .inl 0, .inl 1000]) (rest := []) (d' := d) d_Mo_isCoordinate_5 lk_Mo_47 rfl (Nat.le_of_ble_eq_true rfl) (Nat.le_of_ble_eq_true rfl) rfl rfl (s_Mo_in r0 ⟨by decide, by decide⟩ ⟨by decide, by decide⟩ ?_)
  show ga_W G (d + 1) mt_Mo_isCoordinate 8 [some (.inl v0)] [.inl (ga_bb (decide ((0 : Int) ≤ v0 ∧ v0 ≤ (1000 : Int))))] I E
  exact gw_zreturn d_Mo_isCoordinate_8 rfl (ga_bb_01 _) h

theorem k_Mo_isOperator_0 {G : ga_G} {d : Nat} {I : ga_I} {E : Option ga_V → ga_I → Prop} {v0 : Int} (r0 : ga_rg v0)
    (h : ga_RG I → E (some (.inl (ga_bb (decide ((0 : Int) ≤ v0 ∧ v0 ≤ (2 : Int)))))) I) :
    ga_W G (d + 1) mt_Mo_isOperator 0 (ga_en 1 [.inl v0]) [] I E := by
  show ga_W G (d + 1) mt_Mo_isOperator 0 [some (.inl v0)] [] I E
  refine gw_RG (fun hI1 => ?_)
  have h := h hI1
  refine gw_iload_n 0 d_Mo_isOperator_0 rfl rfl ?_
  refine gw_iconst d_Mo_isOperator_1 ?_
  refine gw_iconst d_Mo_isOperator_2 ?_
  refine gw_invS (as := [.inl v0, .inl 0, .inl 2]) (rest := []) (d' := d) d_Mo_isOperator_3 lk_Mo_47 rfl (Nat.le_of_ble_eq_true rfl) (Nat.le_of_ble_eq_true rfl) rfl rfl (s_Mo_in r0 ⟨by decide, by decide⟩ ⟨by decide, by decide⟩ ?_)
  show ga_W G (d + 1) mt_Mo_isOperator 6 [some (.inl v0)] [.inl (ga_bb (decide ((0 : Int) ≤ v0 ∧ v0 ≤ (2 : Int))))] I E
  exact gw_zreturn d_Mo_isOperator_6 rfl (ga_bb_01 _) h

theorem k_Mo_isPlace_0 {G : ga_G} {d : Nat} {I : ga_I} {E : Option ga_V → ga_I → Prop} {v0 : Int} (r0 : ga_rg v0)
    (h : ga_RG I → E (some (.inl (ga_bb (decide ((0 : Int) ≤ v0 ∧ v0 ≤ (2 : Int)))))) I) :
    ga_W G (d + 1) mt_Mo_isPlace 0 (ga_en 1 [.inl v0]) [] I E := by
  show ga_W G (d + 1) mt_Mo_isPlace 0 [some (.inl v0)] [] I E
  refine gw_RG (fun hI1 => ?_)
  have h := h hI1
  refine gw_iload_n 0 d_Mo_isPlace_0 rfl rfl ?_
  refine gw_iconst d_Mo_isPlace_1 ?_
  refine gw_iconst d_Mo_isPlace_2 ?_
  refine gw_invS (as := [.inl v0, .inl 0, .inl 2]) (rest := []) (d' := d) d_Mo_isPlace_3 lk_Mo_47 rfl (Nat.le_of_ble_eq_true rfl) (Nat.le_of_ble_eq_true rfl) rfl rfl (s_Mo_in r0 ⟨by decide, by decide⟩ ⟨by decide, by decide⟩ ?_)
  show ga_W G (d + 1) mt_Mo_isPlace 6 [some (.inl v0)] [.inl (ga_bb (decide ((0 : Int) ≤ v0 ∧ v0 ≤ (2 : Int))))] I E
  exact gw_zreturn d_Mo_isPlace_6 rfl (ga_bb_01 _) h

theorem k_Mo_isReach_0 {G : ga_G} {d : Nat} {I : ga_I} {E : Option ga_V → ga_I → Prop} {v0 : Int} {v1 : Int} (r0 : ga_rg v0) (r1 : ga_rg v1)
    (h : ga_RG I → ((¬ ((0 : Int) ≤ v0 ∧ v0 ≤ (1 : Int))) → E (some (.inl 0)) I) ∧ (((0 : Int) ≤ v0 ∧ v0 ≤ (1 : Int)) → ((¬ (v0 ≤ v1 ∧ v1 ≤ (100 : Int))) → E (some (.inl 0)) I) ∧ ((v0 ≤ v1 ∧ v1 ≤ (100 : Int)) → E (some (.inl 1)) I))) :
    ga_W G (d + 1) mt_Mo_isReach 0 (ga_en 2 [.inl v0, .inl v1]) [] I E := by
  show ga_W G (d + 1) mt_Mo_isReach 0 [some (.inl v0), some (.inl v1)] [] I E
  refine gw_RG (fun hI1 => ?_)
  have h := h hI1
  refine gw_iload_n 0 d_Mo_isReach_0 rfl rfl ?_
  refine gw_iconst d_Mo_isReach_1 ?_
  refine gw_iconst d_Mo_isReach_2 ?_
  refine gw_invS (as := [.inl v0, .inl 0, .inl 1]) (rest := []) (d' := d) d_Mo_isReach_3 lk_Mo_47 rfl (Nat.le_of_ble_eq_true rfl) (Nat.le_of_ble_eq_true rfl) rfl rfl (s_Mo_in r0 ⟨by decide, by decide⟩ ⟨by decide, by decide⟩ ?_)
  show ga_W G (d + 1) mt_Mo_isReach 6 [some (.inl v0), some (.inl v1)] [.inl (ga_bb (decide ((0 : Int) ≤ v0 ∧ v0 ≤ (1 : Int))))] I E
  refine gw_ifb_eq 23 d_Mo_isReach_6 (by decide) (fun hc => ?_) (fun hc => ?_)
  · have h := h.1 (of_decide_eq_false hc)
    refine gw_iconst d_Mo_isReach_23 ?_
    exact gw_zreturn d_Mo_isReach_24 rfl (by decide) h
  · have h := h.2 (of_decide_eq_true hc)
    refine gw_iload_n 1 d_Mo_isReach_9 rfl rfl ?_
    refine gw_iload_n 0 d_Mo_isReach_10 rfl rfl ?_
    refine gw_bipush d_Mo_isReach_11 (by decide +kernel) ?_
    refine gw_invS (as := [.inl v1, .inl v0, .inl 100]) (rest := []) (d' := d) d_Mo_isReach_13 lk_Mo_47 rfl (Nat.le_of_ble_eq_true rfl) (Nat.le_of_ble_eq_true rfl) rfl rfl (s_Mo_in r1 r0 ⟨by decide, by decide⟩ ?_)
    show ga_W G (d + 1) mt_Mo_isReach 16 [some (.inl v0), some (.inl v1)] [.inl (ga_bb (decide (v0 ≤ v1 ∧ v1 ≤ (100 : Int))))] I E
    refine gw_ifb_eq 23 d_Mo_isReach_16 (by decide) (fun hc => ?_) (fun hc => ?_)
    · have h := h.1 (of_decide_eq_false hc)
      refine gw_iconst d_Mo_isReach_23 ?_
      exact gw_zreturn d_Mo_isReach_24 rfl (by decide) h
    · have h := h.2 (of_decide_eq_true hc)
      refine gw_iconst d_Mo_isReach_19 ?_
      refine gw_goto 24 d_Mo_isReach_20 (by decide) ?_
      exact gw_zreturn d_Mo_isReach_24 rfl (by decide) h

section MA
variable {G : ga_G} {d : Nat} {I : ga_I} {E : Option ga_V → ga_I → Prop}
theorem s_Mo_isAxis {a : Int} (ha : ga_rg a) (h : E (some (.inl (ga_bb (decide (0 ≤ a ∧ a ≤ 1))))) I) : ga_W G (d + 1) mt_Mo_isAxis 0 (ga_en 1 [.inl a]) [] I E := k_Mo_isAxis_0 ha (fun _ => h)
theorem s_Mo_isCoordinate {a : Int} (ha : ga_rg a) (h : E (some (.inl (ga_bb (decide (0 ≤ a ∧ a ≤ 1000))))) I) : ga_W G (d + 1) mt_Mo_isCoordinate 0 (ga_en 1 [.inl a]) [] I E := k_Mo_isCoordinate_0 ha (fun _ => h)
theorem s_Mo_isOperator {a : Int} (ha : ga_rg a) (h : E (some (.inl (ga_bb (decide (0 ≤ a ∧ a ≤ 2))))) I) : ga_W G (d + 1) mt_Mo_isOperator 0 (ga_en 1 [.inl a]) [] I E := k_Mo_isOperator_0 ha (fun _ => h)
theorem s_Mo_isPlace {a : Int} (ha : ga_rg a) (h : E (some (.inl (ga_bb (decide (0 ≤ a ∧ a ≤ 2))))) I) : ga_W G (d + 1) mt_Mo_isPlace 0 (ga_en 1 [.inl a]) [] I E := k_Mo_isPlace_0 ha (fun _ => h)
theorem s_Mo_isReach {a b : Int} (ha : ga_rg a) (hb : ga_rg b) (h : E (some (.inl (ga_bb (decide ((0 ≤ a ∧ a ≤ 1) ∧ (a ≤ b ∧ b ≤ 100)))))) I) : ga_W G (d + 1) mt_Mo_isReach 0 (ga_en 2 [.inl a, .inl b]) [] I E := by
  refine k_Mo_isReach_0 ha hb (fun hI => ⟨fun h1 => ?_, fun h1 => ⟨fun h2 => ?_, fun h2 => ?_⟩⟩)
  · exact ga_bF (decide_eq_false (by omega)) h
  · exact ga_bF (decide_eq_false (by omega)) h
  · exact ga_bT (decide_eq_true (by omega)) h
theorem s_Mo_isInside {p r : Int} (h1 : ga_rg (p - r)) (h2 : ga_rg (p + r)) (h : E (some (.inl (ga_bb (decide (0 ≤ p - r ∧ p + r ≤ 1000))))) I) : ga_W G d mt_Mo_isInside 0 (ga_en 2 [.inl p, .inl r]) [] I E := by
  refine k_Mo_isInside_0 (fun hI => ⟨h1, fun h1 => ?_, fun h1 => ⟨h2, fun h2 => ?_, fun h2 => ?_⟩⟩)
  · exact ga_bF (decide_eq_false (by omega)) h
  · exact ga_bF (decide_eq_false (by omega)) h
  · exact ga_bT (decide_eq_true (by omega)) h
theorem s_Mo_borders {ax : Int} (ha : 0 ≤ ax ∧ ax ≤ 1) (h : E (some (.inl (ms_n (I 349) ax))) I) : ga_W G d mt_Mo_borders 0 (ga_en 2 [.inr 348, .inl ax]) [] I E := by
  refine k_Mo_borders_0 (fun hI => ⟨by omega, by omega, ?_⟩)
  rw [Int.zero_add]
  exact h
theorem s_Mo_ofBorder {ax b w : Int} (ha : 0 ≤ ax ∧ ax ≤ 1) (hb : 0 ≤ b ∧ b ≤ 6) (hw : 0 ≤ w ∧ w ≤ 2) (h : E (some (.inl (ms_b (I 349) ax b w))) I) : ga_W G d mt_Mo_ofBorder 0 (ga_en 4 [.inr 348, .inl ax, .inl b, .inl w]) [] I E := by
  refine k_Mo_ofBorder_0 (fun hI => ⟨by omega, by omega, ?_⟩)
  rw [show (0 + 19 * ax + 1 + 3 * b + w).toNat = (19 * ax).toNat + 1 + 3 * b.toNat + w.toNat by omega]
  exact h
theorem s_Mo_setBorder {ax b p q r : Int} (ha : 0 ≤ ax ∧ ax ≤ 1) (hb : 0 ≤ b ∧ b ≤ 6) (hp : ga_rg p) (hq : ga_rg q) (hr : ga_rg r) (h : E none (mx_sb I ax b p q r)) : ga_W G d mt_Mo_setBorder 0 (ga_en 7 [.inr 348, .inl ax, .inl b, .inl p, .inl q, .inl r]) [] I E := by
  refine k_Mo_setBorder_0 (fun hI => ⟨by omega, by omega, fun I1 e1 => ⟨by omega, by omega, fun I2 e2 => ⟨by omega, by omega, fun I3 e3 => ?_⟩⟩⟩)
  rw [ga_wr_eq hp, show (0 + 19 * ax + 1 + 3 * b + 0).toNat = (19 * ax).toNat + 1 + 3 * b.toNat by omega] at e1
  rw [ga_wr_eq hq, show (0 + 19 * ax + 1 + 3 * b + 1).toNat = (19 * ax).toNat + 1 + 3 * b.toNat + 1 by omega] at e2
  rw [ga_wr_eq hr, show (0 + 19 * ax + 1 + 3 * b + 2).toNat = (19 * ax).toNat + 1 + 3 * b.toNat + 2 by omega] at e3
  subst e3 e2 e1
  exact h
end MA
theorem k_Mo_isBorder_0 {G : ga_G} {d : Nat} {I : ga_I} {E : Option ga_V → ga_I → Prop} {v1 : Int} {v2 : Int} (r1 : ga_rg v1) (r2 : ga_rg v2)
    (h : ga_RG I → ((¬ (0 ≤ v1 ∧ v1 ≤ 1)) → E (some (.inl 0)) I) ∧ ((0 ≤ v1 ∧ v1 ≤ 1) → (0 ≤ v1 ∧ v1 ≤ 1) ∧ ((ga_rg ((ms_n (I 349) v1) - 1)) ∧ (((¬ ((0 : Int) ≤ v2 ∧ v2 ≤ ((ms_n (I 349) v1) - 1))) → E (some (.inl 0)) I) ∧ (((0 : Int) ≤ v2 ∧ v2 ≤ ((ms_n (I 349) v1) - 1)) → E (some (.inl 1)) I))))) :
    ga_W G (d + 2) mt_Mo_isBorder 0 (ga_en 3 [.inr 348, .inl v1, .inl v2]) [] I E := by
  show ga_W G (d + 2) mt_Mo_isBorder 0 [some (.inr 348), some (.inl v1), some (.inl v2)] [] I E
  refine gw_RG (fun hI1 => ?_)
  have h := h hI1
  refine gw_iload_n 1 d_Mo_isBorder_0 rfl rfl ?_
  refine gw_invS (as := [.inl v1]) (rest := []) (d' := (d + 1)) d_Mo_isBorder_1 lk_Mo_51 rfl (Nat.le_of_ble_eq_true rfl) (Nat.le_of_ble_eq_true rfl) rfl rfl (s_Mo_isAxis r1 ?_)
  show ga_W G (d + 2) mt_Mo_isBorder 4 [some (.inr 348), some (.inl v1), some (.inl v2)] [.inl (ga_bb (decide (0 ≤ v1 ∧ v1 ≤ 1)))] I E
  refine gw_ifb_eq 26 d_Mo_isBorder_4 (by decide) (fun hc => ?_) (fun hc => ?_)
  · have h := h.1 (of_decide_eq_false hc)
    refine gw_iconst d_Mo_isBorder_26 ?_
    exact gw_zreturn d_Mo_isBorder_27 rfl (by decide) h
  · have h := h.2 (of_decide_eq_true hc)
    refine gw_iload_n 2 d_Mo_isBorder_7 rfl rfl ?_
    refine gw_iconst d_Mo_isBorder_8 ?_
    refine gw_aload_n 0 d_Mo_isBorder_9 rfl rfl ?_
    refine gw_iload_n 1 d_Mo_isBorder_10 rfl rfl ?_
    obtain ⟨g1, h⟩ := h
    refine gw_invV (as := [.inl v1]) (k := 348) (rest := [.inl 0, .inl v2]) (d' := (d + 1)) d_Mo_isBorder_11 lk_Mo_55 (ga_rcv (ga_oM) rfl rfl) rfl (Nat.le_of_ble_eq_true rfl) (Nat.le_of_ble_eq_true rfl) rfl rfl (s_Mo_borders g1 ?_)
    show ga_W G (d + 2) mt_Mo_isBorder 14 [some (.inr 348), some (.inl v1), some (.inl v2)] [.inl (ms_n (I 349) v1), .inl 0, .inl v2] I E
    refine gw_iconst d_Mo_isBorder_14 ?_
    refine gw_isub d_Mo_isBorder_15 ?_
    obtain ⟨g2, h⟩ := h
    refine gw_invS (as := [.inl v2, .inl 0, .inl ((ms_n (I 349) v1) - 1)]) (rest := []) (d' := (d + 1)) d_Mo_isBorder_16 lk_Mo_47 rfl (Nat.le_of_ble_eq_true rfl) (Nat.le_of_ble_eq_true rfl) rfl rfl (s_Mo_in r2 ⟨by decide, by decide⟩ g2 ?_)
    show ga_W G (d + 2) mt_Mo_isBorder 19 [some (.inr 348), some (.inl v1), some (.inl v2)] [.inl (ga_bb (decide ((0 : Int) ≤ v2 ∧ v2 ≤ ((ms_n (I 349) v1) - 1))))] I E
    refine gw_ifb_eq 26 d_Mo_isBorder_19 (by decide) (fun hc => ?_) (fun hc => ?_)
    · have h := h.1 (of_decide_eq_false hc)
      refine gw_iconst d_Mo_isBorder_26 ?_
      exact gw_zreturn d_Mo_isBorder_27 rfl (by decide) h
    · have h := h.2 (of_decide_eq_true hc)
      refine gw_iconst d_Mo_isBorder_22 ?_
      refine gw_goto 27 d_Mo_isBorder_23 (by decide) ?_
      exact gw_zreturn d_Mo_isBorder_27 rfl (by decide) h

theorem k_Mo_isRegion_0 {G : ga_G} {d : Nat} {I : ga_I} {E : Option ga_V → ga_I → Prop} {v1 : Int} {v2 : Int} (r1 : ga_rg v1) (r2 : ga_rg v2)
    (h : ga_RG I → (0 ≤ (0 : Int) ∧ (0 : Int) ≤ 1) ∧ (((¬ ((0 : Int) ≤ v1 ∧ v1 ≤ (ms_n (I 349) (0 : Int)))) → E (some (.inl 0)) I) ∧ (((0 : Int) ≤ v1 ∧ v1 ≤ (ms_n (I 349) (0 : Int))) → (0 ≤ (1 : Int) ∧ (1 : Int) ≤ 1) ∧ (((¬ ((0 : Int) ≤ v2 ∧ v2 ≤ (ms_n (I 349) (1 : Int)))) → E (some (.inl 0)) I) ∧ (((0 : Int) ≤ v2 ∧ v2 ≤ (ms_n (I 349) (1 : Int))) → E (some (.inl 1)) I))))) :
    ga_W G (d + 1) mt_Mo_isRegion 0 (ga_en 3 [.inr 348, .inl v1, .inl v2]) [] I E := by
  show ga_W G (d + 1) mt_Mo_isRegion 0 [some (.inr 348), some (.inl v1), some (.inl v2)] [] I E
  refine gw_RG (fun hI1 => ?_)
  have h := h hI1
  refine gw_iload_n 1 d_Mo_isRegion_0 rfl rfl ?_
  refine gw_iconst d_Mo_isRegion_1 ?_
  refine gw_aload_n 0 d_Mo_isRegion_2 rfl rfl ?_
  refine gw_iconst d_Mo_isRegion_3 ?_
  obtain ⟨g1, h⟩ := h
  refine gw_invV (as := [.inl 0]) (k := 348) (rest := [.inl 0, .inl v1]) (d' := d) d_Mo_isRegion_4 lk_Mo_55 (ga_rcv (ga_oM) rfl rfl) rfl (Nat.le_of_ble_eq_true rfl) (Nat.le_of_ble_eq_true rfl) rfl rfl (s_Mo_borders g1 ?_)
  show ga_W G (d + 1) mt_Mo_isRegion 7 [some (.inr 348), some (.inl v1), some (.inl v2)] [.inl (ms_n (I 349) (0 : Int)), .inl 0, .inl v1] I E
  refine gw_invS (as := [.inl v1, .inl 0, .inl (ms_n (I 349) (0 : Int))]) (rest := []) (d' := d) d_Mo_isRegion_7 lk_Mo_47 rfl (Nat.le_of_ble_eq_true rfl) (Nat.le_of_ble_eq_true rfl) rfl rfl (s_Mo_in r1 ⟨by decide, by decide⟩ (hI1 _ _) ?_)
  show ga_W G (d + 1) mt_Mo_isRegion 10 [some (.inr 348), some (.inl v1), some (.inl v2)] [.inl (ga_bb (decide ((0 : Int) ≤ v1 ∧ v1 ≤ (ms_n (I 349) (0 : Int)))))] I E
  refine gw_ifb_eq 30 d_Mo_isRegion_10 (by decide) (fun hc => ?_) (fun hc => ?_)
  · have h := h.1 (of_decide_eq_false hc)
    refine gw_iconst d_Mo_isRegion_30 ?_
    exact gw_zreturn d_Mo_isRegion_31 rfl (by decide) h
  · have h := h.2 (of_decide_eq_true hc)
    refine gw_iload_n 2 d_Mo_isRegion_13 rfl rfl ?_
    refine gw_iconst d_Mo_isRegion_14 ?_
    refine gw_aload_n 0 d_Mo_isRegion_15 rfl rfl ?_
    refine gw_iconst d_Mo_isRegion_16 ?_
    obtain ⟨g2, h⟩ := h
    refine gw_invV (as := [.inl 1]) (k := 348) (rest := [.inl 0, .inl v2]) (d' := d) d_Mo_isRegion_17 lk_Mo_55 (ga_rcv (ga_oM) rfl rfl) rfl (Nat.le_of_ble_eq_true rfl) (Nat.le_of_ble_eq_true rfl) rfl rfl (s_Mo_borders g2 ?_)
    show ga_W G (d + 1) mt_Mo_isRegion 20 [some (.inr 348), some (.inl v1), some (.inl v2)] [.inl (ms_n (I 349) (1 : Int)), .inl 0, .inl v2] I E
    refine gw_invS (as := [.inl v2, .inl 0, .inl (ms_n (I 349) (1 : Int))]) (rest := []) (d' := d) d_Mo_isRegion_20 lk_Mo_47 rfl (Nat.le_of_ble_eq_true rfl) (Nat.le_of_ble_eq_true rfl) rfl rfl (s_Mo_in r2 ⟨by decide, by decide⟩ (hI1 _ _) ?_)
    show ga_W G (d + 1) mt_Mo_isRegion 23 [some (.inr 348), some (.inl v1), some (.inl v2)] [.inl (ga_bb (decide ((0 : Int) ≤ v2 ∧ v2 ≤ (ms_n (I 349) (1 : Int)))))] I E
    refine gw_ifb_eq 30 d_Mo_isRegion_23 (by decide) (fun hc => ?_) (fun hc => ?_)
    · have h := h.1 (of_decide_eq_false hc)
      refine gw_iconst d_Mo_isRegion_30 ?_
      exact gw_zreturn d_Mo_isRegion_31 rfl (by decide) h
    · have h := h.2 (of_decide_eq_true hc)
      refine gw_iconst d_Mo_isRegion_26 ?_
      refine gw_goto 31 d_Mo_isRegion_27 (by decide) ?_
      exact gw_zreturn d_Mo_isRegion_31 rfl (by decide) h

theorem k_Mo_regions_0 {G : ga_G} {d : Nat} {I : ga_I} {E : Option ga_V → ga_I → Prop}  
    (h : ga_RG I → (0 ≤ (0 : Int) ∧ (0 : Int) ≤ 1) ∧ ((0 ≤ (1 : Int) ∧ (1 : Int) ≤ 1) ∧ (E (some (.inl (((ms_n (I 349) (0 : Int)) + 1) * ((ms_n (I 349) (1 : Int)) + 1)))) I))) :
    ga_W G (d + 1) mt_Mo_regions 0 (ga_en 1 [.inr 348]) [] I E := by
  show ga_W G (d + 1) mt_Mo_regions 0 [some (.inr 348)] [] I E
  refine gw_RG (fun hI1 => ?_)
  have h := h hI1
  refine gw_aload_n 0 d_Mo_regions_0 rfl rfl ?_
  refine gw_iconst d_Mo_regions_1 ?_
  obtain ⟨g1, h⟩ := h
  refine gw_invV (as := [.inl 0]) (k := 348) (rest := []) (d' := d) d_Mo_regions_2 lk_Mo_55 (ga_rcv (ga_oM) rfl rfl) rfl (Nat.le_of_ble_eq_true rfl) (Nat.le_of_ble_eq_true rfl) rfl rfl (s_Mo_borders g1 ?_)
  show ga_W G (d + 1) mt_Mo_regions 5 [some (.inr 348)] [.inl (ms_n (I 349) (0 : Int))] I E
  refine gw_iconst d_Mo_regions_5 ?_
  refine gw_iadd d_Mo_regions_6 ?_
  refine gw_aload_n 0 d_Mo_regions_7 rfl rfl ?_
  refine gw_iconst d_Mo_regions_8 ?_
  obtain ⟨g2, h⟩ := h
  refine gw_invV (as := [.inl 1]) (k := 348) (rest := [.inl ((ms_n (I 349) (0 : Int)) + 1)]) (d' := d) d_Mo_regions_9 lk_Mo_55 (ga_rcv (ga_oM) rfl rfl) rfl (Nat.le_of_ble_eq_true rfl) (Nat.le_of_ble_eq_true rfl) rfl rfl (s_Mo_borders g2 ?_)
  show ga_W G (d + 1) mt_Mo_regions 12 [some (.inr 348)] [.inl (ms_n (I 349) (1 : Int)), .inl ((ms_n (I 349) (0 : Int)) + 1)] I E
  refine gw_iconst d_Mo_regions_12 ?_
  refine gw_iadd d_Mo_regions_13 ?_
  refine gw_imul d_Mo_regions_14 ?_
  exact gw_ireturn d_Mo_regions_15 rfl h

section MA
variable {G : ga_G} {d : Nat} {I : ga_I} {E : Option ga_V → ga_I → Prop}
theorem mo_n_ax (hn : mo_n I) {ax : Int} (ha : 0 ≤ ax ∧ ax ≤ 1) : 0 ≤ ms_n (I 349) ax ∧ ms_n (I 349) ax ≤ 6 := by
  rcases (show ax = 0 ∨ ax = 1 by omega) with rfl | rfl
  · exact hn.1
  · exact hn.2
theorem s_Mo_isBorder {ax b : Int} (ha : ga_rg ax) (hb : ga_rg b) (hn : mo_n I) (h : E (some (.inl (ga_bb (decide ((0 ≤ ax ∧ ax ≤ 1) ∧ (0 ≤ b ∧ b < ms_n (I 349) ax)))))) I) : ga_W G (d + 2) mt_Mo_isBorder 0 (ga_en 3 [.inr 348, .inl ax, .inl b]) [] I E := by
  refine k_Mo_isBorder_0 ha hb (fun hI => ⟨fun h1 => ?_, fun h1 => ⟨h1, ?_, fun h2 => ?_, fun h2 => ?_⟩⟩)
  · exact ga_bF (decide_eq_false (fun q => h1 q.1)) h
  · have := mo_n_ax hn h1
    constructor <;> omega
  · exact ga_bF (decide_eq_false (by omega)) h
  · exact ga_bT (decide_eq_true (by omega)) h
theorem s_Mo_at {a b : Int} (h : E (some (.inl (38 + 4 * (7 * a + b)))) I) : ga_W G d mt_Mo_at 0 (ga_en 2 [.inl a, .inl b]) [] I E := k_Mo_at_0 (fun _ => h)
theorem s_Mo_isRegion {a b : Int} (ha : ga_rg a) (hb : ga_rg b) (h : E (some (.inl (ga_bb (decide ((0 ≤ a ∧ a ≤ ms_n (I 349) 0) ∧ (0 ≤ b ∧ b ≤ ms_n (I 349) 1)))))) I) : ga_W G (d + 1) mt_Mo_isRegion 0 (ga_en 3 [.inr 348, .inl a, .inl b]) [] I E := by
  refine k_Mo_isRegion_0 ha hb (fun hI => ⟨by omega, fun h1 => ?_, fun h1 => ⟨by omega, fun h2 => ?_, fun h2 => ?_⟩⟩)
  · exact ga_bF (decide_eq_false (by omega)) h
  · exact ga_bF (decide_eq_false (by omega)) h
  · exact ga_bT (decide_eq_true (by omega)) h
theorem s_Mo_regions (h : E (some (.inl ((ms_n (I 349) 0 + 1) * (ms_n (I 349) 1 + 1)))) I) : ga_W G (d + 1) mt_Mo_regions 0 (ga_en 1 [.inr 348]) [] I E := k_Mo_regions_0 (fun _ => ⟨by omega, by omega, h⟩)
end MA
