/-! leaves: tests and small functions -/
theorem ga_bT {b : Bool} {E : Option ga_V → ga_I → Prop} {I : ga_I} (hb : b = true) (h : E (some (.inl (ga_bb b))) I) : E (some (.inl 1)) I := by subst hb; exact h
theorem ga_bF {b : Bool} {E : Option ga_V → ga_I → Prop} {I : ga_I} (hb : b = false) (h : E (some (.inl (ga_bb b))) I) : E (some (.inl 0)) I := by subst hb; exact h
theorem k_GT_isIn_0 {G : ga_G} {d : Nat} {I : ga_I} {E : Option ga_V → ga_I → Prop} {v0 : Int} {v1 : Int} {v2 : Int} (r0 : ga_rg v0) (r1 : ga_rg v1) (r2 : ga_rg v2)
    (h : ga_RG I → ((v0 < v1) → E (some (.inl 0)) I) ∧ ((¬ (v0 < v1)) → ((v2 < v0) → E (some (.inl 0)) I) ∧ ((¬ (v2 < v0)) → E (some (.inl 1)) I))) :
    ga_W G d mt_GT_isIn 0 (ga_en 3 [.inl v0, .inl v1, .inl v2]) [] I E := by
  show ga_W G d mt_GT_isIn 0 [some (.inl v0), some (.inl v1), some (.inl v2)] [] I E
  refine gw_RG (fun hI1 => ?_)
  have h := h hI1
  refine gw_iload_n 0 d_GT_isIn_0 rfl rfl ?_
  refine gw_iload_n 1 d_GT_isIn_1 rfl rfl ?_
  refine gw_icmp_lt 14 d_GT_isIn_2 (by decide) r0 r1 (fun hc => ?_) (fun hc => ?_)
  · have h := h.1 hc
    refine gw_iconst d_GT_isIn_14 ?_
    exact gw_zreturn d_GT_isIn_15 rfl (by decide) h
  · have h := h.2 hc
    refine gw_iload_n 0 d_GT_isIn_5 rfl rfl ?_
    refine gw_iload_n 2 d_GT_isIn_6 rfl rfl ?_
    refine gw_icmp_gt 14 d_GT_isIn_7 (by decide) r0 r2 (fun hc => ?_) (fun hc => ?_)
    · have h := h.1 hc
      refine gw_iconst d_GT_isIn_14 ?_
      exact gw_zreturn d_GT_isIn_15 rfl (by decide) h
    · have h := h.2 hc
      refine gw_iconst d_GT_isIn_10 ?_
      refine gw_goto 15 d_GT_isIn_11 (by decide) ?_
      exact gw_zreturn d_GT_isIn_15 rfl (by decide) h

section LA
variable {G : ga_G} {d : Nat} {I : ga_I} {E : Option ga_V → ga_I → Prop}
theorem s_GT_isIn {a b c : Int} (ha : ga_rg a) (hb : ga_rg b) (hc : ga_rg c) (h : E (some (.inl (ga_bb (decide (b ≤ a ∧ a ≤ c))))) I) : ga_W G d mt_GT_isIn 0 (ga_en 3 [.inl a, .inl b, .inl c]) [] I E := by
  refine k_GT_isIn_0 ha hb hc (fun hI => ⟨fun h1 => ?_, fun h1 => ⟨fun h2 => ?_, fun h2 => ?_⟩⟩)
  · exact ga_bF (decide_eq_false (by omega)) h
  · exact ga_bF (decide_eq_false (by omega)) h
  · exact ga_bT (decide_eq_true (by omega)) h
end LA
theorem k_GT_isAxis_0 {G : ga_G} {d : Nat} {I : ga_I} {E : Option ga_V → ga_I → Prop} {v0 : Int} (r0 : ga_rg v0)
    (h : ga_RG I → E (some (.inl (ga_bb (decide ((0 : Int) ≤ v0 ∧ v0 ≤ (1 : Int)))))) I) :
    ga_W G (d + 1) mt_GT_isAxis 0 (ga_en 1 [.inl v0]) [] I E := by
  show ga_W G (d + 1) mt_GT_isAxis 0 [some (.inl v0)] [] I E
  refine gw_RG (fun hI1 => ?_)
  have h := h hI1
  refine gw_iload_n 0 d_GT_isAxis_0 rfl rfl ?_
  refine gw_iconst d_GT_isAxis_1 ?_
  refine gw_iconst d_GT_isAxis_2 ?_
  refine gw_invS (as := [.inl v0, .inl 0, .inl 1]) (rest := []) (d' := d) d_GT_isAxis_3 lk_GT_65 rfl (Nat.le_of_ble_eq_true rfl) (Nat.le_of_ble_eq_true rfl) rfl rfl (s_GT_isIn r0 ⟨by decide, by decide⟩ ⟨by decide, by decide⟩ ?_)
  show ga_W G (d + 1) mt_GT_isAxis 6 [some (.inl v0)] [.inl (ga_bb (decide ((0 : Int) ≤ v0 ∧ v0 ≤ (1 : Int))))] I E
  exact gw_zreturn d_GT_isAxis_6 rfl (ga_bb_01 _) h

theorem k_GT_isCoordinate_0 {G : ga_G} {d : Nat} {I : ga_I} {E : Option ga_V → ga_I → Prop} {v0 : Int} (r0 : ga_rg v0)
    (h : ga_RG I → E (some (.inl (ga_bb (decide ((0 : Int) ≤ v0 ∧ v0 ≤ (1000 : Int)))))) I) :
    ga_W G (d + 1) mt_GT_isCoordinate 0 (ga_en 1 [.inl v0]) [] I E := by
  show ga_W G (d + 1) mt_GT_isCoordinate 0 [some (.inl v0)] [] I E
  refine gw_RG (fun hI1 => ?_)
  have h := h hI1
  refine gw_iload_n 0 d_GT_isCoordinate_0 rfl rfl ?_
  refine gw_iconst d_GT_isCoordinate_1 ?_
  refine gw_sipush d_GT_isCoordinate_2 (by decide +kernel) ?_
  refine gw_invS (as := [.inl v0, .inl 0, .inl 1000]) (rest := []) (d' := d) d_GT_isCoordinate_5 lk_GT_65 rfl (Nat.le_of_ble_eq_true rfl) (Nat.le_of_ble_eq_true rfl) rfl rfl (s_GT_isIn r0 ⟨by decide, by decide⟩ ⟨by decide, by decide⟩ ?_)
  show ga_W G (d + 1) mt_GT_isCoordinate 8 [some (.inl v0)] [.inl (ga_bb (decide ((0 : Int) ≤ v0 ∧ v0 ≤ (1000 : Int))))] I E
  exact gw_zreturn d_GT_isCoordinate_8 rfl (ga_bb_01 _) h

theorem k_GT_isGain_0 {G : ga_G} {d : Nat} {I : ga_I} {E : Option ga_V → ga_I → Prop} {v0 : Int} (r0 : ga_rg v0)
    (h : ga_RG I → E (some (.inl (ga_bb (decide ((0 : Int) ≤ v0 ∧ v0 ≤ (2 : Int)))))) I) :
    ga_W G (d + 1) mt_GT_isGain 0 (ga_en 1 [.inl v0]) [] I E := by
  show ga_W G (d + 1) mt_GT_isGain 0 [some (.inl v0)] [] I E
  refine gw_RG (fun hI1 => ?_)
  have h := h hI1
  refine gw_iload_n 0 d_GT_isGain_0 rfl rfl ?_
  refine gw_iconst d_GT_isGain_1 ?_
  refine gw_iconst d_GT_isGain_2 ?_
  refine gw_invS (as := [.inl v0, .inl 0, .inl 2]) (rest := []) (d' := d) d_GT_isGain_3 lk_GT_65 rfl (Nat.le_of_ble_eq_true rfl) (Nat.le_of_ble_eq_true rfl) rfl rfl (s_GT_isIn r0 ⟨by decide, by decide⟩ ⟨by decide, by decide⟩ ?_)
  show ga_W G (d + 1) mt_GT_isGain 6 [some (.inl v0)] [.inl (ga_bb (decide ((0 : Int) ≤ v0 ∧ v0 ≤ (2 : Int))))] I E
  exact gw_zreturn d_GT_isGain_6 rfl (ga_bb_01 _) h

theorem k_GT_isOperator_0 {G : ga_G} {d : Nat} {I : ga_I} {E : Option ga_V → ga_I → Prop} {v0 : Int} (r0 : ga_rg v0)
    (h : ga_RG I → E (some (.inl (ga_bb (decide ((0 : Int) ≤ v0 ∧ v0 ≤ (2 : Int)))))) I) :
    ga_W G (d + 1) mt_GT_isOperator 0 (ga_en 1 [.inl v0]) [] I E := by
  show ga_W G (d + 1) mt_GT_isOperator 0 [some (.inl v0)] [] I E
  refine gw_RG (fun hI1 => ?_)
  have h := h hI1
  refine gw_iload_n 0 d_GT_isOperator_0 rfl rfl ?_
  refine gw_iconst d_GT_isOperator_1 ?_
  refine gw_iconst d_GT_isOperator_2 ?_
  refine gw_invS (as := [.inl v0, .inl 0, .inl 2]) (rest := []) (d' := d) d_GT_isOperator_3 lk_GT_65 rfl (Nat.le_of_ble_eq_true rfl) (Nat.le_of_ble_eq_true rfl) rfl rfl (s_GT_isIn r0 ⟨by decide, by decide⟩ ⟨by decide, by decide⟩ ?_)
  show ga_W G (d + 1) mt_GT_isOperator 6 [some (.inl v0)] [.inl (ga_bb (decide ((0 : Int) ≤ v0 ∧ v0 ≤ (2 : Int))))] I E
  exact gw_zreturn d_GT_isOperator_6 rfl (ga_bb_01 _) h

theorem k_GT_isPlace_0 {G : ga_G} {d : Nat} {I : ga_I} {E : Option ga_V → ga_I → Prop} {v0 : Int} (r0 : ga_rg v0)
    (h : ga_RG I → E (some (.inl (ga_bb (decide ((0 : Int) ≤ v0 ∧ v0 ≤ (2 : Int)))))) I) :
    ga_W G (d + 1) mt_GT_isPlace 0 (ga_en 1 [.inl v0]) [] I E := by
  show ga_W G (d + 1) mt_GT_isPlace 0 [some (.inl v0)] [] I E
  refine gw_RG (fun hI1 => ?_)
  have h := h hI1
  refine gw_iload_n 0 d_GT_isPlace_0 rfl rfl ?_
  refine gw_iconst d_GT_isPlace_1 ?_
  refine gw_iconst d_GT_isPlace_2 ?_
  refine gw_invS (as := [.inl v0, .inl 0, .inl 2]) (rest := []) (d' := d) d_GT_isPlace_3 lk_GT_65 rfl (Nat.le_of_ble_eq_true rfl) (Nat.le_of_ble_eq_true rfl) rfl rfl (s_GT_isIn r0 ⟨by decide, by decide⟩ ⟨by decide, by decide⟩ ?_)
  show ga_W G (d + 1) mt_GT_isPlace 6 [some (.inl v0)] [.inl (ga_bb (decide ((0 : Int) ≤ v0 ∧ v0 ≤ (2 : Int))))] I E
  exact gw_zreturn d_GT_isPlace_6 rfl (ga_bb_01 _) h

theorem k_GT_isReach_0 {G : ga_G} {d : Nat} {I : ga_I} {E : Option ga_V → ga_I → Prop} {v0 : Int} {v1 : Int} (r0 : ga_rg v0) (r1 : ga_rg v1)
    (h : ga_RG I → ((v0 ≠ 1) → E (some (.inl (ga_bb (decide ((0 : Int) ≤ v1 ∧ v1 ≤ (100 : Int)))))) I) ∧ ((v0 = 1) → E (some (.inl (ga_bb (decide ((1 : Int) ≤ v1 ∧ v1 ≤ (100 : Int)))))) I)) :
    ga_W G (d + 1) mt_GT_isReach 0 (ga_en 2 [.inl v0, .inl v1]) [] I E := by
  show ga_W G (d + 1) mt_GT_isReach 0 [some (.inl v0), some (.inl v1)] [] I E
  refine gw_RG (fun hI1 => ?_)
  have h := h hI1
  refine gw_iload_n 1 d_GT_isReach_0 rfl rfl ?_
  refine gw_iload_n 0 d_GT_isReach_1 rfl rfl ?_
  refine gw_iconst d_GT_isReach_2 ?_
  refine gw_icmp_ne 10 d_GT_isReach_3 (by decide) r0 ⟨by decide, by decide⟩ (fun hc => ?_) (fun hc => ?_)
  · have h := h.1 hc
    refine gw_iconst d_GT_isReach_10 ?_
    refine gw_bipush d_GT_isReach_11 (by decide +kernel) ?_
    refine gw_invS (as := [.inl v1, .inl 0, .inl 100]) (rest := []) (d' := d) d_GT_isReach_13 lk_GT_65 rfl (Nat.le_of_ble_eq_true rfl) (Nat.le_of_ble_eq_true rfl) rfl rfl (s_GT_isIn r1 ⟨by decide, by decide⟩ ⟨by decide, by decide⟩ ?_)
    show ga_W G (d + 1) mt_GT_isReach 16 [some (.inl v0), some (.inl v1)] [.inl (ga_bb (decide ((0 : Int) ≤ v1 ∧ v1 ≤ (100 : Int))))] I E
    exact gw_zreturn d_GT_isReach_16 rfl (ga_bb_01 _) h
  · have h := h.2 hc
    refine gw_iconst d_GT_isReach_6 ?_
    refine gw_goto 11 d_GT_isReach_7 (by decide) ?_
    refine gw_bipush d_GT_isReach_11 (by decide +kernel) ?_
    refine gw_invS (as := [.inl v1, .inl 1, .inl 100]) (rest := []) (d' := d) d_GT_isReach_13 lk_GT_65 rfl (Nat.le_of_ble_eq_true rfl) (Nat.le_of_ble_eq_true rfl) rfl rfl (s_GT_isIn r1 ⟨by decide, by decide⟩ ⟨by decide, by decide⟩ ?_)
    show ga_W G (d + 1) mt_GT_isReach 16 [some (.inl v0), some (.inl v1)] [.inl (ga_bb (decide ((1 : Int) ≤ v1 ∧ v1 ≤ (100 : Int))))] I E
    exact gw_zreturn d_GT_isReach_16 rfl (ga_bb_01 _) h

section LA
variable {G : ga_G} {d : Nat} {I : ga_I} {E : Option ga_V → ga_I → Prop}
theorem s_GT_isAxis {a : Int} (ha : ga_rg a) (h : E (some (.inl (ga_bb (decide (0 ≤ a ∧ a ≤ 1))))) I) : ga_W G (d + 1) mt_GT_isAxis 0 (ga_en 1 [.inl a]) [] I E := k_GT_isAxis_0 ha (fun _ => h)
theorem s_GT_isCoordinate {a : Int} (ha : ga_rg a) (h : E (some (.inl (ga_bb (decide (0 ≤ a ∧ a ≤ 1000))))) I) : ga_W G (d + 1) mt_GT_isCoordinate 0 (ga_en 1 [.inl a]) [] I E := k_GT_isCoordinate_0 ha (fun _ => h)
theorem s_GT_isGain {a : Int} (ha : ga_rg a) (h : E (some (.inl (ga_bb (decide (0 ≤ a ∧ a ≤ 2))))) I) : ga_W G (d + 1) mt_GT_isGain 0 (ga_en 1 [.inl a]) [] I E := k_GT_isGain_0 ha (fun _ => h)
theorem s_GT_isOperator {a : Int} (ha : ga_rg a) (h : E (some (.inl (ga_bb (decide (0 ≤ a ∧ a ≤ 2))))) I) : ga_W G (d + 1) mt_GT_isOperator 0 (ga_en 1 [.inl a]) [] I E := k_GT_isOperator_0 ha (fun _ => h)
theorem s_GT_isPlace {a : Int} (ha : ga_rg a) (h : E (some (.inl (ga_bb (decide (0 ≤ a ∧ a ≤ 2))))) I) : ga_W G (d + 1) mt_GT_isPlace 0 (ga_en 1 [.inl a]) [] I E := k_GT_isPlace_0 ha (fun _ => h)
theorem s_GT_isReach {a b : Int} (ha : ga_rg a) (hb : ga_rg b) (h : E (some (.inl (ga_bb (decide ((if a = 1 then 1 else 0) ≤ b ∧ b ≤ 100))))) I) : ga_W G (d + 1) mt_GT_isReach 0 (ga_en 2 [.inl a, .inl b]) [] I E := by
  refine k_GT_isReach_0 ha hb (fun _ => ?_)
  by_cases e : a = 1
  · rw [if_pos e] at h
    refine ⟨fun h1 => ?_, fun _ => ?_⟩ <;> first | exact h | (exfalso; omega)
  · rw [if_neg e] at h
    refine ⟨fun h1 => ?_, fun _ => ?_⟩ <;> first | exact h | (exfalso; omega)
end LA
theorem k_Borders_has_0 {G : ga_G} {d : Nat} {I : ga_I} {E : Option ga_V → ga_I → Prop} {k : Nat} {v1 : Int} (hk : ga_isB k) (r1 : ga_rg v1)
    (h : ga_RG I → ((v1 < 0) → E (some (.inl 0)) I) ∧ ((¬ (v1 < 0)) → (((I k 0) ≤ v1) → E (some (.inl 0)) I) ∧ ((¬ ((I k 0) ≤ v1)) → E (some (.inl 1)) I))) :
    ga_W G d mt_Borders_has 0 (ga_en 2 [.inr k, .inl v1]) [] I E := by
  show ga_W G d mt_Borders_has 0 [some (.inr k), some (.inl v1)] [] I E
  refine gw_RG (fun hI1 => ?_)
  have h := h hI1
  refine gw_iload_n 1 d_Borders_has_0 rfl rfl ?_
  refine gw_if_lt 16 d_Borders_has_1 (by decide) r1 (fun hc => ?_) (fun hc => ?_)
  · have h := h.1 hc
    refine gw_iconst d_Borders_has_16 ?_
    exact gw_zreturn d_Borders_has_17 rfl (by decide) h
  · have h := h.2 hc
    refine gw_iload_n 1 d_Borders_has_4 rfl rfl ?_
    refine gw_aload_n 0 d_Borders_has_5 rfl rfl ?_
    refine gw_getI d_Borders_has_6 fl_Borders_21 (hk.1) rfl ?_
    refine gw_icmp_ge 16 d_Borders_has_9 (by decide) r1 (hI1 _ _) (fun hc => ?_) (fun hc => ?_)
    · have h := h.1 hc
      refine gw_iconst d_Borders_has_16 ?_
      exact gw_zreturn d_Borders_has_17 rfl (by decide) h
    · have h := h.2 hc
      refine gw_iconst d_Borders_has_12 ?_
      refine gw_goto 17 d_Borders_has_13 (by decide) ?_
      exact gw_zreturn d_Borders_has_17 rfl (by decide) h

theorem k_Borders_isFull_0 {G : ga_G} {d : Nat} {I : ga_I} {E : Option ga_V → ga_I → Prop} {k : Nat} (hk : ga_isB k)
    (h : ga_RG I → (((I k 0) < 6) → E (some (.inl 0)) I) ∧ ((¬ ((I k 0) < 6)) → E (some (.inl 1)) I)) :
    ga_W G d mt_Borders_isFull 0 (ga_en 1 [.inr k]) [] I E := by
  show ga_W G d mt_Borders_isFull 0 [some (.inr k)] [] I E
  refine gw_RG (fun hI1 => ?_)
  have h := h hI1
  refine gw_aload_n 0 d_Borders_isFull_0 rfl rfl ?_
  refine gw_getI d_Borders_isFull_1 fl_Borders_21 (hk.1) rfl ?_
  refine gw_bipush d_Borders_isFull_4 (by decide +kernel) ?_
  refine gw_icmp_lt 13 d_Borders_isFull_6 (by decide) (hI1 _ _) ⟨by decide, by decide⟩ (fun hc => ?_) (fun hc => ?_)
  · have h := h.1 hc
    refine gw_iconst d_Borders_isFull_13 ?_
    exact gw_zreturn d_Borders_isFull_14 rfl (by decide) h
  · have h := h.2 hc
    refine gw_iconst d_Borders_isFull_9 ?_
    refine gw_goto 14 d_Borders_isFull_10 (by decide) ?_
    exact gw_zreturn d_Borders_isFull_14 rfl (by decide) h

theorem k_Borders_isInside_0 {G : ga_G} {d : Nat} {I : ga_I} {E : Option ga_V → ga_I → Prop} {v0 : Int} {v1 : Int} 
    (h : ga_RG I → (ga_rg (v0 - v1)) ∧ ((((v0 - v1) < 0) → E (some (.inl 0)) I) ∧ ((¬ ((v0 - v1) < 0)) → (ga_rg (v0 + v1)) ∧ (((1000 < (v0 + v1)) → E (some (.inl 0)) I) ∧ ((¬ (1000 < (v0 + v1))) → E (some (.inl 1)) I))))) :
    ga_W G d mt_Borders_isInside 0 (ga_en 2 [.inl v0, .inl v1]) [] I E := by
  show ga_W G d mt_Borders_isInside 0 [some (.inl v0), some (.inl v1)] [] I E
  refine gw_RG (fun hI1 => ?_)
  have h := h hI1
  refine gw_iload_n 0 d_Borders_isInside_0 rfl rfl ?_
  refine gw_iload_n 1 d_Borders_isInside_1 rfl rfl ?_
  refine gw_isub d_Borders_isInside_2 ?_
  obtain ⟨g1, h⟩ := h
  refine gw_if_lt 19 d_Borders_isInside_3 (by decide) g1 (fun hc => ?_) (fun hc => ?_)
  · have h := h.1 hc
    refine gw_iconst d_Borders_isInside_19 ?_
    exact gw_zreturn d_Borders_isInside_20 rfl (by decide) h
  · have h := h.2 hc
    refine gw_iload_n 0 d_Borders_isInside_6 rfl rfl ?_
    refine gw_iload_n 1 d_Borders_isInside_7 rfl rfl ?_
    refine gw_iadd d_Borders_isInside_8 ?_
    refine gw_sipush d_Borders_isInside_9 (by decide +kernel) ?_
    obtain ⟨g2, h⟩ := h
    refine gw_icmp_gt 19 d_Borders_isInside_12 (by decide) g2 ⟨by decide, by decide⟩ (fun hc => ?_) (fun hc => ?_)
    · have h := h.1 hc
      refine gw_iconst d_Borders_isInside_19 ?_
      exact gw_zreturn d_Borders_isInside_20 rfl (by decide) h
    · have h := h.2 hc
      refine gw_iconst d_Borders_isInside_15 ?_
      refine gw_goto 20 d_Borders_isInside_16 (by decide) ?_
      exact gw_zreturn d_Borders_isInside_20 rfl (by decide) h

section LA
variable {G : ga_G} {d : Nat} {I : ga_I} {E : Option ga_V → ga_I → Prop} {k : Nat}
theorem s_Borders_has (hk : ga_isB k) {a : Int} (ha : ga_rg a) (h : E (some (.inl (ga_bb (decide (0 ≤ a ∧ a < I k 0))))) I) : ga_W G d mt_Borders_has 0 (ga_en 2 [.inr k, .inl a]) [] I E := by
  refine k_Borders_has_0 hk ha (fun hI => ⟨fun h1 => ?_, fun h1 => ⟨fun h2 => ?_, fun h2 => ?_⟩⟩)
  · exact ga_bF (decide_eq_false (by omega)) h
  · exact ga_bF (decide_eq_false (by omega)) h
  · exact ga_bT (decide_eq_true (by omega)) h
theorem s_Borders_isFull (hk : ga_isB k) (h : E (some (.inl (ga_bb (decide (6 ≤ I k 0))))) I) : ga_W G d mt_Borders_isFull 0 (ga_en 1 [.inr k]) [] I E := by
  refine k_Borders_isFull_0 hk (fun hI => ⟨fun h1 => ?_, fun h1 => ?_⟩)
  · exact ga_bF (decide_eq_false (by omega)) h
  · exact ga_bT (decide_eq_true (by omega)) h
theorem s_Borders_isInside {p r : Int} (h1 : ga_rg (p - r)) (h2 : ga_rg (p + r)) (h : E (some (.inl (ga_bb (decide (0 ≤ p - r ∧ p + r ≤ 1000))))) I) : ga_W G d mt_Borders_isInside 0 (ga_en 2 [.inl p, .inl r]) [] I E := by
  refine k_Borders_isInside_0 (fun hI => ⟨h1, fun h1 => ?_, fun h1 => ⟨h2, fun h2 => ?_, fun h2 => ?_⟩⟩)
  · exact ga_bF (decide_eq_false (by omega)) h
  · exact ga_bF (decide_eq_false (by omega)) h
  · exact ga_bT (decide_eq_true (by omega)) h
end LA
