/-! the constructor of the reference, behind its fields -/
theorem k_Mo_init_75 {G : ga_G} {d : Nat} {I : ga_I} {E : Option ga_V → ga_I → Prop}  
    (h : ga_RG I → ga_W G (d + 1) mt_Mo_init 104 [some (.inr 348), some (.inl 0)] [] (ga_up (ga_up (ga_up I 348 0 0) 349 234 500) 349 235 500) E) :
    ga_W G (d + 1) mt_Mo_init 75 [some (.inr 348), none] [] I E := by
  refine gw_RG (fun hI1 => ?_)
  have h := h hI1
  refine gw_aload_n 0 d_Mo_init_75 rfl rfl ?_
  refine gw_iconst d_Mo_init_76 ?_
  refine gw_putI d_Mo_init_77 fp_Mo_37 (ga_oM) rfl ?_
  show ga_W G (d + 1) mt_Mo_init 80 [some (.inr 348), none] [] (ga_up I 348 0 (ga_wr 0)) E
  rw [ga_wr_eq (z := 0) ⟨by decide, by decide⟩]
  refine gw_RG (fun hI2 => ?_)
  refine gw_aload_n 0 d_Mo_init_80 rfl rfl ?_
  refine gw_getR d_Mo_init_81 fl_Mo_7 (ga_oM) rfl ?_
  refine gw_sipush d_Mo_init_84 (by decide +kernel) ?_
  refine gw_sipush d_Mo_init_87 (by decide +kernel) ?_
  refine gw_iast d_Mo_init_90 (ga_aM1) (by decide) (by decide) ?_
  show ga_W G (d + 1) mt_Mo_init 91 [some (.inr 348), none] [] (ga_up (ga_up I 348 0 0) 349 234 (ga_wr 500)) E
  rw [ga_wr_eq (z := 500) ⟨by decide, by decide⟩]
  refine gw_RG (fun hI3 => ?_)
  refine gw_aload_n 0 d_Mo_init_91 rfl rfl ?_
  refine gw_getR d_Mo_init_92 fl_Mo_7 (ga_oM) rfl ?_
  refine gw_sipush d_Mo_init_95 (by decide +kernel) ?_
  refine gw_sipush d_Mo_init_98 (by decide +kernel) ?_
  refine gw_iast d_Mo_init_101 (ga_aM1) (by decide) (by decide) ?_
  show ga_W G (d + 1) mt_Mo_init 102 [some (.inr 348), none] [] (ga_up (ga_up (ga_up I 348 0 0) 349 234 500) 349 235 (ga_wr 500)) E
  rw [ga_wr_eq (z := 500) ⟨by decide, by decide⟩]
  refine gw_RG (fun hI4 => ?_)
  refine gw_iconst d_Mo_init_102 ?_
  refine gw_istore_n 1 d_Mo_init_103 rfl (Nat.le_of_ble_eq_true rfl) rfl ?_
  exact gw_le h (by exact ⟨rfl, ⟨rfl, trivial⟩⟩)
theorem k_Mo_init_104 {G : ga_G} {d : Nat} {I : ga_I} {E : Option ga_V → ga_I → Prop} {v1 : Int} (r1 : ga_rg v1)
    (h : ga_RG I → ((3 ≤ v1) → E none (ga_uc I 349 (ns_cl (I 349) 49 0))) ∧ ((¬ (3 ≤ v1)) → (0 ≤ ((241 + (3 * v1)) + 0)) ∧ ((((241 + (3 * v1)) + 0) < 1120) ∧ ((0 ≤ ((241 + (3 * v1)) + 1)) ∧ ((((241 + (3 * v1)) + 1) < 1120) ∧ (ga_W G (d + 1) mt_Mo_init 104 [some (.inr 348), some (.inl (v1 + 1))] [] (ga_up (ga_up I 349 ((241 + (3 * v1)) + 0).toNat 100) 349 ((241 + (3 * v1)) + 1).toNat 1000) E)))))) :
    ga_W G (d + 1) mt_Mo_init 104 [some (.inr 348), some (.inl v1)] [] I E := by
  refine gw_RG (fun hI1 => ?_)
  have h := h hI1
  refine gw_iload_n 1 d_Mo_init_104 rfl rfl ?_
  refine gw_iconst d_Mo_init_105 ?_
  refine gw_icmp_ge 148 d_Mo_init_106 (by decide) r1 ⟨by decide, by decide⟩ (fun hc => ?_) (fun hc => ?_)
  · have h := h.1 hc
    refine gw_aload_n 0 d_Mo_init_148 rfl rfl ?_
    refine gw_invV (as := []) (k := 348) (rest := []) (d' := d) d_Mo_init_149 lk_Mo_41 (ga_rcv (ga_oM) rfl rfl) rfl (Nat.le_of_ble_eq_true rfl) (Nat.le_of_ble_eq_true rfl) rfl rfl (s_Mo_clearRegions  ?_)
    show ga_W G (d + 1) mt_Mo_init 152 [some (.inr 348), some (.inl v1)] [] (ga_uc I 349 (ns_cl (I 349) 49 0)) E
    refine gw_RG (fun hI2 => ?_)
    exact gw_return d_Mo_init_152 rfl h
  · have h := h.2 hc
    refine gw_aload_n 0 d_Mo_init_109 rfl rfl ?_
    refine gw_getR d_Mo_init_110 fl_Mo_7 (ga_oM) rfl ?_
    refine gw_sipush d_Mo_init_113 (by decide +kernel) ?_
    refine gw_iconst d_Mo_init_116 ?_
    refine gw_iload_n 1 d_Mo_init_117 rfl rfl ?_
    refine gw_imul d_Mo_init_118 ?_
    refine gw_iadd d_Mo_init_119 ?_
    refine gw_iconst d_Mo_init_120 ?_
    refine gw_iadd d_Mo_init_121 ?_
    refine gw_bipush d_Mo_init_122 (by decide +kernel) ?_
    obtain ⟨g1, h⟩ := h
    obtain ⟨g2, h⟩ := h
    refine gw_iast d_Mo_init_124 (ga_aM1) g1 g2 ?_
    show ga_W G (d + 1) mt_Mo_init 125 [some (.inr 348), some (.inl v1)] [] (ga_up I 349 ((241 + (3 * v1)) + 0).toNat (ga_wr 100)) E
    rw [ga_wr_eq (z := 100) ⟨by decide, by decide⟩]
    refine gw_RG (fun hI3 => ?_)
    refine gw_aload_n 0 d_Mo_init_125 rfl rfl ?_
    refine gw_getR d_Mo_init_126 fl_Mo_7 (ga_oM) rfl ?_
    refine gw_sipush d_Mo_init_129 (by decide +kernel) ?_
    refine gw_iconst d_Mo_init_132 ?_
    refine gw_iload_n 1 d_Mo_init_133 rfl rfl ?_
    refine gw_imul d_Mo_init_134 ?_
    refine gw_iadd d_Mo_init_135 ?_
    refine gw_iconst d_Mo_init_136 ?_
    refine gw_iadd d_Mo_init_137 ?_
    refine gw_sipush d_Mo_init_138 (by decide +kernel) ?_
    obtain ⟨g3, h⟩ := h
    obtain ⟨g4, h⟩ := h
    refine gw_iast d_Mo_init_141 (ga_aM1) g3 g4 ?_
    show ga_W G (d + 1) mt_Mo_init 142 [some (.inr 348), some (.inl v1)] [] (ga_up (ga_up I 349 ((241 + (3 * v1)) + 0).toNat 100) 349 ((241 + (3 * v1)) + 1).toNat (ga_wr 1000)) E
    rw [ga_wr_eq (z := 1000) ⟨by decide, by decide⟩]
    refine gw_RG (fun hI4 => ?_)
    refine gw_iinc 1 d_Mo_init_142 rfl rfl ?_
    refine gw_goto 104 d_Mo_init_145 (by decide) ?_
    exact gw_le h (by exact ⟨rfl, ⟨rfl, trivial⟩⟩)

