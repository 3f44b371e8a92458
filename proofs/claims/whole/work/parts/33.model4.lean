/-! the reference: locate -/
theorem k_Mo_locate_0 {G : ga_G} {d : Nat} {I : ga_I} {E : Option ga_V → ga_I → Prop} {v1 : Int} {v2 : Int} {v3 : Int} (r2 : ga_rg v2)
    (h : ga_RG I → ((v2 ≠ 0) → (mo_n I) ∧ ((0 ≤ v1 ∧ v1 ≤ 1) ∧ ((-10 ≤ (v2 - 1) ∧ (v2 - 1) ≤ 10) ∧ (ga_W G (d + 2) mt_Mo_locate 22 [some (.inr 348), some (.inl v1), some (.inl v2), none, some (.inl v3), some (.inl (mp_sy (ms_q (I 349) v1) (ms_n (I 349) v1).toNat (v2 - 1))), none, none, none, none] [] I E)))) ∧ ((v2 = 0) → ga_W G (d + 2) mt_Mo_locate 22 [some (.inr 348), some (.inl v1), some (.inl v2), none, some (.inl v3), some (.inl (-2000000009)), none, none, none, none] [] I E)) :
    ga_W G (d + 2) mt_Mo_locate 0 (ga_en 10 [.inr 348, .inl v1, .inl v2, .inl v3]) [] I E := by
  show ga_W G (d + 2) mt_Mo_locate 0 [some (.inr 348), some (.inl v1), some (.inl v2), some (.inl v3), none, none, none, none, none, none] [] I E
  refine gw_RG (fun hI1 => ?_)
  have h := h hI1
  refine gw_iload_n 3 d_Mo_locate_0 rfl rfl ?_
  refine gw_istore 4 d_Mo_locate_1 (Nat.le_of_ble_eq_true rfl) rfl ?_
  refine gw_iload_n 2 d_Mo_locate_3 rfl rfl ?_
  refine gw_if_ne 12 d_Mo_locate_4 (by decide) r2 (fun hc => ?_) (fun hc => ?_)
  · have h := h.1 hc
    refine gw_aload_n 0 d_Mo_locate_12 rfl rfl ?_
    refine gw_iload_n 1 d_Mo_locate_13 rfl rfl ?_
    refine gw_iload_n 2 d_Mo_locate_14 rfl rfl ?_
    refine gw_iconst d_Mo_locate_15 ?_
    refine gw_isub d_Mo_locate_16 ?_
    obtain ⟨g1, h⟩ := h
    obtain ⟨g2, h⟩ := h
    obtain ⟨g3, h⟩ := h
    refine gw_invV (as := [.inl v1, .inl (v2 - 1)]) (k := 348) (rest := []) (d' := (d + 1)) d_Mo_locate_17 lk_Mo_71 (ga_rcv (ga_oM) rfl rfl) rfl (Nat.le_of_ble_eq_true rfl) (Nat.le_of_ble_eq_true rfl) rfl rfl (s_Mo_sticky g1 g2 g3 ?_)
    show ga_W G (d + 2) mt_Mo_locate 20 [some (.inr 348), some (.inl v1), some (.inl v2), some (.inl v3), some (.inl v3), none, none, none, none, none] [.inl (mp_sy (ms_q (I 349) v1) (ms_n (I 349) v1).toNat (v2 - 1))] I E
    refine gw_istore 5 d_Mo_locate_20 (Nat.le_of_ble_eq_true rfl) rfl ?_
    exact gw_le h (by exact ⟨rfl, ⟨rfl, ⟨rfl, ⟨rfl, ⟨rfl, trivial⟩⟩⟩⟩⟩)
  · have h := h.2 hc
    refine gw_ldc (n := (-2000000009)) d_Mo_locate_7 kw_Mo_67 (by decide +kernel) ?_
    refine gw_goto 20 d_Mo_locate_9 (by decide) ?_
    refine gw_istore 5 d_Mo_locate_20 (Nat.le_of_ble_eq_true rfl) rfl ?_
    exact gw_le h (by exact ⟨rfl, ⟨rfl, ⟨rfl, ⟨rfl, ⟨rfl, trivial⟩⟩⟩⟩⟩)
theorem k_Mo_locate_22 {G : ga_G} {d : Nat} {I : ga_I} {E : Option ga_V → ga_I → Prop} {v1 : Int} {v2 : Int} {v4 : Int} {v5 : Int} (r4 : ga_rg v4) (r5 : ga_rg v5)
    (h : ga_RG I → ((v5 = (-2000000009)) → ga_W G (d + 2) mt_Mo_locate 57 [some (.inr 348), some (.inl v1), some (.inl v2), none, some (.inl v4), none, none, none, none, none] [] I E) ∧ ((¬ (v5 = (-2000000009))) → (0 ≤ v1 ∧ v1 ≤ 1) ∧ ((0 ≤ v5 ∧ v5 ≤ 6) ∧ ((0 ≤ (0 : Int) ∧ (0 : Int) ≤ 2) ∧ ((((ms_b (I 349) v1 v5 (0 : Int)) ≤ v4) → ga_W G (d + 2) mt_Mo_locate 57 [some (.inr 348), some (.inl v1), some (.inl v2), none, some (.inl v4), none, none, none, none, none] [] I E) ∧ ((¬ ((ms_b (I 349) v1 v5 (0 : Int)) ≤ v4)) → ga_W G (d + 2) mt_Mo_locate 57 [some (.inr 348), some (.inl v1), some (.inl v2), none, some (.inl (ms_b (I 349) v1 v5 (0 : Int))), none, none, none, none, none] [] I E)))))) :
    ga_W G (d + 2) mt_Mo_locate 22 [some (.inr 348), some (.inl v1), some (.inl v2), none, some (.inl v4), some (.inl v5), none, none, none, none] [] I E := by
  refine gw_RG (fun hI1 => ?_)
  have h := h hI1
  refine gw_iload 5 d_Mo_locate_22 rfl ?_
  refine gw_ldc (n := (-2000000009)) d_Mo_locate_24 kw_Mo_67 (by decide +kernel) ?_
  refine gw_icmp_eq 53 d_Mo_locate_26 (by decide) r5 ⟨by decide, by decide⟩ (fun hc => ?_) (fun hc => ?_)
  · have h := h.1 hc
    refine gw_iload 4 d_Mo_locate_53 rfl ?_
    refine gw_istore 4 d_Mo_locate_55 (Nat.le_of_ble_eq_true rfl) rfl ?_
    exact gw_le h (by exact ⟨rfl, ⟨rfl, ⟨rfl, ⟨rfl, trivial⟩⟩⟩⟩)
  · have h := h.2 hc
    refine gw_iload 4 d_Mo_locate_29 rfl ?_
    refine gw_aload_n 0 d_Mo_locate_31 rfl rfl ?_
    refine gw_iload_n 1 d_Mo_locate_32 rfl rfl ?_
    refine gw_iload 5 d_Mo_locate_33 rfl ?_
    refine gw_iconst d_Mo_locate_35 ?_
    obtain ⟨g1, h⟩ := h
    obtain ⟨g2, h⟩ := h
    obtain ⟨g3, h⟩ := h
    refine gw_invV (as := [.inl v1, .inl v5, .inl 0]) (k := 348) (rest := [.inl v4]) (d' := (d + 1)) d_Mo_locate_36 lk_Mo_63 (ga_rcv (ga_oM) rfl rfl) rfl (Nat.le_of_ble_eq_true rfl) (Nat.le_of_ble_eq_true rfl) rfl rfl (s_Mo_ofBorder g1 g2 g3 ?_)
    show ga_W G (d + 2) mt_Mo_locate 39 [some (.inr 348), some (.inl v1), some (.inl v2), none, some (.inl v4), some (.inl v5), none, none, none, none] [.inl (ms_b (I 349) v1 v5 (0 : Int)), .inl v4] I E
    refine gw_icmp_ge 53 d_Mo_locate_39 (by decide) r4 (hI1 _ _) (fun hc => ?_) (fun hc => ?_)
    · have h := h.1 hc
      refine gw_iload 4 d_Mo_locate_53 rfl ?_
      refine gw_istore 4 d_Mo_locate_55 (Nat.le_of_ble_eq_true rfl) rfl ?_
      exact gw_le h (by exact ⟨rfl, ⟨rfl, ⟨rfl, ⟨rfl, trivial⟩⟩⟩⟩)
    · have h := h.2 hc
      refine gw_aload_n 0 d_Mo_locate_42 rfl rfl ?_
      refine gw_iload_n 1 d_Mo_locate_43 rfl rfl ?_
      refine gw_iload 5 d_Mo_locate_44 rfl ?_
      refine gw_iconst d_Mo_locate_46 ?_
      refine gw_invV (as := [.inl v1, .inl v5, .inl 0]) (k := 348) (rest := []) (d' := (d + 1)) d_Mo_locate_47 lk_Mo_63 (ga_rcv (ga_oM) rfl rfl) rfl (Nat.le_of_ble_eq_true rfl) (Nat.le_of_ble_eq_true rfl) rfl rfl (s_Mo_ofBorder g1 g2 g3 ?_)
      show ga_W G (d + 2) mt_Mo_locate 50 [some (.inr 348), some (.inl v1), some (.inl v2), none, some (.inl v4), some (.inl v5), none, none, none, none] [.inl (ms_b (I 349) v1 v5 (0 : Int))] I E
      refine gw_goto 55 d_Mo_locate_50 (by decide) ?_
      refine gw_istore 4 d_Mo_locate_55 (Nat.le_of_ble_eq_true rfl) rfl ?_
      exact gw_le h (by exact ⟨rfl, ⟨rfl, ⟨rfl, ⟨rfl, trivial⟩⟩⟩⟩)
theorem k_Mo_locate_57 {G : ga_G} {d : Nat} {I : ga_I} {E : Option ga_V → ga_I → Prop} {v1 : Int} {v2 : Int} {v4 : Int} 
    (h : ga_RG I → (mo_n I) ∧ ((0 ≤ v1 ∧ v1 ≤ 1) ∧ ((-10 ≤ v2 ∧ v2 ≤ 10) ∧ (ga_W G (d + 2) mt_Mo_locate 65 [some (.inr 348), some (.inl v1), none, none, some (.inl v4), some (.inl (mp_sy (ms_q (I 349) v1) (ms_n (I 349) v1).toNat v2)), none, none, none, none] [] I E)))) :
    ga_W G (d + 2) mt_Mo_locate 57 [some (.inr 348), some (.inl v1), some (.inl v2), none, some (.inl v4), none, none, none, none, none] [] I E := by
  refine gw_RG (fun hI1 => ?_)
  have h := h hI1
  refine gw_aload_n 0 d_Mo_locate_57 rfl rfl ?_
  refine gw_iload_n 1 d_Mo_locate_58 rfl rfl ?_
  refine gw_iload_n 2 d_Mo_locate_59 rfl rfl ?_
  obtain ⟨g1, h⟩ := h
  obtain ⟨g2, h⟩ := h
  obtain ⟨g3, h⟩ := h
  refine gw_invV (as := [.inl v1, .inl v2]) (k := 348) (rest := []) (d' := (d + 1)) d_Mo_locate_60 lk_Mo_71 (ga_rcv (ga_oM) rfl rfl) rfl (Nat.le_of_ble_eq_true rfl) (Nat.le_of_ble_eq_true rfl) rfl rfl (s_Mo_sticky g1 g2 g3 ?_)
  show ga_W G (d + 2) mt_Mo_locate 63 [some (.inr 348), some (.inl v1), some (.inl v2), none, some (.inl v4), none, none, none, none, none] [.inl (mp_sy (ms_q (I 349) v1) (ms_n (I 349) v1).toNat v2)] I E
  refine gw_istore 5 d_Mo_locate_63 (Nat.le_of_ble_eq_true rfl) rfl ?_
  exact gw_le h (by exact ⟨rfl, ⟨rfl, ⟨rfl, ⟨rfl, trivial⟩⟩⟩⟩)
theorem k_Mo_locate_65 {G : ga_G} {d : Nat} {I : ga_I} {E : Option ga_V → ga_I → Prop} {v1 : Int} {v4 : Int} {v5 : Int} (r4 : ga_rg v4) (r5 : ga_rg v5)
    (h : ga_RG I → ((v5 = (-2000000009)) → ga_W G (d + 2) mt_Mo_locate 102 [some (.inr 348), some (.inl v1), none, none, some (.inl v4), none, none, none, none, none] [] I E) ∧ ((¬ (v5 = (-2000000009))) → (0 ≤ v1 ∧ v1 ≤ 1) ∧ ((0 ≤ v5 ∧ v5 ≤ 6) ∧ ((0 ≤ (0 : Int) ∧ (0 : Int) ≤ 2) ∧ (((v4 < (ms_b (I 349) v1 v5 (0 : Int))) → ga_W G (d + 2) mt_Mo_locate 102 [some (.inr 348), some (.inl v1), none, none, some (.inl v4), none, none, none, none, none] [] I E) ∧ ((¬ (v4 < (ms_b (I 349) v1 v5 (0 : Int)))) → ga_W G (d + 2) mt_Mo_locate 102 [some (.inr 348), some (.inl v1), none, none, some (.inl ((ms_b (I 349) v1 v5 (0 : Int)) - 1)), none, none, none, none, none] [] I E)))))) :
    ga_W G (d + 2) mt_Mo_locate 65 [some (.inr 348), some (.inl v1), none, none, some (.inl v4), some (.inl v5), none, none, none, none] [] I E := by
  refine gw_RG (fun hI1 => ?_)
  have h := h hI1
  refine gw_iload 5 d_Mo_locate_65 rfl ?_
  refine gw_ldc (n := (-2000000009)) d_Mo_locate_67 kw_Mo_67 (by decide +kernel) ?_
  refine gw_icmp_eq 98 d_Mo_locate_69 (by decide) r5 ⟨by decide, by decide⟩ (fun hc => ?_) (fun hc => ?_)
  · have h := h.1 hc
    refine gw_iload 4 d_Mo_locate_98 rfl ?_
    refine gw_istore 4 d_Mo_locate_100 (Nat.le_of_ble_eq_true rfl) rfl ?_
    exact gw_le h (by exact ⟨rfl, ⟨rfl, ⟨rfl, trivial⟩⟩⟩)
  · have h := h.2 hc
    refine gw_iload 4 d_Mo_locate_72 rfl ?_
    refine gw_aload_n 0 d_Mo_locate_74 rfl rfl ?_
    refine gw_iload_n 1 d_Mo_locate_75 rfl rfl ?_
    refine gw_iload 5 d_Mo_locate_76 rfl ?_
    refine gw_iconst d_Mo_locate_78 ?_
    obtain ⟨g1, h⟩ := h
    obtain ⟨g2, h⟩ := h
    obtain ⟨g3, h⟩ := h
    refine gw_invV (as := [.inl v1, .inl v5, .inl 0]) (k := 348) (rest := [.inl v4]) (d' := (d + 1)) d_Mo_locate_79 lk_Mo_63 (ga_rcv (ga_oM) rfl rfl) rfl (Nat.le_of_ble_eq_true rfl) (Nat.le_of_ble_eq_true rfl) rfl rfl (s_Mo_ofBorder g1 g2 g3 ?_)
    show ga_W G (d + 2) mt_Mo_locate 82 [some (.inr 348), some (.inl v1), none, none, some (.inl v4), some (.inl v5), none, none, none, none] [.inl (ms_b (I 349) v1 v5 (0 : Int)), .inl v4] I E
    refine gw_icmp_lt 98 d_Mo_locate_82 (by decide) r4 (hI1 _ _) (fun hc => ?_) (fun hc => ?_)
    · have h := h.1 hc
      refine gw_iload 4 d_Mo_locate_98 rfl ?_
      refine gw_istore 4 d_Mo_locate_100 (Nat.le_of_ble_eq_true rfl) rfl ?_
      exact gw_le h (by exact ⟨rfl, ⟨rfl, ⟨rfl, trivial⟩⟩⟩)
    · have h := h.2 hc
      refine gw_aload_n 0 d_Mo_locate_85 rfl rfl ?_
      refine gw_iload_n 1 d_Mo_locate_86 rfl rfl ?_
      refine gw_iload 5 d_Mo_locate_87 rfl ?_
      refine gw_iconst d_Mo_locate_89 ?_
      refine gw_invV (as := [.inl v1, .inl v5, .inl 0]) (k := 348) (rest := []) (d' := (d + 1)) d_Mo_locate_90 lk_Mo_63 (ga_rcv (ga_oM) rfl rfl) rfl (Nat.le_of_ble_eq_true rfl) (Nat.le_of_ble_eq_true rfl) rfl rfl (s_Mo_ofBorder g1 g2 g3 ?_)
      show ga_W G (d + 2) mt_Mo_locate 93 [some (.inr 348), some (.inl v1), none, none, some (.inl v4), some (.inl v5), none, none, none, none] [.inl (ms_b (I 349) v1 v5 (0 : Int))] I E
      refine gw_iconst d_Mo_locate_93 ?_
      refine gw_isub d_Mo_locate_94 ?_
      refine gw_goto 100 d_Mo_locate_95 (by decide) ?_
      refine gw_istore 4 d_Mo_locate_100 (Nat.le_of_ble_eq_true rfl) rfl ?_
      exact gw_le h (by exact ⟨rfl, ⟨rfl, ⟨rfl, trivial⟩⟩⟩)
theorem k_Mo_locate_102 {G : ga_G} {d : Nat} {I : ga_I} {E : Option ga_V → ga_I → Prop} {v1 : Int} {v4 : Int} 
    (h : ga_RG I → ga_W G (d + 2) mt_Mo_locate 108 [some (.inr 348), some (.inl v1), none, none, some (.inl v4), none, some (.inl 0), some (.inl 0), none, none] [] I E) :
    ga_W G (d + 2) mt_Mo_locate 102 [some (.inr 348), some (.inl v1), none, none, some (.inl v4), none, none, none, none, none] [] I E := by
  refine gw_RG (fun hI1 => ?_)
  have h := h hI1
  refine gw_iconst d_Mo_locate_102 ?_
  refine gw_istore 6 d_Mo_locate_103 (Nat.le_of_ble_eq_true rfl) rfl ?_
  refine gw_iconst d_Mo_locate_105 ?_
  refine gw_istore 7 d_Mo_locate_106 (Nat.le_of_ble_eq_true rfl) rfl ?_
  exact gw_le h (by exact ⟨rfl, ⟨rfl, ⟨rfl, ⟨rfl, ⟨rfl, trivial⟩⟩⟩⟩⟩)
theorem k_Mo_locate_108 {G : ga_G} {d : Nat} {I : ga_I} {E : Option ga_V → ga_I → Prop} {v1 : Int} {v4 : Int} {v6 : Int} {v7 : Int} (r4 : ga_rg v4) (r7 : ga_rg v7)
    (h : ga_RG I → (0 ≤ v1 ∧ v1 ≤ 1) ∧ ((((ms_n (I 349) v1) ≤ v7) → (0 ≤ v1) ∧ ((v1 < 2) ∧ (ga_W G (d + 2) mt_Mo_locate 180 [some (.inr 348), some (.inl v1), none, none, some (.inl v4), none, none, some (.inl 0), none, none] [] (ga_up (ga_up (ga_up (ga_up I 353 v1.toNat (ga_wr v6)) 354 v1.toNat (ga_wr v6)) 355 v1.toNat 0) 356 v1.toNat 1) E))) ∧ ((¬ ((ms_n (I 349) v1) ≤ v7)) → (0 ≤ v7 ∧ v7 ≤ 6) ∧ ((0 ≤ (0 : Int) ∧ (0 : Int) ≤ 2) ∧ (((v4 < (ms_b (I 349) v1 v7 (0 : Int))) → ga_W G (d + 2) mt_Mo_locate 108 [some (.inr 348), some (.inl v1), none, none, some (.inl v4), none, some (.inl (v6 + 0)), some (.inl (v7 + 1)), none, none] [] I E) ∧ ((¬ (v4 < (ms_b (I 349) v1 v7 (0 : Int)))) → ga_W G (d + 2) mt_Mo_locate 108 [some (.inr 348), some (.inl v1), none, none, some (.inl v4), none, some (.inl (v6 + 1)), some (.inl (v7 + 1)), none, none] [] I E)))))) :
    ga_W G (d + 2) mt_Mo_locate 108 [some (.inr 348), some (.inl v1), none, none, some (.inl v4), none, some (.inl v6), some (.inl v7), none, none] [] I E := by
  refine gw_RG (fun hI1 => ?_)
  have h := h hI1
  refine gw_iload 7 d_Mo_locate_108 rfl ?_
  refine gw_aload_n 0 d_Mo_locate_110 rfl rfl ?_
  refine gw_iload_n 1 d_Mo_locate_111 rfl rfl ?_
  obtain ⟨g1, h⟩ := h
  refine gw_invV (as := [.inl v1]) (k := 348) (rest := [.inl v7]) (d' := (d + 1)) d_Mo_locate_112 lk_Mo_55 (ga_rcv (ga_oM) rfl rfl) rfl (Nat.le_of_ble_eq_true rfl) (Nat.le_of_ble_eq_true rfl) rfl rfl (s_Mo_borders g1 ?_)
  show ga_W G (d + 2) mt_Mo_locate 115 [some (.inr 348), some (.inl v1), none, none, some (.inl v4), none, some (.inl v6), some (.inl v7), none, none] [.inl (ms_n (I 349) v1), .inl v7] I E
  refine gw_icmp_ge 147 d_Mo_locate_115 (by decide) r7 (hI1 _ _) (fun hc => ?_) (fun hc => ?_)
  · have h := h.1 hc
    refine gw_aload_n 0 d_Mo_locate_147 rfl rfl ?_
    refine gw_getR d_Mo_locate_148 fl_Mo_22 (ga_oM) rfl ?_
    refine gw_iload_n 1 d_Mo_locate_151 rfl rfl ?_
    refine gw_iload 6 d_Mo_locate_152 rfl ?_
    obtain ⟨g2, h⟩ := h
    obtain ⟨g3, h⟩ := h
    refine gw_iast d_Mo_locate_154 (ga_aM5) g2 g3 ?_
    refine gw_RG (fun hI2 => ?_)
    refine gw_aload_n 0 d_Mo_locate_155 rfl rfl ?_
    refine gw_getR d_Mo_locate_156 fl_Mo_25 (ga_oM) rfl ?_
    refine gw_iload_n 1 d_Mo_locate_159 rfl rfl ?_
    refine gw_iload 6 d_Mo_locate_160 rfl ?_
    refine gw_iast d_Mo_locate_162 (ga_aM6) g2 g3 ?_
    refine gw_RG (fun hI3 => ?_)
    refine gw_aload_n 0 d_Mo_locate_163 rfl rfl ?_
    refine gw_getR d_Mo_locate_164 fl_Mo_28 (ga_oM) rfl ?_
    refine gw_iload_n 1 d_Mo_locate_167 rfl rfl ?_
    refine gw_iconst d_Mo_locate_168 ?_
    refine gw_iast d_Mo_locate_169 (ga_aM7) g2 g3 ?_
    rw [ga_wr_eq (z := 0) ⟨by decide, by decide⟩]
    refine gw_RG (fun hI4 => ?_)
    refine gw_aload_n 0 d_Mo_locate_170 rfl rfl ?_
    refine gw_getR d_Mo_locate_171 fl_Mo_31 (ga_oM) rfl ?_
    refine gw_iload_n 1 d_Mo_locate_174 rfl rfl ?_
    refine gw_iconst d_Mo_locate_175 ?_
    refine gw_iast d_Mo_locate_176 (ga_aM8) g2 g3 ?_
    rw [ga_wr_eq (z := 1) ⟨by decide, by decide⟩]
    refine gw_RG (fun hI5 => ?_)
    refine gw_iconst d_Mo_locate_177 ?_
    refine gw_istore 7 d_Mo_locate_178 (Nat.le_of_ble_eq_true rfl) rfl ?_
    exact gw_le h (by exact ⟨rfl, ⟨rfl, ⟨rfl, ⟨rfl, trivial⟩⟩⟩⟩)
  · have h := h.2 hc
    refine gw_iload 6 d_Mo_locate_118 rfl ?_
    refine gw_aload_n 0 d_Mo_locate_120 rfl rfl ?_
    refine gw_iload_n 1 d_Mo_locate_121 rfl rfl ?_
    refine gw_iload 7 d_Mo_locate_122 rfl ?_
    refine gw_iconst d_Mo_locate_124 ?_
    obtain ⟨g4, h⟩ := h
    obtain ⟨g5, h⟩ := h
    refine gw_invV (as := [.inl v1, .inl v7, .inl 0]) (k := 348) (rest := [.inl v6]) (d' := (d + 1)) d_Mo_locate_125 lk_Mo_63 (ga_rcv (ga_oM) rfl rfl) rfl (Nat.le_of_ble_eq_true rfl) (Nat.le_of_ble_eq_true rfl) rfl rfl (s_Mo_ofBorder g1 g4 g5 ?_)
    show ga_W G (d + 2) mt_Mo_locate 128 [some (.inr 348), some (.inl v1), none, none, some (.inl v4), none, some (.inl v6), some (.inl v7), none, none] [.inl (ms_b (I 349) v1 v7 (0 : Int)), .inl v6] I E
    refine gw_iload 4 d_Mo_locate_128 rfl ?_
    refine gw_icmp_gt 137 d_Mo_locate_130 (by decide) (hI1 _ _) r4 (fun hc => ?_) (fun hc => ?_)
    · have h := h.1 hc
      refine gw_iconst d_Mo_locate_137 ?_
      refine gw_iadd d_Mo_locate_138 ?_
      refine gw_istore 6 d_Mo_locate_139 (Nat.le_of_ble_eq_true rfl) rfl ?_
      refine gw_iinc 7 d_Mo_locate_141 rfl rfl ?_
      refine gw_goto 108 d_Mo_locate_144 (by decide) ?_
      exact gw_le h (by exact ⟨rfl, ⟨rfl, ⟨rfl, ⟨rfl, ⟨rfl, trivial⟩⟩⟩⟩⟩)
    · have h := h.2 hc
      refine gw_iconst d_Mo_locate_133 ?_
      refine gw_goto 138 d_Mo_locate_134 (by decide) ?_
      refine gw_iadd d_Mo_locate_138 ?_
      refine gw_istore 6 d_Mo_locate_139 (Nat.le_of_ble_eq_true rfl) rfl ?_
      refine gw_iinc 7 d_Mo_locate_141 rfl rfl ?_
      refine gw_goto 108 d_Mo_locate_144 (by decide) ?_
      exact gw_le h (by exact ⟨rfl, ⟨rfl, ⟨rfl, ⟨rfl, ⟨rfl, trivial⟩⟩⟩⟩⟩)
theorem k_Mo_locate_180 {G : ga_G} {d : Nat} {I : ga_I} {E : Option ga_V → ga_I → Prop} {v1 : Int} {v4 : Int} {v7 : Int} (r4 : ga_rg v4) (r7 : ga_rg v7)
    (h : ga_RG I → (0 ≤ v1 ∧ v1 ≤ 1) ∧ ((((ms_n (I 349) v1) ≤ v7) → E none I) ∧ ((¬ ((ms_n (I 349) v1) ≤ v7)) → (0 ≤ v7 ∧ v7 ≤ 6) ∧ ((0 ≤ (0 : Int) ∧ (0 : Int) ≤ 2) ∧ ((0 ≤ (2 : Int) ∧ (2 : Int) ≤ 2) ∧ ((0 ≤ (1 : Int) ∧ (1 : Int) ≤ 2) ∧ ((((ms_b (I 349) v1 v7 (1 : Int)) ≠ 1) → ga_W G (d + 2) mt_Mo_locate 180 [some (.inr 348), some (.inl v1), none, none, some (.inl v4), none, none, some (.inl (v7 + 1)), none, none] [] I E) ∧ (((ms_b (I 349) v1 v7 (1 : Int)) = 1) → (ga_rg ((ms_b (I 349) v1 v7 (0 : Int)) - (ms_b (I 349) v1 v7 (2 : Int)))) ∧ ((ga_rg ((ms_b (I 349) v1 v7 (0 : Int)) + (ms_b (I 349) v1 v7 (2 : Int)))) ∧ (((¬ (((ms_b (I 349) v1 v7 (0 : Int)) - (ms_b (I 349) v1 v7 (2 : Int))) ≤ v4 ∧ v4 ≤ ((ms_b (I 349) v1 v7 (0 : Int)) + (ms_b (I 349) v1 v7 (2 : Int))))) → ga_W G (d + 2) mt_Mo_locate 180 [some (.inr 348), some (.inl v1), none, none, some (.inl v4), none, none, some (.inl (v7 + 1)), none, none] [] I E) ∧ ((((ms_b (I 349) v1 v7 (0 : Int)) - (ms_b (I 349) v1 v7 (2 : Int))) ≤ v4 ∧ v4 ≤ ((ms_b (I 349) v1 v7 (0 : Int)) + (ms_b (I 349) v1 v7 (2 : Int)))) → (0 ≤ v1) ∧ ((v1 < 2) ∧ (ga_W G (d + 2) mt_Mo_locate 180 [some (.inr 348), some (.inl v1), none, none, some (.inl v4), none, none, some (.inl (v7 + 1)), none, none] [] (ga_up (ga_up (ga_up (ga_up I 353 v1.toNat v7) 354 v1.toNat (ga_wr (v7 + 1))) 355 v1.toNat (ga_wr ((v4 - (ms_b (I 349) v1 v7 (0 : Int))) + (ms_b (I 349) v1 v7 (2 : Int))))) 356 v1.toNat (ga_wr (2 * (ms_b (I 349) v1 v7 (2 : Int))))) E))))))))))))) :
    ga_W G (d + 2) mt_Mo_locate 180 [some (.inr 348), some (.inl v1), none, none, some (.inl v4), none, none, some (.inl v7), none, none] [] I E := by
  refine gw_RG (fun hI1 => ?_)
  have h := h hI1
  refine gw_iload 7 d_Mo_locate_180 rfl ?_
  refine gw_aload_n 0 d_Mo_locate_182 rfl rfl ?_
  refine gw_iload_n 1 d_Mo_locate_183 rfl rfl ?_
  obtain ⟨g1, h⟩ := h
  refine gw_invV (as := [.inl v1]) (k := 348) (rest := [.inl v7]) (d' := (d + 1)) d_Mo_locate_184 lk_Mo_55 (ga_rcv (ga_oM) rfl rfl) rfl (Nat.le_of_ble_eq_true rfl) (Nat.le_of_ble_eq_true rfl) rfl rfl (s_Mo_borders g1 ?_)
  show ga_W G (d + 2) mt_Mo_locate 187 [some (.inr 348), some (.inl v1), none, none, some (.inl v4), none, none, some (.inl v7), none, none] [.inl (ms_n (I 349) v1), .inl v7] I E
  refine gw_icmp_ge 288 d_Mo_locate_187 (by decide) r7 (hI1 _ _) (fun hc => ?_) (fun hc => ?_)
  · have h := h.1 hc
    exact gw_return d_Mo_locate_288 rfl h
  · have h := h.2 hc
    refine gw_aload_n 0 d_Mo_locate_190 rfl rfl ?_
    refine gw_iload_n 1 d_Mo_locate_191 rfl rfl ?_
    refine gw_iload 7 d_Mo_locate_192 rfl ?_
    refine gw_iconst d_Mo_locate_194 ?_
    obtain ⟨g2, h⟩ := h
    obtain ⟨g3, h⟩ := h
    refine gw_invV (as := [.inl v1, .inl v7, .inl 0]) (k := 348) (rest := []) (d' := (d + 1)) d_Mo_locate_195 lk_Mo_63 (ga_rcv (ga_oM) rfl rfl) rfl (Nat.le_of_ble_eq_true rfl) (Nat.le_of_ble_eq_true rfl) rfl rfl (s_Mo_ofBorder g1 g2 g3 ?_)
    show ga_W G (d + 2) mt_Mo_locate 198 [some (.inr 348), some (.inl v1), none, none, some (.inl v4), none, none, some (.inl v7), none, none] [.inl (ms_b (I 349) v1 v7 (0 : Int))] I E
    refine gw_istore 8 d_Mo_locate_198 (Nat.le_of_ble_eq_true rfl) rfl ?_
    refine gw_aload_n 0 d_Mo_locate_200 rfl rfl ?_
    refine gw_iload_n 1 d_Mo_locate_201 rfl rfl ?_
    refine gw_iload 7 d_Mo_locate_202 rfl ?_
    refine gw_iconst d_Mo_locate_204 ?_
    obtain ⟨g4, h⟩ := h
    refine gw_invV (as := [.inl v1, .inl v7, .inl 2]) (k := 348) (rest := []) (d' := (d + 1)) d_Mo_locate_205 lk_Mo_63 (ga_rcv (ga_oM) rfl rfl) rfl (Nat.le_of_ble_eq_true rfl) (Nat.le_of_ble_eq_true rfl) rfl rfl (s_Mo_ofBorder g1 g2 g4 ?_)
    show ga_W G (d + 2) mt_Mo_locate 208 [some (.inr 348), some (.inl v1), none, none, some (.inl v4), none, none, some (.inl v7), some (.inl (ms_b (I 349) v1 v7 (0 : Int))), none] [.inl (ms_b (I 349) v1 v7 (2 : Int))] I E
    refine gw_istore 9 d_Mo_locate_208 (Nat.le_of_ble_eq_true rfl) rfl ?_
    refine gw_aload_n 0 d_Mo_locate_210 rfl rfl ?_
    refine gw_iload_n 1 d_Mo_locate_211 rfl rfl ?_
    refine gw_iload 7 d_Mo_locate_212 rfl ?_
    refine gw_iconst d_Mo_locate_214 ?_
    obtain ⟨g5, h⟩ := h
    refine gw_invV (as := [.inl v1, .inl v7, .inl 1]) (k := 348) (rest := []) (d' := (d + 1)) d_Mo_locate_215 lk_Mo_63 (ga_rcv (ga_oM) rfl rfl) rfl (Nat.le_of_ble_eq_true rfl) (Nat.le_of_ble_eq_true rfl) rfl rfl (s_Mo_ofBorder g1 g2 g5 ?_)
    show ga_W G (d + 2) mt_Mo_locate 218 [some (.inr 348), some (.inl v1), none, none, some (.inl v4), none, none, some (.inl v7), some (.inl (ms_b (I 349) v1 v7 (0 : Int))), some (.inl (ms_b (I 349) v1 v7 (2 : Int)))] [.inl (ms_b (I 349) v1 v7 (1 : Int))] I E
    refine gw_iconst d_Mo_locate_218 ?_
    refine gw_icmp_ne 282 d_Mo_locate_219 (by decide) (hI1 _ _) ⟨by decide, by decide⟩ (fun hc => ?_) (fun hc => ?_)
    · have h := h.1 hc
      refine gw_iinc 7 d_Mo_locate_282 rfl rfl ?_
      refine gw_goto 180 d_Mo_locate_285 (by decide) ?_
      exact gw_le h (by exact ⟨rfl, ⟨rfl, ⟨rfl, ⟨rfl, trivial⟩⟩⟩⟩)
    · have h := h.2 hc
      refine gw_iload 4 d_Mo_locate_222 rfl ?_
      refine gw_iload 8 d_Mo_locate_224 rfl ?_
      refine gw_iload 9 d_Mo_locate_226 rfl ?_
      refine gw_isub d_Mo_locate_228 ?_
      refine gw_iload 8 d_Mo_locate_229 rfl ?_
      refine gw_iload 9 d_Mo_locate_231 rfl ?_
      refine gw_iadd d_Mo_locate_233 ?_
      obtain ⟨g6, h⟩ := h
      obtain ⟨g7, h⟩ := h
      refine gw_invS (as := [.inl v4, .inl ((ms_b (I 349) v1 v7 (0 : Int)) - (ms_b (I 349) v1 v7 (2 : Int))), .inl ((ms_b (I 349) v1 v7 (0 : Int)) + (ms_b (I 349) v1 v7 (2 : Int)))]) (rest := []) (d' := (d + 1)) d_Mo_locate_234 lk_Mo_47 rfl (Nat.le_of_ble_eq_true rfl) (Nat.le_of_ble_eq_true rfl) rfl rfl (s_Mo_in r4 g6 g7 ?_)
      show ga_W G (d + 2) mt_Mo_locate 237 [some (.inr 348), some (.inl v1), none, none, some (.inl v4), none, none, some (.inl v7), some (.inl (ms_b (I 349) v1 v7 (0 : Int))), some (.inl (ms_b (I 349) v1 v7 (2 : Int)))] [.inl (ga_bb (decide (((ms_b (I 349) v1 v7 (0 : Int)) - (ms_b (I 349) v1 v7 (2 : Int))) ≤ v4 ∧ v4 ≤ ((ms_b (I 349) v1 v7 (0 : Int)) + (ms_b (I 349) v1 v7 (2 : Int))))))] I E
      refine gw_ifb_eq 282 d_Mo_locate_237 (by decide) (fun hc => ?_) (fun hc => ?_)
      · have h := h.1 (of_decide_eq_false hc)
        refine gw_iinc 7 d_Mo_locate_282 rfl rfl ?_
        refine gw_goto 180 d_Mo_locate_285 (by decide) ?_
        exact gw_le h (by exact ⟨rfl, ⟨rfl, ⟨rfl, ⟨rfl, trivial⟩⟩⟩⟩)
      · have h := h.2 (of_decide_eq_true hc)
        refine gw_aload_n 0 d_Mo_locate_240 rfl rfl ?_
        refine gw_getR d_Mo_locate_241 fl_Mo_22 (ga_oM) rfl ?_
        refine gw_iload_n 1 d_Mo_locate_244 rfl rfl ?_
        refine gw_iload 7 d_Mo_locate_245 rfl ?_
        obtain ⟨g8, h⟩ := h
        obtain ⟨g9, h⟩ := h
        refine gw_iast d_Mo_locate_247 (ga_aM5) g8 g9 ?_
        rw [ga_wr_eq (z := v7) r7]
        refine gw_RG (fun hI2 => ?_)
        refine gw_aload_n 0 d_Mo_locate_248 rfl rfl ?_
        refine gw_getR d_Mo_locate_249 fl_Mo_25 (ga_oM) rfl ?_
        refine gw_iload_n 1 d_Mo_locate_252 rfl rfl ?_
        refine gw_iload 7 d_Mo_locate_253 rfl ?_
        refine gw_iconst d_Mo_locate_255 ?_
        refine gw_iadd d_Mo_locate_256 ?_
        refine gw_iast d_Mo_locate_257 (ga_aM6) g8 g9 ?_
        refine gw_RG (fun hI3 => ?_)
        refine gw_aload_n 0 d_Mo_locate_258 rfl rfl ?_
        refine gw_getR d_Mo_locate_259 fl_Mo_28 (ga_oM) rfl ?_
        refine gw_iload_n 1 d_Mo_locate_262 rfl rfl ?_
        refine gw_iload 4 d_Mo_locate_263 rfl ?_
        refine gw_iload 8 d_Mo_locate_265 rfl ?_
        refine gw_isub d_Mo_locate_267 ?_
        refine gw_iload 9 d_Mo_locate_268 rfl ?_
        refine gw_iadd d_Mo_locate_270 ?_
        refine gw_iast d_Mo_locate_271 (ga_aM7) g8 g9 ?_
        refine gw_RG (fun hI4 => ?_)
        refine gw_aload_n 0 d_Mo_locate_272 rfl rfl ?_
        refine gw_getR d_Mo_locate_273 fl_Mo_31 (ga_oM) rfl ?_
        refine gw_iload_n 1 d_Mo_locate_276 rfl rfl ?_
        refine gw_iconst d_Mo_locate_277 ?_
        refine gw_iload 9 d_Mo_locate_278 rfl ?_
        refine gw_imul d_Mo_locate_280 ?_
        refine gw_iast d_Mo_locate_281 (ga_aM8) g8 g9 ?_
        refine gw_RG (fun hI5 => ?_)
        refine gw_iinc 7 d_Mo_locate_282 rfl rfl ?_
        refine gw_goto 180 d_Mo_locate_285 (by decide) ?_
        exact gw_le h (by exact ⟨rfl, ⟨rfl, ⟨rfl, ⟨rfl, trivial⟩⟩⟩⟩)

section MD
variable {G : ga_G} {d : Nat} {I : ga_I} {E : Option ga_V → ga_I → Prop}
/-- what is held, by the sticky borders' numbers -/
def mp_u1 (p : Nat → Int) (s c : Int) : Int := if s = -2000000009 then c else max c (p s.toNat)
def mp_u2 (p : Nat → Int) (s c : Int) : Int := if s = -2000000009 then c else min c (p s.toNat - 1)
theorem mp_sy_F {q : Nat → Int} {n : Nat} {z : Int} (h : ¬ (q n = 0 ∧ gp_ct (gp_sk q) n = z)) : mp_sy q (n + 1) z = mp_sy q n z := by
  have e : gp_ff (fun b => decide (q b = 0 ∧ gp_ct (gp_sk q) b = z)) (n + 1) = gp_ff (fun b => decide (q b = 0 ∧ gp_ct (gp_sk q) b = z)) n := by
    show (if _ = (-1 : Int) then (if decide (q n = 0 ∧ gp_ct (gp_sk q) n = z) = true then (n : Int) else -1) else _) = _
    rw [decide_eq_false h]
    by_cases e : gp_ff (fun b => decide (q b = 0 ∧ gp_ct (gp_sk q) b = z)) n = -1
    · rw [if_pos e, e]; rfl
    · rw [if_neg e]
  unfold mp_sy
  rw [e]
theorem mp_sy_T {q : Nat → Int} {n : Nat} {z : Int} (h : q n = 0 ∧ gp_ct (gp_sk q) n = z) : mp_sy q (n + 1) z = (n : Int) ∧ mp_sy q n z = -2000000009 := by
  have no : ∀ a, a < n → decide (q a = 0 ∧ gp_ct (gp_sk q) a = z) = false := fun a ha => decide_eq_false (fun w => by
    have := gp_sk_inj w.1 h.1 (w.2.trans h.2.symm)
    omega)
  have e := gp_ff_at (fun b => decide (q b = 0 ∧ gp_ct (gp_sk q) b = z)) (b := n) (decide_eq_true h) no (n + 1) (by omega)
  have e2 := gp_ff_none (fun b => decide (q b = 0 ∧ gp_ct (gp_sk q) b = z)) n no
  unfold mp_sy
  rw [e, e2, if_neg (by omega), if_pos rfl]
  exact ⟨rfl, rfl⟩
theorem gp_hd_is (p q : Nat → Int) (z c : Int) : ∀ n : Nat, gp_hd p q z c n = mp_u2 p (mp_sy q n z) (mp_u1 p (mp_sy q n (z - 1)) c)
  | 0 => rfl
  | n + 1 => by
    have ih := gp_hd_is p q z c n
    show (if q n = 0 then (if gp_ct (gp_sk q) n = z - 1 then max (gp_hd p q z c n) (p n) else if gp_ct (gp_sk q) n = z then min (gp_hd p q z c n) (p n - 1) else gp_hd p q z c n) else gp_hd p q z c n) = _
    by_cases e : q n = 0
    · rw [if_pos e]
      by_cases e1 : gp_ct (gp_sk q) n = z - 1
      · obtain ⟨t1, t2⟩ := mp_sy_T ⟨e, e1⟩
        have t3 : mp_sy q n z = -2000000009 := by
          rcases mp_sy_cases q n z with h | ⟨b, b1, b2, b3, b4⟩
          · exact h.1
          · have := gp_ct_mono (gp_sk q) (show b ≤ n by omega)
            omega
        rw [if_pos e1, ih, t1, t2, mp_sy_F (by omega), t3]
        unfold mp_u1 mp_u2
        rw [if_pos rfl, if_pos rfl, if_pos rfl, if_neg (by omega), Int.toNat_natCast]
      · rw [if_neg e1]
        by_cases e2 : gp_ct (gp_sk q) n = z
        · obtain ⟨t1, t2⟩ := mp_sy_T ⟨e, e2⟩
          rw [if_pos e2, ih, t1, t2, mp_sy_F (z := z - 1) (by omega)]
          unfold mp_u2
          rw [if_pos rfl, if_neg (by omega), Int.toNat_natCast]
        · rw [if_neg e2, ih, mp_sy_F (by omega), mp_sy_F (by omega)]
    · rw [if_neg e, ih, mp_sy_F (by omega), mp_sy_F (by omega)]
theorem gp_ok_lt {n : Int} {p q r : Nat → Int} (h : gp_ok n p q r) : ∀ (m a : Nat), ((a + m + 1 : Nat) : Int) < n → p a + r a < p (a + m + 1) - r (a + m + 1)
  | 0, a, hb => h.2.2.2 a (by omega)
  | m + 1, a, hb => by
    have h1 := gp_ok_lt h m a (by omega)
    have h2 := h.2.2.2 (a + m + 1) (by omega)
    have h3 := h.2.2.1 (a + m + 1) (by omega)
    show _ < p (a + m + 1 + 1) - r (a + m + 1 + 1)
    omega
/-- a coordinate is blended by one border at most -/
theorem gp_bl_one {n : Int} {p q r : Nat → Int} (h : gp_ok n p q r) {u : Int} {a b : Nat} (ha : (a : Int) < n) (hb : (b : Int) < n) (h1 : p a - r a ≤ u ∧ u ≤ p a + r a) (h2 : p b - r b ≤ u ∧ u ≤ p b + r b) : a = b := by
  rcases Nat.lt_trichotomy a b with x | x | x
  · have := gp_ok_lt h (b - a - 1) a (by omega)
    rw [show a + (b - a - 1) + 1 = b by omega] at this
    omega
  · exact x
  · have := gp_ok_lt h (a - b - 1) b (by omega)
    rw [show b + (a - b - 1) + 1 = a by omega] at this
    omega
def mx_lo (I : ga_I) (ax : Int) (v : Int × Int × Int × Int) : ga_I := ga_up (ga_up (ga_up (ga_up I 353 ax.toNat v.1) 354 ax.toNat v.2.1) 355 ax.toNat v.2.2.1) 356 ax.toNat v.2.2.2
theorem mx_lo_lo (I : ga_I) (ax : Int) (v w : Int × Int × Int × Int) : mx_lo (mx_lo I ax v) ax w = mx_lo I ax w := by
  funext a j
  unfold mx_lo
  unfold ga_up
  by_cases e4 : a = 356 ∧ j = ax.toNat
  · rw [if_pos e4, if_pos e4]
  · rw [if_neg e4, if_neg e4]
    by_cases e3 : a = 355 ∧ j = ax.toNat
    · rw [if_pos e3, if_neg e4, if_pos e3]
    · rw [if_neg e3, if_neg e3]
      by_cases e2 : a = 354 ∧ j = ax.toNat
      · rw [if_pos e2, if_neg e4, if_neg e3, if_pos e2]
      · rw [if_neg e2, if_neg e2]
        by_cases e1 : a = 353 ∧ j = ax.toNat
        · rw [if_pos e1, if_neg e4, if_neg e3, if_neg e2, if_pos e1]
        · rw [if_neg e1, if_neg e1, if_neg e4, if_neg e3, if_neg e2, if_neg e1]
theorem mx_lo_s (I : ga_I) (ax : Int) (v : Int × Int × Int × Int) {a : Nat} (h : a < 353 ∨ 357 ≤ a) : mx_lo I ax v a = I a := by
  unfold mx_lo
  rw [ga_up_fn (by omega), ga_up_fn (by omega), ga_up_fn (by omega), ga_up_fn (by omega)]
/-- what locate has found over the first borders -/
def mp_fi (p q r : Nat → Int) (u st : Int) (m : Nat) : Int × Int × Int × Int := if gp_bl p q r u m = -1 then (st, st, 0, 1) else (gp_bl p q r u m, gp_bl p q r u m + 1, u - p (gp_bl p q r u m).toNat + r (gp_bl p q r u m).toNat, 2 * r (gp_bl p q r u m).toNat)
theorem gp_bl_F {p q r : Nat → Int} {u : Int} {m : Nat} (h : ¬ (q m = 1 ∧ p m - r m ≤ u ∧ u ≤ p m + r m)) : gp_bl p q r u (m + 1) = gp_bl p q r u m := by
  show (if _ = (-1 : Int) then (if decide (q m = 1 ∧ p m - r m ≤ u ∧ u ≤ p m + r m) = true then (m : Int) else -1) else _) = _
  rw [decide_eq_false h]
  by_cases e : gp_bl p q r u m = -1
  · rw [e]; exact if_pos e
  · exact if_neg e
theorem l_Mo_locate2 {ax : Int} (ha : 0 ≤ ax ∧ ax ≤ 1) (hok : mo_ok I ax) {n : Nat} (hn : (n : Int) = ms_n (I 349) ax) {u st : Int} (hu : 0 ≤ u ∧ u ≤ 1000) (h : E none (mx_lo I ax (mp_fi (ms_p (I 349) ax) (ms_q (I 349) ax) (ms_r (I 349) ax) u st n))) : ∀ (j m : Nat), m + j = n → ga_W G (d + 2) mt_Mo_locate 180 [some (.inr 348), some (.inl ax), none, none, some (.inl u), none, none, some (.inl (m : Int)), none, none] [] (mx_lo I ax (mp_fi (ms_p (I 349) ax) (ms_q (I 349) ax) (ms_r (I 349) ax) u st m)) E := by
  have h6 := hok.2.1
  have hs : ∀ v, mx_lo I ax v 349 = I 349 := fun v => mx_lo_s I ax v (by omega)
  intro j
  induction j with
  | zero =>
    intro m hm
    refine k_Mo_locate_180 ⟨by omega, by omega⟩ ⟨by omega, by omega⟩ (fun hI => ⟨ha, fun h1 => ?_, fun h1 => ?_⟩)
    · rwa [show m = n by omega]
    · rw [hs] at h1
      exfalso; omega
  | succ j ih =>
    intro m hm
    have e := ih (m + 1) (by omega)
    have hv := hok.2.2.1 m (by omega)
    have no : ¬ (ms_q (I 349) ax m = 1 ∧ ms_p (I 349) ax m - ms_r (I 349) ax m ≤ u ∧ u ≤ ms_p (I 349) ax m + ms_r (I 349) ax m) → ga_W G (d + 2) mt_Mo_locate 180 [some (.inr 348), some (.inl ax), none, none, some (.inl u), none, none, some (.inl ((m : Int) + 1)), none, none] [] (mx_lo I ax (mp_fi (ms_p (I 349) ax) (ms_q (I 349) ax) (ms_r (I 349) ax) u st m)) E := fun q => by
      refine gw_eq e rfl ?_
      unfold mp_fi
      rw [gp_bl_F q]
    refine k_Mo_locate_180 ⟨by omega, by omega⟩ ⟨by omega, by omega⟩ (fun hI => ⟨ha, fun h1 => ?_, fun h1 => ⟨by omega, by omega, ?_⟩⟩)
    · rw [hs] at h1
      exfalso; omega
    · rw [hs, ms_b0, ms_b1, ms_b2]
      refine ⟨by omega, by omega, fun h2 => no (fun w => h2 w.1), fun h2 => ⟨⟨by omega, by omega⟩, ⟨by omega, by omega⟩, fun h3 => no (fun w => h3 w.2), fun h3 => ⟨by omega, by omega, ?_⟩⟩⟩
      have hno : ∀ a, a < m → decide (ms_q (I 349) ax a = 1 ∧ ms_p (I 349) ax a - ms_r (I 349) ax a ≤ u ∧ u ≤ ms_p (I 349) ax a + ms_r (I 349) ax a) = false := fun a hla => decide_eq_false (fun w => by
        have := gp_bl_one hok (u := u) (a := a) (b := m) (by omega) (by omega) w.2 h3
        omega)
      have eb : gp_bl (ms_p (I 349) ax) (ms_q (I 349) ax) (ms_r (I 349) ax) u (m + 1) = (m : Int) := gp_ff_at _ (decide_eq_true ⟨h2, h3.1, h3.2⟩) hno (m + 1) (by omega)
      rw [ga_wr_eq ⟨by omega, by omega⟩, ga_wr_eq ⟨by omega, by omega⟩, ga_wr_eq ⟨by omega, by omega⟩]
      refine gw_eq e rfl ?_
      rw [show mp_fi (ms_p (I 349) ax) (ms_q (I 349) ax) (ms_r (I 349) ax) u st (m + 1) = ((m : Int), (m : Int) + 1, u - ms_p (I 349) ax m + ms_r (I 349) ax m, 2 * ms_r (I 349) ax m) by
        unfold mp_fi
        rw [eb, if_neg (by omega), Int.toNat_natCast]]
      rw [← mx_lo_lo I ax (mp_fi (ms_p (I 349) ax) (ms_q (I 349) ax) (ms_r (I 349) ax) u st m)]
      rfl
theorem l_Mo_locate1 {ax : Int} (ha : 0 ≤ ax ∧ ax ≤ 1) (hok : mo_ok I ax) {n : Nat} (hn : (n : Int) = ms_n (I 349) ax) {u : Int} (hu : 0 ≤ u ∧ u ≤ 1000) (h : E none (mx_lo I ax (mp_fi (ms_p (I 349) ax) (ms_q (I 349) ax) (ms_r (I 349) ax) u (gp_st (ms_p (I 349) ax) u n) n))) : ∀ (j m : Nat), m + j = n → ga_W G (d + 2) mt_Mo_locate 108 [some (.inr 348), some (.inl ax), none, none, some (.inl u), none, some (.inl (gp_st (ms_p (I 349) ax) u m)), some (.inl (m : Int)), none, none] [] I E := by
  have h6 := hok.2.1
  intro j
  induction j with
  | zero =>
    intro m hm
    have hb := gp_st_bd (ms_p (I 349) ax) u m
    refine k_Mo_locate_108 ⟨by omega, by omega⟩ ⟨by omega, by omega⟩ (fun hI => ⟨ha, fun h1 => ⟨by omega, by omega, ?_⟩, fun h1 => by exfalso; omega⟩)
    have hm2 : m = n := by omega
    subst hm2
    have e := l_Mo_locate2 (G := G) (d := d) ha hok hn hu h m 0 (by omega)
    rw [ga_wr_eq ⟨by omega, by omega⟩]
    exact e
  | succ j ih =>
    intro m hm
    have e := ih (m + 1) (by omega)
    refine k_Mo_locate_108 ⟨by omega, by omega⟩ ⟨by omega, by omega⟩ (fun hI => ⟨ha, fun h1 => by exfalso; omega, fun h1 => ⟨by omega, by omega, fun h2 => ?_, fun h2 => ?_⟩⟩) <;> rw [ms_b0] at h2
    · refine gw_eq e ?_ rfl
      rw [show gp_st (ms_p (I 349) ax) u (m + 1) = gp_st (ms_p (I 349) ax) u m from gp_ct_F (decide_eq_false (by omega)), Int.add_zero]; rfl
    · refine gw_eq e ?_ rfl
      rw [show gp_st (ms_p (I 349) ax) u (m + 1) = gp_st (ms_p (I 349) ax) u m + 1 from gp_ct_T (decide_eq_true (by omega))]; rfl
theorem gp_fi_mp (p q r : Nat → Int) (n : Nat) (z c : Int) : gp_fi p q r n z c = mp_fi p q r (gp_hd p q z c n) (gp_st p (gp_hd p q z c n) n) n := rfl
theorem s_Mo_locate {ax z c : Int} (hok : mo_ok I ax) (hn : mo_n I) (ha : 0 ≤ ax ∧ ax ≤ 1) (hz : 0 ≤ z ∧ z ≤ 10) (hc : 0 ≤ c ∧ c ≤ 1000) (h : E none (mx_lo I ax (gp_fi (ms_p (I 349) ax) (ms_q (I 349) ax) (ms_r (I 349) ax) (ms_n (I 349) ax).toNat z c))) : ga_W G (d + 2) mt_Mo_locate 0 (ga_en 10 [.inr 348, .inl ax, .inl z, .inl c]) [] I E := by
  have h0 := hok.1
  have h6 := hok.2.1
  have hp : ∀ b : Nat, (b : Int) < ms_n (I 349) ax → 1 ≤ ms_p (I 349) ax b ∧ ms_p (I 349) ax b ≤ 999 := fun b hb => ⟨(hok.2.2.1 b hb).1, (hok.2.2.1 b hb).2.1⟩
  have hub := gp_hd_bd (q := ms_q (I 349) ax) (z := z) hp hc (ms_n (I 349) ax).toNat (by omega)
  have hu := gp_hd_is (ms_p (I 349) ax) (ms_q (I 349) ax) z c (ms_n (I 349) ax).toNat
  rw [gp_fi_mp] at h
  have f102 : ∀ u, u = gp_hd (ms_p (I 349) ax) (ms_q (I 349) ax) z c (ms_n (I 349) ax).toNat → ga_W G (d + 2) mt_Mo_locate 102 [some (.inr 348), some (.inl ax), none, none, some (.inl u), none, none, none, none, none] [] I E := fun u q => by
    subst q
    exact k_Mo_locate_102 (fun _ => l_Mo_locate1 ha hok (n := (ms_n (I 349) ax).toNat) (by omega) hub h (ms_n (I 349) ax).toNat 0 (by omega))
  have f57 : ∀ u1, u1 = mp_u1 (ms_p (I 349) ax) (mp_sy (ms_q (I 349) ax) (ms_n (I 349) ax).toNat (z - 1)) c → (0 ≤ u1 ∧ u1 ≤ 1000) → ga_W G (d + 2) mt_Mo_locate 57 [some (.inr 348), some (.inl ax), some (.inl z), none, some (.inl u1), none, none, none, none, none] [] I E := fun u1 q hu1 => by
    refine k_Mo_locate_57 (fun _ => ⟨hn, ha, by omega, ?_⟩)
    rcases mp_sy_cases (ms_q (I 349) ax) (ms_n (I 349) ax).toNat z with ⟨s1, _⟩ | ⟨b, b1, b2, _, _⟩
    · rw [s1] at hu ⊢
      refine k_Mo_locate_65 ⟨by omega, by omega⟩ ⟨by omega, by omega⟩ (fun _ => ⟨fun _ => f102 u1 ?_, fun h1 => absurd rfl h1⟩)
      rw [hu, q]; exact (if_pos rfl).symm
    · rw [b2] at hu ⊢
      have hu2 : gp_hd (ms_p (I 349) ax) (ms_q (I 349) ax) z c (ms_n (I 349) ax).toNat = min u1 (ms_p (I 349) ax b - 1) := by
        rw [hu, ← q]
        unfold mp_u2
        rw [if_neg (by omega), Int.toNat_natCast]
      refine k_Mo_locate_65 ⟨by omega, by omega⟩ ⟨by omega, by omega⟩ (fun _ => ⟨fun h1 => by exfalso; omega, fun h1 => ⟨ha, by omega, by omega, fun h2 => ?_, fun h2 => ?_⟩⟩) <;> rw [ms_b0] at *
      · exact f102 _ (by omega)
      · exact f102 _ (by omega)
  have f22 : ga_W G (d + 2) mt_Mo_locate 22 [some (.inr 348), some (.inl ax), some (.inl z), none, some (.inl c), some (.inl (mp_sy (ms_q (I 349) ax) (ms_n (I 349) ax).toNat (z - 1))), none, none, none, none] [] I E := by
    rcases mp_sy_cases (ms_q (I 349) ax) (ms_n (I 349) ax).toNat (z - 1) with ⟨s1, _⟩ | ⟨b, b1, b2, _, _⟩
    · rw [s1] at f57 ⊢
      exact k_Mo_locate_22 ⟨by omega, by omega⟩ ⟨by omega, by omega⟩ (fun _ => ⟨fun _ => f57 c (if_pos rfl).symm hc, fun h1 => absurd rfl h1⟩)
    · rw [b2] at f57 ⊢
      have hq : mp_u1 (ms_p (I 349) ax) (b : Int) c = max c (ms_p (I 349) ax b) := by
        unfold mp_u1
        rw [if_neg (by omega), Int.toNat_natCast]
      rw [hq] at f57
      have hpb := hp b (by omega)
      refine k_Mo_locate_22 ⟨by omega, by omega⟩ ⟨by omega, by omega⟩ (fun _ => ⟨fun h1 => by exfalso; omega, fun h1 => ⟨ha, by omega, by omega, fun h2 => ?_, fun h2 => ?_⟩⟩) <;> rw [ms_b0] at *
      · exact f57 _ (by omega) (by omega)
      · exact f57 _ (by omega) (by omega)
  refine k_Mo_locate_0 ⟨by omega, by omega⟩ (fun _ => ⟨fun h1 => ⟨hn, ha, by omega, f22⟩, fun h1 => ?_⟩)
  have e : mp_sy (ms_q (I 349) ax) (ms_n (I 349) ax).toNat (z - 1) = -2000000009 := by
    rcases mp_sy_cases (ms_q (I 349) ax) (ms_n (I 349) ax).toNat (z - 1) with h | ⟨b, b1, b2, b3, b4⟩
    · exact h.1
    · have := (gp_ct_le (gp_sk (ms_q (I 349) ax)) b).1
      omega
  rw [e] at f22
  exact f22
end MD
