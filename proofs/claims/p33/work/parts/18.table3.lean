/-! Table: split, merge, clear, copy -/
section LL
variable {G : ga_G} {d : Nat} {E : Option ga_V → ga_I → Prop} {k o : Nat}
def gx_fi (I : ga_I) (k n : Nat) (z : Int) : ga_I := fun a j => if a = k ∧ j < n then z else I a j
end LL
theorem k_Table_splitAt_0 {G : ga_G} {d : Nat} {I : ga_I} {E : Option ga_V → ga_I → Prop} {k : Nat} {v1 : Int} {v2 : Int} {v3 : Int} {v4 : Int} (hk : ga_isT k) (r1 : ga_rg v1) (r2 : ga_rg v2) (r3 : ga_rg v3) (r4 : ga_rg v4)
    (h : ga_RG I → (gb_ok I (ga_bo k v1)) ∧ ((I (ga_bo k v1) 0 < 6) ∧ ((∀ I1 : ga_I, gr_in I I1 (ga_bo k v1) (gp_st (I ((ga_bo k v1) + 1)) v2 (I (ga_bo k v1) 0).toNat).toNat (I (ga_bo k v1) 0).toNat v2 v3 v4 → ga_W G (d + 2) mt_Table_splitAt 25 [some (.inr k), some (.inl v1), none, none, none, none, some (.inl (gp_st (I ((ga_bo k v1) + 1)) v2 (I (ga_bo k v1) 0).toNat)), some (.inl (I1 (ga_bo k v1) 0))] [] I1 E)))) :
    ga_W G (d + 2) mt_Table_splitAt 0 (ga_en 8 [.inr k, .inl v1, .inl v2, .inl v3, .inl v4]) [] I E := by
  show ga_W G (d + 2) mt_Table_splitAt 0 [some (.inr k), some (.inl v1), some (.inl v2), some (.inl v3), some (.inl v4), none, none, none] [] I E
  refine gw_RG (fun hI1 => ?_)
  have h := h hI1
  refine gw_aload_n 0 d_Table_splitAt_0 rfl rfl ?_
  refine gw_iload_n 1 d_Table_splitAt_1 rfl rfl ?_
  refine gw_invV (as := [.inl v1]) (k := k) (rest := []) (d' := (d + 1)) d_Table_splitAt_2 lk_Table_74 (ga_rcv (hk.1) rfl rfl) rfl (Nat.le_of_ble_eq_true rfl) (Nat.le_of_ble_eq_true rfl) rfl rfl (s_Table_bordersOf hk r1 ?_)
  show ga_W G (d + 2) mt_Table_splitAt 5 [some (.inr k), some (.inl v1), some (.inl v2), some (.inl v3), some (.inl v4), none, none, none] [.inr (ga_bo k v1)] I E
  refine gw_astore 5 d_Table_splitAt_5 (Nat.le_of_ble_eq_true rfl) rfl ?_
  refine gw_aload 5 d_Table_splitAt_7 rfl ?_
  refine gw_iload_n 2 d_Table_splitAt_9 rfl rfl ?_
  refine gw_iload_n 3 d_Table_splitAt_10 rfl rfl ?_
  refine gw_iload 4 d_Table_splitAt_11 rfl ?_
  obtain ⟨g1, h⟩ := h
  obtain ⟨g2, h⟩ := h
  refine gw_invV (as := [.inl v2, .inl v3, .inl v4]) (k := (ga_bo k v1)) (rest := []) (d' := (d + 1)) d_Table_splitAt_13 lk_Table_78 (ga_rcv ((ga_bo_B hk v1).1) rfl rfl) rfl (Nat.le_of_ble_eq_true rfl) (Nat.le_of_ble_eq_true rfl) rfl rfl (s_Borders_insert (ga_bo_B hk v1) g1 g2 r2 r3 r4 (fun I1 q1 => ?_))
  have h := h I1 q1
  show ga_W G (d + 2) mt_Table_splitAt 16 [some (.inr k), some (.inl v1), some (.inl v2), some (.inl v3), some (.inl v4), some (.inr (ga_bo k v1)), none, none] [.inl (gp_st (I ((ga_bo k v1) + 1)) v2 (I (ga_bo k v1) 0).toNat)] I1 E
  refine gw_RG (fun hI2 => ?_)
  refine gw_istore 6 d_Table_splitAt_16 (Nat.le_of_ble_eq_true rfl) rfl ?_
  refine gw_aload 5 d_Table_splitAt_18 rfl ?_
  refine gw_getI d_Table_splitAt_20 fl_Table_35 ((ga_bo_B hk v1).1) rfl ?_
  refine gw_istore 7 d_Table_splitAt_23 (Nat.le_of_ble_eq_true rfl) rfl ?_
  exact gw_le h (by exact ⟨rfl, ⟨rfl, ⟨rfl, ⟨rfl, trivial⟩⟩⟩⟩)
theorem k_Table_splitAt_25 {G : ga_G} {d : Nat} {I : ga_I} {E : Option ga_V → ga_I → Prop} {k : Nat} {v1 : Int} {v6 : Int} {v7 : Int} (hk : ga_isT k) (r1 : ga_rg v1) (r6 : ga_rg v6) (r7 : ga_rg v7)
    (h : ga_RG I → ((v7 ≤ v6) → E (some (.inl v6)) I) ∧ ((¬ (v7 ≤ v6)) → (0 ≤ (v7 - 1) ∧ (v7 - 1) < 7) ∧ ((0 ≤ v7 ∧ v7 < 7) ∧ (((v7 - 1) ≠ v7) ∧ (ga_W G (d + 2) mt_Table_splitAt 25 [some (.inr k), some (.inl v1), none, none, none, none, some (.inl v6), some (.inl (v7 + (-1)))] [] (gx_re I k (gp_sr v1 (v7 - 1).toNat v7.toNat 7)) E))))) :
    ga_W G (d + 2) mt_Table_splitAt 25 [some (.inr k), some (.inl v1), none, none, none, none, some (.inl v6), some (.inl v7)] [] I E := by
  refine gw_RG (fun hI1 => ?_)
  have h := h hI1
  refine gw_iload 7 d_Table_splitAt_25 rfl ?_
  refine gw_iload 6 d_Table_splitAt_27 rfl ?_
  refine gw_icmp_le 49 d_Table_splitAt_29 (by decide) r7 r6 (fun hc => ?_) (fun hc => ?_)
  · have h := h.1 hc
    refine gw_iload 6 d_Table_splitAt_49 rfl ?_
    exact gw_ireturn d_Table_splitAt_51 rfl h
  · have h := h.2 hc
    refine gw_aload_n 0 d_Table_splitAt_32 rfl rfl ?_
    refine gw_iload_n 1 d_Table_splitAt_33 rfl rfl ?_
    refine gw_iload 7 d_Table_splitAt_34 rfl ?_
    refine gw_iconst d_Table_splitAt_36 ?_
    refine gw_isub d_Table_splitAt_37 ?_
    refine gw_iload 7 d_Table_splitAt_38 rfl ?_
    obtain ⟨g1, h⟩ := h
    obtain ⟨g2, h⟩ := h
    obtain ⟨g3, h⟩ := h
    refine gw_invV (as := [.inl v1, .inl (v7 - 1), .inl v7]) (k := k) (rest := []) (d' := (d + 1)) d_Table_splitAt_40 lk_Table_82 (ga_rcv (hk.1) rfl rfl) rfl (Nat.le_of_ble_eq_true rfl) (Nat.le_of_ble_eq_true rfl) rfl rfl (s_Table_copyStrip hk r1 g1 g2 g3 ?_)
    show ga_W G (d + 2) mt_Table_splitAt 43 [some (.inr k), some (.inl v1), none, none, none, none, some (.inl v6), some (.inl v7)] [] (gx_re I k (gp_sr v1 (v7 - 1).toNat v7.toNat 7)) E
    refine gw_RG (fun hI2 => ?_)
    refine gw_iinc 7 d_Table_splitAt_43 rfl rfl ?_
    refine gw_goto 25 d_Table_splitAt_46 (by decide) ?_
    exact gw_le h (by exact ⟨rfl, ⟨rfl, ⟨rfl, ⟨rfl, trivial⟩⟩⟩⟩)

theorem k_Table_mergeAt_0 {G : ga_G} {d : Nat} {I : ga_I} {E : Option ga_V → ga_I → Prop} {k : Nat} {v1 : Int} {v2 : Int} (hk : ga_isT k) (r1 : ga_rg v1)
    (h : ga_RG I → ga_W G (d + 2) mt_Table_mergeAt 11 [some (.inr k), some (.inl v1), some (.inl v2), some (.inr (ga_bo k v1)), some (.inl (v2 + 2))] [] I E) :
    ga_W G (d + 2) mt_Table_mergeAt 0 (ga_en 5 [.inr k, .inl v1, .inl v2]) [] I E := by
  show ga_W G (d + 2) mt_Table_mergeAt 0 [some (.inr k), some (.inl v1), some (.inl v2), none, none] [] I E
  refine gw_RG (fun hI1 => ?_)
  have h := h hI1
  refine gw_aload_n 0 d_Table_mergeAt_0 rfl rfl ?_
  refine gw_iload_n 1 d_Table_mergeAt_1 rfl rfl ?_
  refine gw_invV (as := [.inl v1]) (k := k) (rest := []) (d' := (d + 1)) d_Table_mergeAt_2 lk_Table_74 (ga_rcv (hk.1) rfl rfl) rfl (Nat.le_of_ble_eq_true rfl) (Nat.le_of_ble_eq_true rfl) rfl rfl (s_Table_bordersOf hk r1 ?_)
  show ga_W G (d + 2) mt_Table_mergeAt 5 [some (.inr k), some (.inl v1), some (.inl v2), none, none] [.inr (ga_bo k v1)] I E
  refine gw_astore_n 3 d_Table_mergeAt_5 rfl (Nat.le_of_ble_eq_true rfl) rfl ?_
  refine gw_iload_n 2 d_Table_mergeAt_6 rfl rfl ?_
  refine gw_iconst d_Table_mergeAt_7 ?_
  refine gw_iadd d_Table_mergeAt_8 ?_
  refine gw_istore 4 d_Table_mergeAt_9 (Nat.le_of_ble_eq_true rfl) rfl ?_
  exact gw_le h (by exact ⟨rfl, ⟨rfl, ⟨rfl, ⟨rfl, ⟨rfl, trivial⟩⟩⟩⟩⟩)
theorem k_Table_mergeAt_11 {G : ga_G} {d : Nat} {I : ga_I} {E : Option ga_V → ga_I → Prop} {k : Nat} {v1 : Int} {v2 : Int} {v4 : Int} (hk : ga_isT k) (r1 : ga_rg v1) (r4 : ga_rg v4)
    (h : ga_RG I → (((I (ga_bo k v1) 0) < v4) → (gb_ok I (ga_bo k v1)) ∧ ((0 ≤ v2 ∧ v2 < I (ga_bo k v1) 0) ∧ ((∀ I1 : ga_I, gr_de I I1 (ga_bo k v1) v2.toNat (I (ga_bo k v1) 0).toNat → E none I1)))) ∧ ((¬ ((I (ga_bo k v1) 0) < v4)) → (0 ≤ v4 ∧ v4 < 7) ∧ ((0 ≤ (v4 - 1) ∧ (v4 - 1) < 7) ∧ ((v4 ≠ (v4 - 1)) ∧ (ga_W G (d + 2) mt_Table_mergeAt 11 [some (.inr k), some (.inl v1), some (.inl v2), some (.inr (ga_bo k v1)), some (.inl (v4 + 1))] [] (gx_re I k (gp_sr v1 v4.toNat (v4 - 1).toNat 7)) E))))) :
    ga_W G (d + 2) mt_Table_mergeAt 11 [some (.inr k), some (.inl v1), some (.inl v2), some (.inr (ga_bo k v1)), some (.inl v4)] [] I E := by
  refine gw_RG (fun hI1 => ?_)
  have h := h hI1
  refine gw_iload 4 d_Table_mergeAt_11 rfl ?_
  refine gw_aload_n 3 d_Table_mergeAt_13 rfl rfl ?_
  refine gw_getI d_Table_mergeAt_14 fl_Table_35 ((ga_bo_B hk v1).1) rfl ?_
  refine gw_icmp_gt 37 d_Table_mergeAt_17 (by decide) r4 (hI1 _ _) (fun hc => ?_) (fun hc => ?_)
  · have h := h.1 hc
    refine gw_aload_n 3 d_Table_mergeAt_37 rfl rfl ?_
    refine gw_iload_n 2 d_Table_mergeAt_38 rfl rfl ?_
    obtain ⟨g1, h⟩ := h
    obtain ⟨g2, h⟩ := h
    refine gw_invV (as := [.inl v2]) (k := (ga_bo k v1)) (rest := []) (d' := (d + 1)) d_Table_mergeAt_39 lk_Table_86 (ga_rcv ((ga_bo_B hk v1).1) rfl rfl) rfl (Nat.le_of_ble_eq_true rfl) (Nat.le_of_ble_eq_true rfl) rfl rfl (s_Borders_delete (ga_bo_B hk v1) g1 g2 (fun I1 q1 => ?_))
    have h := h I1 q1
    show ga_W G (d + 2) mt_Table_mergeAt 42 [some (.inr k), some (.inl v1), some (.inl v2), some (.inr (ga_bo k v1)), some (.inl v4)] [] I1 E
    refine gw_RG (fun hI2 => ?_)
    exact gw_return d_Table_mergeAt_42 rfl h
  · have h := h.2 hc
    refine gw_aload_n 0 d_Table_mergeAt_20 rfl rfl ?_
    refine gw_iload_n 1 d_Table_mergeAt_21 rfl rfl ?_
    refine gw_iload 4 d_Table_mergeAt_22 rfl ?_
    refine gw_iload 4 d_Table_mergeAt_24 rfl ?_
    refine gw_iconst d_Table_mergeAt_26 ?_
    refine gw_isub d_Table_mergeAt_27 ?_
    obtain ⟨g3, h⟩ := h
    obtain ⟨g4, h⟩ := h
    obtain ⟨g5, h⟩ := h
    refine gw_invV (as := [.inl v1, .inl v4, .inl (v4 - 1)]) (k := k) (rest := []) (d' := (d + 1)) d_Table_mergeAt_28 lk_Table_82 (ga_rcv (hk.1) rfl rfl) rfl (Nat.le_of_ble_eq_true rfl) (Nat.le_of_ble_eq_true rfl) rfl rfl (s_Table_copyStrip hk r1 g3 g4 g5 ?_)
    show ga_W G (d + 2) mt_Table_mergeAt 31 [some (.inr k), some (.inl v1), some (.inl v2), some (.inr (ga_bo k v1)), some (.inl v4)] [] (gx_re I k (gp_sr v1 v4.toNat (v4 - 1).toNat 7)) E
    refine gw_RG (fun hI3 => ?_)
    refine gw_iinc 4 d_Table_mergeAt_31 rfl rfl ?_
    refine gw_goto 11 d_Table_mergeAt_34 (by decide) ?_
    exact gw_le h (by exact ⟨rfl, ⟨rfl, ⟨rfl, ⟨rfl, ⟨rfl, trivial⟩⟩⟩⟩⟩)

theorem k_Table_copyFrom_0 {G : ga_G} {d : Nat} {I : ga_I} {E : Option ga_V → ga_I → Prop} {k : Nat} {o1 : Nat} (hk : ga_isT k) (ho1 : ga_isT o1)
    (h : ga_RG I → ((o1 + 1) + 4 ≤ (k + 1) ∨ (k + 1) + 4 ≤ (o1 + 1) ∨ (o1 + 1) = (k + 1)) ∧ ((∀ I1 : ga_I, gr_cpB I I1 (k + 1) (o1 + 1) → ((o1 + 5) + 4 ≤ (k + 5) ∨ (k + 5) + 4 ≤ (o1 + 5) ∨ (o1 + 5) = (k + 5)) ∧ ((∀ I2 : ga_I, gr_cpB I1 I2 (k + 5) (o1 + 5) → E none (ga_cp (ga_cp I2 (o1 + 9) (k + 9) 0 0 147) (o1 + 10) (k + 10) 0 0 49)))))) :
    ga_W G (d + 2) mt_Table_copyFrom 0 (ga_en 2 [.inr k, .inr o1]) [] I E := by
  show ga_W G (d + 2) mt_Table_copyFrom 0 [some (.inr k), some (.inr o1)] [] I E
  refine gw_RG (fun hI1 => ?_)
  have h := h hI1
  refine gw_aload_n 0 d_Table_copyFrom_0 rfl rfl ?_
  refine gw_getR d_Table_copyFrom_1 fl_Table_12 (hk.1) rfl ?_
  refine gw_aload_n 1 d_Table_copyFrom_4 rfl rfl ?_
  refine gw_getR d_Table_copyFrom_5 fl_Table_12 (ho1.1) rfl ?_
  obtain ⟨g1, h⟩ := h
  refine gw_invV (as := [.inr (o1 + 1)]) (k := k + 1) (rest := []) (d' := (d + 1)) d_Table_copyFrom_8 lk_Table_39 (ga_rcv (hk.2.1.1) rfl rfl) rfl (Nat.le_of_ble_eq_true rfl) (Nat.le_of_ble_eq_true rfl) rfl rfl (s_Borders_copyFrom hk.2.1 ho1.2.1 g1 (fun I1 q1 => ?_))
  have h := h I1 q1
  show ga_W G (d + 2) mt_Table_copyFrom 11 [some (.inr k), some (.inr o1)] [] I1 E
  refine gw_RG (fun hI2 => ?_)
  refine gw_aload_n 0 d_Table_copyFrom_11 rfl rfl ?_
  refine gw_getR d_Table_copyFrom_12 fl_Table_18 (hk.1) rfl ?_
  refine gw_aload_n 1 d_Table_copyFrom_15 rfl rfl ?_
  refine gw_getR d_Table_copyFrom_16 fl_Table_18 (ho1.1) rfl ?_
  obtain ⟨g2, h⟩ := h
  refine gw_invV (as := [.inr (o1 + 5)]) (k := k + 5) (rest := []) (d' := (d + 1)) d_Table_copyFrom_19 lk_Table_39 (ga_rcv (hk.2.2.1.1) rfl rfl) rfl (Nat.le_of_ble_eq_true rfl) (Nat.le_of_ble_eq_true rfl) rfl rfl (s_Borders_copyFrom hk.2.2.1 ho1.2.2.1 g2 (fun I2 q2 => ?_))
  have h := h I2 q2
  show ga_W G (d + 2) mt_Table_copyFrom 22 [some (.inr k), some (.inr o1)] [] I2 E
  refine gw_RG (fun hI3 => ?_)
  refine gw_aload_n 1 d_Table_copyFrom_22 rfl rfl ?_
  refine gw_getR d_Table_copyFrom_23 fl_Table_21 (ho1.1) rfl ?_
  refine gw_iconst d_Table_copyFrom_26 ?_
  refine gw_aload_n 0 d_Table_copyFrom_27 rfl rfl ?_
  refine gw_getR d_Table_copyFrom_28 fl_Table_21 (hk.1) rfl ?_
  refine gw_iconst d_Table_copyFrom_31 ?_
  refine gw_aload_n 0 d_Table_copyFrom_32 rfl rfl ?_
  refine gw_getR d_Table_copyFrom_33 fl_Table_21 (hk.1) rfl ?_
  refine gw_alenZ (z := 147) d_Table_copyFrom_36 (hk.2.2.2.1) (by decide) rfl ?_
  refine gw_copy d_Table_copyFrom_37 lk_Table_43 (ho1.2.2.2.1) (hk.2.2.2.1) (by decide) (by decide) (by decide) (by decide) (by decide) (by omega) (Nat.le_of_ble_eq_true rfl) ?_
  refine gw_RG (fun hI4 => ?_)
  refine gw_aload_n 1 d_Table_copyFrom_40 rfl rfl ?_
  refine gw_getR d_Table_copyFrom_41 fl_Table_25 (ho1.1) rfl ?_
  refine gw_iconst d_Table_copyFrom_44 ?_
  refine gw_aload_n 0 d_Table_copyFrom_45 rfl rfl ?_
  refine gw_getR d_Table_copyFrom_46 fl_Table_25 (hk.1) rfl ?_
  refine gw_iconst d_Table_copyFrom_49 ?_
  refine gw_aload_n 0 d_Table_copyFrom_50 rfl rfl ?_
  refine gw_getR d_Table_copyFrom_51 fl_Table_25 (hk.1) rfl ?_
  refine gw_alenZ (z := 49) d_Table_copyFrom_54 (hk.2.2.2.2) (by decide) rfl ?_
  refine gw_copy d_Table_copyFrom_55 lk_Table_43 (ho1.2.2.2.2) (hk.2.2.2.2) (by decide) (by decide) (by decide) (by decide) (by decide) (by omega) (Nat.le_of_ble_eq_true rfl) ?_
  refine gw_RG (fun hI5 => ?_)
  exact gw_return d_Table_copyFrom_58 rfl h

section LM
variable {G : ga_G} {d : Nat} {E : Option ga_V → ga_I → Prop} {k o : Nat}
/-- strips copied up, from the top on -/
def gp_dnr (ax : Int) (hi : Nat) : Nat → Nat → Nat
  | 0 => fun g => g
  | m + 1 => fun g => gp_dnr ax hi m (gp_sr ax (hi - m - 1) (hi - m) 7 g)
/-- strips copied down, from the bottom on -/
def gp_upr (ax : Int) (lo : Nat) : Nat → Nat → Nat
  | 0 => fun g => g
  | m + 1 => fun g => gp_upr ax lo m (gp_sr ax (lo + m) (lo + m - 1) 7 g)
def gr_sp (I I' : ga_I) (k : Nat) (ax : Int) (c n : Nat) (x q r : Int) : Prop := ∃ J, gr_in I J (ga_bo k ax) c n x q r ∧ I' = gx_re J k (gp_dnr ax (n + 1) (n + 1 - c))
def gr_mg (I I' : ga_I) (k : Nat) (ax : Int) (b n : Nat) : Prop := gr_de (gx_re I k (gp_upr ax (b + 2) (n - b - 1))) I' (ga_bo k ax) b n
theorem ga_bo_le (k : Nat) (ax : Int) : (ga_bo k ax = k + 1 ∧ ax = 0) ∨ (ga_bo k ax = k + 5 ∧ ax ≠ 0) := by
  unfold ga_bo
  by_cases e : ax = 0
  · rw [if_pos e]; exact Or.inl ⟨rfl, e⟩
  · rw [if_neg e]; exact Or.inr ⟨rfl, e⟩
theorem l_Table_splitAt (hk : ga_isT k) (J : ga_I) {ax : Int} (ha : ga_rg ax) {c hi : Nat} (hh : hi < 7) (h : E (some (.inl (c : Int))) (gx_re J k (gp_dnr ax hi (hi - c)))) :
    ∀ (j m : Nat), c + j + m = hi → ga_W G (d + 2) mt_Table_splitAt 25 [some (.inr k), some (.inl ax), none, none, none, none, some (.inl (c : Int)), some (.inl ((c + j : Nat) : Int))] [] (gx_re J k (gp_dnr ax hi m)) E := by
  intro j
  induction j with
  | zero =>
    intro m hm
    refine k_Table_splitAt_25 hk ha ⟨by omega, by omega⟩ ⟨by omega, by omega⟩ (fun hI => ⟨fun h1 => ?_, fun h1 => by exfalso; omega⟩)
    rwa [show hi - c = m by omega] at h
  | succ j ih =>
    intro m hm
    have e := ih (m + 1) (by omega)
    refine k_Table_splitAt_25 hk ha ⟨by omega, by omega⟩ ⟨by omega, by omega⟩ (fun hI => ⟨fun h1 => by exfalso; omega, fun h1 => ⟨by omega, by omega, by omega, ?_⟩⟩)
    refine gw_eq e ?_ ?_
    · rw [show ((c + (j + 1) : Nat) : Int) + (-1) = ((c + j : Nat) : Int) by omega]
    · rw [show (((c + (j + 1) : Nat) : Int) - 1).toNat = hi - m - 1 by omega, show (((c + (j + 1) : Nat) : Int)).toNat = hi - m by omega, gx_re_re J k _ _ (fun g hg => gp_sr_lt (by omega) g hg)]
      rfl
theorem s_Table_splitAt {I : ga_I} (hk : ga_isT k) {ax x q r : Int} (ha : ga_rg ax) (hok : gb_ok I (ga_bo k ax)) (hn6 : I (ga_bo k ax) 0 < 6) (hx : ga_rg x) (hq : ga_rg q) (hr : ga_rg r) (h : ∀ I', gr_sp I I' k ax (gp_st (I (ga_bo k ax + 1)) x (I (ga_bo k ax) 0).toNat).toNat (I (ga_bo k ax) 0).toNat x q r → E (some (.inl (gp_st (I (ga_bo k ax + 1)) x (I (ga_bo k ax) 0).toNat))) I') : ga_W G (d + 2) mt_Table_splitAt 0 (ga_en 8 [.inr k, .inl ax, .inl x, .inl q, .inl r]) [] I E := by
  have h0 := hok.1
  have hs := gp_ct_le (fun b => decide (I (ga_bo k ax + 1) b ≤ x)) (I (ga_bo k ax) 0).toNat
  change 0 ≤ gp_st (I (ga_bo k ax + 1)) x (I (ga_bo k ax) 0).toNat ∧ gp_st (I (ga_bo k ax + 1)) x (I (ga_bo k ax) 0).toNat ≤ _ at hs
  refine k_Table_splitAt_0 hk ha hx hq hr (fun hI => ⟨hok, hn6, fun J hJ => ?_⟩)
  have e := l_Table_splitAt (G := G) (d := d) (E := E) hk J (ax := ax) ha (c := (gp_st (I (ga_bo k ax + 1)) x (I (ga_bo k ax) 0).toNat).toNat) (hi := (I (ga_bo k ax) 0).toNat + 1) (by omega) (by
    rw [show (((gp_st (I (ga_bo k ax + 1)) x (I (ga_bo k ax) 0).toNat).toNat : Nat) : Int) = gp_st (I (ga_bo k ax + 1)) x (I (ga_bo k ax) 0).toNat by omega]
    exact h _ ⟨J, hJ, rfl⟩) ((I (ga_bo k ax) 0).toNat + 1 - (gp_st (I (ga_bo k ax + 1)) x (I (ga_bo k ax) 0).toNat).toNat) 0 (by omega)
  refine gw_eq e ?_ (gx_re_id J k (fun g _ => rfl))
  rw [hJ.1, show (((gp_st (I (ga_bo k ax + 1)) x (I (ga_bo k ax) 0).toNat).toNat : Nat) : Int) = gp_st (I (ga_bo k ax + 1)) x (I (ga_bo k ax) 0).toNat by omega, show (((gp_st (I (ga_bo k ax + 1)) x (I (ga_bo k ax) 0).toNat).toNat + ((I (ga_bo k ax) 0).toNat + 1 - (gp_st (I (ga_bo k ax + 1)) x (I (ga_bo k ax) 0).toNat).toNat) : Nat) : Int) = I (ga_bo k ax) 0 + 1 by omega]
theorem l_Table_mergeAt (hk : ga_isT k) (I : ga_I) {ax : Int} (ha : ga_rg ax) (hok : gb_ok I (ga_bo k ax)) {b n : Nat} (hn : (n : Int) = I (ga_bo k ax) 0) (hb : b < n) (h : ∀ I', gr_mg I I' k ax b n → E none I') :
    ∀ (j m : Nat), b + 1 + m + j = n → ga_W G (d + 2) mt_Table_mergeAt 11 [some (.inr k), some (.inl ax), some (.inl (b : Int)), some (.inr (ga_bo k ax)), some (.inl ((b + 2 + m : Nat) : Int))] [] (gx_re I k (gp_upr ax (b + 2) m)) E := by
  have h6 := hok.2.1
  have hbo := ga_bo_le k ax
  have f0 : ∀ s, gx_re I k s (ga_bo k ax) = I (ga_bo k ax) := fun s => gx_re_o (by omega)
  have f1 : ∀ s, gx_re I k s (ga_bo k ax + 1) = I (ga_bo k ax + 1) := fun s => gx_re_o (by omega)
  have f2 : ∀ s, gx_re I k s (ga_bo k ax + 2) = I (ga_bo k ax + 2) := fun s => gx_re_o (by omega)
  have f3 : ∀ s, gx_re I k s (ga_bo k ax + 3) = I (ga_bo k ax + 3) := fun s => gx_re_o (by omega)
  intro j
  induction j with
  | zero =>
    intro m hm
    refine k_Table_mergeAt_11 hk ha ⟨by omega, by omega⟩ (fun hI => ⟨fun h1 => ⟨?_, ?_, fun J hJ => h J ?_⟩, fun h1 => ?_⟩)
    · show gp_ok _ _ _ _
      rw [f0, f1, f2, f3]; exact hok
    · rw [f0]; omega
    · rw [f0, show ((b : Int)).toNat = b by omega, show (I (ga_bo k ax) 0).toNat = n by omega, show m = n - b - 1 by omega] at hJ
      exact hJ
    · rw [f0] at h1
      exfalso; omega
  | succ j ih =>
    intro m hm
    have e := ih (m + 1) (by omega)
    refine k_Table_mergeAt_11 hk ha ⟨by omega, by omega⟩ (fun hI => ⟨fun h1 => ?_, fun h1 => ⟨by omega, by omega, by omega, ?_⟩⟩)
    · rw [f0] at h1
      exfalso; omega
    · refine gw_eq e rfl ?_
      rw [show (((b + 2 + m : Nat) : Int) - 1).toNat = b + 2 + m - 1 by omega, show (((b + 2 + m : Nat) : Int)).toNat = b + 2 + m by omega, gx_re_re I k _ _ (fun g hg => gp_sr_lt (by omega) g hg)]
      rfl
theorem s_Table_mergeAt {I : ga_I} (hk : ga_isT k) {ax b : Int} (ha : ga_rg ax) (hok : gb_ok I (ga_bo k ax)) (hb : 0 ≤ b ∧ b < I (ga_bo k ax) 0) (h : ∀ I', gr_mg I I' k ax b.toNat (I (ga_bo k ax) 0).toNat → E none I') : ga_W G (d + 2) mt_Table_mergeAt 0 (ga_en 5 [.inr k, .inl ax, .inl b]) [] I E := by
  have h6 := hok.2.1
  have e := l_Table_mergeAt (G := G) (d := d) (E := E) hk I ha hok (b := b.toNat) (n := (I (ga_bo k ax) 0).toNat) (by omega) (by omega) h ((I (ga_bo k ax) 0).toNat - b.toNat - 1) 0 (by omega)
  refine k_Table_mergeAt_0 hk ha (fun hI => ?_)
  refine gw_eq e ?_ (gx_re_id I k (fun g _ => rfl))
  rw [show ((b.toNat : Nat) : Int) = b by omega, show ((b.toNat + 2 + 0 : Nat) : Int) = b + 2 by omega]
/-- the same borders, the same tables -/
def gq_B (I : ga_I) (k : Nat) (J : ga_I) (o : Nat) : Prop := I k 0 = J o 0 ∧ ∀ j, j < 6 → I (k + 1) j = J (o + 1) j ∧ I (k + 2) j = J (o + 2) j ∧ I (k + 3) j = J (o + 3) j
def gq_T (I : ga_I) (k : Nat) (J : ga_I) (o : Nat) : Prop := gq_B I (k + 1) J (o + 1) ∧ gq_B I (k + 5) J (o + 5) ∧ (∀ j, j < 147 → I (k + 9) j = J (o + 9) j) ∧ ∀ j, j < 49 → I (k + 10) j = J (o + 10) j
def gr_cpT (I I' : ga_I) (k o : Nat) : Prop := gq_T I' k I o ∧ ∀ a, (a < k ∨ k + 11 ≤ a) → I' a = I a
theorem s_Table_copyFrom {I : ga_I} (hk : ga_isT k) (ho : ga_isT o) (hd : o + 11 ≤ k ∨ k + 11 ≤ o ∨ o = k) (h : ∀ I', gr_cpT I I' k o → E none I') : ga_W G (d + 2) mt_Table_copyFrom 0 (ga_en 2 [.inr k, .inr o]) [] I E := by
  refine k_Table_copyFrom_0 hk ho (fun hI => ⟨by omega, fun J hJ => ⟨by omega, fun L hL => h _ ?_⟩⟩)
  obtain ⟨a1, a2, a3⟩ := hJ
  obtain ⟨b1, b2, b3⟩ := hL
  have c1 : ∀ a, a ≠ k + 9 → a ≠ k + 10 → ga_cp (ga_cp L (o + 9) (k + 9) 0 0 147) (o + 10) (k + 10) 0 0 49 a = L a := fun a e1 e2 => by
    funext j
    rw [ga_cp_ne e2, ga_cp_ne e1]
  refine ⟨⟨⟨?_, fun j hj => ?_⟩, ⟨?_, fun j hj => ?_⟩, fun j hj => ?_, fun j hj => ?_⟩, fun a ha => ?_⟩
  · rw [c1 _ (by omega) (by omega), b3 _ (by omega), a1]
  · rw [c1 _ (by omega) (by omega), c1 _ (by omega) (by omega), c1 _ (by omega) (by omega), b3 _ (by omega), b3 _ (by omega), b3 _ (by omega)]
    exact a2 j hj
  · rw [c1 _ (by omega) (by omega), b1]
    by_cases e : o = k
    · subst e; rw [a3 _ (by omega)]
    · rw [a3 _ (by omega)]
  · rw [c1 _ (by omega) (by omega), c1 _ (by omega) (by omega), c1 _ (by omega) (by omega)]
    have q := b2 j hj
    rw [a3 (o + 5 + 1) (by omega), a3 (o + 5 + 2) (by omega), a3 (o + 5 + 3) (by omega)] at q
    exact q
  · rw [ga_cp_ne (by omega), ga_cp_in hj, b3 _ (by omega), a3 _ (by omega)]
  · rw [ga_cp_in hj]
    by_cases e : o + 10 = k + 9
    · exfalso; omega
    · rw [ga_cp_ne e, b3 _ (by omega), a3 _ (by omega)]
  · rw [c1 a (by omega) (by omega), b3 a (by omega), a3 a (by omega)]
end LM
