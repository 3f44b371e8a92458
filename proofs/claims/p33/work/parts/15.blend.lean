/-! Blend; the small methods of Table -/
theorem k_Blend_findIn_0 {G : ga_G} {d : Nat} {I : ga_I} {E : Option ga_V → ga_I → Prop} {k : Nat} {o1 : Nat} {v2 : Int} {v3 : Int} (hk : ga_isL k) (ho1 : ga_isB o1)
    (h : ga_RG I → (gb_ok I o1) ∧ ((-10 ≤ v2 ∧ v2 ≤ 10) ∧ ((0 ≤ v3 ∧ v3 ≤ 1000) ∧ ((ga_rg (gp_hd (I (o1 + 1)) (I (o1 + 2)) v2 v3 (I o1 0).toNat)) ∧ ((ga_rg (gp_bl (I (o1 + 1)) (I (o1 + 2)) (I (o1 + 3)) (gp_hd (I (o1 + 1)) (I (o1 + 2)) v2 v3 (I o1 0).toNat) (I o1 0).toNat)) ∧ ((((gp_bl (I (o1 + 1)) (I (o1 + 2)) (I (o1 + 3)) (gp_hd (I (o1 + 1)) (I (o1 + 2)) v2 v3 (I o1 0).toNat) (I o1 0).toNat) ≠ (-1)) → (gb_ok (ga_up (ga_up I k 0 (ga_wr (gp_bl (I (o1 + 1)) (I (o1 + 2)) (I (o1 + 3)) (gp_hd (I (o1 + 1)) (I (o1 + 2)) v2 v3 (I o1 0).toNat) (I o1 0).toNat))) k 1 (ga_wr ((gp_bl (I (o1 + 1)) (I (o1 + 2)) (I (o1 + 3)) (gp_hd (I (o1 + 1)) (I (o1 + 2)) v2 v3 (I o1 0).toNat) (I o1 0).toNat) + 1))) o1) ∧ (E none (ga_up (ga_up (ga_up (ga_up I k 0 (ga_wr (gp_bl (I (o1 + 1)) (I (o1 + 2)) (I (o1 + 3)) (gp_hd (I (o1 + 1)) (I (o1 + 2)) v2 v3 (I o1 0).toNat) (I o1 0).toNat))) k 1 (ga_wr ((gp_bl (I (o1 + 1)) (I (o1 + 2)) (I (o1 + 3)) (gp_hd (I (o1 + 1)) (I (o1 + 2)) v2 v3 (I o1 0).toNat) (I o1 0).toNat) + 1))) k 2 (ga_wr (((gp_hd (I (o1 + 1)) (I (o1 + 2)) v2 v3 (I o1 0).toNat) - (gb_at (ga_up (ga_up I k 0 (ga_wr (gp_bl (I (o1 + 1)) (I (o1 + 2)) (I (o1 + 3)) (gp_hd (I (o1 + 1)) (I (o1 + 2)) v2 v3 (I o1 0).toNat) (I o1 0).toNat))) k 1 (ga_wr ((gp_bl (I (o1 + 1)) (I (o1 + 2)) (I (o1 + 3)) (gp_hd (I (o1 + 1)) (I (o1 + 2)) v2 v3 (I o1 0).toNat) (I o1 0).toNat) + 1))) o1 (o1 + 1) (gp_bl (I (o1 + 1)) (I (o1 + 2)) (I (o1 + 3)) (gp_hd (I (o1 + 1)) (I (o1 + 2)) v2 v3 (I o1 0).toNat) (I o1 0).toNat))) + (gb_at I o1 (o1 + 3) (gp_bl (I (o1 + 1)) (I (o1 + 2)) (I (o1 + 3)) (gp_hd (I (o1 + 1)) (I (o1 + 2)) v2 v3 (I o1 0).toNat) (I o1 0).toNat))))) k 3 (ga_wr (2 * (gb_at I o1 (o1 + 3) (gp_bl (I (o1 + 1)) (I (o1 + 2)) (I (o1 + 3)) (gp_hd (I (o1 + 1)) (I (o1 + 2)) v2 v3 (I o1 0).toNat) (I o1 0).toNat))))))) ∧ (((gp_bl (I (o1 + 1)) (I (o1 + 2)) (I (o1 + 3)) (gp_hd (I (o1 + 1)) (I (o1 + 2)) v2 v3 (I o1 0).toNat) (I o1 0).toNat) = (-1)) → E none (ga_up (ga_up (ga_up (ga_up I k 0 (ga_wr (gp_st (I (o1 + 1)) (gp_hd (I (o1 + 1)) (I (o1 + 2)) v2 v3 (I o1 0).toNat) (I o1 0).toNat))) k 1 ((ga_up I k 0 (ga_wr (gp_st (I (o1 + 1)) (gp_hd (I (o1 + 1)) (I (o1 + 2)) v2 v3 (I o1 0).toNat) (I o1 0).toNat))) k 0)) k 2 0) k 3 1)))))))) :
    ga_W G (d + 2) mt_Blend_findIn 0 (ga_en 7 [.inr k, .inr o1, .inl v2, .inl v3]) [] I E := by
  show ga_W G (d + 2) mt_Blend_findIn 0 [some (.inr k), some (.inr o1), some (.inl v2), some (.inl v3), none, none, none] [] I E
  refine gw_RG (fun hI1 => ?_)
  have h := h hI1
  refine gw_aload_n 1 d_Blend_findIn_0 rfl rfl ?_
  refine gw_iload_n 2 d_Blend_findIn_1 rfl rfl ?_
  refine gw_iload_n 3 d_Blend_findIn_2 rfl rfl ?_
  obtain ⟨g1, h⟩ := h
  obtain ⟨g2, h⟩ := h
  obtain ⟨g3, h⟩ := h
  refine gw_invV (as := [.inl v2, .inl v3]) (k := o1) (rest := []) (d' := (d + 1)) d_Blend_findIn_3 lk_Blend_15 (ga_rcv (ho1.1) rfl rfl) rfl (Nat.le_of_ble_eq_true rfl) (Nat.le_of_ble_eq_true rfl) rfl rfl (s_Borders_heldIn ho1 g1 g2 g3 ?_)
  show ga_W G (d + 2) mt_Blend_findIn 6 [some (.inr k), some (.inr o1), some (.inl v2), some (.inl v3), none, none, none] [.inl (gp_hd (I (o1 + 1)) (I (o1 + 2)) v2 v3 (I o1 0).toNat)] I E
  refine gw_istore 4 d_Blend_findIn_6 (Nat.le_of_ble_eq_true rfl) rfl ?_
  refine gw_aload_n 1 d_Blend_findIn_8 rfl rfl ?_
  refine gw_iload 4 d_Blend_findIn_9 rfl ?_
  obtain ⟨g4, h⟩ := h
  refine gw_invV (as := [.inl (gp_hd (I (o1 + 1)) (I (o1 + 2)) v2 v3 (I o1 0).toNat)]) (k := o1) (rest := []) (d' := (d + 1)) d_Blend_findIn_11 lk_Blend_21 (ga_rcv (ho1.1) rfl rfl) rfl (Nat.le_of_ble_eq_true rfl) (Nat.le_of_ble_eq_true rfl) rfl rfl (s_Borders_blendingAt ho1 g1 g4 ?_)
  show ga_W G (d + 2) mt_Blend_findIn 14 [some (.inr k), some (.inr o1), some (.inl v2), some (.inl v3), some (.inl (gp_hd (I (o1 + 1)) (I (o1 + 2)) v2 v3 (I o1 0).toNat)), none, none] [.inl (gp_bl (I (o1 + 1)) (I (o1 + 2)) (I (o1 + 3)) (gp_hd (I (o1 + 1)) (I (o1 + 2)) v2 v3 (I o1 0).toNat) (I o1 0).toNat)] I E
  refine gw_istore 5 d_Blend_findIn_14 (Nat.le_of_ble_eq_true rfl) rfl ?_
  refine gw_iload 5 d_Blend_findIn_16 rfl ?_
  refine gw_iconst d_Blend_findIn_18 ?_
  obtain ⟨g5, h⟩ := h
  refine gw_icmp_ne 53 d_Blend_findIn_19 (by decide) g5 ⟨by decide, by decide⟩ (fun hc => ?_) (fun hc => ?_)
  · have h := h.1 hc
    refine gw_aload_n 1 d_Blend_findIn_53 rfl rfl ?_
    refine gw_iload 5 d_Blend_findIn_54 rfl ?_
    refine gw_invV (as := [.inl (gp_bl (I (o1 + 1)) (I (o1 + 2)) (I (o1 + 3)) (gp_hd (I (o1 + 1)) (I (o1 + 2)) v2 v3 (I o1 0).toNat) (I o1 0).toNat)]) (k := o1) (rest := []) (d' := (d + 1)) d_Blend_findIn_56 lk_Blend_37 (ga_rcv (ho1.1) rfl rfl) rfl (Nat.le_of_ble_eq_true rfl) (Nat.le_of_ble_eq_true rfl) rfl rfl (s_Borders_reachOf ho1 g1 g5 ?_)
    show ga_W G (d + 2) mt_Blend_findIn 59 [some (.inr k), some (.inr o1), some (.inl v2), some (.inl v3), some (.inl (gp_hd (I (o1 + 1)) (I (o1 + 2)) v2 v3 (I o1 0).toNat)), some (.inl (gp_bl (I (o1 + 1)) (I (o1 + 2)) (I (o1 + 3)) (gp_hd (I (o1 + 1)) (I (o1 + 2)) v2 v3 (I o1 0).toNat) (I o1 0).toNat)), none] [.inl (gb_at I o1 (o1 + 3) (gp_bl (I (o1 + 1)) (I (o1 + 2)) (I (o1 + 3)) (gp_hd (I (o1 + 1)) (I (o1 + 2)) v2 v3 (I o1 0).toNat) (I o1 0).toNat))] I E
    refine gw_istore 6 d_Blend_findIn_59 (Nat.le_of_ble_eq_true rfl) rfl ?_
    refine gw_aload_n 0 d_Blend_findIn_61 rfl rfl ?_
    refine gw_iload 5 d_Blend_findIn_62 rfl ?_
    refine gw_putI d_Blend_findIn_64 fp_Blend_28 (hk) rfl ?_
    refine gw_RG (fun hI2 => ?_)
    refine gw_aload_n 0 d_Blend_findIn_67 rfl rfl ?_
    refine gw_iload 5 d_Blend_findIn_68 rfl ?_
    refine gw_iconst d_Blend_findIn_70 ?_
    refine gw_iadd d_Blend_findIn_71 ?_
    refine gw_putI d_Blend_findIn_72 fp_Blend_31 (hk) rfl ?_
    refine gw_RG (fun hI3 => ?_)
    refine gw_aload_n 0 d_Blend_findIn_75 rfl rfl ?_
    refine gw_iload 4 d_Blend_findIn_76 rfl ?_
    refine gw_aload_n 1 d_Blend_findIn_78 rfl rfl ?_
    refine gw_iload 5 d_Blend_findIn_79 rfl ?_
    obtain ⟨g6, h⟩ := h
    refine gw_invV (as := [.inl (gp_bl (I (o1 + 1)) (I (o1 + 2)) (I (o1 + 3)) (gp_hd (I (o1 + 1)) (I (o1 + 2)) v2 v3 (I o1 0).toNat) (I o1 0).toNat)]) (k := o1) (rest := [.inl (gp_hd (I (o1 + 1)) (I (o1 + 2)) v2 v3 (I o1 0).toNat), .inr k]) (d' := (d + 1)) d_Blend_findIn_81 lk_Blend_40 (ga_rcv (ho1.1) rfl rfl) rfl (Nat.le_of_ble_eq_true rfl) (Nat.le_of_ble_eq_true rfl) rfl rfl (s_Borders_positionOf ho1 g6 g5 ?_)
    show ga_W G (d + 2) mt_Blend_findIn 84 [some (.inr k), some (.inr o1), some (.inl v2), some (.inl v3), some (.inl (gp_hd (I (o1 + 1)) (I (o1 + 2)) v2 v3 (I o1 0).toNat)), some (.inl (gp_bl (I (o1 + 1)) (I (o1 + 2)) (I (o1 + 3)) (gp_hd (I (o1 + 1)) (I (o1 + 2)) v2 v3 (I o1 0).toNat) (I o1 0).toNat)), some (.inl (gb_at I o1 (o1 + 3) (gp_bl (I (o1 + 1)) (I (o1 + 2)) (I (o1 + 3)) (gp_hd (I (o1 + 1)) (I (o1 + 2)) v2 v3 (I o1 0).toNat) (I o1 0).toNat)))] [.inl (gb_at (ga_up (ga_up I k 0 (ga_wr (gp_bl (I (o1 + 1)) (I (o1 + 2)) (I (o1 + 3)) (gp_hd (I (o1 + 1)) (I (o1 + 2)) v2 v3 (I o1 0).toNat) (I o1 0).toNat))) k 1 (ga_wr ((gp_bl (I (o1 + 1)) (I (o1 + 2)) (I (o1 + 3)) (gp_hd (I (o1 + 1)) (I (o1 + 2)) v2 v3 (I o1 0).toNat) (I o1 0).toNat) + 1))) o1 (o1 + 1) (gp_bl (I (o1 + 1)) (I (o1 + 2)) (I (o1 + 3)) (gp_hd (I (o1 + 1)) (I (o1 + 2)) v2 v3 (I o1 0).toNat) (I o1 0).toNat)), .inl (gp_hd (I (o1 + 1)) (I (o1 + 2)) v2 v3 (I o1 0).toNat), .inr k] (ga_up (ga_up I k 0 (ga_wr (gp_bl (I (o1 + 1)) (I (o1 + 2)) (I (o1 + 3)) (gp_hd (I (o1 + 1)) (I (o1 + 2)) v2 v3 (I o1 0).toNat) (I o1 0).toNat))) k 1 (ga_wr ((gp_bl (I (o1 + 1)) (I (o1 + 2)) (I (o1 + 3)) (gp_hd (I (o1 + 1)) (I (o1 + 2)) v2 v3 (I o1 0).toNat) (I o1 0).toNat) + 1))) E
    refine gw_isub d_Blend_findIn_84 ?_
    refine gw_iload 6 d_Blend_findIn_85 rfl ?_
    refine gw_iadd d_Blend_findIn_87 ?_
    refine gw_putI d_Blend_findIn_88 fp_Blend_34 (hk) rfl ?_
    refine gw_RG (fun hI4 => ?_)
    refine gw_aload_n 0 d_Blend_findIn_91 rfl rfl ?_
    refine gw_iconst d_Blend_findIn_92 ?_
    refine gw_iload 6 d_Blend_findIn_93 rfl ?_
    refine gw_imul d_Blend_findIn_95 ?_
    refine gw_putI d_Blend_findIn_96 fp_Blend_9 (hk) rfl ?_
    refine gw_RG (fun hI5 => ?_)
    exact gw_return d_Blend_findIn_99 rfl h
  · have h := h.2 hc
    refine gw_aload_n 0 d_Blend_findIn_22 rfl rfl ?_
    refine gw_aload_n 1 d_Blend_findIn_23 rfl rfl ?_
    refine gw_iload 4 d_Blend_findIn_24 rfl ?_
    refine gw_invV (as := [.inl (gp_hd (I (o1 + 1)) (I (o1 + 2)) v2 v3 (I o1 0).toNat)]) (k := o1) (rest := [.inr k]) (d' := (d + 1)) d_Blend_findIn_26 lk_Blend_25 (ga_rcv (ho1.1) rfl rfl) rfl (Nat.le_of_ble_eq_true rfl) (Nat.le_of_ble_eq_true rfl) rfl rfl (s_Borders_stripOf ho1 g1 g4 ?_)
    show ga_W G (d + 2) mt_Blend_findIn 29 [some (.inr k), some (.inr o1), some (.inl v2), some (.inl v3), some (.inl (gp_hd (I (o1 + 1)) (I (o1 + 2)) v2 v3 (I o1 0).toNat)), some (.inl (gp_bl (I (o1 + 1)) (I (o1 + 2)) (I (o1 + 3)) (gp_hd (I (o1 + 1)) (I (o1 + 2)) v2 v3 (I o1 0).toNat) (I o1 0).toNat)), none] [.inl (gp_st (I (o1 + 1)) (gp_hd (I (o1 + 1)) (I (o1 + 2)) v2 v3 (I o1 0).toNat) (I o1 0).toNat), .inr k] I E
    refine gw_putI d_Blend_findIn_29 fp_Blend_28 (hk) rfl ?_
    refine gw_RG (fun hI6 => ?_)
    refine gw_aload_n 0 d_Blend_findIn_32 rfl rfl ?_
    refine gw_aload_n 0 d_Blend_findIn_33 rfl rfl ?_
    refine gw_getI d_Blend_findIn_34 fl_Blend_28 (hk) rfl ?_
    refine gw_putI d_Blend_findIn_37 fp_Blend_31 (hk) rfl ?_
    rw [ga_wr_eq (z := ((ga_up I k 0 (ga_wr (gp_st (I (o1 + 1)) (gp_hd (I (o1 + 1)) (I (o1 + 2)) v2 v3 (I o1 0).toNat) (I o1 0).toNat))) k 0)) (hI6 _ _)]
    refine gw_RG (fun hI7 => ?_)
    refine gw_aload_n 0 d_Blend_findIn_40 rfl rfl ?_
    refine gw_iconst d_Blend_findIn_41 ?_
    refine gw_putI d_Blend_findIn_42 fp_Blend_34 (hk) rfl ?_
    rw [ga_wr_eq (z := 0) ⟨by decide, by decide⟩]
    refine gw_RG (fun hI8 => ?_)
    refine gw_aload_n 0 d_Blend_findIn_45 rfl rfl ?_
    refine gw_iconst d_Blend_findIn_46 ?_
    refine gw_putI d_Blend_findIn_47 fp_Blend_9 (hk) rfl ?_
    rw [ga_wr_eq (z := 1) ⟨by decide, by decide⟩]
    refine gw_RG (fun hI9 => ?_)
    refine gw_goto 99 d_Blend_findIn_50 (by decide) ?_
    exact gw_return d_Blend_findIn_99 rfl h

section LH
variable {G : ga_G} {d : Nat} {I : ga_I} {E : Option ga_V → ga_I → Prop} {k l : Nat}
/-- low strip, high strip, numerator, denominator -/
def gp_fi (p q r : Nat → Int) (n : Nat) (z c : Int) : Int × Int × Int × Int :=
  if gp_bl p q r (gp_hd p q z c n) n = -1 then (gp_st p (gp_hd p q z c n) n, gp_st p (gp_hd p q z c n) n, 0, 1)
  else (gp_bl p q r (gp_hd p q z c n) n, gp_bl p q r (gp_hd p q z c n) n + 1, gp_hd p q z c n - p (gp_bl p q r (gp_hd p q z c n) n).toNat + r (gp_bl p q r (gp_hd p q z c n) n).toNat, 2 * r (gp_bl p q r (gp_hd p q z c n) n).toNat)
theorem ga_up_fn {I : ga_I} {k j a : Nat} {z : Int} (h : a ≠ k) : ga_up I k j z a = I a := funext fun _ => ga_up_ne h
theorem ga_LB {l k : Nat} (hl : ga_isL l) (hk : ga_isB k) : k ≠ l ∧ k + 1 ≠ l ∧ k + 2 ≠ l ∧ k + 3 ≠ l := by
  have hl : ga_sh l = _ := hl.2
  refine ⟨?_, ?_, ?_, ?_⟩ <;> rintro rfl
  · have := hk.1.2.symm.trans hl; simp at this
  · have := hk.2.1.2.symm.trans hl; simp at this
  · have := hk.2.2.1.2.symm.trans hl; simp at this
  · have := hk.2.2.2.2.symm.trans hl; simp at this
def gx_bl (I : ga_I) (l : Nat) (v : Int × Int × Int × Int) : ga_I := ga_up (ga_up (ga_up (ga_up I l 0 v.1) l 1 v.2.1) l 2 v.2.2.1) l 3 v.2.2.2
theorem gp_ff_bd (P : Nat → Bool) : ∀ n : Nat, gp_ff P n = -1 ∨ (0 ≤ gp_ff P n ∧ gp_ff P n < n ∧ P (gp_ff P n).toNat = true)
  | 0 => Or.inl rfl
  | n + 1 => by
    have h := gp_ff_bd P n
    unfold gp_ff
    by_cases e : gp_ff P n = -1
    · rw [if_pos e]
      by_cases e2 : P n = true
      · rw [if_pos e2]
        exact Or.inr ⟨by omega, by omega, by rw [Int.toNat_natCast]; exact e2⟩
      · rw [if_neg e2]; exact Or.inl rfl
    · rw [if_neg e]
      rcases h with h | h
      · exact absurd h e
      · exact Or.inr ⟨h.1, by omega, h.2.2⟩
theorem s_Blend_findIn (hl : ga_isL l) (hk : ga_isB k) (hok : gb_ok I k) {z c : Int} (hz : -10 ≤ z ∧ z ≤ 10) (hc : 0 ≤ c ∧ c ≤ 1000) (h : E none (gx_bl I l (gp_fi (I (k + 1)) (I (k + 2)) (I (k + 3)) (I k 0).toNat z c))) : ga_W G (d + 2) mt_Blend_findIn 0 (ga_en 7 [.inr l, .inr k, .inl z, .inl c]) [] I E := by
  have h0 := hok.1
  have h6 := hok.2.1
  have hh := gp_hd_bd (q := I (k + 2)) (z := z) (fun a ha => ⟨(hok.2.2.1 a ha).1, (hok.2.2.1 a ha).2.1⟩) hc (I k 0).toNat (by omega)
  have hb := gp_ff_bd (fun b => decide (I (k + 2) b = 1 ∧ I (k + 1) b - I (k + 3) b ≤ gp_hd (I (k + 1)) (I (k + 2)) z c (I k 0).toNat ∧ gp_hd (I (k + 1)) (I (k + 2)) z c (I k 0).toNat ≤ I (k + 1) b + I (k + 3) b)) (I k 0).toNat
  have hs := gp_ct_le (fun b => decide (I (k + 1) b ≤ gp_hd (I (k + 1)) (I (k + 2)) z c (I k 0).toNat)) (I k 0).toNat
  obtain ⟨n0, n1, n2, n3⟩ := ga_LB hl hk
  have f0 : ∀ J j z, ga_up J l j z k = J k := fun J j z => ga_up_fn n0
  have f1 : ∀ J j z, ga_up J l j z (k + 1) = J (k + 1) := fun J j z => ga_up_fn n1
  have f2 : ∀ J j z, ga_up J l j z (k + 2) = J (k + 2) := fun J j z => ga_up_fn n2
  have f3 : ∀ J j z, ga_up J l j z (k + 3) = J (k + 3) := fun J j z => ga_up_fn n3
  change gp_bl (I (k + 1)) (I (k + 2)) (I (k + 3)) (gp_hd (I (k + 1)) (I (k + 2)) z c (I k 0).toNat) (I k 0).toNat = -1 ∨ (0 ≤ gp_bl (I (k + 1)) (I (k + 2)) (I (k + 3)) (gp_hd (I (k + 1)) (I (k + 2)) z c (I k 0).toNat) (I k 0).toNat ∧ gp_bl (I (k + 1)) (I (k + 2)) (I (k + 3)) (gp_hd (I (k + 1)) (I (k + 2)) z c (I k 0).toNat) (I k 0).toNat < (I k 0).toNat ∧ _) at hb
  change 0 ≤ gp_st (I (k + 1)) (gp_hd (I (k + 1)) (I (k + 2)) z c (I k 0).toNat) (I k 0).toNat ∧ gp_st (I (k + 1)) (gp_hd (I (k + 1)) (I (k + 2)) z c (I k 0).toNat) (I k 0).toNat ≤ _ at hs
  refine k_Blend_findIn_0 hl hk (fun hI => ⟨hok, hz, hc, ⟨by omega, by omega⟩, ⟨by omega, by omega⟩, fun h1 => ⟨?_, ?_⟩, fun h1 => ?_⟩)
  · show gp_ok _ _ _ _
    simp only [f0, f1, f2, f3]
    exact hok
  · unfold gp_fi at h
    simp only [f0, f1, f2, f3, gb_at]
    rw [if_neg h1] at h
    rcases hb with hb | hb
    · exact absurd hb h1
    · have hbn : 0 ≤ gp_bl (I (k + 1)) (I (k + 2)) (I (k + 3)) (gp_hd (I (k + 1)) (I (k + 2)) z c (I k 0).toNat) (I k 0).toNat ∧ gp_bl (I (k + 1)) (I (k + 2)) (I (k + 3)) (gp_hd (I (k + 1)) (I (k + 2)) z c (I k 0).toNat) (I k 0).toNat < I k 0 := by omega
      have hv := hok.2.2.1 (gp_bl (I (k + 1)) (I (k + 2)) (I (k + 3)) (gp_hd (I (k + 1)) (I (k + 2)) z c (I k 0).toNat) (I k 0).toNat).toNat (by omega)
      simp only [if_pos hbn]
      rw [ga_wr_eq ⟨by omega, by omega⟩, ga_wr_eq ⟨by omega, by omega⟩, ga_wr_eq ⟨by omega, by omega⟩, ga_wr_eq ⟨by omega, by omega⟩]
      exact h
  · unfold gp_fi at h
    rw [if_pos h1] at h
    rw [ga_wr_eq ⟨by omega, by omega⟩, ga_up_at]
    exact h
end LH
theorem k_Blend_findByPosition_0 {G : ga_G} {d : Nat} {I : ga_I} {E : Option ga_V → ga_I → Prop} {k : Nat} {o1 : Nat} {v2 : Int} (hk : ga_isL k) (ho1 : ga_isB o1) (r2 : ga_rg v2)
    (h : ga_RG I → (gb_ok I o1) ∧ ((-10 ≤ (gp_zo (I (o1 + 1)) (I (o1 + 2)) v2 (I o1 0).toNat) ∧ (gp_zo (I (o1 + 1)) (I (o1 + 2)) v2 (I o1 0).toNat) ≤ 10) ∧ ((0 ≤ v2 ∧ v2 ≤ 1000) ∧ (E none (gx_bl I k (gp_fi (I (o1 + 1)) (I (o1 + 2)) (I (o1 + 3)) (I o1 0).toNat (gp_zo (I (o1 + 1)) (I (o1 + 2)) v2 (I o1 0).toNat) v2)))))) :
    ga_W G (d + 3) mt_Blend_findByPosition 0 (ga_en 3 [.inr k, .inr o1, .inl v2]) [] I E := by
  show ga_W G (d + 3) mt_Blend_findByPosition 0 [some (.inr k), some (.inr o1), some (.inl v2)] [] I E
  refine gw_RG (fun hI1 => ?_)
  have h := h hI1
  refine gw_aload_n 0 d_Blend_findByPosition_0 rfl rfl ?_
  refine gw_aload_n 1 d_Blend_findByPosition_1 rfl rfl ?_
  refine gw_aload_n 1 d_Blend_findByPosition_2 rfl rfl ?_
  refine gw_iload_n 2 d_Blend_findByPosition_3 rfl rfl ?_
  obtain ⟨g1, h⟩ := h
  refine gw_invV (as := [.inl v2]) (k := o1) (rest := [.inr o1, .inr k]) (d' := (d + 2)) d_Blend_findByPosition_4 lk_Blend_43 (ga_rcv (ho1.1) rfl rfl) rfl (Nat.le_of_ble_eq_true rfl) (Nat.le_of_ble_eq_true rfl) rfl rfl (s_Borders_zoneOf ho1 g1 r2 ?_)
  show ga_W G (d + 3) mt_Blend_findByPosition 7 [some (.inr k), some (.inr o1), some (.inl v2)] [.inl (gp_zo (I (o1 + 1)) (I (o1 + 2)) v2 (I o1 0).toNat), .inr o1, .inr k] I E
  refine gw_iload_n 2 d_Blend_findByPosition_7 rfl rfl ?_
  obtain ⟨g2, h⟩ := h
  obtain ⟨g3, h⟩ := h
  refine gw_invV (as := [.inr o1, .inl (gp_zo (I (o1 + 1)) (I (o1 + 2)) v2 (I o1 0).toNat), .inl v2]) (k := k) (rest := []) (d' := (d + 2)) d_Blend_findByPosition_8 lk_Blend_46 (ga_rcv (hk) rfl rfl) rfl (Nat.le_of_ble_eq_true rfl) (Nat.le_of_ble_eq_true rfl) rfl rfl (s_Blend_findIn hk ho1 g1 g2 g3 ?_)
  show ga_W G (d + 3) mt_Blend_findByPosition 11 [some (.inr k), some (.inr o1), some (.inl v2)] [] (gx_bl I k (gp_fi (I (o1 + 1)) (I (o1 + 2)) (I (o1 + 3)) (I o1 0).toNat (gp_zo (I (o1 + 1)) (I (o1 + 2)) v2 (I o1 0).toNat) v2)) E
  refine gw_RG (fun hI2 => ?_)
  exact gw_return d_Blend_findByPosition_11 rfl h

section LI
variable {G : ga_G} {d : Nat} {I : ga_I} {E : Option ga_V → ga_I → Prop} {k l : Nat}
theorem s_Blend_findByPosition (hl : ga_isL l) (hk : ga_isB k) (hok : gb_ok I k) {c : Int} (hc : 0 ≤ c ∧ c ≤ 1000) (h : E none (gx_bl I l (gp_fi (I (k + 1)) (I (k + 2)) (I (k + 3)) (I k 0).toNat (gp_zo (I (k + 1)) (I (k + 2)) c (I k 0).toNat) c))) : ga_W G (d + 3) mt_Blend_findByPosition 0 (ga_en 3 [.inr l, .inr k, .inl c]) [] I E := by
  have h6 := hok.2.1
  have hs := gp_ct_le (fun b => decide (I (k + 2) b = 0 ∧ I (k + 1) b ≤ c)) (I k 0).toNat
  exact k_Blend_findByPosition_0 hl hk ⟨by omega, by omega⟩ (fun hI => ⟨hok, by unfold gp_zo; omega, hc, h⟩)
end LI
theorem k_Table_bordersOf_0 {G : ga_G} {d : Nat} {I : ga_I} {E : Option ga_V → ga_I → Prop} {k : Nat} {v1 : Int} (hk : ga_isT k) (r1 : ga_rg v1)
    (h : ga_RG I → ((v1 ≠ 0) → E (some (.inr (k + 5))) I) ∧ ((v1 = 0) → E (some (.inr (k + 1))) I)) :
    ga_W G d mt_Table_bordersOf 0 (ga_en 2 [.inr k, .inl v1]) [] I E := by
  show ga_W G d mt_Table_bordersOf 0 [some (.inr k), some (.inl v1)] [] I E
  refine gw_RG (fun hI1 => ?_)
  have h := h hI1
  refine gw_iload_n 1 d_Table_bordersOf_0 rfl rfl ?_
  refine gw_if_ne 11 d_Table_bordersOf_1 (by decide) r1 (fun hc => ?_) (fun hc => ?_)
  · have h := h.1 hc
    refine gw_aload_n 0 d_Table_bordersOf_11 rfl rfl ?_
    refine gw_getR d_Table_bordersOf_12 fl_Table_18 (hk.1) rfl ?_
    exact gw_areturn d_Table_bordersOf_15 rfl h
  · have h := h.2 hc
    refine gw_aload_n 0 d_Table_bordersOf_4 rfl rfl ?_
    refine gw_getR d_Table_bordersOf_5 fl_Table_12 (hk.1) rfl ?_
    refine gw_goto 15 d_Table_bordersOf_8 (by decide) ?_
    exact gw_areturn d_Table_bordersOf_15 rfl h

theorem k_Table_regions_0 {G : ga_G} {d : Nat} {I : ga_I} {E : Option ga_V → ga_I → Prop} {k : Nat} (hk : ga_isT k)
    (h : ga_RG I → E (some (.inl (((I (k + 1) 0) + 1) * ((I (k + 5) 0) + 1)))) I) :
    ga_W G d mt_Table_regions 0 (ga_en 1 [.inr k]) [] I E := by
  show ga_W G d mt_Table_regions 0 [some (.inr k)] [] I E
  refine gw_RG (fun hI1 => ?_)
  have h := h hI1
  refine gw_aload_n 0 d_Table_regions_0 rfl rfl ?_
  refine gw_getR d_Table_regions_1 fl_Table_12 (hk.1) rfl ?_
  refine gw_getI d_Table_regions_4 fl_Table_35 (hk.2.1.1) rfl ?_
  refine gw_iconst d_Table_regions_7 ?_
  refine gw_iadd d_Table_regions_8 ?_
  refine gw_aload_n 0 d_Table_regions_9 rfl rfl ?_
  refine gw_getR d_Table_regions_10 fl_Table_18 (hk.1) rfl ?_
  refine gw_getI d_Table_regions_13 fl_Table_35 (hk.2.2.1.1) rfl ?_
  refine gw_iconst d_Table_regions_16 ?_
  refine gw_iadd d_Table_regions_17 ?_
  refine gw_imul d_Table_regions_18 ?_
  exact gw_ireturn d_Table_regions_19 rfl h

theorem k_Table_regionAt_0 {G : ga_G} {d : Nat} {I : ga_I} {E : Option ga_V → ga_I → Prop} {v0 : Int} {v1 : Int} 
    (h : ga_RG I → E (some (.inl ((v0 * 7) + v1))) I) :
    ga_W G d mt_Table_regionAt 0 (ga_en 2 [.inl v0, .inl v1]) [] I E := by
  show ga_W G d mt_Table_regionAt 0 [some (.inl v0), some (.inl v1)] [] I E
  refine gw_RG (fun hI1 => ?_)
  have h := h hI1
  refine gw_iload_n 0 d_Table_regionAt_0 rfl rfl ?_
  refine gw_bipush d_Table_regionAt_1 (by decide +kernel) ?_
  refine gw_imul d_Table_regionAt_3 ?_
  refine gw_iload_n 1 d_Table_regionAt_4 rfl rfl ?_
  refine gw_iadd d_Table_regionAt_5 ?_
  exact gw_ireturn d_Table_regionAt_6 rfl h

theorem k_Table_gainAt_0 {G : ga_G} {d : Nat} {I : ga_I} {E : Option ga_V → ga_I → Prop} {k : Nat} {v1 : Int} {v2 : Int} (hk : ga_isT k)
    (h : ga_RG I → (ga_rg ((v1 * 3) + v2)) ∧ (((((v1 * 3) + v2) < 0) → E (some (.inl 0)) I) ∧ ((¬ (((v1 * 3) + v2) < 0)) → ((147 ≤ ((v1 * 3) + v2)) → E (some (.inl 0)) I) ∧ ((¬ (147 ≤ ((v1 * 3) + v2))) → (0 ≤ ((v1 * 3) + v2)) ∧ ((((v1 * 3) + v2) < 147) ∧ (E (some (.inl (I (k + 9) ((v1 * 3) + v2).toNat))) I)))))) :
    ga_W G d mt_Table_gainAt 0 (ga_en 4 [.inr k, .inl v1, .inl v2]) [] I E := by
  show ga_W G d mt_Table_gainAt 0 [some (.inr k), some (.inl v1), some (.inl v2), none] [] I E
  refine gw_RG (fun hI1 => ?_)
  have h := h hI1
  refine gw_iload_n 1 d_Table_gainAt_0 rfl rfl ?_
  refine gw_iconst d_Table_gainAt_1 ?_
  refine gw_imul d_Table_gainAt_2 ?_
  refine gw_iload_n 2 d_Table_gainAt_3 rfl rfl ?_
  refine gw_iadd d_Table_gainAt_4 ?_
  refine gw_istore_n 3 d_Table_gainAt_5 rfl (Nat.le_of_ble_eq_true rfl) rfl ?_
  refine gw_iload_n 3 d_Table_gainAt_6 rfl rfl ?_
  obtain ⟨g1, h⟩ := h
  refine gw_if_lt 28 d_Table_gainAt_7 (by decide) g1 (fun hc => ?_) (fun hc => ?_)
  · have h := h.1 hc
    refine gw_iconst d_Table_gainAt_28 ?_
    exact gw_ireturn d_Table_gainAt_29 rfl h
  · have h := h.2 hc
    refine gw_iload_n 3 d_Table_gainAt_10 rfl rfl ?_
    refine gw_aload_n 0 d_Table_gainAt_11 rfl rfl ?_
    refine gw_getR d_Table_gainAt_12 fl_Table_21 (hk.1) rfl ?_
    refine gw_alenZ (z := 147) d_Table_gainAt_15 (hk.2.2.2.1) (by decide) rfl ?_
    refine gw_icmp_ge 28 d_Table_gainAt_16 (by decide) g1 ⟨by decide, by decide⟩ (fun hc => ?_) (fun hc => ?_)
    · have h := h.1 hc
      refine gw_iconst d_Table_gainAt_28 ?_
      exact gw_ireturn d_Table_gainAt_29 rfl h
    · have h := h.2 hc
      refine gw_aload_n 0 d_Table_gainAt_19 rfl rfl ?_
      refine gw_getR d_Table_gainAt_20 fl_Table_21 (hk.1) rfl ?_
      refine gw_iload_n 3 d_Table_gainAt_23 rfl rfl ?_
      obtain ⟨g2, h⟩ := h
      obtain ⟨g3, h⟩ := h
      refine gw_iald d_Table_gainAt_24 (hk.2.2.2.1) g2 g3 ?_
      refine gw_goto 29 d_Table_gainAt_25 (by decide) ?_
      exact gw_ireturn d_Table_gainAt_29 rfl h

theorem k_Table_lockAt_0 {G : ga_G} {d : Nat} {I : ga_I} {E : Option ga_V → ga_I → Prop} {k : Nat} {v1 : Int} (hk : ga_isT k) (r1 : ga_rg v1)
    (h : ga_RG I → ((v1 < 0) → E (some (.inl (-2000000009))) I) ∧ ((¬ (v1 < 0)) → ((49 ≤ v1) → E (some (.inl (-2000000009))) I) ∧ ((¬ (49 ≤ v1)) → (0 ≤ v1) ∧ ((v1 < 49) ∧ (E (some (.inl (I (k + 10) v1.toNat))) I))))) :
    ga_W G d mt_Table_lockAt 0 (ga_en 2 [.inr k, .inl v1]) [] I E := by
  show ga_W G d mt_Table_lockAt 0 [some (.inr k), some (.inl v1)] [] I E
  refine gw_RG (fun hI1 => ?_)
  have h := h hI1
  refine gw_iload_n 1 d_Table_lockAt_0 rfl rfl ?_
  refine gw_if_lt 22 d_Table_lockAt_1 (by decide) r1 (fun hc => ?_) (fun hc => ?_)
  · have h := h.1 hc
    refine gw_ldc (n := (-2000000009)) d_Table_lockAt_22 kw_Table_28 (by decide +kernel) ?_
    exact gw_ireturn d_Table_lockAt_24 rfl h
  · have h := h.2 hc
    refine gw_iload_n 1 d_Table_lockAt_4 rfl rfl ?_
    refine gw_aload_n 0 d_Table_lockAt_5 rfl rfl ?_
    refine gw_getR d_Table_lockAt_6 fl_Table_25 (hk.1) rfl ?_
    refine gw_alenZ (z := 49) d_Table_lockAt_9 (hk.2.2.2.2) (by decide) rfl ?_
    refine gw_icmp_ge 22 d_Table_lockAt_10 (by decide) r1 ⟨by decide, by decide⟩ (fun hc => ?_) (fun hc => ?_)
    · have h := h.1 hc
      refine gw_ldc (n := (-2000000009)) d_Table_lockAt_22 kw_Table_28 (by decide +kernel) ?_
      exact gw_ireturn d_Table_lockAt_24 rfl h
    · have h := h.2 hc
      refine gw_aload_n 0 d_Table_lockAt_13 rfl rfl ?_
      refine gw_getR d_Table_lockAt_14 fl_Table_25 (hk.1) rfl ?_
      refine gw_iload_n 1 d_Table_lockAt_17 rfl rfl ?_
      obtain ⟨g1, h⟩ := h
      obtain ⟨g2, h⟩ := h
      refine gw_iald d_Table_lockAt_18 (hk.2.2.2.2) g1 g2 ?_
      refine gw_goto 24 d_Table_lockAt_19 (by decide) ?_
      exact gw_ireturn d_Table_lockAt_24 rfl h

theorem k_Table_putGain_0 {G : ga_G} {d : Nat} {I : ga_I} {E : Option ga_V → ga_I → Prop} {k : Nat} {v1 : Int} {v2 : Int} {v3 : Int} (hk : ga_isT k)
    (h : ga_RG I → (ga_rg ((v1 * 3) + v2)) ∧ (((((v1 * 3) + v2) < 0) → E none I) ∧ ((¬ (((v1 * 3) + v2) < 0)) → ((147 ≤ ((v1 * 3) + v2)) → E none I) ∧ ((¬ (147 ≤ ((v1 * 3) + v2))) → (0 ≤ ((v1 * 3) + v2)) ∧ ((((v1 * 3) + v2) < 147) ∧ (E none (ga_up I (k + 9) ((v1 * 3) + v2).toNat (ga_wr v3)))))))) :
    ga_W G d mt_Table_putGain 0 (ga_en 5 [.inr k, .inl v1, .inl v2, .inl v3]) [] I E := by
  show ga_W G d mt_Table_putGain 0 [some (.inr k), some (.inl v1), some (.inl v2), some (.inl v3), none] [] I E
  refine gw_RG (fun hI1 => ?_)
  have h := h hI1
  refine gw_iload_n 1 d_Table_putGain_0 rfl rfl ?_
  refine gw_iconst d_Table_putGain_1 ?_
  refine gw_imul d_Table_putGain_2 ?_
  refine gw_iload_n 2 d_Table_putGain_3 rfl rfl ?_
  refine gw_iadd d_Table_putGain_4 ?_
  refine gw_istore 4 d_Table_putGain_5 (Nat.le_of_ble_eq_true rfl) rfl ?_
  refine gw_iload 4 d_Table_putGain_7 rfl ?_
  obtain ⟨g1, h⟩ := h
  refine gw_if_lt 30 d_Table_putGain_9 (by decide) g1 (fun hc => ?_) (fun hc => ?_)
  · have h := h.1 hc
    exact gw_return d_Table_putGain_30 rfl h
  · have h := h.2 hc
    refine gw_iload 4 d_Table_putGain_12 rfl ?_
    refine gw_aload_n 0 d_Table_putGain_14 rfl rfl ?_
    refine gw_getR d_Table_putGain_15 fl_Table_21 (hk.1) rfl ?_
    refine gw_alenZ (z := 147) d_Table_putGain_18 (hk.2.2.2.1) (by decide) rfl ?_
    refine gw_icmp_ge 30 d_Table_putGain_19 (by decide) g1 ⟨by decide, by decide⟩ (fun hc => ?_) (fun hc => ?_)
    · have h := h.1 hc
      exact gw_return d_Table_putGain_30 rfl h
    · have h := h.2 hc
      refine gw_aload_n 0 d_Table_putGain_22 rfl rfl ?_
      refine gw_getR d_Table_putGain_23 fl_Table_21 (hk.1) rfl ?_
      refine gw_iload 4 d_Table_putGain_26 rfl ?_
      refine gw_iload_n 3 d_Table_putGain_28 rfl rfl ?_
      obtain ⟨g2, h⟩ := h
      obtain ⟨g3, h⟩ := h
      refine gw_iast d_Table_putGain_29 (hk.2.2.2.1) g2 g3 ?_
      refine gw_RG (fun hI2 => ?_)
      exact gw_return d_Table_putGain_30 rfl h

theorem k_Table_putLock_0 {G : ga_G} {d : Nat} {I : ga_I} {E : Option ga_V → ga_I → Prop} {k : Nat} {v1 : Int} {v2 : Int} (hk : ga_isT k) (r1 : ga_rg v1)
    (h : ga_RG I → ((v1 < 0) → E none I) ∧ ((¬ (v1 < 0)) → ((49 ≤ v1) → E none I) ∧ ((¬ (49 ≤ v1)) → (0 ≤ v1) ∧ ((v1 < 49) ∧ (E none (ga_up I (k + 10) v1.toNat (ga_wr v2))))))) :
    ga_W G d mt_Table_putLock 0 (ga_en 3 [.inr k, .inl v1, .inl v2]) [] I E := by
  show ga_W G d mt_Table_putLock 0 [some (.inr k), some (.inl v1), some (.inl v2)] [] I E
  refine gw_RG (fun hI1 => ?_)
  have h := h hI1
  refine gw_iload_n 1 d_Table_putLock_0 rfl rfl ?_
  refine gw_if_lt 20 d_Table_putLock_1 (by decide) r1 (fun hc => ?_) (fun hc => ?_)
  · have h := h.1 hc
    exact gw_return d_Table_putLock_20 rfl h
  · have h := h.2 hc
    refine gw_iload_n 1 d_Table_putLock_4 rfl rfl ?_
    refine gw_aload_n 0 d_Table_putLock_5 rfl rfl ?_
    refine gw_getR d_Table_putLock_6 fl_Table_25 (hk.1) rfl ?_
    refine gw_alenZ (z := 49) d_Table_putLock_9 (hk.2.2.2.2) (by decide) rfl ?_
    refine gw_icmp_ge 20 d_Table_putLock_10 (by decide) r1 ⟨by decide, by decide⟩ (fun hc => ?_) (fun hc => ?_)
    · have h := h.1 hc
      exact gw_return d_Table_putLock_20 rfl h
    · have h := h.2 hc
      refine gw_aload_n 0 d_Table_putLock_13 rfl rfl ?_
      refine gw_getR d_Table_putLock_14 fl_Table_25 (hk.1) rfl ?_
      refine gw_iload_n 1 d_Table_putLock_17 rfl rfl ?_
      refine gw_iload_n 2 d_Table_putLock_18 rfl rfl ?_
      obtain ⟨g1, h⟩ := h
      obtain ⟨g2, h⟩ := h
      refine gw_iast d_Table_putLock_19 (hk.2.2.2.2) g1 g2 ?_
      refine gw_RG (fun hI2 => ?_)
      exact gw_return d_Table_putLock_20 rfl h

section LJ
variable {G : ga_G} {d : Nat} {I : ga_I} {E : Option ga_V → ga_I → Prop} {k : Nat}
theorem s_Table_bordersOf (hk : ga_isT k) {a : Int} (ha : ga_rg a) (h : E (some (.inr (ga_bo k a))) I) : ga_W G d mt_Table_bordersOf 0 (ga_en 2 [.inr k, .inl a]) [] I E := by
  refine k_Table_bordersOf_0 hk ha (fun hI => ⟨fun h1 => ?_, fun h1 => ?_⟩) <;> unfold ga_bo at h
  · rwa [if_neg h1] at h
  · rwa [if_pos h1] at h
theorem s_Table_regions (hk : ga_isT k) (h : E (some (.inl ((I (k + 1) 0 + 1) * (I (k + 5) 0 + 1)))) I) : ga_W G d mt_Table_regions 0 (ga_en 1 [.inr k]) [] I E := k_Table_regions_0 hk (fun _ => h)
theorem s_Table_regionAt {a b : Int} (h : E (some (.inl (a * 7 + b))) I) : ga_W G d mt_Table_regionAt 0 (ga_en 2 [.inl a, .inl b]) [] I E := k_Table_regionAt_0 (fun _ => h)
theorem s_Table_gainAt (hk : ga_isT k) {g i : Int} (hg : 0 ≤ g * 3 + i ∧ g * 3 + i < 147) (h : E (some (.inl (I (k + 9) (g * 3 + i).toNat))) I) : ga_W G d mt_Table_gainAt 0 (ga_en 4 [.inr k, .inl g, .inl i]) [] I E :=
  k_Table_gainAt_0 hk (fun hI => ⟨⟨by omega, by omega⟩, fun h1 => by exfalso; omega, fun h1 => ⟨fun h2 => by exfalso; omega, fun h2 => ⟨by omega, by omega, h⟩⟩⟩)
theorem s_Table_lockAt (hk : ga_isT k) {g : Int} (hg : 0 ≤ g ∧ g < 49) (h : E (some (.inl (I (k + 10) g.toNat))) I) : ga_W G d mt_Table_lockAt 0 (ga_en 2 [.inr k, .inl g]) [] I E :=
  k_Table_lockAt_0 hk ⟨by omega, by omega⟩ (fun hI => ⟨fun h1 => by exfalso; omega, fun h1 => ⟨fun h2 => by exfalso; omega, fun h2 => ⟨by omega, by omega, h⟩⟩⟩)
theorem s_Table_putGain (hk : ga_isT k) {g i z : Int} (hg : 0 ≤ g * 3 + i ∧ g * 3 + i < 147) (hz : ga_rg z) (h : E none (ga_up I (k + 9) (g * 3 + i).toNat z)) : ga_W G d mt_Table_putGain 0 (ga_en 5 [.inr k, .inl g, .inl i, .inl z]) [] I E :=
  k_Table_putGain_0 hk (fun hI => ⟨⟨by omega, by omega⟩, fun h1 => by exfalso; omega, fun h1 => ⟨fun h2 => by exfalso; omega, fun h2 => ⟨by omega, by omega, by rw [ga_wr_eq hz]; exact h⟩⟩⟩)
theorem s_Table_putLock (hk : ga_isT k) {g z : Int} (hg : 0 ≤ g ∧ g < 49) (hz : ga_rg z) (h : E none (ga_up I (k + 10) g.toNat z)) : ga_W G d mt_Table_putLock 0 (ga_en 3 [.inr k, .inl g, .inl z]) [] I E :=
  k_Table_putLock_0 hk ⟨by omega, by omega⟩ (fun hI => ⟨fun h1 => by exfalso; omega, fun h1 => ⟨fun h2 => by exfalso; omega, fun h2 => ⟨by omega, by omega, by rw [ga_wr_eq hz]; exact h⟩⟩⟩)
end LJ
