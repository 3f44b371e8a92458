/-! values of gains, of both sides; the reference's -/
section ME
/-- what an axis blends is in its range -/
def gp_vk (v : Int × Int × Int × Int) : Prop := (0 ≤ v.1 ∧ v.1 ≤ 6) ∧ (0 ≤ v.2.1 ∧ v.2.1 ≤ 6) ∧ (0 ≤ v.2.2.1 ∧ v.2.2.1 ≤ v.2.2.2) ∧ (1 ≤ v.2.2.2 ∧ v.2.2.2 ≤ 200)
theorem gp_fi_k {p q r : Nat → Int} {n : Int} (h : gp_ok n p q r) {z c : Int} (hc : 0 ≤ c ∧ c ≤ 1000) : gp_vk (gp_fi p q r n.toNat z c) := by
  have h0 := h.1
  have h6 := h.2.1
  have hu := gp_hd_bd (q := q) (z := z) (fun b hb => ⟨(h.2.2.1 b hb).1, (h.2.2.1 b hb).2.1⟩) hc n.toNat (by omega)
  have hs := gp_st_bd p (gp_hd p q z c n.toNat) n.toNat
  have hb := gp_ff_bd (fun b => decide (q b = 1 ∧ p b - r b ≤ gp_hd p q z c n.toNat ∧ gp_hd p q z c n.toNat ≤ p b + r b)) n.toNat
  unfold gp_fi
  by_cases e : gp_bl p q r (gp_hd p q z c n.toNat) n.toNat = -1
  · rw [if_pos e]
    refine ⟨⟨hs.1, ?_⟩, ⟨hs.1, ?_⟩, ⟨?_, ?_⟩, ⟨?_, ?_⟩⟩ <;> dsimp only <;> omega
  · rw [if_neg e]
    rcases hb with hb | ⟨b1, b2, b3⟩
    · exact absurd hb e
    · have b4 := of_decide_eq_true b3
      change 0 ≤ gp_bl p q r (gp_hd p q z c n.toNat) n.toNat at b1
      change gp_bl p q r (gp_hd p q z c n.toNat) n.toNat < _ at b2
      change q (gp_bl p q r (gp_hd p q z c n.toNat) n.toNat).toNat = 1 ∧ p (gp_bl p q r (gp_hd p q z c n.toNat) n.toNat).toNat - r (gp_bl p q r (gp_hd p q z c n.toNat) n.toNat).toNat ≤ _ ∧ _ ≤ p (gp_bl p q r (gp_hd p q z c n.toNat) n.toNat).toNat + r (gp_bl p q r (gp_hd p q z c n.toNat) n.toNat).toNat at b4
      have hv := h.2.2.1 (gp_bl p q r (gp_hd p q z c n.toNat) n.toNat).toNat (by omega)
      refine ⟨⟨b1, ?_⟩, ⟨?_, ?_⟩, ⟨?_, ?_⟩, ⟨?_, ?_⟩⟩ <;> dsimp only <;> omega
/-- a numerator -/
def gp_nu (v w : Int × Int × Int × Int) (g : Int → Int → Int) : Int := (v.2.2.2 - v.2.2.1) * (w.2.2.2 - w.2.2.1) * g v.1 w.1 + v.2.2.1 * (w.2.2.2 - w.2.2.1) * g v.2.1 w.1 + (v.2.2.2 - v.2.2.1) * w.2.2.1 * g v.1 w.2.1 + v.2.2.1 * w.2.2.1 * g v.2.1 w.2.1
def gp_va (v w : Int × Int × Int × Int) (g : Int → Int → Int) : Int := Int.tdiv (gp_nu v w g) (v.2.2.2 * w.2.2.2)
theorem gp_w_le {w g : Int} (hw : 0 ≤ w) (hg : 0 ≤ g ∧ g ≤ 9999) : 0 ≤ w * g ∧ w * g ≤ w * 9999 := ⟨Int.mul_nonneg hw hg.1, Int.mul_le_mul_of_nonneg_left hg.2 hw⟩
theorem gp_nu_bd {v w : Int × Int × Int × Int} {g : Int → Int → Int} (hv : gp_vk v) (hw : gp_vk w) (hg : ∀ a b, 0 ≤ a → a ≤ 6 → 0 ≤ b → b ≤ 6 → 0 ≤ g a b ∧ g a b ≤ 9999) : 0 ≤ gp_nu v w g ∧ gp_nu v w g ≤ v.2.2.2 * w.2.2.2 * 9999 ∧ (1 ≤ v.2.2.2 * w.2.2.2 ∧ v.2.2.2 * w.2.2.2 ≤ 40000) := by
  obtain ⟨v1, v2, v3, v4⟩ := hv
  obtain ⟨w1, w2, w3, w4⟩ := hw
  have t1 := gp_w_le (Int.mul_nonneg (show 0 ≤ v.2.2.2 - v.2.2.1 by omega) (show 0 ≤ w.2.2.2 - w.2.2.1 by omega)) (hg v.1 w.1 v1.1 v1.2 w1.1 w1.2)
  have t2 := gp_w_le (Int.mul_nonneg v3.1 (show 0 ≤ w.2.2.2 - w.2.2.1 by omega)) (hg v.2.1 w.1 v2.1 v2.2 w1.1 w1.2)
  have t3 := gp_w_le (Int.mul_nonneg (show 0 ≤ v.2.2.2 - v.2.2.1 by omega) w3.1) (hg v.1 w.2.1 v1.1 v1.2 w2.1 w2.2)
  have t4 := gp_w_le (Int.mul_nonneg v3.1 w3.1) (hg v.2.1 w.2.1 v2.1 v2.2 w2.1 w2.2)
  have hs : (v.2.2.2 - v.2.2.1) * (w.2.2.2 - w.2.2.1) + v.2.2.1 * (w.2.2.2 - w.2.2.1) + (v.2.2.2 - v.2.2.1) * w.2.2.1 + v.2.2.1 * w.2.2.1 = v.2.2.2 * w.2.2.2 := by
    rw [Int.sub_mul, Int.mul_sub, Int.mul_sub, Int.sub_mul]
    omega
  have m1 : v.2.2.2 * w.2.2.2 ≤ 200 * 200 := Int.mul_le_mul v4.2 w4.2 (by omega) (by omega)
  have m2 : 1 * 1 ≤ v.2.2.2 * w.2.2.2 := Int.mul_le_mul v4.1 w4.1 (by omega) (by omega)
  unfold gp_nu
  omega
theorem gp_va_bd {v w : Int × Int × Int × Int} {g : Int → Int → Int} (hv : gp_vk v) (hw : gp_vk w) (hg : ∀ a b, 0 ≤ a → a ≤ 6 → 0 ≤ b → b ≤ 6 → 0 ≤ g a b ∧ g a b ≤ 9999) : 0 ≤ gp_va v w g ∧ gp_va v w g ≤ 9999 := by
  obtain ⟨h1, h2, h3⟩ := gp_nu_bd hv hw hg
  unfold gp_va
  rw [Int.tdiv_eq_ediv_of_nonneg h1]
  exact ⟨Int.ediv_nonneg h1 (by omega), Int.le_of_lt_add_one (Int.ediv_lt_of_lt_mul (by omega) (by
    rw [Int.mul_comm]
    omega))⟩
-- the reference
def mo_v (I : ga_I) (ax : Nat) : Int × Int × Int × Int := (I 353 ax, I 354 ax, I 355 ax, I 356 ax)
def mp_f (s : Nat → Int) (ax z c : Int) : Int × Int × Int × Int := gp_fi (ms_p s ax) (ms_q s ax) (ms_r s ax) (ms_n s ax).toNat z c
/-- the point lies on the axes, the zones are some -/
def mo_pz (I : ga_I) : Prop := (0 ≤ I 349 234 ∧ I 349 234 ≤ 1000) ∧ (0 ≤ I 349 235 ∧ I 349 235 ≤ 1000) ∧ (0 ≤ I 349 236 ∧ I 349 236 ≤ 10) ∧ (0 ≤ I 349 237 ∧ I 349 237 ≤ 10)
def mo_g (I : ga_I) : Prop := ∀ g i : Nat, g < 49 → i < 3 → 0 ≤ I 349 (38 + 4 * g + i) ∧ I 349 (38 + 4 * g + i) ≤ 9999
def mo_ah (I : ga_I) : Prop := ∀ i : Nat, i < 3 → 0 ≤ I 357 i ∧ I 357 i ≤ 9999
def mx_lp (I : ga_I) : ga_I := mx_lo (mx_lo I 0 (mp_f (I 349) 0 (I 349 236) (I 349 234))) 1 (mp_f (I 349) 1 (I 349 237) (I 349 235))
end ME
theorem k_Mo_locatePoint_0 {G : ga_G} {d : Nat} {I : ga_I} {E : Option ga_V → ga_I → Prop}  
    (h : ga_RG I → (mo_ok I (0 : Int)) ∧ ((mo_n I) ∧ ((0 ≤ (0 : Int) ∧ (0 : Int) ≤ 1) ∧ ((0 ≤ (I 349 236) ∧ (I 349 236) ≤ 10) ∧ ((0 ≤ (I 349 234) ∧ (I 349 234) ≤ 1000) ∧ ((∀ I1 : ga_I, I1 = (mx_lo I (0 : Int) (gp_fi (ms_p (I 349) (0 : Int)) (ms_q (I 349) (0 : Int)) (ms_r (I 349) (0 : Int)) (ms_n (I 349) (0 : Int)).toNat (I 349 236) (I 349 234))) → (mo_ok I1 (1 : Int)) ∧ ((mo_n I1) ∧ ((0 ≤ (1 : Int) ∧ (1 : Int) ≤ 1) ∧ ((0 ≤ (I1 349 237) ∧ (I1 349 237) ≤ 10) ∧ ((0 ≤ (I1 349 235) ∧ (I1 349 235) ≤ 1000) ∧ ((∀ I2 : ga_I, I2 = (mx_lo I1 (1 : Int) (gp_fi (ms_p (I1 349) (1 : Int)) (ms_q (I1 349) (1 : Int)) (ms_r (I1 349) (1 : Int)) (ms_n (I1 349) (1 : Int)).toNat (I1 349 237) (I1 349 235))) → E none I2))))))))))))) :
    ga_W G (d + 3) mt_Mo_locatePoint 0 (ga_en 1 [.inr 348]) [] I E := by
  show ga_W G (d + 3) mt_Mo_locatePoint 0 [some (.inr 348)] [] I E
  refine gw_RG (fun hI1 => ?_)
  have h := h hI1
  refine gw_aload_n 0 d_Mo_locatePoint_0 rfl rfl ?_
  refine gw_iconst d_Mo_locatePoint_1 ?_
  refine gw_aload_n 0 d_Mo_locatePoint_2 rfl rfl ?_
  refine gw_getR d_Mo_locatePoint_3 fl_Mo_7 (ga_oM) rfl ?_
  refine gw_sipush d_Mo_locatePoint_6 (by decide +kernel) ?_
  refine gw_iald d_Mo_locatePoint_9 (ga_aM1) (by decide) (by decide) ?_
  refine gw_aload_n 0 d_Mo_locatePoint_10 rfl rfl ?_
  refine gw_getR d_Mo_locatePoint_11 fl_Mo_7 (ga_oM) rfl ?_
  refine gw_sipush d_Mo_locatePoint_14 (by decide +kernel) ?_
  refine gw_iald d_Mo_locatePoint_17 (ga_aM1) (by decide) (by decide) ?_
  obtain ⟨g1, h⟩ := h
  obtain ⟨g2, h⟩ := h
  obtain ⟨g3, h⟩ := h
  obtain ⟨g4, h⟩ := h
  obtain ⟨g5, h⟩ := h
  refine gw_invV (as := [.inl 0, .inl (I 349 236), .inl (I 349 234)]) (k := 348) (rest := []) (d' := (d + 2)) d_Mo_locatePoint_18 lk_Mo_74 (ga_rcv (ga_oM) rfl rfl) rfl (Nat.le_of_ble_eq_true rfl) (Nat.le_of_ble_eq_true rfl) rfl rfl (s_Mo_locate g1 g2 g3 g4 g5 ?_)
  show ga_W G (d + 3) mt_Mo_locatePoint 21 [some (.inr 348)] [] (mx_lo I (0 : Int) (gp_fi (ms_p (I 349) (0 : Int)) (ms_q (I 349) (0 : Int)) (ms_r (I 349) (0 : Int)) (ms_n (I 349) (0 : Int)).toNat (I 349 236) (I 349 234))) E
  refine gw_nm (fun I1 q1 => ?_)
  have h := h I1 q1
  refine gw_RG (fun hI2 => ?_)
  refine gw_aload_n 0 d_Mo_locatePoint_21 rfl rfl ?_
  refine gw_iconst d_Mo_locatePoint_22 ?_
  refine gw_aload_n 0 d_Mo_locatePoint_23 rfl rfl ?_
  refine gw_getR d_Mo_locatePoint_24 fl_Mo_7 (ga_oM) rfl ?_
  refine gw_sipush d_Mo_locatePoint_27 (by decide +kernel) ?_
  refine gw_iald d_Mo_locatePoint_30 (ga_aM1) (by decide) (by decide) ?_
  refine gw_aload_n 0 d_Mo_locatePoint_31 rfl rfl ?_
  refine gw_getR d_Mo_locatePoint_32 fl_Mo_7 (ga_oM) rfl ?_
  refine gw_sipush d_Mo_locatePoint_35 (by decide +kernel) ?_
  refine gw_iald d_Mo_locatePoint_38 (ga_aM1) (by decide) (by decide) ?_
  obtain ⟨g6, h⟩ := h
  obtain ⟨g7, h⟩ := h
  obtain ⟨g8, h⟩ := h
  obtain ⟨g9, h⟩ := h
  obtain ⟨g10, h⟩ := h
  refine gw_invV (as := [.inl 1, .inl (I1 349 237), .inl (I1 349 235)]) (k := 348) (rest := []) (d' := (d + 2)) d_Mo_locatePoint_39 lk_Mo_74 (ga_rcv (ga_oM) rfl rfl) rfl (Nat.le_of_ble_eq_true rfl) (Nat.le_of_ble_eq_true rfl) rfl rfl (s_Mo_locate g6 g7 g8 g9 g10 ?_)
  show ga_W G (d + 3) mt_Mo_locatePoint 42 [some (.inr 348)] [] (mx_lo I1 (1 : Int) (gp_fi (ms_p (I1 349) (1 : Int)) (ms_q (I1 349) (1 : Int)) (ms_r (I1 349) (1 : Int)) (ms_n (I1 349) (1 : Int)).toNat (I1 349 237) (I1 349 235))) E
  refine gw_nm (fun I2 q2 => ?_)
  have h := h I2 q2
  refine gw_RG (fun hI3 => ?_)
  exact gw_return d_Mo_locatePoint_42 rfl h

theorem k_Mo_denominator_0 {G : ga_G} {d : Nat} {I : ga_I} {E : Option ga_V → ga_I → Prop}  
    (h : ga_RG I → E (some (.inl ((I 356 0) * (I 356 1)))) I) :
    ga_W G d mt_Mo_denominator 0 (ga_en 1 [.inr 348]) [] I E := by
  show ga_W G d mt_Mo_denominator 0 [some (.inr 348)] [] I E
  refine gw_RG (fun hI1 => ?_)
  have h := h hI1
  refine gw_aload_n 0 d_Mo_denominator_0 rfl rfl ?_
  refine gw_getR d_Mo_denominator_1 fl_Mo_31 (ga_oM) rfl ?_
  refine gw_iconst d_Mo_denominator_4 ?_
  refine gw_iald d_Mo_denominator_5 (ga_aM8) (by decide) (by decide) ?_
  refine gw_aload_n 0 d_Mo_denominator_6 rfl rfl ?_
  refine gw_getR d_Mo_denominator_7 fl_Mo_31 (ga_oM) rfl ?_
  refine gw_iconst d_Mo_denominator_10 ?_
  refine gw_iald d_Mo_denominator_11 (ga_aM8) (by decide) (by decide) ?_
  refine gw_imul d_Mo_denominator_12 ?_
  exact gw_ireturn d_Mo_denominator_13 rfl h

theorem k_Mo_numerator_0 {G : ga_G} {d : Nat} {I : ga_I} {E : Option ga_V → ga_I → Prop} {v1 : Int} 
    (h : ga_RG I → (0 ≤ ((38 + 4 * (7 * (I 353 0) + (I 353 1))) + v1)) ∧ ((((38 + 4 * (7 * (I 353 0) + (I 353 1))) + v1) < 1120) ∧ ((0 ≤ ((38 + 4 * (7 * (I 354 0) + (I 353 1))) + v1)) ∧ ((((38 + 4 * (7 * (I 354 0) + (I 353 1))) + v1) < 1120) ∧ ((0 ≤ ((38 + 4 * (7 * (I 353 0) + (I 354 1))) + v1)) ∧ ((((38 + 4 * (7 * (I 353 0) + (I 354 1))) + v1) < 1120) ∧ ((0 ≤ ((38 + 4 * (7 * (I 354 0) + (I 354 1))) + v1)) ∧ ((((38 + 4 * (7 * (I 354 0) + (I 354 1))) + v1) < 1120) ∧ (E (some (.inl (((((((I 356 0) - (I 355 0)) * ((I 356 1) - (I 355 1))) * (I 349 ((38 + 4 * (7 * (I 353 0) + (I 353 1))) + v1).toNat)) + (((I 355 0) * ((I 356 1) - (I 355 1))) * (I 349 ((38 + 4 * (7 * (I 354 0) + (I 353 1))) + v1).toNat))) + ((((I 356 0) - (I 355 0)) * (I 355 1)) * (I 349 ((38 + 4 * (7 * (I 353 0) + (I 354 1))) + v1).toNat))) + (((I 355 0) * (I 355 1)) * (I 349 ((38 + 4 * (7 * (I 354 0) + (I 354 1))) + v1).toNat))))) I))))))))) :
    ga_W G (d + 1) mt_Mo_numerator 0 (ga_en 5 [.inr 348, .inl v1]) [] I E := by
  show ga_W G (d + 1) mt_Mo_numerator 0 [some (.inr 348), some (.inl v1), none, none, none] [] I E
  refine gw_RG (fun hI1 => ?_)
  have h := h hI1
  refine gw_aload_n 0 d_Mo_numerator_0 rfl rfl ?_
  refine gw_getR d_Mo_numerator_1 fl_Mo_31 (ga_oM) rfl ?_
  refine gw_iconst d_Mo_numerator_4 ?_
  refine gw_iald d_Mo_numerator_5 (ga_aM8) (by decide) (by decide) ?_
  refine gw_aload_n 0 d_Mo_numerator_6 rfl rfl ?_
  refine gw_getR d_Mo_numerator_7 fl_Mo_28 (ga_oM) rfl ?_
  refine gw_iconst d_Mo_numerator_10 ?_
  refine gw_iald d_Mo_numerator_11 (ga_aM7) (by decide) (by decide) ?_
  refine gw_isub d_Mo_numerator_12 ?_
  refine gw_istore_n 2 d_Mo_numerator_13 rfl (Nat.le_of_ble_eq_true rfl) rfl ?_
  refine gw_aload_n 0 d_Mo_numerator_14 rfl rfl ?_
  refine gw_getR d_Mo_numerator_15 fl_Mo_31 (ga_oM) rfl ?_
  refine gw_iconst d_Mo_numerator_18 ?_
  refine gw_iald d_Mo_numerator_19 (ga_aM8) (by decide) (by decide) ?_
  refine gw_aload_n 0 d_Mo_numerator_20 rfl rfl ?_
  refine gw_getR d_Mo_numerator_21 fl_Mo_28 (ga_oM) rfl ?_
  refine gw_iconst d_Mo_numerator_24 ?_
  refine gw_iald d_Mo_numerator_25 (ga_aM7) (by decide) (by decide) ?_
  refine gw_isub d_Mo_numerator_26 ?_
  refine gw_istore_n 3 d_Mo_numerator_27 rfl (Nat.le_of_ble_eq_true rfl) rfl ?_
  refine gw_iload_n 2 d_Mo_numerator_28 rfl rfl ?_
  refine gw_iload_n 3 d_Mo_numerator_29 rfl rfl ?_
  refine gw_imul d_Mo_numerator_30 ?_
  refine gw_aload_n 0 d_Mo_numerator_31 rfl rfl ?_
  refine gw_getR d_Mo_numerator_32 fl_Mo_7 (ga_oM) rfl ?_
  refine gw_aload_n 0 d_Mo_numerator_35 rfl rfl ?_
  refine gw_getR d_Mo_numerator_36 fl_Mo_22 (ga_oM) rfl ?_
  refine gw_iconst d_Mo_numerator_39 ?_
  refine gw_iald d_Mo_numerator_40 (ga_aM5) (by decide) (by decide) ?_
  refine gw_aload_n 0 d_Mo_numerator_41 rfl rfl ?_
  refine gw_getR d_Mo_numerator_42 fl_Mo_22 (ga_oM) rfl ?_
  refine gw_iconst d_Mo_numerator_45 ?_
  refine gw_iald d_Mo_numerator_46 (ga_aM5) (by decide) (by decide) ?_
  refine gw_invS (as := [.inl (I 353 0), .inl (I 353 1)]) (rest := [.inr 349, .inl (((I 356 0) - (I 355 0)) * ((I 356 1) - (I 355 1)))]) (d' := d) d_Mo_numerator_47 lk_Mo_59 rfl (Nat.le_of_ble_eq_true rfl) (Nat.le_of_ble_eq_true rfl) rfl rfl (s_Mo_at  ?_)
  show ga_W G (d + 1) mt_Mo_numerator 50 [some (.inr 348), some (.inl v1), some (.inl ((I 356 0) - (I 355 0))), some (.inl ((I 356 1) - (I 355 1))), none] [.inl (38 + 4 * (7 * (I 353 0) + (I 353 1))), .inr 349, .inl (((I 356 0) - (I 355 0)) * ((I 356 1) - (I 355 1)))] I E
  refine gw_iload_n 1 d_Mo_numerator_50 rfl rfl ?_
  refine gw_iadd d_Mo_numerator_51 ?_
  obtain ⟨g1, h⟩ := h
  obtain ⟨g2, h⟩ := h
  refine gw_iald d_Mo_numerator_52 (ga_aM1) g1 g2 ?_
  refine gw_imul d_Mo_numerator_53 ?_
  refine gw_istore 4 d_Mo_numerator_54 (Nat.le_of_ble_eq_true rfl) rfl ?_
  refine gw_iload 4 d_Mo_numerator_56 rfl ?_
  refine gw_aload_n 0 d_Mo_numerator_58 rfl rfl ?_
  refine gw_getR d_Mo_numerator_59 fl_Mo_28 (ga_oM) rfl ?_
  refine gw_iconst d_Mo_numerator_62 ?_
  refine gw_iald d_Mo_numerator_63 (ga_aM7) (by decide) (by decide) ?_
  refine gw_iload_n 3 d_Mo_numerator_64 rfl rfl ?_
  refine gw_imul d_Mo_numerator_65 ?_
  refine gw_aload_n 0 d_Mo_numerator_66 rfl rfl ?_
  refine gw_getR d_Mo_numerator_67 fl_Mo_7 (ga_oM) rfl ?_
  refine gw_aload_n 0 d_Mo_numerator_70 rfl rfl ?_
  refine gw_getR d_Mo_numerator_71 fl_Mo_25 (ga_oM) rfl ?_
  refine gw_iconst d_Mo_numerator_74 ?_
  refine gw_iald d_Mo_numerator_75 (ga_aM6) (by decide) (by decide) ?_
  refine gw_aload_n 0 d_Mo_numerator_76 rfl rfl ?_
  refine gw_getR d_Mo_numerator_77 fl_Mo_22 (ga_oM) rfl ?_
  refine gw_iconst d_Mo_numerator_80 ?_
  refine gw_iald d_Mo_numerator_81 (ga_aM5) (by decide) (by decide) ?_
  refine gw_invS (as := [.inl (I 354 0), .inl (I 353 1)]) (rest := [.inr 349, .inl ((I 355 0) * ((I 356 1) - (I 355 1))), .inl ((((I 356 0) - (I 355 0)) * ((I 356 1) - (I 355 1))) * (I 349 ((38 + 4 * (7 * (I 353 0) + (I 353 1))) + v1).toNat))]) (d' := d) d_Mo_numerator_82 lk_Mo_59 rfl (Nat.le_of_ble_eq_true rfl) (Nat.le_of_ble_eq_true rfl) rfl rfl (s_Mo_at  ?_)
  show ga_W G (d + 1) mt_Mo_numerator 85 [some (.inr 348), some (.inl v1), some (.inl ((I 356 0) - (I 355 0))), some (.inl ((I 356 1) - (I 355 1))), some (.inl ((((I 356 0) - (I 355 0)) * ((I 356 1) - (I 355 1))) * (I 349 ((38 + 4 * (7 * (I 353 0) + (I 353 1))) + v1).toNat)))] [.inl (38 + 4 * (7 * (I 354 0) + (I 353 1))), .inr 349, .inl ((I 355 0) * ((I 356 1) - (I 355 1))), .inl ((((I 356 0) - (I 355 0)) * ((I 356 1) - (I 355 1))) * (I 349 ((38 + 4 * (7 * (I 353 0) + (I 353 1))) + v1).toNat))] I E
  refine gw_iload_n 1 d_Mo_numerator_85 rfl rfl ?_
  refine gw_iadd d_Mo_numerator_86 ?_
  obtain ⟨g3, h⟩ := h
  obtain ⟨g4, h⟩ := h
  refine gw_iald d_Mo_numerator_87 (ga_aM1) g3 g4 ?_
  refine gw_imul d_Mo_numerator_88 ?_
  refine gw_iadd d_Mo_numerator_89 ?_
  refine gw_istore 4 d_Mo_numerator_90 (Nat.le_of_ble_eq_true rfl) rfl ?_
  refine gw_iload 4 d_Mo_numerator_92 rfl ?_
  refine gw_iload_n 2 d_Mo_numerator_94 rfl rfl ?_
  refine gw_aload_n 0 d_Mo_numerator_95 rfl rfl ?_
  refine gw_getR d_Mo_numerator_96 fl_Mo_28 (ga_oM) rfl ?_
  refine gw_iconst d_Mo_numerator_99 ?_
  refine gw_iald d_Mo_numerator_100 (ga_aM7) (by decide) (by decide) ?_
  refine gw_imul d_Mo_numerator_101 ?_
  refine gw_aload_n 0 d_Mo_numerator_102 rfl rfl ?_
  refine gw_getR d_Mo_numerator_103 fl_Mo_7 (ga_oM) rfl ?_
  refine gw_aload_n 0 d_Mo_numerator_106 rfl rfl ?_
  refine gw_getR d_Mo_numerator_107 fl_Mo_22 (ga_oM) rfl ?_
  refine gw_iconst d_Mo_numerator_110 ?_
  refine gw_iald d_Mo_numerator_111 (ga_aM5) (by decide) (by decide) ?_
  refine gw_aload_n 0 d_Mo_numerator_112 rfl rfl ?_
  refine gw_getR d_Mo_numerator_113 fl_Mo_25 (ga_oM) rfl ?_
  refine gw_iconst d_Mo_numerator_116 ?_
  refine gw_iald d_Mo_numerator_117 (ga_aM6) (by decide) (by decide) ?_
  refine gw_invS (as := [.inl (I 353 0), .inl (I 354 1)]) (rest := [.inr 349, .inl (((I 356 0) - (I 355 0)) * (I 355 1)), .inl (((((I 356 0) - (I 355 0)) * ((I 356 1) - (I 355 1))) * (I 349 ((38 + 4 * (7 * (I 353 0) + (I 353 1))) + v1).toNat)) + (((I 355 0) * ((I 356 1) - (I 355 1))) * (I 349 ((38 + 4 * (7 * (I 354 0) + (I 353 1))) + v1).toNat)))]) (d' := d) d_Mo_numerator_118 lk_Mo_59 rfl (Nat.le_of_ble_eq_true rfl) (Nat.le_of_ble_eq_true rfl) rfl rfl (s_Mo_at  ?_)
  show ga_W G (d + 1) mt_Mo_numerator 121 [some (.inr 348), some (.inl v1), some (.inl ((I 356 0) - (I 355 0))), some (.inl ((I 356 1) - (I 355 1))), some (.inl (((((I 356 0) - (I 355 0)) * ((I 356 1) - (I 355 1))) * (I 349 ((38 + 4 * (7 * (I 353 0) + (I 353 1))) + v1).toNat)) + (((I 355 0) * ((I 356 1) - (I 355 1))) * (I 349 ((38 + 4 * (7 * (I 354 0) + (I 353 1))) + v1).toNat))))] [.inl (38 + 4 * (7 * (I 353 0) + (I 354 1))), .inr 349, .inl (((I 356 0) - (I 355 0)) * (I 355 1)), .inl (((((I 356 0) - (I 355 0)) * ((I 356 1) - (I 355 1))) * (I 349 ((38 + 4 * (7 * (I 353 0) + (I 353 1))) + v1).toNat)) + (((I 355 0) * ((I 356 1) - (I 355 1))) * (I 349 ((38 + 4 * (7 * (I 354 0) + (I 353 1))) + v1).toNat)))] I E
  refine gw_iload_n 1 d_Mo_numerator_121 rfl rfl ?_
  refine gw_iadd d_Mo_numerator_122 ?_
  obtain ⟨g5, h⟩ := h
  obtain ⟨g6, h⟩ := h
  refine gw_iald d_Mo_numerator_123 (ga_aM1) g5 g6 ?_
  refine gw_imul d_Mo_numerator_124 ?_
  refine gw_iadd d_Mo_numerator_125 ?_
  refine gw_istore 4 d_Mo_numerator_126 (Nat.le_of_ble_eq_true rfl) rfl ?_
  refine gw_iload 4 d_Mo_numerator_128 rfl ?_
  refine gw_aload_n 0 d_Mo_numerator_130 rfl rfl ?_
  refine gw_getR d_Mo_numerator_131 fl_Mo_28 (ga_oM) rfl ?_
  refine gw_iconst d_Mo_numerator_134 ?_
  refine gw_iald d_Mo_numerator_135 (ga_aM7) (by decide) (by decide) ?_
  refine gw_aload_n 0 d_Mo_numerator_136 rfl rfl ?_
  refine gw_getR d_Mo_numerator_137 fl_Mo_28 (ga_oM) rfl ?_
  refine gw_iconst d_Mo_numerator_140 ?_
  refine gw_iald d_Mo_numerator_141 (ga_aM7) (by decide) (by decide) ?_
  refine gw_imul d_Mo_numerator_142 ?_
  refine gw_aload_n 0 d_Mo_numerator_143 rfl rfl ?_
  refine gw_getR d_Mo_numerator_144 fl_Mo_7 (ga_oM) rfl ?_
  refine gw_aload_n 0 d_Mo_numerator_147 rfl rfl ?_
  refine gw_getR d_Mo_numerator_148 fl_Mo_25 (ga_oM) rfl ?_
  refine gw_iconst d_Mo_numerator_151 ?_
  refine gw_iald d_Mo_numerator_152 (ga_aM6) (by decide) (by decide) ?_
  refine gw_aload_n 0 d_Mo_numerator_153 rfl rfl ?_
  refine gw_getR d_Mo_numerator_154 fl_Mo_25 (ga_oM) rfl ?_
  refine gw_iconst d_Mo_numerator_157 ?_
  refine gw_iald d_Mo_numerator_158 (ga_aM6) (by decide) (by decide) ?_
  refine gw_invS (as := [.inl (I 354 0), .inl (I 354 1)]) (rest := [.inr 349, .inl ((I 355 0) * (I 355 1)), .inl ((((((I 356 0) - (I 355 0)) * ((I 356 1) - (I 355 1))) * (I 349 ((38 + 4 * (7 * (I 353 0) + (I 353 1))) + v1).toNat)) + (((I 355 0) * ((I 356 1) - (I 355 1))) * (I 349 ((38 + 4 * (7 * (I 354 0) + (I 353 1))) + v1).toNat))) + ((((I 356 0) - (I 355 0)) * (I 355 1)) * (I 349 ((38 + 4 * (7 * (I 353 0) + (I 354 1))) + v1).toNat)))]) (d' := d) d_Mo_numerator_159 lk_Mo_59 rfl (Nat.le_of_ble_eq_true rfl) (Nat.le_of_ble_eq_true rfl) rfl rfl (s_Mo_at  ?_)
  show ga_W G (d + 1) mt_Mo_numerator 162 [some (.inr 348), some (.inl v1), some (.inl ((I 356 0) - (I 355 0))), some (.inl ((I 356 1) - (I 355 1))), some (.inl ((((((I 356 0) - (I 355 0)) * ((I 356 1) - (I 355 1))) * (I 349 ((38 + 4 * (7 * (I 353 0) + (I 353 1))) + v1).toNat)) + (((I 355 0) * ((I 356 1) - (I 355 1))) * (I 349 ((38 + 4 * (7 * (I 354 0) + (I 353 1))) + v1).toNat))) + ((((I 356 0) - (I 355 0)) * (I 355 1)) * (I 349 ((38 + 4 * (7 * (I 353 0) + (I 354 1))) + v1).toNat))))] [.inl (38 + 4 * (7 * (I 354 0) + (I 354 1))), .inr 349, .inl ((I 355 0) * (I 355 1)), .inl ((((((I 356 0) - (I 355 0)) * ((I 356 1) - (I 355 1))) * (I 349 ((38 + 4 * (7 * (I 353 0) + (I 353 1))) + v1).toNat)) + (((I 355 0) * ((I 356 1) - (I 355 1))) * (I 349 ((38 + 4 * (7 * (I 354 0) + (I 353 1))) + v1).toNat))) + ((((I 356 0) - (I 355 0)) * (I 355 1)) * (I 349 ((38 + 4 * (7 * (I 353 0) + (I 354 1))) + v1).toNat)))] I E
  refine gw_iload_n 1 d_Mo_numerator_162 rfl rfl ?_
  refine gw_iadd d_Mo_numerator_163 ?_
  obtain ⟨g7, h⟩ := h
  obtain ⟨g8, h⟩ := h
  refine gw_iald d_Mo_numerator_164 (ga_aM1) g7 g8 ?_
  refine gw_imul d_Mo_numerator_165 ?_
  refine gw_iadd d_Mo_numerator_166 ?_
  exact gw_ireturn d_Mo_numerator_167 rfl h

section MF
variable {G : ga_G} {d : Nat} {I : ga_I} {E : Option ga_V → ga_I → Prop}
theorem mo_n_of (h0 : mo_ok I 0) (h1 : mo_ok I 1) : mo_n I := ⟨⟨h0.1, h0.2.1⟩, h1.1, h1.2.1⟩
theorem s_Mo_locatePoint (h0 : mo_ok I 0) (h1 : mo_ok I 1) (hz : mo_pz I) (h : E none (mx_lp I)) : ga_W G (d + 3) mt_Mo_locatePoint 0 (ga_en 1 [.inr 348]) [] I E := by
  obtain ⟨z1, z2, z3, z4⟩ := hz
  refine k_Mo_locatePoint_0 (fun hI => ⟨h0, mo_n_of h0 h1, by omega, z3, z1, fun I1 e1 => ?_⟩)
  have hs : I1 349 = I 349 := by rw [e1]; exact mx_lo_s I 0 _ (by omega)
  refine ⟨?_, ?_, by omega, ?_, ?_, fun I2 e2 => ?_⟩
  · show gp_ok _ _ _ _
    rw [hs]; exact h1
  · unfold mo_n
    rw [hs]; exact mo_n_of h0 h1
  · rw [hs]; exact z4
  · rw [hs]; exact z2
  · rw [hs] at e2
    rw [e2, e1]
    exact h
theorem s_Mo_denominator (h : E (some (.inl (I 356 0 * I 356 1))) I) : ga_W G d mt_Mo_denominator 0 (ga_en 1 [.inr 348]) [] I E := k_Mo_denominator_0 (fun _ => h)
theorem s_Mo_numerator (hv : gp_vk (mo_v I 0)) (hw : gp_vk (mo_v I 1)) {g : Int} (hg : 0 ≤ g ∧ g ≤ 2) (h : E (some (.inl (gp_nu (mo_v I 0) (mo_v I 1) (fun c r => I 349 (38 + 4 * (7 * c + r) + g).toNat)))) I) : ga_W G (d + 1) mt_Mo_numerator 0 (ga_en 5 [.inr 348, .inl g]) [] I E := by
  obtain ⟨v1, v2, v3, v4⟩ := hv
  obtain ⟨w1, w2, w3, w4⟩ := hw
  change 0 ≤ I 353 0 ∧ I 353 0 ≤ 6 at v1
  change 0 ≤ I 354 0 ∧ I 354 0 ≤ 6 at v2
  change 0 ≤ I 353 1 ∧ I 353 1 ≤ 6 at w1
  change 0 ≤ I 354 1 ∧ I 354 1 ≤ 6 at w2
  exact k_Mo_numerator_0 (fun hI => ⟨by omega, by omega, by omega, by omega, by omega, by omega, by omega, by omega, h⟩)
theorem mo_g_f {g : Int} (hg : 0 ≤ g ∧ g ≤ 2) (h : mo_g I) : ∀ a b : Int, 0 ≤ a → a ≤ 6 → 0 ≤ b → b ≤ 6 → 0 ≤ I 349 (38 + 4 * (7 * a + b) + g).toNat ∧ I 349 (38 + 4 * (7 * a + b) + g).toNat ≤ 9999 := fun a b h1 h2 h3 h4 => by
  rw [show (38 + 4 * (7 * a + b) + g).toNat = 38 + 4 * (7 * a + b).toNat + g.toNat by omega]
  exact h _ _ (by omega) (by omega)
end MF
theorem k_Mo_value_0 {G : ga_G} {d : Nat} {I : ga_I} {E : Option ga_V → ga_I → Prop} {v1 : Int} 
    (h : ga_RG I → (gp_vk (mo_v I 0)) ∧ ((gp_vk (mo_v I 1)) ∧ ((0 ≤ v1 ∧ v1 ≤ 2) ∧ ((ga_rg (gp_nu (mo_v I 0) (mo_v I 1) (fun c r => I 349 (38 + 4 * (7 * c + r) + v1).toNat))) ∧ ((ga_rg (I 356 0 * I 356 1)) ∧ ((0 < (I 356 0 * I 356 1)) ∧ (E (some (.inl (Int.tdiv (gp_nu (mo_v I 0) (mo_v I 1) (fun c r => I 349 (38 + 4 * (7 * c + r) + v1).toNat)) (I 356 0 * I 356 1)))) I))))))) :
    ga_W G (d + 2) mt_Mo_value 0 (ga_en 2 [.inr 348, .inl v1]) [] I E := by
  show ga_W G (d + 2) mt_Mo_value 0 [some (.inr 348), some (.inl v1)] [] I E
  refine gw_RG (fun hI1 => ?_)
  have h := h hI1
  refine gw_aload_n 0 d_Mo_value_0 rfl rfl ?_
  refine gw_iload_n 1 d_Mo_value_1 rfl rfl ?_
  obtain ⟨g1, h⟩ := h
  obtain ⟨g2, h⟩ := h
  obtain ⟨g3, h⟩ := h
  refine gw_invV (as := [.inl v1]) (k := 348) (rest := []) (d' := (d + 1)) d_Mo_value_2 lk_Mo_78 (ga_rcv (ga_oM) rfl rfl) rfl (Nat.le_of_ble_eq_true rfl) (Nat.le_of_ble_eq_true rfl) rfl rfl (s_Mo_numerator g1 g2 g3 ?_)
  show ga_W G (d + 2) mt_Mo_value 5 [some (.inr 348), some (.inl v1)] [.inl (gp_nu (mo_v I 0) (mo_v I 1) (fun c r => I 349 (38 + 4 * (7 * c + r) + v1).toNat))] I E
  refine gw_aload_n 0 d_Mo_value_5 rfl rfl ?_
  refine gw_invV (as := []) (k := 348) (rest := [.inl (gp_nu (mo_v I 0) (mo_v I 1) (fun c r => I 349 (38 + 4 * (7 * c + r) + v1).toNat))]) (d' := (d + 1)) d_Mo_value_6 lk_Mo_81 (ga_rcv (ga_oM) rfl rfl) rfl (Nat.le_of_ble_eq_true rfl) (Nat.le_of_ble_eq_true rfl) rfl rfl (s_Mo_denominator  ?_)
  show ga_W G (d + 2) mt_Mo_value 9 [some (.inr 348), some (.inl v1)] [.inl (I 356 0 * I 356 1), .inl (gp_nu (mo_v I 0) (mo_v I 1) (fun c r => I 349 (38 + 4 * (7 * c + r) + v1).toNat))] I E
  obtain ⟨g4, h⟩ := h
  obtain ⟨g5, h⟩ := h
  obtain ⟨g6, h⟩ := h
  refine gw_idiv d_Mo_value_9 g4 g5 g6 ?_
  exact gw_ireturn d_Mo_value_10 rfl h

section MF
variable {G : ga_G} {d : Nat} {I : ga_I} {E : Option ga_V → ga_I → Prop}
theorem s_Mo_value (hv : gp_vk (mo_v I 0)) (hw : gp_vk (mo_v I 1)) {g : Int} (hg : 0 ≤ g ∧ g ≤ 2) (hm : mo_g I) (h : E (some (.inl (gp_va (mo_v I 0) (mo_v I 1) (fun c r => I 349 (38 + 4 * (7 * c + r) + g).toNat)))) I) : ga_W G (d + 2) mt_Mo_value 0 (ga_en 2 [.inr 348, .inl g]) [] I E := by
  obtain ⟨b1, b2, b3⟩ := gp_nu_bd hv hw (mo_g_f hg hm)
  have e : I 356 0 * I 356 1 = (mo_v I 0).2.2.2 * (mo_v I 1).2.2.2 := rfl
  refine k_Mo_value_0 (fun hI => ⟨hv, hw, hg, ⟨by omega, by omega⟩, ⟨?_, ?_⟩, ?_, h⟩) <;> rw [e] <;> omega
end MF
theorem k_Mo_noteValues_0 {G : ga_G} {d : Nat} {I : ga_I} {E : Option ga_V → ga_I → Prop}  
    (h : ga_RG I → (mo_ok I 0) ∧ ((mo_ok I 1) ∧ ((mo_pz I) ∧ ((∀ I1 : ga_I, I1 = (mx_lp I) → ga_W G (d + 4) mt_Mo_noteValues 6 [some (.inr 348), some (.inl 0)] [] I1 E))))) :
    ga_W G (d + 4) mt_Mo_noteValues 0 (ga_en 2 [.inr 348]) [] I E := by
  show ga_W G (d + 4) mt_Mo_noteValues 0 [some (.inr 348), none] [] I E
  refine gw_RG (fun hI1 => ?_)
  have h := h hI1
  refine gw_aload_n 0 d_Mo_noteValues_0 rfl rfl ?_
  obtain ⟨g1, h⟩ := h
  obtain ⟨g2, h⟩ := h
  obtain ⟨g3, h⟩ := h
  refine gw_invV (as := []) (k := 348) (rest := []) (d' := (d + 3)) d_Mo_noteValues_1 lk_Mo_154 (ga_rcv (ga_oM) rfl rfl) rfl (Nat.le_of_ble_eq_true rfl) (Nat.le_of_ble_eq_true rfl) rfl rfl (s_Mo_locatePoint g1 g2 g3 ?_)
  show ga_W G (d + 4) mt_Mo_noteValues 4 [some (.inr 348), none] [] (mx_lp I) E
  refine gw_nm (fun I1 q1 => ?_)
  have h := h I1 q1
  refine gw_RG (fun hI2 => ?_)
  refine gw_iconst d_Mo_noteValues_4 ?_
  refine gw_istore_n 1 d_Mo_noteValues_5 rfl (Nat.le_of_ble_eq_true rfl) rfl ?_
  exact gw_le h (by exact ⟨rfl, ⟨rfl, trivial⟩⟩)
theorem k_Mo_noteValues_6 {G : ga_G} {d : Nat} {I : ga_I} {E : Option ga_V → ga_I → Prop} {v1 : Int} (r1 : ga_rg v1)
    (h : ga_RG I → ((3 ≤ v1) → E none I) ∧ ((¬ (3 ≤ v1)) → (gp_vk (mo_v I 0)) ∧ ((gp_vk (mo_v I 1)) ∧ ((0 ≤ v1 ∧ v1 ≤ 2) ∧ ((mo_g I) ∧ ((∀ z1 : Int, z1 = gp_va (mo_v I 0) (mo_v I 1) (fun c r => I 349 (38 + 4 * (7 * c + r) + v1).toNat) → (0 ≤ v1) ∧ ((v1 < 3) ∧ ((∀ I1 : ga_I, I1 = (ga_up I 357 v1.toNat (ga_wr z1)) → ga_W G (d + 4) mt_Mo_noteValues 6 [some (.inr 348), some (.inl (v1 + 1))] [] I1 E)))))))))) :
    ga_W G (d + 4) mt_Mo_noteValues 6 [some (.inr 348), some (.inl v1)] [] I E := by
  refine gw_RG (fun hI1 => ?_)
  have h := h hI1
  refine gw_iload_n 1 d_Mo_noteValues_6 rfl rfl ?_
  refine gw_iconst d_Mo_noteValues_7 ?_
  refine gw_icmp_ge 28 d_Mo_noteValues_8 (by decide) r1 ⟨by decide, by decide⟩ (fun hc => ?_) (fun hc => ?_)
  · have h := h.1 hc
    exact gw_return d_Mo_noteValues_28 rfl h
  · have h := h.2 hc
    refine gw_aload_n 0 d_Mo_noteValues_11 rfl rfl ?_
    refine gw_getR d_Mo_noteValues_12 fl_Mo_34 (ga_oM) rfl ?_
    refine gw_iload_n 1 d_Mo_noteValues_15 rfl rfl ?_
    refine gw_aload_n 0 d_Mo_noteValues_16 rfl rfl ?_
    refine gw_iload_n 1 d_Mo_noteValues_17 rfl rfl ?_
    obtain ⟨g1, h⟩ := h
    obtain ⟨g2, h⟩ := h
    obtain ⟨g3, h⟩ := h
    obtain ⟨g4, h⟩ := h
    refine gw_invV (as := [.inl v1]) (k := 348) (rest := [.inl v1, .inr 357]) (d' := (d + 3)) d_Mo_noteValues_18 lk_Mo_157 (ga_rcv (ga_oM) rfl rfl) rfl (Nat.le_of_ble_eq_true rfl) (Nat.le_of_ble_eq_true rfl) rfl rfl (s_Mo_value g1 g2 g3 g4 ?_)
    show ga_W G (d + 4) mt_Mo_noteValues 21 [some (.inr 348), some (.inl v1)] [.inl (gp_va (mo_v I 0) (mo_v I 1) (fun c r => I 349 (38 + 4 * (7 * c + r) + v1).toNat)), .inl v1, .inr 357] I E
    refine gw_nz (z := gp_va (mo_v I 0) (mo_v I 1) (fun c r => I 349 (38 + 4 * (7 * c + r) + v1).toNat)) (fun z1 q1 => ?_)
    have h := h z1 q1
    obtain ⟨g5, h⟩ := h
    obtain ⟨g6, h⟩ := h
    refine gw_iast d_Mo_noteValues_21 (ga_aM9) g5 g6 ?_
    refine gw_nm (J := (ga_up I 357 v1.toNat (ga_wr z1))) (fun I1 q2 => ?_)
    have h := h I1 q2
    refine gw_RG (fun hI2 => ?_)
    refine gw_iinc 1 d_Mo_noteValues_22 rfl rfl ?_
    refine gw_goto 6 d_Mo_noteValues_25 (by decide) ?_
    exact gw_le h (by exact ⟨rfl, ⟨rfl, trivial⟩⟩)

theorem k_Mo_jump_0 {G : ga_G} {d : Nat} {I : ga_I} {E : Option ga_V → ga_I → Prop}  
    (h : ga_RG I → (mo_ok I 0) ∧ ((mo_ok I 1) ∧ ((mo_pz I) ∧ ((∀ I1 : ga_I, I1 = (mx_lp I) → ga_W G (d + 4) mt_Mo_jump 8 [some (.inr 348), some (.inl 0), some (.inl 0), none] [] I1 E))))) :
    ga_W G (d + 4) mt_Mo_jump 0 (ga_en 4 [.inr 348]) [] I E := by
  show ga_W G (d + 4) mt_Mo_jump 0 [some (.inr 348), none, none, none] [] I E
  refine gw_RG (fun hI1 => ?_)
  have h := h hI1
  refine gw_aload_n 0 d_Mo_jump_0 rfl rfl ?_
  obtain ⟨g1, h⟩ := h
  obtain ⟨g2, h⟩ := h
  obtain ⟨g3, h⟩ := h
  refine gw_invV (as := []) (k := 348) (rest := []) (d' := (d + 3)) d_Mo_jump_1 lk_Mo_154 (ga_rcv (ga_oM) rfl rfl) rfl (Nat.le_of_ble_eq_true rfl) (Nat.le_of_ble_eq_true rfl) rfl rfl (s_Mo_locatePoint g1 g2 g3 ?_)
  show ga_W G (d + 4) mt_Mo_jump 4 [some (.inr 348), none, none, none] [] (mx_lp I) E
  refine gw_nm (fun I1 q1 => ?_)
  have h := h I1 q1
  refine gw_RG (fun hI2 => ?_)
  refine gw_iconst d_Mo_jump_4 ?_
  refine gw_istore_n 1 d_Mo_jump_5 rfl (Nat.le_of_ble_eq_true rfl) rfl ?_
  refine gw_iconst d_Mo_jump_6 ?_
  refine gw_istore_n 2 d_Mo_jump_7 rfl (Nat.le_of_ble_eq_true rfl) rfl ?_
  exact gw_le h (by exact ⟨rfl, ⟨rfl, ⟨rfl, trivial⟩⟩⟩)
theorem k_Mo_jump_8 {G : ga_G} {d : Nat} {I : ga_I} {E : Option ga_V → ga_I → Prop} {v1 : Int} {v2 : Int} (r1 : ga_rg v1) (r2 : ga_rg v2)
    (h : ga_RG I → ((3 ≤ v2) → E (some (.inl v1)) I) ∧ ((¬ (3 ≤ v2)) → (gp_vk (mo_v I 0)) ∧ ((gp_vk (mo_v I 1)) ∧ ((0 ≤ v2 ∧ v2 ≤ 2) ∧ ((mo_g I) ∧ ((∀ z1 : Int, z1 = gp_va (mo_v I 0) (mo_v I 1) (fun c r => I 349 (38 + 4 * (7 * c + r) + v2).toNat) → (0 ≤ v2) ∧ ((v2 < 3) ∧ ((ga_rg z1) ∧ ((∀ z2 : Int, z2 = ((z1 - (I 357 v2.toNat)).natAbs : Int) → (ga_rg z2) ∧ (((z2 ≤ v1) → ga_W G (d + 4) mt_Mo_jump 8 [some (.inr 348), some (.inl v1), some (.inl (v2 + 1)), none] [] I E) ∧ ((¬ (z2 ≤ v1)) → ga_W G (d + 4) mt_Mo_jump 8 [some (.inr 348), some (.inl z2), some (.inl (v2 + 1)), none] [] I E))))))))))))) :
    ga_W G (d + 4) mt_Mo_jump 8 [some (.inr 348), some (.inl v1), some (.inl v2), none] [] I E := by
  refine gw_RG (fun hI1 => ?_)
  have h := h hI1
  refine gw_iload_n 2 d_Mo_jump_8 rfl rfl ?_
  refine gw_iconst d_Mo_jump_9 ?_
  refine gw_icmp_ge 45 d_Mo_jump_10 (by decide) r2 ⟨by decide, by decide⟩ (fun hc => ?_) (fun hc => ?_)
  · have h := h.1 hc
    refine gw_iload_n 1 d_Mo_jump_45 rfl rfl ?_
    exact gw_ireturn d_Mo_jump_46 rfl h
  · have h := h.2 hc
    refine gw_aload_n 0 d_Mo_jump_13 rfl rfl ?_
    refine gw_iload_n 2 d_Mo_jump_14 rfl rfl ?_
    obtain ⟨g1, h⟩ := h
    obtain ⟨g2, h⟩ := h
    obtain ⟨g3, h⟩ := h
    obtain ⟨g4, h⟩ := h
    refine gw_invV (as := [.inl v2]) (k := 348) (rest := []) (d' := (d + 3)) d_Mo_jump_15 lk_Mo_157 (ga_rcv (ga_oM) rfl rfl) rfl (Nat.le_of_ble_eq_true rfl) (Nat.le_of_ble_eq_true rfl) rfl rfl (s_Mo_value g1 g2 g3 g4 ?_)
    show ga_W G (d + 4) mt_Mo_jump 18 [some (.inr 348), some (.inl v1), some (.inl v2), none] [.inl (gp_va (mo_v I 0) (mo_v I 1) (fun c r => I 349 (38 + 4 * (7 * c + r) + v2).toNat))] I E
    refine gw_nz (z := gp_va (mo_v I 0) (mo_v I 1) (fun c r => I 349 (38 + 4 * (7 * c + r) + v2).toNat)) (fun z1 q1 => ?_)
    have h := h z1 q1
    refine gw_aload_n 0 d_Mo_jump_18 rfl rfl ?_
    refine gw_getR d_Mo_jump_19 fl_Mo_34 (ga_oM) rfl ?_
    refine gw_iload_n 2 d_Mo_jump_22 rfl rfl ?_
    obtain ⟨g5, h⟩ := h
    obtain ⟨g6, h⟩ := h
    refine gw_iald d_Mo_jump_23 (ga_aM9) g5 g6 ?_
    obtain ⟨g7, h⟩ := h
    refine gw_invS (as := [.inl z1, .inl (I 357 v2.toNat)]) (rest := []) (d' := (d + 3)) d_Mo_jump_24 lk_Mo_85 rfl (Nat.le_of_ble_eq_true rfl) (Nat.le_of_ble_eq_true rfl) rfl rfl (s_Mo_apart g7 (hI1 _ _) ?_)
    show ga_W G (d + 4) mt_Mo_jump 27 [some (.inr 348), some (.inl v1), some (.inl v2), none] [.inl ((z1 - (I 357 v2.toNat)).natAbs : Int)] I E
    refine gw_nz (z := ((z1 - (I 357 v2.toNat)).natAbs : Int)) (fun z2 q2 => ?_)
    have h := h z2 q2
    refine gw_istore_n 3 d_Mo_jump_27 rfl (Nat.le_of_ble_eq_true rfl) rfl ?_
    refine gw_iload_n 3 d_Mo_jump_28 rfl rfl ?_
    refine gw_iload_n 1 d_Mo_jump_29 rfl rfl ?_
    obtain ⟨g8, h⟩ := h
    refine gw_icmp_le 37 d_Mo_jump_30 (by decide) g8 r1 (fun hc => ?_) (fun hc => ?_)
    · have h := h.1 hc
      refine gw_iload_n 1 d_Mo_jump_37 rfl rfl ?_
      refine gw_istore_n 1 d_Mo_jump_38 rfl (Nat.le_of_ble_eq_true rfl) rfl ?_
      refine gw_iinc 2 d_Mo_jump_39 rfl rfl ?_
      refine gw_goto 8 d_Mo_jump_42 (by decide) ?_
      exact gw_le h (by exact ⟨rfl, ⟨rfl, ⟨rfl, trivial⟩⟩⟩)
    · have h := h.2 hc
      refine gw_iload_n 3 d_Mo_jump_33 rfl rfl ?_
      refine gw_goto 38 d_Mo_jump_34 (by decide) ?_
      refine gw_istore_n 1 d_Mo_jump_38 rfl (Nat.le_of_ble_eq_true rfl) rfl ?_
      refine gw_iinc 2 d_Mo_jump_39 rfl rfl ?_
      refine gw_goto 8 d_Mo_jump_42 (by decide) ?_
      exact gw_le h (by exact ⟨rfl, ⟨rfl, ⟨rfl, trivial⟩⟩⟩)

theorem k_Mo_isIgnored_0 {G : ga_G} {d : Nat} {I : ga_I} {E : Option ga_V → ga_I → Prop} {v1 : Int} {v2 : Int} (r1 : ga_rg v1) (r2 : ga_rg v2)
    (h : ga_RG I → (ga_rg ((v1 - (I 349 234)).natAbs : Int)) ∧ ((((I 349 238) ≤ ((v1 - (I 349 234)).natAbs : Int)) → E (some (.inl 0)) I) ∧ ((¬ ((I 349 238) ≤ ((v1 - (I 349 234)).natAbs : Int))) → (ga_rg ((v2 - (I 349 235)).natAbs : Int)) ∧ ((((I 349 238) ≤ ((v2 - (I 349 235)).natAbs : Int)) → E (some (.inl 0)) I) ∧ ((¬ ((I 349 238) ≤ ((v2 - (I 349 235)).natAbs : Int))) → E (some (.inl 1)) I))))) :
    ga_W G (d + 1) mt_Mo_isIgnored 0 (ga_en 3 [.inr 348, .inl v1, .inl v2]) [] I E := by
  show ga_W G (d + 1) mt_Mo_isIgnored 0 [some (.inr 348), some (.inl v1), some (.inl v2)] [] I E
  refine gw_RG (fun hI1 => ?_)
  have h := h hI1
  refine gw_iload_n 1 d_Mo_isIgnored_0 rfl rfl ?_
  refine gw_aload_n 0 d_Mo_isIgnored_1 rfl rfl ?_
  refine gw_getR d_Mo_isIgnored_2 fl_Mo_7 (ga_oM) rfl ?_
  refine gw_sipush d_Mo_isIgnored_5 (by decide +kernel) ?_
  refine gw_iald d_Mo_isIgnored_8 (ga_aM1) (by decide) (by decide) ?_
  refine gw_invS (as := [.inl v1, .inl (I 349 234)]) (rest := []) (d' := d) d_Mo_isIgnored_9 lk_Mo_85 rfl (Nat.le_of_ble_eq_true rfl) (Nat.le_of_ble_eq_true rfl) rfl rfl (s_Mo_apart r1 (hI1 _ _) ?_)
  show ga_W G (d + 1) mt_Mo_isIgnored 12 [some (.inr 348), some (.inl v1), some (.inl v2)] [.inl ((v1 - (I 349 234)).natAbs : Int)] I E
  refine gw_aload_n 0 d_Mo_isIgnored_12 rfl rfl ?_
  refine gw_getR d_Mo_isIgnored_13 fl_Mo_7 (ga_oM) rfl ?_
  refine gw_sipush d_Mo_isIgnored_16 (by decide +kernel) ?_
  refine gw_iald d_Mo_isIgnored_19 (ga_aM1) (by decide) (by decide) ?_
  obtain ⟨g1, h⟩ := h
  refine gw_icmp_ge 50 d_Mo_isIgnored_20 (by decide) g1 (hI1 _ _) (fun hc => ?_) (fun hc => ?_)
  · have h := h.1 hc
    refine gw_iconst d_Mo_isIgnored_50 ?_
    exact gw_zreturn d_Mo_isIgnored_51 rfl (by decide) h
  · have h := h.2 hc
    refine gw_iload_n 2 d_Mo_isIgnored_23 rfl rfl ?_
    refine gw_aload_n 0 d_Mo_isIgnored_24 rfl rfl ?_
    refine gw_getR d_Mo_isIgnored_25 fl_Mo_7 (ga_oM) rfl ?_
    refine gw_sipush d_Mo_isIgnored_28 (by decide +kernel) ?_
    refine gw_iald d_Mo_isIgnored_31 (ga_aM1) (by decide) (by decide) ?_
    refine gw_invS (as := [.inl v2, .inl (I 349 235)]) (rest := []) (d' := d) d_Mo_isIgnored_32 lk_Mo_85 rfl (Nat.le_of_ble_eq_true rfl) (Nat.le_of_ble_eq_true rfl) rfl rfl (s_Mo_apart r2 (hI1 _ _) ?_)
    show ga_W G (d + 1) mt_Mo_isIgnored 35 [some (.inr 348), some (.inl v1), some (.inl v2)] [.inl ((v2 - (I 349 235)).natAbs : Int)] I E
    refine gw_aload_n 0 d_Mo_isIgnored_35 rfl rfl ?_
    refine gw_getR d_Mo_isIgnored_36 fl_Mo_7 (ga_oM) rfl ?_
    refine gw_sipush d_Mo_isIgnored_39 (by decide +kernel) ?_
    refine gw_iald d_Mo_isIgnored_42 (ga_aM1) (by decide) (by decide) ?_
    obtain ⟨g2, h⟩ := h
    refine gw_icmp_ge 50 d_Mo_isIgnored_43 (by decide) g2 (hI1 _ _) (fun hc => ?_) (fun hc => ?_)
    · have h := h.1 hc
      refine gw_iconst d_Mo_isIgnored_50 ?_
      exact gw_zreturn d_Mo_isIgnored_51 rfl (by decide) h
    · have h := h.2 hc
      refine gw_iconst d_Mo_isIgnored_46 ?_
      refine gw_goto 51 d_Mo_isIgnored_47 (by decide) ?_
      exact gw_zreturn d_Mo_isIgnored_51 rfl (by decide) h

theorem k_Mo_newEntry_0 {G : ga_G} {d : Nat} {I : ga_I} {E : Option ga_V → ga_I → Prop}  
    (h : ga_RG I → (((I 349 254) ≠ 20) → (∀ I1 : ga_I, I1 = (ga_up I 349 254 (ga_wr ((I 349 254) + 1))) → E (some (.inl (255 + (8 * ((I1 349 254) - 1))))) I1)) ∧ (((I 349 254) = 20) → ga_W G d mt_Mo_newEntry 17 [some (.inr 348), some (.inl 255)] [] I E)) :
    ga_W G d mt_Mo_newEntry 0 (ga_en 2 [.inr 348]) [] I E := by
  show ga_W G d mt_Mo_newEntry 0 [some (.inr 348), none] [] I E
  refine gw_RG (fun hI1 => ?_)
  have h := h hI1
  refine gw_aload_n 0 d_Mo_newEntry_0 rfl rfl ?_
  refine gw_getR d_Mo_newEntry_1 fl_Mo_7 (ga_oM) rfl ?_
  refine gw_sipush d_Mo_newEntry_4 (by decide +kernel) ?_
  refine gw_iald d_Mo_newEntry_7 (ga_aM1) (by decide) (by decide) ?_
  refine gw_bipush d_Mo_newEntry_8 (by decide +kernel) ?_
  refine gw_icmp_ne 57 d_Mo_newEntry_10 (by decide) (hI1 _ _) ⟨by decide, by decide⟩ (fun hc => ?_) (fun hc => ?_)
  · have h := h.1 hc
    refine gw_aload_n 0 d_Mo_newEntry_57 rfl rfl ?_
    refine gw_getR d_Mo_newEntry_58 fl_Mo_7 (ga_oM) rfl ?_
    refine gw_sipush d_Mo_newEntry_61 (by decide +kernel) ?_
    refine gw_dup2 d_Mo_newEntry_64 ?_
    refine gw_iald d_Mo_newEntry_65 (ga_aM1) (by decide) (by decide) ?_
    refine gw_iconst d_Mo_newEntry_66 ?_
    refine gw_iadd d_Mo_newEntry_67 ?_
    refine gw_iast d_Mo_newEntry_68 (ga_aM1) (by decide) (by decide) ?_
    refine gw_nm (J := (ga_up I 349 254 (ga_wr ((I 349 254) + 1)))) (fun I1 q1 => ?_)
    have h := h I1 q1
    refine gw_RG (fun hI2 => ?_)
    refine gw_sipush d_Mo_newEntry_69 (by decide +kernel) ?_
    refine gw_bipush d_Mo_newEntry_72 (by decide +kernel) ?_
    refine gw_aload_n 0 d_Mo_newEntry_74 rfl rfl ?_
    refine gw_getR d_Mo_newEntry_75 fl_Mo_7 (ga_oM) rfl ?_
    refine gw_sipush d_Mo_newEntry_78 (by decide +kernel) ?_
    refine gw_iald d_Mo_newEntry_81 (ga_aM1) (by decide) (by decide) ?_
    refine gw_iconst d_Mo_newEntry_82 ?_
    refine gw_isub d_Mo_newEntry_83 ?_
    refine gw_imul d_Mo_newEntry_84 ?_
    refine gw_iadd d_Mo_newEntry_85 ?_
    exact gw_ireturn d_Mo_newEntry_86 rfl h
  · have h := h.2 hc
    refine gw_sipush d_Mo_newEntry_13 (by decide +kernel) ?_
    refine gw_istore_n 1 d_Mo_newEntry_16 rfl (Nat.le_of_ble_eq_true rfl) rfl ?_
    exact gw_le h (by exact ⟨rfl, ⟨rfl, trivial⟩⟩)
theorem k_Mo_newEntry_17 {G : ga_G} {d : Nat} {I : ga_I} {E : Option ga_V → ga_I → Prop} {v1 : Int} (r1 : ga_rg v1)
    (h : ga_RG I → ((407 ≤ v1) → (∀ I1 : ga_I, I1 = (ga_up I 349 254 (ga_wr ((I 349 254) - 1))) → (∀ I2 : ga_I, I2 = (ga_up I1 349 254 (ga_wr ((I1 349 254) + 1))) → E (some (.inl (255 + (8 * ((I2 349 254) - 1))))) I2))) ∧ ((¬ (407 ≤ v1)) → (0 ≤ (v1 + 8)) ∧ (((v1 + 8) < 1120) ∧ ((0 ≤ v1) ∧ ((v1 < 1120) ∧ ((∀ I3 : ga_I, I3 = (ga_up I 349 v1.toNat (I 349 (v1 + 8).toNat)) → ga_W G d mt_Mo_newEntry 17 [some (.inr 348), some (.inl (v1 + 1))] [] I3 E))))))) :
    ga_W G d mt_Mo_newEntry 17 [some (.inr 348), some (.inl v1)] [] I E := by
  refine gw_RG (fun hI1 => ?_)
  have h := h hI1
  refine gw_iload_n 1 d_Mo_newEntry_17 rfl rfl ?_
  refine gw_sipush d_Mo_newEntry_18 (by decide +kernel) ?_
  refine gw_icmp_ge 45 d_Mo_newEntry_21 (by decide) r1 ⟨by decide, by decide⟩ (fun hc => ?_) (fun hc => ?_)
  · have h := h.1 hc
    refine gw_aload_n 0 d_Mo_newEntry_45 rfl rfl ?_
    refine gw_getR d_Mo_newEntry_46 fl_Mo_7 (ga_oM) rfl ?_
    refine gw_sipush d_Mo_newEntry_49 (by decide +kernel) ?_
    refine gw_dup2 d_Mo_newEntry_52 ?_
    refine gw_iald d_Mo_newEntry_53 (ga_aM1) (by decide) (by decide) ?_
    refine gw_iconst d_Mo_newEntry_54 ?_
    refine gw_isub d_Mo_newEntry_55 ?_
    refine gw_iast d_Mo_newEntry_56 (ga_aM1) (by decide) (by decide) ?_
    refine gw_nm (J := (ga_up I 349 254 (ga_wr ((I 349 254) - 1)))) (fun I1 q1 => ?_)
    have h := h I1 q1
    refine gw_RG (fun hI2 => ?_)
    refine gw_aload_n 0 d_Mo_newEntry_57 rfl rfl ?_
    refine gw_getR d_Mo_newEntry_58 fl_Mo_7 (ga_oM) rfl ?_
    refine gw_sipush d_Mo_newEntry_61 (by decide +kernel) ?_
    refine gw_dup2 d_Mo_newEntry_64 ?_
    refine gw_iald d_Mo_newEntry_65 (ga_aM1) (by decide) (by decide) ?_
    refine gw_iconst d_Mo_newEntry_66 ?_
    refine gw_iadd d_Mo_newEntry_67 ?_
    refine gw_iast d_Mo_newEntry_68 (ga_aM1) (by decide) (by decide) ?_
    refine gw_nm (J := (ga_up I1 349 254 (ga_wr ((I1 349 254) + 1)))) (fun I2 q2 => ?_)
    have h := h I2 q2
    refine gw_RG (fun hI3 => ?_)
    refine gw_sipush d_Mo_newEntry_69 (by decide +kernel) ?_
    refine gw_bipush d_Mo_newEntry_72 (by decide +kernel) ?_
    refine gw_aload_n 0 d_Mo_newEntry_74 rfl rfl ?_
    refine gw_getR d_Mo_newEntry_75 fl_Mo_7 (ga_oM) rfl ?_
    refine gw_sipush d_Mo_newEntry_78 (by decide +kernel) ?_
    refine gw_iald d_Mo_newEntry_81 (ga_aM1) (by decide) (by decide) ?_
    refine gw_iconst d_Mo_newEntry_82 ?_
    refine gw_isub d_Mo_newEntry_83 ?_
    refine gw_imul d_Mo_newEntry_84 ?_
    refine gw_iadd d_Mo_newEntry_85 ?_
    exact gw_ireturn d_Mo_newEntry_86 rfl h
  · have h := h.2 hc
    refine gw_aload_n 0 d_Mo_newEntry_24 rfl rfl ?_
    refine gw_getR d_Mo_newEntry_25 fl_Mo_7 (ga_oM) rfl ?_
    refine gw_iload_n 1 d_Mo_newEntry_28 rfl rfl ?_
    refine gw_aload_n 0 d_Mo_newEntry_29 rfl rfl ?_
    refine gw_getR d_Mo_newEntry_30 fl_Mo_7 (ga_oM) rfl ?_
    refine gw_iload_n 1 d_Mo_newEntry_33 rfl rfl ?_
    refine gw_bipush d_Mo_newEntry_34 (by decide +kernel) ?_
    refine gw_iadd d_Mo_newEntry_36 ?_
    obtain ⟨g1, h⟩ := h
    obtain ⟨g2, h⟩ := h
    refine gw_iald d_Mo_newEntry_37 (ga_aM1) g1 g2 ?_
    obtain ⟨g3, h⟩ := h
    obtain ⟨g4, h⟩ := h
    refine gw_iast d_Mo_newEntry_38 (ga_aM1) g3 g4 ?_
    rw [ga_wr_eq (z := (I 349 (v1 + 8).toNat)) (hI1 _ _)]
    refine gw_nm (J := (ga_up I 349 v1.toNat (I 349 (v1 + 8).toNat))) (fun I3 q3 => ?_)
    have h := h I3 q3
    refine gw_RG (fun hI4 => ?_)
    refine gw_iinc 1 d_Mo_newEntry_39 rfl rfl ?_
    refine gw_goto 17 d_Mo_newEntry_42 (by decide) ?_
    exact gw_le h (by exact ⟨rfl, ⟨rfl, trivial⟩⟩)

theorem k_Mo_refusalOf_0 {G : ga_G} {d : Nat} {I : ga_I} {E : Option ga_V → ga_I → Prop} {v1 : Int} {v2 : Int} {v3 : Int} {v4 : Int} {v5 : Int} (r1 : ga_rg v1) (r5 : ga_rg v5)
    (h : ga_RG I → (0 ≤ ((38 + 4 * (7 * v2 + v3)) + 3)) ∧ ((((38 + 4 * (7 * v2 + v3)) + 3) < 1120) ∧ ((0 ≤ ((38 + 4 * (7 * v2 + v3)) + v4)) ∧ ((((38 + 4 * (7 * v2 + v3)) + v4) < 1120) ∧ ((((I 349 ((38 + 4 * (7 * v2 + v3)) + 3).toNat) = (-1)) → (0 ≤ ((241 + (3 * v1)) + 0)) ∧ ((((241 + (3 * v1)) + 0) < 1120) ∧ ((ga_rg (((I 349 ((38 + 4 * (7 * v2 + v3)) + v4).toNat) - v5).natAbs : Int)) ∧ ((((((I 349 ((38 + 4 * (7 * v2 + v3)) + v4).toNat) - v5).natAbs : Int) ≤ (I 349 ((241 + (3 * v1)) + 0).toNat)) → (0 ≤ ((241 + (3 * v1)) + 1)) ∧ ((((241 + (3 * v1)) + 1) < 1120) ∧ ((((((I 349 ((38 + 4 * (7 * v2 + v3)) + v4).toNat) - v5).natAbs : Int) ≤ (I 349 ((241 + (3 * v1)) + 1).toNat)) → E (some (.inl 0)) I) ∧ ((¬ ((((I 349 ((38 + 4 * (7 * v2 + v3)) + v4).toNat) - v5).natAbs : Int) ≤ (I 349 ((241 + (3 * v1)) + 1).toNat))) → E (some (.inl 3)) I)))) ∧ ((¬ ((((I 349 ((38 + 4 * (7 * v2 + v3)) + v4).toNat) - v5).natAbs : Int) ≤ (I 349 ((241 + (3 * v1)) + 0).toNat))) → E (some (.inl 2)) I))))) ∧ ((¬ ((I 349 ((38 + 4 * (7 * v2 + v3)) + 3).toNat) = (-1))) → (((I 349 ((38 + 4 * (7 * v2 + v3)) + 3).toNat) = v1) → (0 ≤ ((241 + (3 * v1)) + 0)) ∧ ((((241 + (3 * v1)) + 0) < 1120) ∧ ((ga_rg (((I 349 ((38 + 4 * (7 * v2 + v3)) + v4).toNat) - v5).natAbs : Int)) ∧ ((((((I 349 ((38 + 4 * (7 * v2 + v3)) + v4).toNat) - v5).natAbs : Int) ≤ (I 349 ((241 + (3 * v1)) + 0).toNat)) → (0 ≤ ((241 + (3 * v1)) + 1)) ∧ ((((241 + (3 * v1)) + 1) < 1120) ∧ ((((((I 349 ((38 + 4 * (7 * v2 + v3)) + v4).toNat) - v5).natAbs : Int) ≤ (I 349 ((241 + (3 * v1)) + 1).toNat)) → E (some (.inl 0)) I) ∧ ((¬ ((((I 349 ((38 + 4 * (7 * v2 + v3)) + v4).toNat) - v5).natAbs : Int) ≤ (I 349 ((241 + (3 * v1)) + 1).toNat))) → E (some (.inl 3)) I)))) ∧ ((¬ ((((I 349 ((38 + 4 * (7 * v2 + v3)) + v4).toNat) - v5).natAbs : Int) ≤ (I 349 ((241 + (3 * v1)) + 0).toNat))) → E (some (.inl 2)) I))))) ∧ ((¬ ((I 349 ((38 + 4 * (7 * v2 + v3)) + 3).toNat) = v1)) → E (some (.inl 1)) I))))))) :
    ga_W G (d + 1) mt_Mo_refusalOf 0 (ga_en 8 [.inr 348, .inl v1, .inl v2, .inl v3, .inl v4, .inl v5]) [] I E := by
  show ga_W G (d + 1) mt_Mo_refusalOf 0 [some (.inr 348), some (.inl v1), some (.inl v2), some (.inl v3), some (.inl v4), some (.inl v5), none, none] [] I E
  refine gw_RG (fun hI1 => ?_)
  have h := h hI1
  refine gw_aload_n 0 d_Mo_refusalOf_0 rfl rfl ?_
  refine gw_getR d_Mo_refusalOf_1 fl_Mo_7 (ga_oM) rfl ?_
  refine gw_iload_n 2 d_Mo_refusalOf_4 rfl rfl ?_
  refine gw_iload_n 3 d_Mo_refusalOf_5 rfl rfl ?_
  refine gw_invS (as := [.inl v2, .inl v3]) (rest := [.inr 349]) (d' := d) d_Mo_refusalOf_6 lk_Mo_59 rfl (Nat.le_of_ble_eq_true rfl) (Nat.le_of_ble_eq_true rfl) rfl rfl (s_Mo_at  ?_)
  show ga_W G (d + 1) mt_Mo_refusalOf 9 [some (.inr 348), some (.inl v1), some (.inl v2), some (.inl v3), some (.inl v4), some (.inl v5), none, none] [.inl (38 + 4 * (7 * v2 + v3)), .inr 349] I E
  refine gw_iconst d_Mo_refusalOf_9 ?_
  refine gw_iadd d_Mo_refusalOf_10 ?_
  obtain ⟨g1, h⟩ := h
  obtain ⟨g2, h⟩ := h
  refine gw_iald d_Mo_refusalOf_11 (ga_aM1) g1 g2 ?_
  refine gw_istore 6 d_Mo_refusalOf_12 (Nat.le_of_ble_eq_true rfl) rfl ?_
  refine gw_aload_n 0 d_Mo_refusalOf_14 rfl rfl ?_
  refine gw_getR d_Mo_refusalOf_15 fl_Mo_7 (ga_oM) rfl ?_
  refine gw_iload_n 2 d_Mo_refusalOf_18 rfl rfl ?_
  refine gw_iload_n 3 d_Mo_refusalOf_19 rfl rfl ?_
  refine gw_invS (as := [.inl v2, .inl v3]) (rest := [.inr 349]) (d' := d) d_Mo_refusalOf_20 lk_Mo_59 rfl (Nat.le_of_ble_eq_true rfl) (Nat.le_of_ble_eq_true rfl) rfl rfl (s_Mo_at  ?_)
  show ga_W G (d + 1) mt_Mo_refusalOf 23 [some (.inr 348), some (.inl v1), some (.inl v2), some (.inl v3), some (.inl v4), some (.inl v5), some (.inl (I 349 ((38 + 4 * (7 * v2 + v3)) + 3).toNat)), none] [.inl (38 + 4 * (7 * v2 + v3)), .inr 349] I E
  refine gw_iload 4 d_Mo_refusalOf_23 rfl ?_
  refine gw_iadd d_Mo_refusalOf_25 ?_
  obtain ⟨g3, h⟩ := h
  obtain ⟨g4, h⟩ := h
  refine gw_iald d_Mo_refusalOf_26 (ga_aM1) g3 g4 ?_
  refine gw_iload 5 d_Mo_refusalOf_27 rfl ?_
  refine gw_invS (as := [.inl (I 349 ((38 + 4 * (7 * v2 + v3)) + v4).toNat), .inl v5]) (rest := []) (d' := d) d_Mo_refusalOf_29 lk_Mo_85 rfl (Nat.le_of_ble_eq_true rfl) (Nat.le_of_ble_eq_true rfl) rfl rfl (s_Mo_apart (hI1 _ _) r5 ?_)
  show ga_W G (d + 1) mt_Mo_refusalOf 32 [some (.inr 348), some (.inl v1), some (.inl v2), some (.inl v3), some (.inl v4), some (.inl v5), some (.inl (I 349 ((38 + 4 * (7 * v2 + v3)) + 3).toNat)), none] [.inl (((I 349 ((38 + 4 * (7 * v2 + v3)) + v4).toNat) - v5).natAbs : Int)] I E
  refine gw_istore 7 d_Mo_refusalOf_32 (Nat.le_of_ble_eq_true rfl) rfl ?_
  refine gw_iload 6 d_Mo_refusalOf_34 rfl ?_
  refine gw_iconst d_Mo_refusalOf_36 ?_
  refine gw_icmp_eq 48 d_Mo_refusalOf_37 (by decide) (hI1 _ _) ⟨by decide, by decide⟩ (fun hc => ?_) (fun hc => ?_)
  · have h := h.1 hc
    refine gw_iload 7 d_Mo_refusalOf_48 rfl ?_
    refine gw_aload_n 0 d_Mo_refusalOf_50 rfl rfl ?_
    refine gw_getR d_Mo_refusalOf_51 fl_Mo_7 (ga_oM) rfl ?_
    refine gw_sipush d_Mo_refusalOf_54 (by decide +kernel) ?_
    refine gw_iconst d_Mo_refusalOf_57 ?_
    refine gw_iload_n 1 d_Mo_refusalOf_58 rfl rfl ?_
    refine gw_imul d_Mo_refusalOf_59 ?_
    refine gw_iadd d_Mo_refusalOf_60 ?_
    refine gw_iconst d_Mo_refusalOf_61 ?_
    refine gw_iadd d_Mo_refusalOf_62 ?_
    obtain ⟨g5, h⟩ := h
    obtain ⟨g6, h⟩ := h
    refine gw_iald d_Mo_refusalOf_63 (ga_aM1) g5 g6 ?_
    obtain ⟨g7, h⟩ := h
    refine gw_icmp_le 71 d_Mo_refusalOf_64 (by decide) g7 (hI1 _ _) (fun hc => ?_) (fun hc => ?_)
    · have h := h.1 hc
      refine gw_iload 7 d_Mo_refusalOf_71 rfl ?_
      refine gw_aload_n 0 d_Mo_refusalOf_73 rfl rfl ?_
      refine gw_getR d_Mo_refusalOf_74 fl_Mo_7 (ga_oM) rfl ?_
      refine gw_sipush d_Mo_refusalOf_77 (by decide +kernel) ?_
      refine gw_iconst d_Mo_refusalOf_80 ?_
      refine gw_iload_n 1 d_Mo_refusalOf_81 rfl rfl ?_
      refine gw_imul d_Mo_refusalOf_82 ?_
      refine gw_iadd d_Mo_refusalOf_83 ?_
      refine gw_iconst d_Mo_refusalOf_84 ?_
      refine gw_iadd d_Mo_refusalOf_85 ?_
      obtain ⟨g8, h⟩ := h
      obtain ⟨g9, h⟩ := h
      refine gw_iald d_Mo_refusalOf_86 (ga_aM1) g8 g9 ?_
      refine gw_icmp_le 94 d_Mo_refusalOf_87 (by decide) g7 (hI1 _ _) (fun hc => ?_) (fun hc => ?_)
      · have h := h.1 hc
        refine gw_iconst d_Mo_refusalOf_94 ?_
        exact gw_ireturn d_Mo_refusalOf_95 rfl h
      · have h := h.2 hc
        refine gw_iconst d_Mo_refusalOf_90 ?_
        refine gw_goto 95 d_Mo_refusalOf_91 (by decide) ?_
        exact gw_ireturn d_Mo_refusalOf_95 rfl h
    · have h := h.2 hc
      refine gw_iconst d_Mo_refusalOf_67 ?_
      refine gw_goto 95 d_Mo_refusalOf_68 (by decide) ?_
      exact gw_ireturn d_Mo_refusalOf_95 rfl h
  · have h := h.2 hc
    refine gw_iload 6 d_Mo_refusalOf_40 rfl ?_
    refine gw_iload_n 1 d_Mo_refusalOf_42 rfl rfl ?_
    refine gw_icmp_eq 48 d_Mo_refusalOf_43 (by decide) (hI1 _ _) r1 (fun hc => ?_) (fun hc => ?_)
    · have h := h.1 hc
      refine gw_iload 7 d_Mo_refusalOf_48 rfl ?_
      refine gw_aload_n 0 d_Mo_refusalOf_50 rfl rfl ?_
      refine gw_getR d_Mo_refusalOf_51 fl_Mo_7 (ga_oM) rfl ?_
      refine gw_sipush d_Mo_refusalOf_54 (by decide +kernel) ?_
      refine gw_iconst d_Mo_refusalOf_57 ?_
      refine gw_iload_n 1 d_Mo_refusalOf_58 rfl rfl ?_
      refine gw_imul d_Mo_refusalOf_59 ?_
      refine gw_iadd d_Mo_refusalOf_60 ?_
      refine gw_iconst d_Mo_refusalOf_61 ?_
      refine gw_iadd d_Mo_refusalOf_62 ?_
      obtain ⟨g10, h⟩ := h
      obtain ⟨g11, h⟩ := h
      refine gw_iald d_Mo_refusalOf_63 (ga_aM1) g10 g11 ?_
      obtain ⟨g12, h⟩ := h
      refine gw_icmp_le 71 d_Mo_refusalOf_64 (by decide) g12 (hI1 _ _) (fun hc => ?_) (fun hc => ?_)
      · have h := h.1 hc
        refine gw_iload 7 d_Mo_refusalOf_71 rfl ?_
        refine gw_aload_n 0 d_Mo_refusalOf_73 rfl rfl ?_
        refine gw_getR d_Mo_refusalOf_74 fl_Mo_7 (ga_oM) rfl ?_
        refine gw_sipush d_Mo_refusalOf_77 (by decide +kernel) ?_
        refine gw_iconst d_Mo_refusalOf_80 ?_
        refine gw_iload_n 1 d_Mo_refusalOf_81 rfl rfl ?_
        refine gw_imul d_Mo_refusalOf_82 ?_
        refine gw_iadd d_Mo_refusalOf_83 ?_
        refine gw_iconst d_Mo_refusalOf_84 ?_
        refine gw_iadd d_Mo_refusalOf_85 ?_
        obtain ⟨g13, h⟩ := h
        obtain ⟨g14, h⟩ := h
        refine gw_iald d_Mo_refusalOf_86 (ga_aM1) g13 g14 ?_
        refine gw_icmp_le 94 d_Mo_refusalOf_87 (by decide) g12 (hI1 _ _) (fun hc => ?_) (fun hc => ?_)
        · have h := h.1 hc
          refine gw_iconst d_Mo_refusalOf_94 ?_
          exact gw_ireturn d_Mo_refusalOf_95 rfl h
        · have h := h.2 hc
          refine gw_iconst d_Mo_refusalOf_90 ?_
          refine gw_goto 95 d_Mo_refusalOf_91 (by decide) ?_
          exact gw_ireturn d_Mo_refusalOf_95 rfl h
      · have h := h.2 hc
        refine gw_iconst d_Mo_refusalOf_67 ?_
        refine gw_goto 95 d_Mo_refusalOf_68 (by decide) ?_
        exact gw_ireturn d_Mo_refusalOf_95 rfl h
    · have h := h.2 hc
      refine gw_iconst d_Mo_refusalOf_46 ?_
      exact gw_ireturn d_Mo_refusalOf_47 rfl h

theorem k_Mo_change_0 {G : ga_G} {d : Nat} {I : ga_I} {E : Option ga_V → ga_I → Prop} {v1 : Int} {v2 : Int} {v3 : Int} {v4 : Int} {v5 : Int} (r5 : ga_rg v5)
    (h : ga_RG I → (0 ≤ ((38 + 4 * (7 * v2 + v3)) + v4)) ∧ ((((38 + 4 * (7 * v2 + v3)) + v4) < 1120) ∧ ((0 ≤ ((241 + (3 * v1)) + 1)) ∧ ((((241 + (3 * v1)) + 1) < 1120) ∧ ((∀ z1 : Int, z1 = (((I 349 ((38 + 4 * (7 * v2 + v3)) + v4).toNat) - v5).natAbs : Int) → (∀ I1 : ga_I, I1 = (ga_up I 349 ((241 + (3 * v1)) + 1).toNat (ga_wr ((I 349 ((241 + (3 * v1)) + 1).toNat) - z1))) → (0 ≤ ((241 + (3 * v1)) + 2)) ∧ ((((241 + (3 * v1)) + 2) < 1120) ∧ ((∀ I2 : ga_I, I2 = (ga_up I1 349 ((241 + (3 * v1)) + 2).toNat (ga_wr ((I1 349 ((241 + (3 * v1)) + 2).toNat) + 1))) → (0 ≤ (250 + v1)) ∧ (((250 + v1) < 1120) ∧ ((∀ I3 : ga_I, I3 = (ga_up I2 349 (250 + v1).toNat (ga_wr ((I2 349 (250 + v1).toNat) + (v5 - (I 349 ((38 + 4 * (7 * v2 + v3)) + v4).toNat))))) → (∀ I4 : ga_I, I4 = (ga_up I3 349 ((38 + 4 * (7 * v2 + v3)) + v4).toNat v5) → E none I4)))))))))))))) :
    ga_W G (d + 1) mt_Mo_change 0 (ga_en 7 [.inr 348, .inl v1, .inl v2, .inl v3, .inl v4, .inl v5]) [] I E := by
  show ga_W G (d + 1) mt_Mo_change 0 [some (.inr 348), some (.inl v1), some (.inl v2), some (.inl v3), some (.inl v4), some (.inl v5), none] [] I E
  refine gw_RG (fun hI1 => ?_)
  have h := h hI1
  refine gw_aload_n 0 d_Mo_change_0 rfl rfl ?_
  refine gw_getR d_Mo_change_1 fl_Mo_7 (ga_oM) rfl ?_
  refine gw_iload_n 2 d_Mo_change_4 rfl rfl ?_
  refine gw_iload_n 3 d_Mo_change_5 rfl rfl ?_
  refine gw_invS (as := [.inl v2, .inl v3]) (rest := [.inr 349]) (d' := d) d_Mo_change_6 lk_Mo_59 rfl (Nat.le_of_ble_eq_true rfl) (Nat.le_of_ble_eq_true rfl) rfl rfl (s_Mo_at  ?_)
  show ga_W G (d + 1) mt_Mo_change 9 [some (.inr 348), some (.inl v1), some (.inl v2), some (.inl v3), some (.inl v4), some (.inl v5), none] [.inl (38 + 4 * (7 * v2 + v3)), .inr 349] I E
  refine gw_iload 4 d_Mo_change_9 rfl ?_
  refine gw_iadd d_Mo_change_11 ?_
  obtain ⟨g1, h⟩ := h
  obtain ⟨g2, h⟩ := h
  refine gw_iald d_Mo_change_12 (ga_aM1) g1 g2 ?_
  refine gw_istore 6 d_Mo_change_13 (Nat.le_of_ble_eq_true rfl) rfl ?_
  refine gw_aload_n 0 d_Mo_change_15 rfl rfl ?_
  refine gw_getR d_Mo_change_16 fl_Mo_7 (ga_oM) rfl ?_
  refine gw_sipush d_Mo_change_19 (by decide +kernel) ?_
  refine gw_iconst d_Mo_change_22 ?_
  refine gw_iload_n 1 d_Mo_change_23 rfl rfl ?_
  refine gw_imul d_Mo_change_24 ?_
  refine gw_iadd d_Mo_change_25 ?_
  refine gw_iconst d_Mo_change_26 ?_
  refine gw_iadd d_Mo_change_27 ?_
  refine gw_dup2 d_Mo_change_28 ?_
  obtain ⟨g3, h⟩ := h
  obtain ⟨g4, h⟩ := h
  refine gw_iald d_Mo_change_29 (ga_aM1) g3 g4 ?_
  refine gw_iload 6 d_Mo_change_30 rfl ?_
  refine gw_iload 5 d_Mo_change_32 rfl ?_
  refine gw_invS (as := [.inl (I 349 ((38 + 4 * (7 * v2 + v3)) + v4).toNat), .inl v5]) (rest := [.inl (I 349 ((241 + (3 * v1)) + 1).toNat), .inl ((241 + (3 * v1)) + 1), .inr 349]) (d' := d) d_Mo_change_34 lk_Mo_85 rfl (Nat.le_of_ble_eq_true rfl) (Nat.le_of_ble_eq_true rfl) rfl rfl (s_Mo_apart (hI1 _ _) r5 ?_)
  show ga_W G (d + 1) mt_Mo_change 37 [some (.inr 348), some (.inl v1), some (.inl v2), some (.inl v3), some (.inl v4), some (.inl v5), some (.inl (I 349 ((38 + 4 * (7 * v2 + v3)) + v4).toNat))] [.inl (((I 349 ((38 + 4 * (7 * v2 + v3)) + v4).toNat) - v5).natAbs : Int), .inl (I 349 ((241 + (3 * v1)) + 1).toNat), .inl ((241 + (3 * v1)) + 1), .inr 349] I E
  refine gw_nz (z := (((I 349 ((38 + 4 * (7 * v2 + v3)) + v4).toNat) - v5).natAbs : Int)) (fun z1 q1 => ?_)
  have h := h z1 q1
  refine gw_isub d_Mo_change_37 ?_
  refine gw_iast d_Mo_change_38 (ga_aM1) g3 g4 ?_
  refine gw_nm (J := (ga_up I 349 ((241 + (3 * v1)) + 1).toNat (ga_wr ((I 349 ((241 + (3 * v1)) + 1).toNat) - z1)))) (fun I1 q2 => ?_)
  have h := h I1 q2
  refine gw_RG (fun hI2 => ?_)
  refine gw_aload_n 0 d_Mo_change_39 rfl rfl ?_
  refine gw_getR d_Mo_change_40 fl_Mo_7 (ga_oM) rfl ?_
  refine gw_sipush d_Mo_change_43 (by decide +kernel) ?_
  refine gw_iconst d_Mo_change_46 ?_
  refine gw_iload_n 1 d_Mo_change_47 rfl rfl ?_
  refine gw_imul d_Mo_change_48 ?_
  refine gw_iadd d_Mo_change_49 ?_
  refine gw_iconst d_Mo_change_50 ?_
  refine gw_iadd d_Mo_change_51 ?_
  refine gw_dup2 d_Mo_change_52 ?_
  obtain ⟨g5, h⟩ := h
  obtain ⟨g6, h⟩ := h
  refine gw_iald d_Mo_change_53 (ga_aM1) g5 g6 ?_
  refine gw_iconst d_Mo_change_54 ?_
  refine gw_iadd d_Mo_change_55 ?_
  refine gw_iast d_Mo_change_56 (ga_aM1) g5 g6 ?_
  refine gw_nm (J := (ga_up I1 349 ((241 + (3 * v1)) + 2).toNat (ga_wr ((I1 349 ((241 + (3 * v1)) + 2).toNat) + 1)))) (fun I2 q3 => ?_)
  have h := h I2 q3
  refine gw_RG (fun hI3 => ?_)
  refine gw_aload_n 0 d_Mo_change_57 rfl rfl ?_
  refine gw_getR d_Mo_change_58 fl_Mo_7 (ga_oM) rfl ?_
  refine gw_sipush d_Mo_change_61 (by decide +kernel) ?_
  refine gw_iload_n 1 d_Mo_change_64 rfl rfl ?_
  refine gw_iadd d_Mo_change_65 ?_
  refine gw_dup2 d_Mo_change_66 ?_
  obtain ⟨g7, h⟩ := h
  obtain ⟨g8, h⟩ := h
  refine gw_iald d_Mo_change_67 (ga_aM1) g7 g8 ?_
  refine gw_iload 5 d_Mo_change_68 rfl ?_
  refine gw_iload 6 d_Mo_change_70 rfl ?_
  refine gw_isub d_Mo_change_72 ?_
  refine gw_iadd d_Mo_change_73 ?_
  refine gw_iast d_Mo_change_74 (ga_aM1) g7 g8 ?_
  refine gw_nm (J := (ga_up I2 349 (250 + v1).toNat (ga_wr ((I2 349 (250 + v1).toNat) + (v5 - (I 349 ((38 + 4 * (7 * v2 + v3)) + v4).toNat)))))) (fun I3 q4 => ?_)
  have h := h I3 q4
  refine gw_RG (fun hI4 => ?_)
  refine gw_aload_n 0 d_Mo_change_75 rfl rfl ?_
  refine gw_getR d_Mo_change_76 fl_Mo_7 (ga_oM) rfl ?_
  refine gw_iload_n 2 d_Mo_change_79 rfl rfl ?_
  refine gw_iload_n 3 d_Mo_change_80 rfl rfl ?_
  refine gw_invS (as := [.inl v2, .inl v3]) (rest := [.inr 349]) (d' := d) d_Mo_change_81 lk_Mo_59 rfl (Nat.le_of_ble_eq_true rfl) (Nat.le_of_ble_eq_true rfl) rfl rfl (s_Mo_at  ?_)
  show ga_W G (d + 1) mt_Mo_change 84 [some (.inr 348), some (.inl v1), some (.inl v2), some (.inl v3), some (.inl v4), some (.inl v5), some (.inl (I 349 ((38 + 4 * (7 * v2 + v3)) + v4).toNat))] [.inl (38 + 4 * (7 * v2 + v3)), .inr 349] I3 E
  refine gw_iload 4 d_Mo_change_84 rfl ?_
  refine gw_iadd d_Mo_change_86 ?_
  refine gw_iload 5 d_Mo_change_87 rfl ?_
  refine gw_iast d_Mo_change_89 (ga_aM1) g1 g2 ?_
  rw [ga_wr_eq (z := v5) r5]
  refine gw_nm (J := (ga_up I3 349 ((38 + 4 * (7 * v2 + v3)) + v4).toNat v5)) (fun I4 q5 => ?_)
  have h := h I4 q5
  refine gw_RG (fun hI5 => ?_)
  exact gw_return d_Mo_change_90 rfl h

