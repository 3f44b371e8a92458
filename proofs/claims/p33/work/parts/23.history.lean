/-! History -/
section LT
variable {G : ga_G} {d : Nat} {I : ga_I} {E : Option ga_V → ga_I → Prop}
/-- the history's numbers; what is taken or not -/
def gr_H (I : ga_I) : Prop := (0 ≤ I 55 0 ∧ I 55 0 ≤ 5) ∧ (0 ≤ I 55 1 ∧ I 55 1 < 5) ∧ (∀ j, j < 3 → I 46 j = 0 ∨ I 46 j = 1) ∧ ∀ i, i < 5 → ∀ j, j < 3 → I (57 + 54 * i + 45) j = 0 ∨ I (57 + 54 * i + 45) j = 1
def gr_kp (I I' : ga_I) : Prop := ∃ (f : Int) (n : Nat), ((I 55 0 < 5 ∧ f = I 55 1 ∧ (n : Int) = I 55 0) ∨ (I 55 0 = 5 ∧ f = (I 55 1 + 1) % 5 ∧ n = 4)) ∧ I' 55 0 = (n : Int) + 1 ∧ I' 55 1 = f ∧ gq_S I' (57 + 54 * ((f + n) % 5).toNat) I 1 ∧ ∀ a, a ≠ 55 → (a < 57 + 54 * ((f + n) % 5).toNat ∨ 57 + 54 * ((f + n) % 5).toNat + 54 ≤ a) → I' a = I a
def gr_bb (I I' : ga_I) : Prop := I' 55 0 = I 55 0 - 1 ∧ I' 55 1 = I 55 1 ∧ gq_S I' 1 I (57 + 54 * ((I 55 1 + I 55 0 - 1) % 5).toNat) ∧ ∀ a, a ≠ 55 → (a < 1 ∨ 55 ≤ a) → I' a = I a
theorem gq_S_of {I I' J J' : ga_I} {k o : Nat} (h : gq_S I k J o) (h1 : ∀ a, k ≤ a → a < k + 54 → I' a = I a) (h2 : ∀ a, o ≤ a → a < o + 54 → J' a = J a) : gq_S I' k J' o := by
  obtain ⟨a1, a2, a3, a4, a5, a6, a7, a8, ⟨b1, b2, b3⟩, a10, a11, a12, a13, a14, a15⟩ := h
  refine ⟨gq_T_of a1 (fun a x y => h1 a (by omega) (by omega)) (fun a x y => h2 a (by omega) (by omega)), gq_T_of a2 (fun a x y => h1 a (by omega) (by omega)) (fun a x y => h2 a (by omega) (by omega)), gq_T_of a3 (fun a x y => h1 a (by omega) (by omega)) (fun a x y => h2 a (by omega) (by omega)), gq_T_of a4 (fun a x y => h1 a (by omega) (by omega)) (fun a x y => h2 a (by omega) (by omega)), fun j hj => ?_, fun j hj => ?_, fun j hj => ?_, ?_, ⟨?_, ?_, fun j hj => ?_⟩, ?_, ?_, fun j hj => ?_, fun j hj => ?_, fun j hj => ?_, fun j hj => ?_⟩
  all_goals rw [h1 _ (by omega) (by omega), h2 _ (by omega) (by omega)]
  · exact a5 j hj
  · exact a6 j hj
  · exact a7 j hj
  · exact a8
  · exact b1
  · exact b2
  · exact b3 j hj
  · exact a10
  · exact a11
  · exact a12 j hj
  · exact a13 j hj
  · exact a14 j hj
  · exact a15 j hj
theorem s_History_keep (hH : gr_H I) (h : ∀ I', gr_kp I I' → E none I') : ga_W G (d + 4) mt_History_keep 0 (ga_en 3 [.inr 55, .inr 1]) [] I E := by
  obtain ⟨h1, h2, h3, h4⟩ := hH
  refine k_History_keep_0 ga_s1 (fun hI => ⟨fun q => ?_, fun q => ⟨⟨by omega, by omega⟩, fun I3 e3 I4 e4 => ?_⟩⟩)
  · have em : Int.tmod (I 55 1 + I 55 0) 5 = (I 55 1 + I 55 0) % 5 := Int.tmod_eq_emod_of_nonneg (by omega)
    rw [em]
    refine ⟨⟨by omega, by omega⟩, by omega, by omega, by omega, h3, fun I1 c I2 e2 => h I2 ?_⟩
    have hc : I1 55 = I 55 := c.2 55 (by omega)
    refine ⟨I 55 1, (I 55 0).toNat, Or.inl ⟨q, rfl, by omega⟩, ?_, ?_, ?_, fun a ha hb => ?_⟩
    · rw [e2, ga_up_at, hc, ga_wr_eq ⟨by omega, by omega⟩]; omega
    · rw [e2, ga_up_nj (by omega), hc]
    · rw [show (((I 55 0).toNat : Nat) : Int) = I 55 0 by omega]
      exact gq_S_of c.1 (fun a x y => by rw [e2, ga_up_fn (by omega)]) (fun _ _ _ => rfl)
    · rw [show (((I 55 0).toNat : Nat) : Int) = I 55 0 by omega] at hb
      rw [e2, ga_up_fn ha, c.2 a hb]
  · have em0 : Int.tmod (I 55 1 + 1) 5 = (I 55 1 + 1) % 5 := Int.tmod_eq_emod_of_nonneg (by omega)
    rw [em0, ga_wr_eq ⟨by omega, by omega⟩] at e3
    have x0 : I4 55 0 = 4 := by rw [e4, ga_up_at, e3, ga_up_nj (by omega), ga_wr_eq ⟨by omega, by omega⟩]; omega
    have x1 : I4 55 1 = (I 55 1 + 1) % 5 := by rw [e4, ga_up_nj (by omega), e3, ga_up_at]
    have xf : ∀ a, a ≠ 55 → I4 a = I a := fun a ha => by rw [e4, ga_up_fn ha, e3, ga_up_fn ha]
    rw [x0, x1]
    have em : Int.tmod ((I 55 1 + 1) % 5 + 4) 5 = ((I 55 1 + 1) % 5 + 4) % 5 := Int.tmod_eq_emod_of_nonneg (by omega)
    rw [em]
    refine ⟨⟨by omega, by omega⟩, by omega, by omega, by omega, fun j hj => by rw [xf _ (by omega)]; exact h3 j hj, fun I5 c I6 e6 => h I6 ?_⟩
    have hc : I5 55 = I4 55 := c.2 55 (by omega)
    refine ⟨(I 55 1 + 1) % 5, 4, Or.inr ⟨by omega, rfl, rfl⟩, ?_, ?_, ?_, fun a ha hb => ?_⟩
    · rw [e6, ga_up_at, hc, x0]; rfl
    · rw [e6, ga_up_nj (by omega), hc, x1]
    · exact gq_S_of c.1 (fun a x y => by
        have z0 : ((4 : Nat) : Int) = 4 := rfl
        rw [z0] at x
        rw [e6, ga_up_fn (by omega)]) (fun a x y => (xf a (by omega)).symm)
    · have z0 : ((4 : Nat) : Int) = 4 := rfl
      rw [z0] at hb
      rw [e6, ga_up_fn ha, c.2 a hb, xf a ha]
theorem s_History_bringBack (hH : gr_H I) (hn : 0 < I 55 0) (h : ∀ I', gr_bb I I' → E none I') : ga_W G (d + 4) mt_History_bringBack 0 (ga_en 3 [.inr 55, .inr 1]) [] I E := by
  obtain ⟨h1, h2, h3, h4⟩ := hH
  refine k_History_bringBack_0 ga_s1 (fun hI => ⟨fun q I1 e1 => ?_, fun q => absurd hn q⟩)
  rw [ga_wr_eq ⟨by omega, by omega⟩] at e1
  have x0 : I1 55 0 = I 55 0 - 1 := by rw [e1, ga_up_at]
  have x1 : I1 55 1 = I 55 1 := by rw [e1, ga_up_nj (by omega)]
  have xf : ∀ a, a ≠ 55 → I1 a = I a := fun a ha => by rw [e1, ga_up_fn ha]
  rw [x0, x1]
  have em : Int.tmod (I 55 1 + (I 55 0 - 1)) 5 = (I 55 1 + I 55 0 - 1) % 5 := by rw [Int.tmod_eq_emod_of_nonneg (by omega)]; congr 1; omega
  rw [em]
  refine ⟨⟨by omega, by omega⟩, by omega, by omega, by omega, fun j hj => ?_, fun I2 c => h I2 ?_⟩
  · rw [xf _ (by omega)]; exact h4 ((I 55 1 + I 55 0 - 1) % 5).toNat (by omega) j hj
  · have hc : I2 55 = I1 55 := c.2 55 (by omega)
    refine ⟨by rw [hc, x0], by rw [hc, x1], gq_S_of c.1 (fun _ _ _ => rfl) (fun a x y => (xf a (by omega)).symm), fun a ha hb => by rw [c.2 a (by omega), xf a ha]⟩
end LT
theorem k_Text_put_0 {G : ga_G} {d : Nat} {I : ga_I} {E : Option ga_V → ga_I → Prop} {v1 : Int} 
    (h : ga_RG I → ((160 ≤ (I 327 0)) → E none I) ∧ ((¬ (160 ≤ (I 327 0))) → (0 ≤ (I 327 0)) ∧ (((I 327 0) < 160) ∧ ((0 ≤ v1) ∧ ((v1 < 65536) ∧ ((∀ I1 : ga_I, I1 = (ga_up I 328 (I 327 0).toNat (ga_wr v1)) → (∀ I2 : ga_I, I2 = (ga_up I1 327 0 (ga_wr ((I1 327 0) + 1))) → E none I2)))))))) :
    ga_W G d mt_Text_put 0 (ga_en 2 [.inr 327, .inl v1]) [] I E := by
  show ga_W G d mt_Text_put 0 [some (.inr 327), some (.inl v1)] [] I E
  refine gw_RG (fun hI1 => ?_)
  have h := h hI1
  refine gw_aload_n 0 d_Text_put_0 rfl rfl ?_
  refine gw_getI d_Text_put_1 fl_Text_19 (ga_oX) rfl ?_
  refine gw_sipush d_Text_put_4 (by decide +kernel) ?_
  refine gw_icmp_ge 30 d_Text_put_7 (by decide) (hI1 _ _) ⟨by decide, by decide⟩ (fun hc => ?_) (fun hc => ?_)
  · have h := h.1 hc
    exact gw_return d_Text_put_30 rfl h
  · have h := h.2 hc
    refine gw_aload_n 0 d_Text_put_10 rfl rfl ?_
    refine gw_getR d_Text_put_11 fl_Text_15 (ga_oX) rfl ?_
    refine gw_aload_n 0 d_Text_put_14 rfl rfl ?_
    refine gw_getI d_Text_put_15 fl_Text_19 (ga_oX) rfl ?_
    refine gw_iload_n 1 d_Text_put_18 rfl rfl ?_
    obtain ⟨g1, h⟩ := h
    obtain ⟨g2, h⟩ := h
    obtain ⟨g3, h⟩ := h
    obtain ⟨g4, h⟩ := h
    refine gw_cast d_Text_put_19 (ga_aX) g1 g2 g3 g4 ?_
    refine gw_nm (J := (ga_up I 328 (I 327 0).toNat (ga_wr v1))) (fun I1 q1 => ?_)
    have h := h I1 q1
    refine gw_RG (fun hI2 => ?_)
    refine gw_aload_n 0 d_Text_put_20 rfl rfl ?_
    refine gw_dup d_Text_put_21 ?_
    refine gw_getI d_Text_put_22 fl_Text_19 (ga_oX) rfl ?_
    refine gw_iconst d_Text_put_25 ?_
    refine gw_iadd d_Text_put_26 ?_
    refine gw_putI d_Text_put_27 fp_Text_19 (ga_oX) rfl ?_
    refine gw_nm (J := (ga_up I1 327 0 (ga_wr ((I1 327 0) + 1)))) (fun I2 q2 => ?_)
    have h := h I2 q2
    refine gw_RG (fun hI3 => ?_)
    exact gw_return d_Text_put_30 rfl h

