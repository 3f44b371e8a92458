/-! State: replaceTable, copyFrom -/
section LS
variable {G : ga_G} {d : Nat} {I : ga_I} {E : Option ga_V → ga_I → Prop} {k o : Nat}
theorem gq_B_of {I I' J J' : ga_I} {k o : Nat} (h : gq_B I k J o) (h1 : ∀ a, k ≤ a → a < k + 4 → I' a = I a) (h2 : ∀ a, o ≤ a → a < o + 4 → J' a = J a) : gq_B I' k J' o := by
  refine ⟨by rw [h1 _ (by omega) (by omega), h2 _ (by omega) (by omega)]; exact h.1, fun j hj => ?_⟩
  rw [h1 (k + 1) (by omega) (by omega), h1 (k + 2) (by omega) (by omega), h1 (k + 3) (by omega) (by omega), h2 (o + 1) (by omega) (by omega), h2 (o + 2) (by omega) (by omega), h2 (o + 3) (by omega) (by omega)]
  exact h.2 j hj
theorem gq_T_of {I I' J J' : ga_I} {k o : Nat} (h : gq_T I k J o) (h1 : ∀ a, k ≤ a → a < k + 11 → I' a = I a) (h2 : ∀ a, o ≤ a → a < o + 11 → J' a = J a) : gq_T I' k J' o := by
  refine ⟨gq_B_of h.1 (fun a x y => h1 a (by omega) (by omega)) (fun a x y => h2 a (by omega) (by omega)), gq_B_of h.2.1 (fun a x y => h1 a (by omega) (by omega)) (fun a x y => h2 a (by omega) (by omega)), fun j hj => ?_, fun j hj => ?_⟩
  · rw [h1 (k + 9) (by omega) (by omega), h2 (o + 9) (by omega) (by omega)]; exact h.2.2.1 j hj
  · rw [h1 (k + 10) (by omega) (by omega), h2 (o + 10) (by omega) (by omega)]; exact h.2.2.2 j hj
theorem gp_ok_of {n n' : Int} {p p' q q' r r' : Nat → Int} (h : gp_ok n p q r) (hn : n' = n) (hp : ∀ j, j < 6 → p' j = p j ∧ q' j = q j ∧ r' j = r j) : gp_ok n' p' q' r' := by
  obtain ⟨h1, h2, h3, h4⟩ := h
  subst hn
  refine ⟨h1, h2, fun b hb => ?_, fun b hb => ?_⟩
  · obtain ⟨e1, e2, e3⟩ := hp b (by omega)
    rw [e1, e2, e3]; exact h3 b hb
  · obtain ⟨e1, e2, e3⟩ := hp b (by omega)
    obtain ⟨f1, f2, f3⟩ := hp (b + 1) (by omega)
    rw [e1, e3, f1, f3]; exact h4 b hb
theorem gq_B_ok {I J : ga_I} {k o : Nat} (h : gq_B I k J o) (hok : gb_ok J o) : gb_ok I k := gp_ok_of hok h.1 h.2
def gr_rt (I I' : ga_I) (k o : Nat) : Prop := ∃ J, gr_cpT I J (k + 1) o ∧ I' = gx_st J k (gp_tt (gp_g3 (I (k + 10))) ((I (k + 2) 0).toNat + 1) ((I (k + 6) 0).toNat + 1))
theorem s_State_replaceTable (hk : ga_isS k) (ho : ga_isT o) (hd : o + 11 ≤ k + 1 ∨ k + 12 ≤ o) (h1 : gb_ok I (k + 2)) (h2 : gb_ok I (k + 6)) (h3 : gb_ok I (o + 1)) (h4 : gb_ok I (o + 5)) (h : ∀ I', gr_rt I I' k o → E none I') : ga_W G (d + 3) mt_State_replaceTable 0 (ga_en 3 [.inr k, .inr o]) [] I E := by
  refine k_State_replaceTable_0 hk ho (fun hI => ⟨⟨⟨h1.1, h1.2.1⟩, h2.1, h2.2.1⟩, fun z1 hz1 => ⟨by omega, fun I1 e1 => ⟨gq_B_ok e1.1.1 h3, gq_B_ok e1.1.2.1 h4, fun I2 e2 => ?_⟩⟩⟩)
  subst hz1
  exact h I2 ⟨I1, e1, e2⟩
def gq_S (I : ga_I) (k : Nat) (J : ga_I) (o : Nat) : Prop := gq_T I (k + 1) J (o + 1) ∧ gq_T I (k + 12) J (o + 12) ∧ gq_T I (k + 23) J (o + 23) ∧ gq_T I (k + 34) J (o + 34) ∧ (∀ j, j < 3 → I (k + 45) j = J (o + 45) j) ∧ (∀ j, j < 2 → I (k + 46) j = J (o + 46) j) ∧ (∀ j, j < 2 → I (k + 47) j = J (o + 47) j) ∧ I k 7 = J o 7 ∧ gq_P I (k + 48) J (o + 48) ∧ I k 9 = J o 9 ∧ I k 10 = J o 10 ∧ (∀ j, j < 3 → I (k + 50) j = J (o + 50) j) ∧ (∀ j, j < 3 → I (k + 51) j = J (o + 51) j) ∧ (∀ j, j < 3 → I (k + 52) j = J (o + 52) j) ∧ ∀ j, j < 4 → I (k + 53) j = J (o + 53) j
def gr_cpS (I I' : ga_I) (k o : Nat) : Prop := gq_S I' k I o ∧ ∀ a, (a < k ∨ k + 54 ≤ a) → I' a = I a
theorem ga_cp_fn {I : ga_I} {ks kd sp dp n a : Nat} (h : a ≠ kd) : ga_cp I ks kd sp dp n a = I a := funext fun _ => ga_cp_ne h
theorem l_State_copyFrom (hk : ga_isS k) (ho : ga_isS o) (I : ga_I) (hd : o + 54 ≤ k ∨ k + 54 ≤ o) (ht : ∀ j, j < 3 → I (o + 45) j = 0 ∨ I (o + 45) j = 1) (K : ga_W G (d + 3) mt_State_copyFrom 46 [some (.inr k), some (.inr o), some (.inl 3)] [] (ga_cp I (o + 45) (k + 45) 0 0 3) E) : ∀ (m j : Nat), j + m = 3 → ga_W G (d + 3) mt_State_copyFrom 46 [some (.inr k), some (.inr o), some (.inl (j : Int))] [] (ga_cp I (o + 45) (k + 45) 0 0 j) E := by
  intro m
  induction m with
  | zero =>
    intro j hj
    rw [show j = 3 by omega]; exact K
  | succ m ih =>
    intro j hj
    have e := ih (j + 1) (by omega)
    have e0 : ga_cp I (o + 45) (k + 45) 0 0 j (o + 45) = I (o + 45) := ga_cp_fn (by omega)
    refine k_State_copyFrom_46 hk ho ⟨by omega, by omega⟩ (fun hI => ⟨fun h1 => by exfalso; omega, fun h1 => ⟨by omega, by omega, ?_, fun I1 e1 => ?_⟩⟩)
    · rw [e0, Int.toNat_natCast]; exact ht j (by omega)
    · rw [e0, Int.toNat_natCast] at e1
      refine gw_eq e rfl ?_
      rw [e1]
      funext a b
      by_cases q : a = k + 45
      · subst q
        by_cases q2 : b = j
        · subst q2
          rw [ga_cp_in (by omega), ga_up_at]
        · rw [ga_up_nj q2]
          by_cases q3 : b < j
          · rw [ga_cp_in q3, ga_cp_in (by omega)]
          · unfold ga_cp
            rw [if_neg (by omega), if_neg (by omega)]
      · rw [ga_up_ne q, ga_cp_ne q, ga_cp_ne q]
theorem s_State_copyFrom (hk : ga_isS k) (ho : ga_isS o) (hd : o + 54 ≤ k ∨ k + 54 ≤ o) (ht : ∀ j, j < 3 → I (o + 45) j = 0 ∨ I (o + 45) j = 1) (h : ∀ I', gr_cpS I I' k o → E none I') : ga_W G (d + 3) mt_State_copyFrom 0 (ga_en 3 [.inr k, .inr o]) [] I E := by
  refine k_State_copyFrom_0 hk ho (fun hI => ⟨by omega, fun I1 c1 => ⟨by omega, fun I2 c2 => ⟨by omega, fun I3 c3 => ⟨by omega, fun I4 c4 => ?_⟩⟩⟩⟩)
  have s1 : ∀ a, (a < k + 1 ∨ k + 12 ≤ a) → I1 a = I a := fun a q => c1.2 a (by omega)
  have s2 : ∀ a, (a < k + 1 ∨ k + 23 ≤ a) → I2 a = I a := fun a q => by rw [c2.2 a (by omega), s1 a (by omega)]
  have s3 : ∀ a, (a < k + 1 ∨ k + 34 ≤ a) → I3 a = I a := fun a q => by rw [c3.2 a (by omega), s2 a (by omega)]
  have s4 : ∀ a, (a < k + 1 ∨ k + 45 ≤ a) → I4 a = I a := fun a q => by rw [c4.2 a (by omega), s3 a (by omega)]
  have t1 : gq_T I4 (k + 1) I (o + 1) := gq_T_of c1.1 (fun a x y => by rw [c4.2 a (by omega), c3.2 a (by omega), c2.2 a (by omega)]) (fun _ _ _ => rfl)
  have t2 : gq_T I4 (k + 12) I (o + 12) := gq_T_of c2.1 (fun a x y => by rw [c4.2 a (by omega), c3.2 a (by omega)]) (fun a x y => (s1 a (by omega)).symm)
  have t3 : gq_T I4 (k + 23) I (o + 23) := gq_T_of c3.1 (fun a x y => by rw [c4.2 a (by omega)]) (fun a x y => (s2 a (by omega)).symm)
  have t4 : gq_T I4 (k + 34) I (o + 34) := gq_T_of c4.1 (fun a x y => rfl) (fun a x y => (s3 a (by omega)).symm)
  have ht4 : ∀ j, j < 3 → I4 (o + 45) j = 0 ∨ I4 (o + 45) j = 1 := fun j hj => by rw [s4 _ (by omega)]; exact ht j hj
  have e := l_State_copyFrom (G := G) (d := d) (E := E) hk ho I4 hd ht4 ?_ 3 0 rfl
  · refine gw_eq e rfl ?_
    funext a b
    unfold ga_cp
    rw [if_neg (by omega)]
  · refine k_State_copyFrom_46 hk ho ⟨by omega, by omega⟩ (fun hI => ⟨fun h1 J1 e1 J2 e2 J3 e3 => ⟨by omega, fun J4 e4 J5 e5 J6 e6 J7 e7 J8 e8 J9 e9 J10 e10 => ?_⟩, fun h1 => by exfalso; omega⟩)
    have u0 : ∀ a, a ≠ k + 45 → ga_cp I4 (o + 45) (k + 45) 0 0 3 a = I4 a := fun a q => ga_cp_fn q
    have u1 : ∀ a, a ≠ k + 46 → a ≠ k + 45 → J1 a = I4 a := fun a q q0 => by rw [e1, ga_cp_fn q, u0 a q0]
    have u2 : ∀ a, a ≠ k + 47 → a ≠ k + 46 → a ≠ k + 45 → J2 a = I4 a := fun a q q1 q0 => by rw [e2, ga_cp_fn q, u1 a q1 q0]
    have u3 : ∀ a, a ≠ k → a ≠ k + 47 → a ≠ k + 46 → a ≠ k + 45 → J3 a = I4 a := fun a q q2 q1 q0 => by rw [e3, ga_up_fn q, u2 a q2 q1 q0]
    have u4 : ∀ a, a ≠ k → (a < k + 45 ∨ k + 50 ≤ a) → J4 a = I4 a := fun a q q2 => by rw [e4.2 a (by omega), u3 a q (by omega) (by omega) (by omega)]
    have u6 : ∀ a, a ≠ k → (a < k + 45 ∨ k + 50 ≤ a) → J6 a = I4 a := fun a q q2 => by rw [e6, ga_up_fn q, e5, ga_up_fn q, u4 a q q2]
    have w6 : ∀ a, a ≠ k → J6 a = J4 a := fun a q => by rw [e6, ga_up_fn q, e5, ga_up_fn q]
    have w10 : ∀ a, (a < k + 50 ∨ k + 54 ≤ a) → J10 a = J6 a := fun a q => by rw [e10, ga_cp_fn (by omega), e9, ga_cp_fn (by omega), e8, ga_cp_fn (by omega), e7, ga_cp_fn (by omega)]
    have u10 : ∀ a, a ≠ k → (a < k + 45 ∨ k + 54 ≤ a) → J10 a = I4 a := fun a q q2 => by rw [w10 a (by omega), u6 a q (by omega)]
    have so : ∀ a, o ≤ a → a < o + 54 → I4 a = I a := fun a x y => s4 a (by omega)
    apply h
    refine ⟨⟨gq_T_of t1 (fun a x y => u10 a (by omega) (by omega)) (fun _ _ _ => rfl), gq_T_of t2 (fun a x y => u10 a (by omega) (by omega)) (fun _ _ _ => rfl), gq_T_of t3 (fun a x y => u10 a (by omega) (by omega)) (fun _ _ _ => rfl), gq_T_of t4 (fun a x y => u10 a (by omega) (by omega)) (fun _ _ _ => rfl), fun j hj => ?_, fun j hj => ?_, fun j hj => ?_, ?_, ⟨?_, ?_, fun j hj => ?_⟩, ?_, ?_, fun j hj => ?_, fun j hj => ?_, fun j hj => ?_, fun j hj => ?_⟩, fun a ha => ?_⟩
    · rw [w10 _ (by omega), w6 _ (by omega), e4.2 _ (by omega), e3, ga_up_ne (by omega), e2, ga_cp_ne (by omega), e1, ga_cp_ne (by omega), ga_cp_in hj, so _ (by omega) (by omega)]
    · rw [w10 _ (by omega), w6 _ (by omega), e4.2 _ (by omega), e3, ga_up_ne (by omega), e2, ga_cp_ne (by omega), e1, ga_cp_in hj, u0 _ (by omega), so _ (by omega) (by omega)]
    · rw [w10 _ (by omega), w6 _ (by omega), e4.2 _ (by omega), e3, ga_up_ne (by omega), e2, ga_cp_in hj, u1 _ (by omega) (by omega), so _ (by omega) (by omega)]
    · rw [w10 _ (by omega), e6, ga_up_nj (by omega), e5, ga_up_nj (by omega), e4.2 _ (by omega), e3, ga_up_at, u2 _ (by omega) (by omega) (by omega), so _ (by omega) (by omega)]
    · rw [w10 _ (by omega), w6 _ (by omega), e4.1.1, u3 _ (by omega) (by omega) (by omega) (by omega), so _ (by omega) (by omega)]
    · rw [w10 _ (by omega), w6 _ (by omega), e4.1.2.1, u3 _ (by omega) (by omega) (by omega) (by omega), so _ (by omega) (by omega)]
    · rw [w10 _ (by omega), w6 _ (by omega), e4.1.2.2 j hj, u3 _ (by omega) (by omega) (by omega) (by omega), so _ (by omega) (by omega)]
    · rw [w10 _ (by omega), e6, ga_up_nj (by omega), e5, ga_up_at, u4 _ (by omega) (by omega), so _ (by omega) (by omega)]
    · rw [w10 _ (by omega), e6, ga_up_at, e5, ga_up_ne (by omega), u4 _ (by omega) (by omega), so _ (by omega) (by omega)]
    · rw [e10, ga_cp_ne (by omega), e9, ga_cp_ne (by omega), e8, ga_cp_ne (by omega), e7, ga_cp_in hj, u6 _ (by omega) (by omega), so _ (by omega) (by omega)]
    · rw [e10, ga_cp_ne (by omega), e9, ga_cp_ne (by omega), e8, ga_cp_in hj, e7, ga_cp_ne (by omega), u6 _ (by omega) (by omega), so _ (by omega) (by omega)]
    · rw [e10, ga_cp_ne (by omega), e9, ga_cp_in hj, e8, ga_cp_ne (by omega), e7, ga_cp_ne (by omega), u6 _ (by omega) (by omega), so _ (by omega) (by omega)]
    · rw [e10, ga_cp_in hj, e9, ga_cp_ne (by omega), e8, ga_cp_ne (by omega), e7, ga_cp_ne (by omega), u6 _ (by omega) (by omega), so _ (by omega) (by omega)]
    · rw [u10 a (by omega) (by omega), s4 a (by omega)]
end LS
theorem k_History_keep_0 {G : ga_G} {d : Nat} {I : ga_I} {E : Option ga_V → ga_I → Prop} {o1 : Nat} (ho1 : ga_isS o1)
    (h : ga_RG I → (((I 55 0) < 5) → (ga_rg ((I 55 1) + (I 55 0))) ∧ ((0 ≤ (Int.tmod ((I 55 1) + (I 55 0)) 5)) ∧ (((Int.tmod ((I 55 1) + (I 55 0)) 5) < 5) ∧ ((o1 + 54 ≤ (57 + 54 * (Int.tmod ((I 55 1) + (I 55 0)) 5).toNat) ∨ (57 + 54 * (Int.tmod ((I 55 1) + (I 55 0)) 5).toNat) + 54 ≤ o1) ∧ ((∀ j, j < 3 → I (o1 + 45) j = 0 ∨ I (o1 + 45) j = 1) ∧ ((∀ I1 : ga_I, gr_cpS I I1 (57 + 54 * (Int.tmod ((I 55 1) + (I 55 0)) 5).toNat) o1 → (∀ I2 : ga_I, I2 = (ga_up I1 55 0 (ga_wr ((I1 55 0) + 1))) → E none I2)))))))) ∧ ((¬ ((I 55 0) < 5)) → (ga_rg ((I 55 1) + 1)) ∧ ((∀ I3 : ga_I, I3 = (ga_up I 55 1 (ga_wr (Int.tmod ((I 55 1) + 1) 5))) → (∀ I4 : ga_I, I4 = (ga_up I3 55 0 (ga_wr ((I3 55 0) - 1))) → (ga_rg ((I4 55 1) + (I4 55 0))) ∧ ((0 ≤ (Int.tmod ((I4 55 1) + (I4 55 0)) 5)) ∧ (((Int.tmod ((I4 55 1) + (I4 55 0)) 5) < 5) ∧ ((o1 + 54 ≤ (57 + 54 * (Int.tmod ((I4 55 1) + (I4 55 0)) 5).toNat) ∨ (57 + 54 * (Int.tmod ((I4 55 1) + (I4 55 0)) 5).toNat) + 54 ≤ o1) ∧ ((∀ j, j < 3 → I4 (o1 + 45) j = 0 ∨ I4 (o1 + 45) j = 1) ∧ ((∀ I5 : ga_I, gr_cpS I4 I5 (57 + 54 * (Int.tmod ((I4 55 1) + (I4 55 0)) 5).toNat) o1 → (∀ I6 : ga_I, I6 = (ga_up I5 55 0 (ga_wr ((I5 55 0) + 1))) → E none I6)))))))))))) :
    ga_W G (d + 4) mt_History_keep 0 (ga_en 3 [.inr 55, .inr o1]) [] I E := by
  show ga_W G (d + 4) mt_History_keep 0 [some (.inr 55), some (.inr o1), none] [] I E
  refine gw_RG (fun hI1 => ?_)
  have h := h hI1
  refine gw_aload_n 0 d_History_keep_0 rfl rfl ?_
  refine gw_getI d_History_keep_1 fl_History_18 (ga_oH) rfl ?_
  refine gw_iconst d_History_keep_4 ?_
  refine gw_icmp_lt 30 d_History_keep_5 (by decide) (hI1 _ _) ⟨by decide, by decide⟩ (fun hc => ?_) (fun hc => ?_)
  · have h := h.1 hc
    refine gw_aload_n 0 d_History_keep_30 rfl rfl ?_
    refine gw_getR d_History_keep_31 fl_History_11 (ga_oH) rfl ?_
    refine gw_aload_n 0 d_History_keep_34 rfl rfl ?_
    refine gw_getI d_History_keep_35 fl_History_22 (ga_oH) rfl ?_
    refine gw_aload_n 0 d_History_keep_38 rfl rfl ?_
    refine gw_getI d_History_keep_39 fl_History_18 (ga_oH) rfl ?_
    refine gw_iadd d_History_keep_42 ?_
    refine gw_iconst d_History_keep_43 ?_
    obtain ⟨g1, h⟩ := h
    refine gw_irem d_History_keep_44 g1 ⟨by decide, by decide⟩ (by decide) ?_
    obtain ⟨g2, h⟩ := h
    obtain ⟨g3, h⟩ := h
    refine gw_aald d_History_keep_45 ga_rH g2 (ga_hat (Int.tmod ((I 55 1) + (I 55 0)) 5).toNat (by omega)) ?_
    refine gw_astore_n 2 d_History_keep_46 rfl (Nat.le_of_ble_eq_true rfl) rfl ?_
    refine gw_aload_n 2 d_History_keep_47 rfl rfl ?_
    refine gw_ifnull d_History_keep_48 ?_
    refine gw_aload_n 2 d_History_keep_51 rfl rfl ?_
    refine gw_aload_n 1 d_History_keep_52 rfl rfl ?_
    obtain ⟨g4, h⟩ := h
    obtain ⟨g5, h⟩ := h
    refine gw_invV (as := [.inr o1]) (k := (57 + 54 * (Int.tmod ((I 55 1) + (I 55 0)) 5).toNat)) (rest := []) (d' := (d + 3)) d_History_keep_53 lk_History_25 (ga_rcv ((ga_sH (Int.tmod ((I 55 1) + (I 55 0)) 5).toNat (by omega)).1) rfl rfl) rfl (Nat.le_of_ble_eq_true rfl) (Nat.le_of_ble_eq_true rfl) rfl rfl (s_State_copyFrom (ga_sH (Int.tmod ((I 55 1) + (I 55 0)) 5).toNat (by omega)) ho1 g4 g5 (fun I1 q1 => ?_))
    have h := h I1 q1
    show ga_W G (d + 4) mt_History_keep 56 [some (.inr 55), some (.inr o1), some (.inr (57 + 54 * (Int.tmod ((I 55 1) + (I 55 0)) 5).toNat))] [] I1 E
    refine gw_RG (fun hI2 => ?_)
    refine gw_aload_n 0 d_History_keep_56 rfl rfl ?_
    refine gw_dup d_History_keep_57 ?_
    refine gw_getI d_History_keep_58 fl_History_18 (ga_oH) rfl ?_
    refine gw_iconst d_History_keep_61 ?_
    refine gw_iadd d_History_keep_62 ?_
    refine gw_putI d_History_keep_63 fp_History_18 (ga_oH) rfl ?_
    refine gw_nm (J := (ga_up I1 55 0 (ga_wr ((I1 55 0) + 1)))) (fun I2 q2 => ?_)
    have h := h I2 q2
    refine gw_RG (fun hI3 => ?_)
    exact gw_return d_History_keep_66 rfl h
  · have h := h.2 hc
    refine gw_aload_n 0 d_History_keep_8 rfl rfl ?_
    refine gw_aload_n 0 d_History_keep_9 rfl rfl ?_
    refine gw_getI d_History_keep_10 fl_History_22 (ga_oH) rfl ?_
    refine gw_iconst d_History_keep_13 ?_
    refine gw_iadd d_History_keep_14 ?_
    refine gw_iconst d_History_keep_15 ?_
    obtain ⟨g6, h⟩ := h
    refine gw_irem d_History_keep_16 g6 ⟨by decide, by decide⟩ (by decide) ?_
    refine gw_putI d_History_keep_17 fp_History_22 (ga_oH) rfl ?_
    refine gw_nm (J := (ga_up I 55 1 (ga_wr (Int.tmod ((I 55 1) + 1) 5)))) (fun I3 q3 => ?_)
    have h := h I3 q3
    refine gw_RG (fun hI4 => ?_)
    refine gw_aload_n 0 d_History_keep_20 rfl rfl ?_
    refine gw_dup d_History_keep_21 ?_
    refine gw_getI d_History_keep_22 fl_History_18 (ga_oH) rfl ?_
    refine gw_iconst d_History_keep_25 ?_
    refine gw_isub d_History_keep_26 ?_
    refine gw_putI d_History_keep_27 fp_History_18 (ga_oH) rfl ?_
    refine gw_nm (J := (ga_up I3 55 0 (ga_wr ((I3 55 0) - 1)))) (fun I4 q4 => ?_)
    have h := h I4 q4
    refine gw_RG (fun hI5 => ?_)
    refine gw_aload_n 0 d_History_keep_30 rfl rfl ?_
    refine gw_getR d_History_keep_31 fl_History_11 (ga_oH) rfl ?_
    refine gw_aload_n 0 d_History_keep_34 rfl rfl ?_
    refine gw_getI d_History_keep_35 fl_History_22 (ga_oH) rfl ?_
    refine gw_aload_n 0 d_History_keep_38 rfl rfl ?_
    refine gw_getI d_History_keep_39 fl_History_18 (ga_oH) rfl ?_
    refine gw_iadd d_History_keep_42 ?_
    refine gw_iconst d_History_keep_43 ?_
    obtain ⟨g7, h⟩ := h
    refine gw_irem d_History_keep_44 g7 ⟨by decide, by decide⟩ (by decide) ?_
    obtain ⟨g8, h⟩ := h
    obtain ⟨g9, h⟩ := h
    refine gw_aald d_History_keep_45 ga_rH g8 (ga_hat (Int.tmod ((I4 55 1) + (I4 55 0)) 5).toNat (by omega)) ?_
    refine gw_astore_n 2 d_History_keep_46 rfl (Nat.le_of_ble_eq_true rfl) rfl ?_
    refine gw_aload_n 2 d_History_keep_47 rfl rfl ?_
    refine gw_ifnull d_History_keep_48 ?_
    refine gw_aload_n 2 d_History_keep_51 rfl rfl ?_
    refine gw_aload_n 1 d_History_keep_52 rfl rfl ?_
    obtain ⟨g10, h⟩ := h
    obtain ⟨g11, h⟩ := h
    refine gw_invV (as := [.inr o1]) (k := (57 + 54 * (Int.tmod ((I4 55 1) + (I4 55 0)) 5).toNat)) (rest := []) (d' := (d + 3)) d_History_keep_53 lk_History_25 (ga_rcv ((ga_sH (Int.tmod ((I4 55 1) + (I4 55 0)) 5).toNat (by omega)).1) rfl rfl) rfl (Nat.le_of_ble_eq_true rfl) (Nat.le_of_ble_eq_true rfl) rfl rfl (s_State_copyFrom (ga_sH (Int.tmod ((I4 55 1) + (I4 55 0)) 5).toNat (by omega)) ho1 g10 g11 (fun I5 q5 => ?_))
    have h := h I5 q5
    show ga_W G (d + 4) mt_History_keep 56 [some (.inr 55), some (.inr o1), some (.inr (57 + 54 * (Int.tmod ((I4 55 1) + (I4 55 0)) 5).toNat))] [] I5 E
    refine gw_RG (fun hI6 => ?_)
    refine gw_aload_n 0 d_History_keep_56 rfl rfl ?_
    refine gw_dup d_History_keep_57 ?_
    refine gw_getI d_History_keep_58 fl_History_18 (ga_oH) rfl ?_
    refine gw_iconst d_History_keep_61 ?_
    refine gw_iadd d_History_keep_62 ?_
    refine gw_putI d_History_keep_63 fp_History_18 (ga_oH) rfl ?_
    refine gw_nm (J := (ga_up I5 55 0 (ga_wr ((I5 55 0) + 1)))) (fun I6 q6 => ?_)
    have h := h I6 q6
    refine gw_RG (fun hI7 => ?_)
    exact gw_return d_History_keep_66 rfl h

theorem k_History_bringBack_0 {G : ga_G} {d : Nat} {I : ga_I} {E : Option ga_V → ga_I → Prop} {o1 : Nat} (ho1 : ga_isS o1)
    (h : ga_RG I → ((0 < (I 55 0)) → (∀ I1 : ga_I, I1 = (ga_up I 55 0 (ga_wr ((I 55 0) - 1))) → (ga_rg ((I1 55 1) + (I1 55 0))) ∧ ((0 ≤ (Int.tmod ((I1 55 1) + (I1 55 0)) 5)) ∧ (((Int.tmod ((I1 55 1) + (I1 55 0)) 5) < 5) ∧ (((57 + 54 * (Int.tmod ((I1 55 1) + (I1 55 0)) 5).toNat) + 54 ≤ o1 ∨ o1 + 54 ≤ (57 + 54 * (Int.tmod ((I1 55 1) + (I1 55 0)) 5).toNat)) ∧ ((∀ j, j < 3 → I1 ((57 + 54 * (Int.tmod ((I1 55 1) + (I1 55 0)) 5).toNat) + 45) j = 0 ∨ I1 ((57 + 54 * (Int.tmod ((I1 55 1) + (I1 55 0)) 5).toNat) + 45) j = 1) ∧ ((∀ I2 : ga_I, gr_cpS I1 I2 o1 (57 + 54 * (Int.tmod ((I1 55 1) + (I1 55 0)) 5).toNat) → E none I2)))))))) ∧ ((¬ (0 < (I 55 0))) → E none I)) :
    ga_W G (d + 4) mt_History_bringBack 0 (ga_en 3 [.inr 55, .inr o1]) [] I E := by
  show ga_W G (d + 4) mt_History_bringBack 0 [some (.inr 55), some (.inr o1), none] [] I E
  refine gw_RG (fun hI1 => ?_)
  have h := h hI1
  refine gw_aload_n 0 d_History_bringBack_0 rfl rfl ?_
  refine gw_getI d_History_bringBack_1 fl_History_18 (ga_oH) rfl ?_
  refine gw_if_gt 8 d_History_bringBack_4 (by decide) (hI1 _ _) (fun hc => ?_) (fun hc => ?_)
  · have h := h.1 hc
    refine gw_aload_n 0 d_History_bringBack_8 rfl rfl ?_
    refine gw_dup d_History_bringBack_9 ?_
    refine gw_getI d_History_bringBack_10 fl_History_18 (ga_oH) rfl ?_
    refine gw_iconst d_History_bringBack_13 ?_
    refine gw_isub d_History_bringBack_14 ?_
    refine gw_putI d_History_bringBack_15 fp_History_18 (ga_oH) rfl ?_
    refine gw_nm (J := (ga_up I 55 0 (ga_wr ((I 55 0) - 1)))) (fun I1 q1 => ?_)
    have h := h I1 q1
    refine gw_RG (fun hI2 => ?_)
    refine gw_aload_n 0 d_History_bringBack_18 rfl rfl ?_
    refine gw_getR d_History_bringBack_19 fl_History_11 (ga_oH) rfl ?_
    refine gw_aload_n 0 d_History_bringBack_22 rfl rfl ?_
    refine gw_getI d_History_bringBack_23 fl_History_22 (ga_oH) rfl ?_
    refine gw_aload_n 0 d_History_bringBack_26 rfl rfl ?_
    refine gw_getI d_History_bringBack_27 fl_History_18 (ga_oH) rfl ?_
    refine gw_iadd d_History_bringBack_30 ?_
    refine gw_iconst d_History_bringBack_31 ?_
    obtain ⟨g1, h⟩ := h
    refine gw_irem d_History_bringBack_32 g1 ⟨by decide, by decide⟩ (by decide) ?_
    obtain ⟨g2, h⟩ := h
    obtain ⟨g3, h⟩ := h
    refine gw_aald d_History_bringBack_33 ga_rH g2 (ga_hat (Int.tmod ((I1 55 1) + (I1 55 0)) 5).toNat (by omega)) ?_
    refine gw_astore_n 2 d_History_bringBack_34 rfl (Nat.le_of_ble_eq_true rfl) rfl ?_
    refine gw_aload_n 2 d_History_bringBack_35 rfl rfl ?_
    refine gw_ifnull d_History_bringBack_36 ?_
    refine gw_aload_n 1 d_History_bringBack_39 rfl rfl ?_
    refine gw_aload_n 2 d_History_bringBack_40 rfl rfl ?_
    obtain ⟨g4, h⟩ := h
    obtain ⟨g5, h⟩ := h
    refine gw_invV (as := [.inr (57 + 54 * (Int.tmod ((I1 55 1) + (I1 55 0)) 5).toNat)]) (k := o1) (rest := []) (d' := (d + 3)) d_History_bringBack_41 lk_History_25 (ga_rcv (ho1.1) rfl rfl) rfl (Nat.le_of_ble_eq_true rfl) (Nat.le_of_ble_eq_true rfl) rfl rfl (s_State_copyFrom ho1 (ga_sH (Int.tmod ((I1 55 1) + (I1 55 0)) 5).toNat (by omega)) g4 g5 (fun I2 q2 => ?_))
    have h := h I2 q2
    show ga_W G (d + 4) mt_History_bringBack 44 [some (.inr 55), some (.inr o1), some (.inr (57 + 54 * (Int.tmod ((I1 55 1) + (I1 55 0)) 5).toNat))] [] I2 E
    refine gw_RG (fun hI3 => ?_)
    exact gw_return d_History_bringBack_44 rfl h
  · have h := h.2 hc
    exact gw_return d_History_bringBack_7 rfl h

