/-! the class: gains read, items, all -/
section TD
variable {G : ga_G} {d : Nat} {I : ga_I} {E : Option ga_V → ga_I → Prop} {t : Nat} {s : Nat → Int}
theorem gr_rn_st {K J : ga_I} {n : Nat} {lo hi z : Int} (m : xf I K) (x : xo_x K) (hn : K 327 1 = -1 → K 327 2 = (n : Int)) (c : gr_rn K J lo hi z) :
    xf I J ∧ xo_x J ∧ (K 327 1 ≠ -1 → J 327 1 = K 327 1) ∧ (K 327 1 = -1 → ((gp_rd (I 328) (I 327 0).toNat n lo hi).1 = true → J 327 1 = -1 ∧ J 327 2 = ((gp_rd (I 328) (I 327 0).toNat n lo hi).2.1 : Nat) ∧ z = (gp_rd (I 328) (I 327 0).toNat n lo hi).2.2) ∧ ((gp_rd (I 328) (I 327 0).toNat n lo hi).1 = false → J 327 1 = ((gp_rd (I 328) (I 327 0).toNat n lo hi).2.1 : Nat))) := by
  by_cases q : K 327 1 = -1
  · obtain ⟨a, b, e, f⟩ := c.2 q
    have hr : xt_rd K lo hi = gp_rd (I 328) (I 327 0).toNat n lo hi := by
      unfold xt_rd
      rw [m.1 328 (by omega), m.2 0 (by omega) (by omega), hn q, Int.toNat_natCast]
    rw [hr] at e f
    exact ⟨xf_tr m a, b, fun w => absurd q w, fun _ => ⟨e, f⟩⟩
  · obtain ⟨a, -⟩ := c.1 q
    subst a
    exact ⟨m, x, fun _ => rfl, fun w => absurd w q⟩
theorem s_Text_readGain (hT : ga_isT t) (ht : 328 < t) (hx : xo_x I) (hE : I 327 1 = -1) (hst : 0 ≤ I 327 2 ∧ I 327 2 < I 327 0) (hr : rt I t s) (hs : ni_t s) (h : ∀ J : ga_I, gr_ci I J t (gp_gd (I 328) (I 327 0).toNat s ((I 327 2).toNat + 1)) → E none J) :
    ga_W G (d + 3) mt_Text_readGain 0 (ga_en 6 [.inr 327, .inr t]) [] I E := by
  have hx1 : 0 ≤ I 327 0 ∧ I 327 0 ≤ 160 := hx.1
  have k0 := ni_n hs (ax := 0) (by omega)
  have k1 := ni_n hs (ax := 1) (by omega)
  have fin : ∀ (J : ga_I) (R : Bool × Nat × (Nat → Int)), (∀ a, a ≠ 327 → a < t ∨ t + 11 ≤ a → J a = I a) → (∀ j, j ≠ 1 → j ≠ 2 → J 327 j = I 327 j) → gp_gd (I 328) (I 327 0).toNat s ((I 327 2).toNat + 1) = R → (R.1 = true → J 327 1 = -1 ∧ J 327 2 = (R.2.1 : Nat) ∧ rt J t R.2.2) → (R.1 = false → J 327 1 = (R.2.1 : Nat)) → E none J := fun J R h1 h2 h3 h4 h5 => h J (by rw [h3]; exact ⟨h1, h2, h4, h5⟩)
  refine k_Text_readGain_0 hT (fun hI I1 e1 => ?_)
  rw [ga_wr_eq ⟨by omega, by omega⟩] at e1
  have n1 : I1 327 2 = (((I 327 2).toNat + 1 : Nat) : Int) := by rw [e1, ga_up_at]; omega
  have m1 : xf I I1 := ⟨fun a ha2 => by rw [e1, ga_up_fn (by omega)], fun j h1 h2 => by rw [e1, ga_up_nj (by omega)]⟩
  have E1 : I1 327 1 = -1 := by rw [e1, ga_up_nj (by omega)]; exact hE
  have x1 : xo_x I1 := xo_x_of hx m1 n1 (by omega)
  have c0 : I1 (t + 1) 0 = ms_n s 0 := by rw [m1.1 (t + 1) (by omega)]; exact hr.1.1
  rw [c0]
  have B1 := gp_rd_bd (t := I 328) (l := (I 327 0).toNat) (n := (I 327 2).toNat + 1) (lo := 0) (hi := ms_n s 0) (by omega)
  have eR1 : gp_gd (I 328) (I 327 0).toNat s ((I 327 2).toNat + 1) = gp_h2 (I 328) (I 327 0).toNat s (gp_rd (I 328) (I 327 0).toNat ((I 327 2).toNat + 1) 0 (ms_n s 0)) := rfl
  refine s_Text_readNumber x1 (by omega) (by omega) (fun I2 z1 c2 => ⟨z1, rfl, ?_⟩)
  obtain ⟨m2, x2, -, y2⟩ := gr_rn_st m1 x1 (fun _ => n1) c2
  have y2 := y2 E1
  generalize gp_rd (I 328) (I 327 0).toNat ((I 327 2).toNat + 1) 0 (ms_n s 0) = R1 at *
  have c1 : I2 (t + 5) 0 = ms_n s 1 := by rw [m2.1 (t + 5) (by omega)]; exact hr.2.1.1
  rw [c1]
  refine s_Text_readNumber x2 (by omega) (by omega) (fun I3 z2 c3 => ⟨z2, rfl, ?_⟩)
  obtain ⟨m3, x3, w3, y3⟩ := gr_rn_st (n := R1.2.1) m2 x2 (fun w => by
    by_cases q : R1.1 = true
    · exact (y2.1 q).2.1
    · have := y2.2 (by simpa using q); omega) c3
  have B2 := gp_rd_bd (t := I 328) (l := (I 327 0).toNat) (n := R1.2.1) (lo := 0) (hi := ms_n s 1) B1.2.1
  have eR2 : R1.1 = true → gp_gd (I 328) (I 327 0).toNat s ((I 327 2).toNat + 1) = gp_h3 (I 328) (I 327 0).toNat s R1.2.2 (gp_rd (I 328) (I 327 0).toNat R1.2.1 0 (ms_n s 1)) := fun q => by rw [eR1]; unfold gp_h2; rw [if_pos q]
  generalize gp_rd (I 328) (I 327 0).toNat R1.2.1 0 (ms_n s 1) = R2 at *
  have S2 : I3 327 1 = -1 → R1.1 = true ∧ R2.1 = true ∧ I3 327 2 = (R2.2.1 : Nat) := fun w => by
    have q : R1.1 = true := by
      cases hq : R1.1 with
      | true => rfl
      | false =>
        have a := y2.2 hq
        have b := w3 (by omega)
        exfalso; omega
    have e2 := (y2.1 q).1
    have q2 : R2.1 = true := by
      cases hq : R2.1 with
      | true => rfl
      | false =>
        have a := (y3 e2).2 hq
        exfalso; omega
    exact ⟨q, q2, ((y3 e2).1 q2).2.1⟩
  refine s_Text_readNumber x3 (by omega) (by omega) (fun I4 z3 c4 => ⟨z3, rfl, ?_⟩)
  obtain ⟨m4, x4, w4, y4⟩ := gr_rn_st (n := R2.2.1) m3 x3 (fun w => (S2 w).2.2) c4
  have B3 := gp_rd_bd (t := I 328) (l := (I 327 0).toNat) (n := R2.2.1) (lo := 0) (hi := 2) B2.2.1
  have eR3 : R1.1 = true → R2.1 = true → gp_gd (I 328) (I 327 0).toNat s ((I 327 2).toNat + 1) = gp_h4 (I 328) (I 327 0).toNat s R1.2.2 R2.2.2 (gp_rd (I 328) (I 327 0).toNat R2.2.1 0 2) := fun q q' => by rw [eR2 q]; unfold gp_h3; rw [if_pos q']
  generalize gp_rd (I 328) (I 327 0).toNat R2.2.1 0 2 = R3 at *
  have S3 : I4 327 1 = -1 → I3 327 1 = -1 ∧ R3.1 = true ∧ I4 327 2 = (R3.2.1 : Nat) := fun w => by
    have e3 : I3 327 1 = -1 := by
      by_cases u : I3 327 1 = -1
      · exact u
      · have b := w4 u
        exfalso; omega
    have q2 : R3.1 = true := by
      cases hq : R3.1 with
      | true => rfl
      | false =>
        have a := (y4 e3).2 hq
        exfalso; omega
    exact ⟨e3, q2, ((y4 e3).1 q2).2.1⟩
  refine s_Text_readNumber x4 (by omega) (by omega) (fun I5 z4 c5 => ⟨z4, rfl, ?_⟩)
  obtain ⟨m5, x5, w5, y5⟩ := gr_rn_st (n := R3.2.1) m4 x4 (fun w => (S3 w).2.2) c5
  have B4 := gp_rd_bd (t := I 328) (l := (I 327 0).toNat) (n := R3.2.1) (lo := 0) (hi := 9999) B3.2.1
  have eR4 : R1.1 = true → R2.1 = true → R3.1 = true → gp_gd (I 328) (I 327 0).toNat s ((I 327 2).toNat + 1) = gp_h5 (I 328) (I 327 0).toNat s R1.2.2 R2.2.2 R3.2.2 (gp_rd (I 328) (I 327 0).toNat R3.2.1 0 9999) := fun q q' q'' => by rw [eR3 q q']; unfold gp_h4; rw [if_pos q'']
  generalize gp_rd (I 328) (I 327 0).toNat R3.2.1 0 9999 = R4 at *
  refine s_Text_readEndOfItem x5 (fun I6 c6 => ⟨rfl, ?_⟩)
  have bad : ∀ n : Nat, I5 327 1 = (n : Int) → gp_gd (I 328) (I 327 0).toNat s ((I 327 2).toNat + 1) = (false, n, s) → I6 327 1 ≠ -1 ∧ E none I6 := fun n hn he => by
    have e6 := c6.1 (by omega)
    rw [e6]
    exact ⟨by omega, fin I5 _ (fun a h1 _ => m5.1 a h1) m5.2 he (fun w => by cases w) (fun _ => hn)⟩
  have go : ∀ n : Nat, I5 327 1 = (n : Int) → gp_gd (I 328) (I 327 0).toNat s ((I 327 2).toNat + 1) = (false, n, s) → (I6 327 1 ≠ -1 → E none I6) ∧ (I6 327 1 = -1 → (0 ≤ (z1 * 7 + z2) * 3 + z3 ∧ (z1 * 7 + z2) * 3 + z3 < 147) ∧ ga_rg z4 ∧ ∀ I7 : ga_I, I7 = ga_up I6 (t + 9) ((z1 * 7 + z2) * 3 + z3).toNat z4 → E none I7) := fun n hn he => ⟨fun _ => (bad n hn he).2, fun w => absurd w (bad n hn he).1⟩
  cases q1 : R1.1 with
  | false =>
    have a2 := y2.2 q1
    have a3 := w3 (by omega)
    have a4 := w4 (by omega)
    have a5 := w5 (by omega)
    exact go R1.2.1 (by omega) (by rw [eR1]; unfold gp_h2; rw [if_neg (by rw [q1]; decide)])
  | true =>
    obtain ⟨a2, -, v1⟩ := y2.1 q1
    have b1 := B1.2.2 q1
    cases q2 : R2.1 with
    | false =>
      have a3 := (y3 a2).2 q2
      have a4 := w4 (by omega)
      have a5 := w5 (by omega)
      exact go R2.2.1 (by omega) (by rw [eR2 q1]; unfold gp_h3; rw [if_neg (by rw [q2]; decide)])
    | true =>
      obtain ⟨a3, -, v2⟩ := (y3 a2).1 q2
      have b2 := B2.2.2 q2
      cases q3 : R3.1 with
      | false =>
        have a4 := (y4 a3).2 q3
        have a5 := w5 (by omega)
        exact go R3.2.1 (by omega) (by rw [eR3 q1 q2]; unfold gp_h4; rw [if_neg (by rw [q3]; decide)])
      | true =>
        obtain ⟨a4, -, v3⟩ := (y4 a3).1 q3
        have b3 := B3.2.2 q3
        cases q4 : R4.1 with
        | false =>
          have a5 := (y5 a4).2 q4
          exact go R4.2.1 (by omega) (by rw [eR4 q1 q2 q3]; unfold gp_h5; rw [if_neg (by rw [q4]; decide)])
        | true =>
          obtain ⟨a5, n5, v4⟩ := (y5 a4).1 q4
          have b4 := B4.2.2 q4
          have p5 : xt_p I5 = gp_sp (I 328) (I 327 0).toNat R4.2.1 := by
            unfold xt_p
            rw [m5.1 328 (by omega), m5.2 0 (by omega) (by omega), n5, Int.toNat_natCast]
          obtain ⟨m6', x6, y6, w6⟩ := c6.2 a5
          have m6 := xf_tr m5 m6'
          rw [m5.1 328 (by omega), m5.2 0 (by omega) (by omega), p5] at y6 w6
          have eR := eR4 q1 q2 q3
          unfold gp_h5 at eR
          rw [if_pos q4] at eR
          refine ⟨fun u => ?_, fun u => ⟨by omega, ⟨by omega, by omega⟩, fun I7 e7 => ?_⟩⟩
          · have nok : ¬ gt_ok (I 328) (I 327 0).toNat (gp_sp (I 328) (I 327 0).toNat R4.2.1) 59 := fun w => u (y6 w).1
            rw [if_neg nok] at eR
            exact fin I6 _ (fun a h1 _ => m6.1 a h1) m6.2 eR (fun w => by cases w) (fun _ => w6 nok)
          · have ok : gt_ok (I 328) (I 327 0).toNat (gp_sp (I 328) (I 327 0).toNat R4.2.1) 59 := Decidable.byContradiction (fun w => by have := w6 w; omega)
            rw [if_pos ok] at eR
            refine fin I7 _ (fun a h1 h2 => by rw [e7, ga_up_fn (by omega)]; exact m6.1 a h1) (fun j h1 h2 => by rw [e7, ga_up_fn (by omega)]; exact m6.2 j h1 h2) eR (fun _ => ⟨by rw [e7, ga_up_fn (by omega)]; exact u, by rw [e7, ga_up_fn (by omega)]; exact (y6 ok).2, ?_⟩) (fun w => by cases w)
            have r6 : rt I6 t s := rt_of (fun a h1 h2 => m6.1 a (by omega)) hr
            rw [v1, v2, v3, v4] at e7
            show rt I7 t (ns_up s (38 + 4 * (7 * R1.2.2 + R2.2.2) + R3.2.2).toNat R4.2.2)
            have f7 : ∀ a, a ≠ t + 9 → I7 a = I6 a := fun a ha => by rw [e7, ga_up_fn ha]
            have o : ∀ j, j < 38 → ns_up s (38 + 4 * (7 * R1.2.2 + R2.2.2) + R3.2.2).toNat R4.2.2 j = s j := fun j hj => ns_up_ne (by omega)
            refine ⟨rt_b_row (by omega) k0.2 o (rt_b_of (fun a h1 h2 => f7 a (by omega)) r6.1), rt_b_row (by omega) k1.2 o (rt_b_of (fun a h1 h2 => f7 a (by omega)) r6.2.1), fun g i hg hi => ?_, fun g hg => ?_⟩
            · rw [e7]
              by_cases w : g = (7 * R1.2.2 + R2.2.2).toNat ∧ i = R3.2.2.toNat
              · rw [show g * 3 + i = ((R1.2.2 * 7 + R2.2.2) * 3 + R3.2.2).toNat by omega, ga_up_at, show 38 + 4 * g + i = (38 + 4 * (7 * R1.2.2 + R2.2.2) + R3.2.2).toNat by omega, ns_up_at]
              · rw [ga_up_nj (by omega), ns_up_ne (by omega)]; exact r6.2.2.1 g i hg hi
            · rw [f7 _ (by omega), ns_up_ne (by omega)]; exact r6.2.2.2 g hg
end TD
theorem k_Text_readItem_0 {G : ga_G} {d : Nat} {I : ga_I} {E : Option ga_V → ga_I → Prop} {o1 : Nat} 
    (h : ga_RG I → (xo_x I) ∧ ((∀ I1 : ga_I, I1 = (ga_up I 327 2 (xt_p I : Nat)) → (ga_rg (xt_hv I)) ∧ ((((xt_hv I) ≠ 120) → (((xt_hv I) ≠ 121) → (((xt_hv I) ≠ 103) → (∀ I2 : ga_I, I2 = (ga_up I1 327 1 (I1 327 2)) → E none I2)) ∧ (((xt_hv I) = 103) → ga_W G (d + 3) mt_Text_readGain 0 (ga_en 6 [.inr 327, .inr o1]) [] I1 (fun v I3 => v = none ∧ (E none I3)))) ∧ (((xt_hv I) = 121) → ga_W G (d + 3) mt_Text_readBorder 0 (ga_en 8 [.inr 327, .inr o1, .inl 1]) [] I1 (fun v I4 => v = none ∧ (E none I4)))) ∧ (((xt_hv I) = 120) → ga_W G (d + 3) mt_Text_readBorder 0 (ga_en 8 [.inr 327, .inr o1, .inl 0]) [] I1 (fun v I5 => v = none ∧ (E none I5))))))) :
    ga_W G (d + 4) mt_Text_readItem 0 (ga_en 3 [.inr 327, .inr o1]) [] I E := by
  show ga_W G (d + 4) mt_Text_readItem 0 [some (.inr 327), some (.inr o1), none] [] I E
  refine gw_RG (fun hI1 => ?_)
  have h := h hI1
  refine gw_aload_n 0 d_Text_readItem_0 rfl rfl ?_
  obtain ⟨g1, h⟩ := h
  refine gw_invV (as := []) (k := 327) (rest := []) (d' := (d + 3)) d_Text_readItem_1 lk_Text_30 (ga_rcv (ga_oX) rfl rfl) rfl (Nat.le_of_ble_eq_true rfl) (Nat.le_of_ble_eq_true rfl) rfl rfl (s_Text_peek g1 ?_)
  show ga_W G (d + 4) mt_Text_readItem 4 [some (.inr 327), some (.inr o1), none] [.inl (xt_hv I)] (ga_up I 327 2 (xt_p I : Nat)) E
  refine gw_nm (fun I1 q1 => ?_)
  have h := h I1 q1
  refine gw_RG (fun hI2 => ?_)
  refine gw_istore_n 2 d_Text_readItem_4 rfl (Nat.le_of_ble_eq_true rfl) rfl ?_
  refine gw_iload_n 2 d_Text_readItem_5 rfl rfl ?_
  refine gw_bipush d_Text_readItem_6 (by decide +kernel) ?_
  obtain ⟨g2, h⟩ := h
  refine gw_icmp_ne 20 d_Text_readItem_8 (by decide) g2 ⟨by decide, by decide⟩ (fun hc => ?_) (fun hc => ?_)
  · have h := h.1 hc
    refine gw_iload_n 2 d_Text_readItem_20 rfl rfl ?_
    refine gw_bipush d_Text_readItem_21 (by decide +kernel) ?_
    refine gw_icmp_ne 35 d_Text_readItem_23 (by decide) g2 ⟨by decide, by decide⟩ (fun hc => ?_) (fun hc => ?_)
    · have h := h.1 hc
      refine gw_iload_n 2 d_Text_readItem_35 rfl rfl ?_
      refine gw_bipush d_Text_readItem_36 (by decide +kernel) ?_
      refine gw_icmp_ne 49 d_Text_readItem_38 (by decide) g2 ⟨by decide, by decide⟩ (fun hc => ?_) (fun hc => ?_)
      · have h := h.1 hc
        refine gw_aload_n 0 d_Text_readItem_49 rfl rfl ?_
        refine gw_aload_n 0 d_Text_readItem_50 rfl rfl ?_
        refine gw_getI d_Text_readItem_51 fl_Text_27 (ga_oX) rfl ?_
        refine gw_putI d_Text_readItem_54 fp_Text_11 (ga_oX) rfl ?_
        show ga_W G (d + 4) mt_Text_readItem 57 [some (.inr 327), some (.inr o1), some (.inl (xt_hv I))] [] (ga_up I1 327 1 (ga_wr (I1 327 2))) E
        rw [ga_wr_eq (z := (I1 327 2)) (hI2 _ _)]
        refine gw_nm (J := (ga_up I1 327 1 (I1 327 2))) (fun I2 q2 => ?_)
        have h := h I2 q2
        refine gw_RG (fun hI3 => ?_)
        exact gw_return d_Text_readItem_57 rfl h
      · have h := h.2 hc
        refine gw_aload_n 0 d_Text_readItem_41 rfl rfl ?_
        refine gw_aload_n 1 d_Text_readItem_42 rfl rfl ?_
        refine gw_invV (as := [.inr o1]) (k := 327) (rest := []) (d' := (d + 3)) d_Text_readItem_43 lk_Text_42 (ga_rcv (ga_oX) rfl rfl) rfl (Nat.le_of_ble_eq_true rfl) (Nat.le_of_ble_eq_true rfl) rfl rfl (gw_mono (fun v I3 hv => ?_) h)
        obtain ⟨rfl, h⟩ := hv
        show ga_W G (d + 4) mt_Text_readItem 46 [some (.inr 327), some (.inr o1), some (.inl (xt_hv I))] [] I3 E
        refine gw_RG (fun hI4 => ?_)
        refine gw_goto 57 d_Text_readItem_46 (by decide) ?_
        exact gw_return d_Text_readItem_57 rfl h
    · have h := h.2 hc
      refine gw_aload_n 0 d_Text_readItem_26 rfl rfl ?_
      refine gw_aload_n 1 d_Text_readItem_27 rfl rfl ?_
      refine gw_iconst d_Text_readItem_28 ?_
      refine gw_invV (as := [.inr o1, .inl 1]) (k := 327) (rest := []) (d' := (d + 3)) d_Text_readItem_29 lk_Text_38 (ga_rcv (ga_oX) rfl rfl) rfl (Nat.le_of_ble_eq_true rfl) (Nat.le_of_ble_eq_true rfl) rfl rfl (gw_mono (fun v I4 hv => ?_) h)
      obtain ⟨rfl, h⟩ := hv
      show ga_W G (d + 4) mt_Text_readItem 32 [some (.inr 327), some (.inr o1), some (.inl (xt_hv I))] [] I4 E
      refine gw_RG (fun hI5 => ?_)
      refine gw_goto 57 d_Text_readItem_32 (by decide) ?_
      exact gw_return d_Text_readItem_57 rfl h
  · have h := h.2 hc
    refine gw_aload_n 0 d_Text_readItem_11 rfl rfl ?_
    refine gw_aload_n 1 d_Text_readItem_12 rfl rfl ?_
    refine gw_iconst d_Text_readItem_13 ?_
    refine gw_invV (as := [.inr o1, .inl 0]) (k := 327) (rest := []) (d' := (d + 3)) d_Text_readItem_14 lk_Text_38 (ga_rcv (ga_oX) rfl rfl) rfl (Nat.le_of_ble_eq_true rfl) (Nat.le_of_ble_eq_true rfl) rfl rfl (gw_mono (fun v I5 hv => ?_) h)
    obtain ⟨rfl, h⟩ := hv
    show ga_W G (d + 4) mt_Text_readItem 17 [some (.inr 327), some (.inr o1), some (.inl (xt_hv I))] [] I5 E
    refine gw_RG (fun hI6 => ?_)
    refine gw_goto 57 d_Text_readItem_17 (by decide) ?_
    exact gw_return d_Text_readItem_57 rfl h

theorem k_Text_readInto_0 {G : ga_G} {d : Nat} {I : ga_I} {E : Option ga_V → ga_I → Prop} {o1 : Nat} (ho1 : ga_isT o1)
    (h : ga_RG I → (∀ I1 : ga_I, gr_cl I I1 o1 → (∀ I2 : ga_I, I2 = (ga_up I1 327 2 0) → (∀ I3 : ga_I, I3 = (ga_up I2 327 1 (-1)) → ga_W G (d + 5) mt_Text_readInto 16 [some (.inr 327), some (.inr o1), some (.inl 0)] [] I3 E)))) :
    ga_W G (d + 5) mt_Text_readInto 0 (ga_en 3 [.inr 327, .inr o1]) [] I E := by
  show ga_W G (d + 5) mt_Text_readInto 0 [some (.inr 327), some (.inr o1), none] [] I E
  refine gw_RG (fun hI1 => ?_)
  have h := h hI1
  refine gw_aload_n 1 d_Text_readInto_0 rfl rfl ?_
  refine gw_invV (as := []) (k := o1) (rest := []) (d' := (d + 4)) d_Text_readInto_1 lk_Text_22 (ga_rcv (ho1.1) rfl rfl) rfl (Nat.le_of_ble_eq_true rfl) (Nat.le_of_ble_eq_true rfl) rfl rfl (s_Table_clear ho1 (fun I1 q1 => ?_))
  have h := h I1 q1
  show ga_W G (d + 5) mt_Text_readInto 4 [some (.inr 327), some (.inr o1), none] [] I1 E
  refine gw_RG (fun hI2 => ?_)
  refine gw_aload_n 0 d_Text_readInto_4 rfl rfl ?_
  refine gw_iconst d_Text_readInto_5 ?_
  refine gw_putI d_Text_readInto_6 fp_Text_27 (ga_oX) rfl ?_
  show ga_W G (d + 5) mt_Text_readInto 9 [some (.inr 327), some (.inr o1), none] [] (ga_up I1 327 2 (ga_wr 0)) E
  rw [ga_wr_eq (z := 0) ⟨by decide, by decide⟩]
  refine gw_nm (J := (ga_up I1 327 2 0)) (fun I2 q2 => ?_)
  have h := h I2 q2
  refine gw_RG (fun hI3 => ?_)
  refine gw_aload_n 0 d_Text_readInto_9 rfl rfl ?_
  refine gw_iconst d_Text_readInto_10 ?_
  refine gw_putI d_Text_readInto_11 fp_Text_11 (ga_oX) rfl ?_
  show ga_W G (d + 5) mt_Text_readInto 14 [some (.inr 327), some (.inr o1), none] [] (ga_up I2 327 1 (ga_wr (-1))) E
  rw [ga_wr_eq (z := (-1)) ⟨by decide, by decide⟩]
  refine gw_nm (J := (ga_up I2 327 1 (-1))) (fun I3 q3 => ?_)
  have h := h I3 q3
  refine gw_RG (fun hI4 => ?_)
  refine gw_iconst d_Text_readInto_14 ?_
  refine gw_istore_n 2 d_Text_readInto_15 rfl (Nat.le_of_ble_eq_true rfl) rfl ?_
  exact gw_le h (by exact ⟨rfl, ⟨rfl, ⟨rfl, trivial⟩⟩⟩)
theorem k_Text_readInto_16 {G : ga_G} {d : Nat} {I : ga_I} {E : Option ga_V → ga_I → Prop} {o1 : Nat} {v2 : Int} (r2 : ga_rg v2)
    (h : ga_RG I → ((160 ≤ v2) → E (some (.inl v2)) I) ∧ ((¬ (160 ≤ v2)) → (((I 327 1) ≠ (-1)) → E (some (.inl v2)) I) ∧ (((I 327 1) = (-1)) → (xo_x I) ∧ ((∀ I1 : ga_I, I1 = (ga_up I 327 2 (xt_p I : Nat)) → (ga_rg (xt_hv I)) ∧ ((((xt_hv I) = 0) → E (some (.inl v2)) I1) ∧ ((¬ ((xt_hv I) = 0)) → ga_W G (d + 4) mt_Text_readItem 0 (ga_en 3 [.inr 327, .inr o1]) [] I1 (fun v I2 => v = none ∧ (ga_W G (d + 5) mt_Text_readInto 16 [some (.inr 327), some (.inr o1), some (.inl (v2 + 1))] [] I2 E))))))))) :
    ga_W G (d + 5) mt_Text_readInto 16 [some (.inr 327), some (.inr o1), some (.inl v2)] [] I E := by
  refine gw_RG (fun hI1 => ?_)
  have h := h hI1
  refine gw_iload_n 2 d_Text_readInto_16 rfl rfl ?_
  refine gw_sipush d_Text_readInto_17 (by decide +kernel) ?_
  refine gw_icmp_ge 49 d_Text_readInto_20 (by decide) r2 ⟨by decide, by decide⟩ (fun hc => ?_) (fun hc => ?_)
  · have h := h.1 hc
    refine gw_iload_n 2 d_Text_readInto_49 rfl rfl ?_
    exact gw_ireturn d_Text_readInto_50 rfl h
  · have h := h.2 hc
    refine gw_aload_n 0 d_Text_readInto_23 rfl rfl ?_
    refine gw_getI d_Text_readInto_24 fl_Text_11 (ga_oX) rfl ?_
    refine gw_iconst d_Text_readInto_27 ?_
    refine gw_icmp_ne 49 d_Text_readInto_28 (by decide) (hI1 _ _) ⟨by decide, by decide⟩ (fun hc => ?_) (fun hc => ?_)
    · have h := h.1 hc
      refine gw_iload_n 2 d_Text_readInto_49 rfl rfl ?_
      exact gw_ireturn d_Text_readInto_50 rfl h
    · have h := h.2 hc
      refine gw_aload_n 0 d_Text_readInto_31 rfl rfl ?_
      obtain ⟨g1, h⟩ := h
      refine gw_invV (as := []) (k := 327) (rest := []) (d' := (d + 4)) d_Text_readInto_32 lk_Text_30 (ga_rcv (ga_oX) rfl rfl) rfl (Nat.le_of_ble_eq_true rfl) (Nat.le_of_ble_eq_true rfl) rfl rfl (s_Text_peek g1 ?_)
      show ga_W G (d + 5) mt_Text_readInto 35 [some (.inr 327), some (.inr o1), some (.inl v2)] [.inl (xt_hv I)] (ga_up I 327 2 (xt_p I : Nat)) E
      refine gw_nm (fun I1 q1 => ?_)
      have h := h I1 q1
      refine gw_RG (fun hI2 => ?_)
      obtain ⟨g2, h⟩ := h
      refine gw_if_eq 49 d_Text_readInto_35 (by decide) g2 (fun hc => ?_) (fun hc => ?_)
      · have h := h.1 hc
        refine gw_iload_n 2 d_Text_readInto_49 rfl rfl ?_
        exact gw_ireturn d_Text_readInto_50 rfl h
      · have h := h.2 hc
        refine gw_aload_n 0 d_Text_readInto_38 rfl rfl ?_
        refine gw_aload_n 1 d_Text_readInto_39 rfl rfl ?_
        refine gw_invV (as := [.inr o1]) (k := 327) (rest := []) (d' := (d + 4)) d_Text_readInto_40 lk_Text_34 (ga_rcv (ga_oX) rfl rfl) rfl (Nat.le_of_ble_eq_true rfl) (Nat.le_of_ble_eq_true rfl) rfl rfl (gw_mono (fun v I2 hv => ?_) h)
        obtain ⟨rfl, h⟩ := hv
        show ga_W G (d + 5) mt_Text_readInto 43 [some (.inr 327), some (.inr o1), some (.inl v2)] [] I2 E
        refine gw_RG (fun hI3 => ?_)
        refine gw_iinc 2 d_Text_readInto_43 rfl rfl ?_
        refine gw_goto 16 d_Text_readInto_46 (by decide) ?_
        exact gw_le h (by exact ⟨rfl, ⟨rfl, ⟨rfl, trivial⟩⟩⟩)

section TD
variable {G : ga_G} {d : Nat} {I : ga_I} {E : Option ga_V → ga_I → Prop} {t : Nat} {s : Nat → Int}
theorem s_Text_readItem (hT : ga_isT t) (ht : 328 < t) (hx : xo_x I) (hE : I 327 1 = -1) (hp : (xt_p I : Int) < I 327 0) (hr : rt I t s) (hs : ni_t s) (h : ∀ J : ga_I, gr_ci I J t (gp_it (I 328) (I 327 0).toNat s (xt_p I)) → E none J) :
    ga_W G (d + 4) mt_Text_readItem 0 (ga_en 3 [.inr 327, .inr t]) [] I E := by
  have hx1 : 0 ≤ I 327 0 ∧ I 327 0 ≤ 160 := hx.1
  have hb := xt_hv_bd hx
  have hpb := xt_p_bd hx
  have ev : xt_hv I = I 328 (xt_p I) := by unfold xt_hv gp_ch; rw [if_pos (by omega), Int.toNat_natCast]
  refine k_Text_readItem_0 (fun hI => ⟨hx, fun I1 e1 => ⟨⟨by omega, by omega⟩, ?_⟩⟩)
  have n1 : I1 327 2 = (xt_p I : Nat) := by rw [e1, ga_up_at]
  have m1 : xf I I1 := ⟨fun a ha2 => by rw [e1, ga_up_fn (by omega)], fun j h1 h2 => by rw [e1, ga_up_nj (by omega)]⟩
  have E1 : I1 327 1 = -1 := by rw [e1, ga_up_nj (by omega)]; exact hE
  have x1 : xo_x I1 := xo_x_of hx m1 n1 (by omega)
  have l1 : I1 327 0 = I 327 0 := m1.2 0 (by omega) (by omega)
  have t1 : I1 328 = I 328 := m1.1 328 (by omega)
  have r1 : rt I1 t s := rt_of (fun a h1 h2 => m1.1 a (by omega)) hr
  have go : ∀ (J : ga_I) (R : Bool × Nat × (Nat → Int)), gr_ci I1 J t R → gp_it (I 328) (I 327 0).toNat s (xt_p I) = R → E none J := fun J R c he => h J (by
    rw [he]
    exact ⟨fun a h1 h2 => (c.1 a h1 h2).trans (m1.1 a h1), fun j h1 h2 => (c.2.1 j h1 h2).trans (m1.2 j h1 h2), c.2.2⟩)
  unfold gp_it at go
  rw [← ev] at go
  refine ⟨fun q1 => ⟨fun q2 => ⟨fun q3 I2 e2 => ?_, fun q3 => ?_⟩, fun q2 => ?_⟩, fun q1 => ?_⟩
  · refine go I2 (false, xt_p I, s) ⟨fun a h1 _ => by rw [e2, ga_up_fn (by omega)], fun j h1 h2 => by rw [e2, ga_up_nj (by omega)], fun w => by (cases w), fun _ => by rw [e2, ga_up_at, n1]⟩ (by rw [if_neg q1, if_neg q2, if_neg q3])
  · refine s_Text_readGain hT ht x1 E1 (by rw [n1, l1]; omega) r1 hs (fun J c => ⟨rfl, ?_⟩)
    rw [t1, l1, n1, Int.toNat_natCast] at c
    exact go J _ c (by rw [if_neg q1, if_neg q2, if_pos q3])
  · refine s_Text_readBorder hT ht x1 E1 (by rw [n1, l1]; omega) r1 hs (by omega) (fun J c => ⟨rfl, ?_⟩)
    rw [t1, l1, n1, Int.toNat_natCast] at c
    exact go J _ c (by rw [if_neg q1, if_pos q2])
  · refine s_Text_readBorder hT ht x1 E1 (by rw [n1, l1]; omega) r1 hs (by omega) (fun J c => ⟨rfl, ?_⟩)
    rw [t1, l1, n1, Int.toNat_natCast] at c
    exact go J _ c (by rw [if_pos q1])
def gr_ld (B J : ga_I) (t : Nat) (R : Bool × Nat × (Nat → Int) × Int) (z : Int) : Prop := (∀ a, a ≠ 327 → a < t ∨ t + 11 ≤ a → J a = B a) ∧ (∀ j, j ≠ 1 → j ≠ 2 → J 327 j = B 327 j) ∧ (R.1 = true → J 327 1 = -1 ∧ rt J t R.2.2.1 ∧ z = R.2.2.2) ∧ (R.1 = false → J 327 1 = (R.2.1 : Nat))
theorem l_Text_readInto (hT : ga_isT t) (ht : 328 < t) (B : ga_I) {R : Bool × Nat × (Nat → Int) × Int} (h : ∀ (J : ga_I) (z : Int), gr_ld B J t R z → E (some (.inl z)) J) :
    ∀ (f : Nat) (I : ga_I) (k n : Nat) (s : Nat → Int), (∀ a, a ≠ 327 → a < t ∨ t + 11 ≤ a → I a = B a) → (∀ j, j ≠ 1 → j ≠ 2 → I 327 j = B 327 j) → xo_x I → I 327 1 = -1 → I 327 2 = (n : Int) → k ≤ n → rt I t s → ni_t s → (B 327 0).toNat < n + f → gp_ld (B 328) (B 327 0).toNat f n s (k : Int) = R →
    ga_W G (d + 5) mt_Text_readInto 16 [some (.inr 327), some (.inr t), some (.inl (k : Int))] [] I E := by
  intro f
  induction f with
  | zero =>
    intro I k n s h1 h2 hx hE hn hk hr hs hl hR
    have a1 : 0 ≤ I 327 0 ∧ I 327 0 ≤ 160 := hx.1
    have a2 := hx.2.1
    have a3 := h2 0 (by omega) (by omega)
    exfalso; omega
  | succ f ih =>
    intro I k n s h1 h2 hx hE hn hk hr hs hl hR
    have hx1 : 0 ≤ I 327 0 ∧ I 327 0 ≤ 160 := hx.1
    have hx2 := hx.2.1
    have l1 : I 327 0 = B 327 0 := h2 0 (by omega) (by omega)
    have x1 : I 328 = B 328 := h1 328 (by omega) (by omega)
    have hpb := xt_p_bd hx
    have hhb := xt_hv_bd hx
    have ep : xt_p I = gp_sp (B 328) (B 327 0).toNat n := by unfold xt_p; rw [x1, l1, hn, Int.toNat_natCast]
    have end_ : ∀ J : ga_I, xf I J → J 327 1 = -1 → ¬ (xt_p I < (B 327 0).toNat) → E (some (.inl (k : Int))) J := fun J mJ eJ hge => by
      unfold gp_ld at hR
      rw [← ep, if_neg hge] at hR
      refine h J k ⟨fun a w1 w2 => (mJ.1 a w1).trans (h1 a w1 w2), fun j w1 w2 => (mJ.2 j w1 w2).trans (h2 j w1 w2), fun _ => ⟨eJ, ?_, by rw [← hR]⟩, fun w => by rw [← hR] at w; cases w⟩
      rw [← hR]
      exact rt_of (fun a w1 w2 => mJ.1 a (by omega)) hr
    refine k_Text_readInto_16 ⟨by omega, by omega⟩ (fun hI => ⟨fun q => end_ I ⟨fun a _ => rfl, fun j _ _ => rfl⟩ hE (by omega), fun q0 => ⟨fun q => absurd hE q, fun _ => ⟨hx, fun I7 e7 => ?_⟩⟩⟩)
    have n7 : I7 327 2 = (xt_p I : Nat) := by rw [e7, ga_up_at]
    have m7 : xf I I7 := ⟨fun a ha => by rw [e7, ga_up_fn (by omega)], fun j h1 h2 => by rw [e7, ga_up_nj (by omega)]⟩
    have E7 : I7 327 1 = -1 := by rw [e7, ga_up_nj (by omega)]; exact hE
    refine ⟨⟨by omega, by omega⟩, fun q => ?_, fun q => ?_⟩
    · refine end_ I7 m7 E7 (fun w => ?_)
      unfold xt_hv gp_ch at q
      rw [if_pos (by omega), Int.toNat_natCast] at q
      have := hx.2.2 (xt_p I) (by omega)
      omega
    · have hlt : xt_p I < (B 327 0).toNat := by
        unfold xt_hv gp_ch at q
        by_cases w : 0 ≤ (xt_p I : Int) ∧ (xt_p I : Int) < I 327 0
        · omega
        · rw [if_neg w] at q; exact absurd rfl q
      have x7 : xo_x I7 := xo_x_of hx m7 n7 (by omega)
      have ns := (gp_sp_bd (t := I 328) (l := (I 327 0).toNat) ((I 327 0).toNat - (I 327 2).toNat) (I 327 2).toNat (by omega)).2.2
      change ¬ (xt_p I < (I 327 0).toNat ∧ I 328 (xt_p I) = 32) at ns
      have l7 : I7 327 0 = I 327 0 := m7.2 0 (by omega) (by omega)
      have t7 : I7 328 = I 328 := m7.1 328 (by omega)
      have p7 : xt_p I7 = xt_p I := by
        unfold xt_p
        rw [l7, t7, n7, Int.toNat_natCast]
        exact gp_sp_e ns
      refine s_Text_readItem hT ht x7 E7 (by rw [p7, l7]; omega) (rt_of (fun a w1 w2 => m7.1 a (by omega)) hr) hs (fun J c => ⟨rfl, ?_⟩)
      rw [p7, l7, t7, l1, x1] at c
      unfold gp_ld at hR
      rw [← ep, if_pos hlt] at hR
      obtain ⟨u1, u2, u3, u4, -⟩ := pr_ok_it (t := B 328) hs hlt
      generalize gp_it (B 328) (B 327 0).toNat s (xt_p I) = R1 at *
      obtain ⟨g1, g2, g3, g4⟩ := c
      have f1 : ∀ a, a ≠ 327 → a < t ∨ t + 11 ≤ a → J a = B a := fun a w1 w2 => (g1 a w1 w2).trans ((m7.1 a w1).trans (h1 a w1 w2))
      have f2 : ∀ j, j ≠ 1 → j ≠ 2 → J 327 j = B 327 j := fun j w1 w2 => (g2 j w1 w2).trans ((m7.2 j w1 w2).trans (h2 j w1 w2))
      by_cases q2 : R1.1 = true
      · rw [if_pos q2] at hR
        obtain ⟨b1, b2, b3⟩ := g3 q2
        have xJ : xo_x J := by
          have a1 : J 327 0 = B 327 0 := f2 0 (by omega) (by omega)
          have a2 : J 328 = B 328 := f1 328 (by omega) (by omega)
          refine ⟨by unfold gr_X; rw [a1, ← l1]; exact hx1, by rw [a1, b2]; omega, by rw [a1, a2, ← l1, ← x1]; exact hx.2.2⟩
        have e := ih J (k + 1) R1.2.1 R1.2.2 f1 f2 xJ b1 b2 (by have := u4 q2; omega) b3 u1 (by have := u4 q2; omega) (by rw [show ((k + 1 : Nat) : Int) = (k : Int) + 1 by omega]; exact hR)
        rw [show ((k + 1 : Nat) : Int) = (k : Int) + 1 by omega] at e
        exact e
      · rw [if_neg q2] at hR
        have b1 := g4 (by simpa using q2)
        have fin := h J ((k : Int) + 1) ⟨f1, f2, fun w => by rw [← hR] at w; (cases w), fun _ => by rw [← hR]; exact b1⟩
        exact k_Text_readInto_16 ⟨by omega, by omega⟩ (fun hI => ⟨fun q => fin, fun _ => ⟨fun q => fin, fun q => by exfalso; omega⟩⟩)
theorem s_Text_readInto (hT : ga_isT t) (ht : 328 < t) {l : Int} (hl : 0 ≤ l ∧ l ≤ 160) (h0 : I 327 0 = l) (hc : ∀ i : Nat, (i : Int) < l → 1 ≤ I 328 i ∧ I 328 i ≤ 255) (s : Nat → Int) (h : ∀ (J : ga_I) (z : Int), gr_ld I J t (gp_ld (I 328) l.toNat (l.toNat + 1) 0 (ns_em s) 0) z → E (some (.inl z)) J) :
    ga_W G (d + 5) mt_Text_readInto 0 (ga_en 3 [.inr 327, .inr t]) [] I E := by
  refine k_Text_readInto_0 hT (fun hI I1 c1 I2 e2 I3 e3 => ?_)
  obtain ⟨g1, g2, g3, g4, g5⟩ := c1
  have f3 : ∀ a, a ≠ 327 → a < t ∨ t + 11 ≤ a → I3 a = I a := fun a h1 h2 => by rw [e3, ga_up_fn (by omega), e2, ga_up_fn (by omega), g5 a h2]
  have s3 : ∀ j, j ≠ 1 → j ≠ 2 → I3 327 j = I 327 j := fun j h1 h2 => by rw [e3, ga_up_nj (by omega), e2, ga_up_nj (by omega), g5 327 (by omega)]
  have k3 : ∀ a, a ≠ 327 → I3 a = I1 a := fun a h1 => by rw [e3, ga_up_fn (by omega), e2, ga_up_fn (by omega)]
  have n3 : I3 327 2 = ((0 : Nat) : Int) := by rw [e3, ga_up_nj (by omega), e2, ga_up_at]; rfl
  have E3 : I3 327 1 = -1 := by rw [e3, ga_up_at]
  have l3 : I3 327 0 = l := by rw [s3 0 (by omega) (by omega), h0]
  have x3 : xo_x I3 := ⟨by unfold gr_X; rw [l3]; exact hl, by rw [n3, l3]; exact ⟨by omega, hl.1⟩, by rw [l3, f3 328 (by omega) (by omega)]; exact hc⟩
  have z0 : ms_n (ns_em s) 0 = 0 := by
    show ns_em s 0 = 0
    unfold ns_em ns_cl
    rw [if_neg (by omega), ns_up_ne (by omega), ns_up_at]
  have z1 : ms_n (ns_em s) 1 = 0 := by
    show ns_em s 19 = 0
    unfold ns_em ns_cl
    rw [if_neg (by omega), ns_up_at]
  have zv : ∀ g i : Nat, g < 49 → i < 4 → ns_em s (38 + 4 * g + i) = ns_c3 i := fun g i hg hi => by
    unfold ns_em ns_cl
    rw [if_pos (by omega)]; congr 1; omega
  have r3 : rt I3 t (ns_em s) := by
    refine ⟨⟨by rw [k3 _ (by omega), g1, z0], fun b hb => by rw [z0] at hb; exfalso; omega⟩, ⟨by rw [k3 _ (by omega), g2, z1], fun b hb => by rw [z1] at hb; exfalso; omega⟩, fun g i hg hi => ?_, fun g hg => ?_⟩
    · rw [k3 _ (by omega), g3 _ (by omega), zv g i hg (by omega)]; unfold ns_c3; rw [if_neg (by omega)]
    · rw [k3 _ (by omega), g4 _ hg, zv g 3 hg (by omega)]; rfl
  have e := l_Text_readInto (G := G) (d := d) (E := E) hT ht I3 (R := gp_ld (I 328) l.toNat (l.toNat + 1) 0 (ns_em s) 0) (fun J z c => h J z ⟨fun a h1 h2 => (c.1 a h1 h2).trans (f3 a h1 h2), fun j h1 h2 => (c.2.1 j h1 h2).trans (s3 j h1 h2), c.2.2⟩) (l.toNat + 1) I3 0 0 (ns_em s) (fun _ _ _ => rfl) (fun _ _ _ => rfl) x3 E3 n3 (Nat.le_refl _) r3 (ni_em s) (by rw [l3]; omega) (by rw [f3 328 (by omega) (by omega), l3]; rfl)
  exact e
end TD
