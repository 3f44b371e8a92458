/-! the class: calls that change something -/
section TG
variable {G : ga_G} {d : Nat} {I : ga_I} {E : Option ga_V → ga_I → Prop} {A : na_A}
def nx_E (E : Option ga_V → ga_I → Prop) (I : ga_I) (R : na_A × Int) : Prop := ∀ J, rx J R.1 → (∀ a, 348 ≤ a → J a = I a) → E (some (.inl R.2)) J
theorem nx_q {J : ga_I} {R : na_A × Int} {z : Int} (h : nx_E E I R) (hx : rx I A) (f : ∀ a, (1 ≤ a ∧ a < 329) ∨ 348 ≤ a → J a = I a) (hR : R = (A, z)) : E (some (.inl z)) J := by
  subst hR
  exact h J (rx_fr hx (fun a ha => f a (Or.inl ha))) (fun a ha => f a (Or.inr ha))
theorem nx_0 {R : na_A × Int} {z : Int} (h : nx_E E I R) (hx : rx I A) (hR : R = (A, z)) : E (some (.inl z)) I := nx_q h hx (fun _ _ => rfl) hR
theorem kp_fr {I1 : ga_I} (c : gr_kp I I1) : ∀ a, a < 55 ∨ a = 56 ∨ 327 ≤ a → I1 a = I a := by
  obtain ⟨f, n, hc, c1, c2, c3, c4⟩ := c
  exact fun a ha => c4 a (by omega) (by omega)
theorem kp_rs {I1 : ga_I} {s : Nat → Int} (hr : rs I 1 s) (c : gr_kp I I1) : rs I1 1 s := rs_of (fun a w1 w2 => kp_fr c a (by omega)) hr
theorem nx_u {I1 J : ga_I} {R : na_A × Int} {r : Nat → Int} {z : Int} (h : nx_E E I R) (hA : ni_a A) (hx : rx I A) (hN : ni_a R.1) (c : gr_kp I I1) (f : ∀ a, (55 ≤ a ∧ a < 329) ∨ 348 ≤ a → J a = I1 a) (hr : rs J 1 r) (hR : R = (na_act A r, z)) : E (some (.inl z)) J := by
  subst hR
  exact h J (rx_up (rx_kp hA hx c) (fun a ha => f a (Or.inl ha)) hr hN.1) (fun a ha => (f a (Or.inr ha)).trans (kp_fr c a (by omega)))
theorem rt_gn {t : Nat} {s : Nat → Int} (hs : ni_t s) (h : rt I t s) : gt_n I t := by
  have n0 := ni_n hs (ax := 0) (by omega)
  have n1 := ni_n hs (ax := 1) (by omega)
  refine ⟨?_, ?_⟩
  · rw [h.1.1]; exact n0
  · rw [h.2.1.1]; exact n1
theorem x_addBorder {ax x q r : Int} (r1 : ga_rg ax) (r2 : ga_rg x) (r3 : ga_rg q) (r4 : ga_rg r) (hx : rx I A) (hA : ni_a A) (h : nx_E E I (no_addBorder A ax x q r)) : ga_W G (d + 5) mt_GT_addBorder 0 (ga_en 8 [.inr 0, .inl ax, .inl x, .inl q, .inl r]) [] I E := by
  have hs := hA.1
  have hr := hx.1
  have hN := nk_addBorder (ax := ax) (x := x) (q := q) (r := r) hA
  unfold no_addBorder at h hN
  refine k_GT_addBorder_0 r1 r2 r3 r4 (fun hI => ⟨fun q1 => nx_0 h hx (by rw [if_pos (fun w => q1 w.1)]), fun q1 => ⟨fun q2 => nx_0 h hx (by rw [if_pos (fun w => q2 w.2.1)]), fun q2 => ⟨fun q3 => nx_0 h hx (by rw [if_pos (fun w => q3 w.2.2.1.1)]), fun q3 => ?_⟩⟩⟩)
  have ek : (if q = 1 then (1 : Int) else 0) = q := by
    by_cases w : q = 1
    · rw [if_pos w, w]
    · rw [if_neg w]; omega
  rw [ek]
  refine ⟨fun q4 => nx_0 h hx (by rw [if_pos (fun w => q4 w.2.2.1.2)]), fun q4 => ⟨⟨by omega, by omega⟩, ⟨by omega, by omega⟩, fun q5 => ?_, fun q5 => nx_0 h hx (by rw [if_pos (fun w => q5 w.2.2.2)])⟩⟩
  have hat := rt_at hr.1 q1
  have cc : ¬ ¬ ((0 ≤ ax ∧ ax ≤ 1) ∧ (1 ≤ x ∧ x ≤ 999) ∧ ((0 ≤ q ∧ q ≤ 1) ∧ (q ≤ r ∧ r ≤ 100)) ∧ (0 ≤ x - r ∧ x + r ≤ 1000)) := fun w => w ⟨q1, q2, ⟨q3, q4⟩, q5⟩
  have n6 := ni_n hs.1 q1
  change rt_b I (ga_bo 2 ax) A.1 ax at hat
  have fr := rt_fr hat x r (-2000000009)
  rw [gp_fr_neg (p := I (ga_bo 2 ax + 1)) (r := I (ga_bo 2 ax + 3)) (e := -1) (e' := -2000000009) (by decide) (by decide), fr, hat.1]
  refine ⟨rt_b_ok hat (ni_axs hs.1 q1), fun q6 => ⟨fun q7 => ⟨hx.2.1, fun I1 c1 => ?_⟩, fun q7 => nx_0 h hx (by rw [if_neg cc, if_neg (by rw [q6]; decide), if_pos (by omega)])⟩, fun q6 => nx_0 h hx (by rw [if_neg cc, if_pos q6])⟩
  have hr1 := kp_rs hr c1
  have hat1 : rt_b I1 (ga_bo 2 ax) A.1 ax := rt_at hr1.1 q1
  refine ⟨rt_gn hs.1 hr1.1, fun z1 f1 => ⟨rt_b_ok hat1 (ni_axs hs.1 q1), by rw [hat1.1]; omega, fun I2 c2 => ?_⟩⟩
  have f1' : z1 = ns_tt A.1 := f1.trans (rt_g3 hs.1 hr1.1)
  obtain ⟨t2, g2⟩ := rt_sp hs.1 hr1.1 q1 (by omega) c2
  have ht := ni_t_in hs.1 q1 q2 (by omega) q4.2 ⟨q4.1, q5, q6, by omega⟩
  have hbs := gp_st_bd (ms_p A.1 ax) x (ms_n A.1 ax).toNat
  obtain ⟨u1, u2⟩ := rs_st (z := z1) hs hr1 t2 ht (fun j hj => ns_in_hi q1 (by omega) (by omega) hj) (fun a ha => g2 a (by omega))
  refine ⟨rt_b_ok t2.1 ht.1, rt_b_ok t2.2.1 ht.2.1, fun I3 e3 => ?_⟩
  rw [rt_st hat1, hat1.1] at *
  rw [e3]
  refine nx_u h hA hx hN c1 (fun a ha => (u2 a (by omega) (by omega)).trans (g2 a (by omega))) u1 ?_
  rw [if_neg cc, if_neg (by rw [q6]; decide), if_neg (by omega), f1']
  rfl
theorem x_removeBorder {ax b : Int} (r1 : ga_rg ax) (r2 : ga_rg b) (hx : rx I A) (hA : ni_a A) (h : nx_E E I (no_removeBorder A ax b)) : ga_W G (d + 5) mt_GT_removeBorder 0 (ga_en 4 [.inr 0, .inl ax, .inl b]) [] I E := by
  have hs := hA.1
  have hr := hx.1
  have hN := nk_removeBorder (ax := ax) (b := b) hA
  unfold no_removeBorder at h hN
  have hat : 0 ≤ ax ∧ ax ≤ 1 → I (ga_bo 2 ax) 0 = ms_n A.1 ax := fun q => (rt_at hr.1 q).1
  refine k_GT_removeBorder_0 r1 r2 (fun hI => ⟨fun q1 => ⟨hx.2.1, fun I1 c1 => ?_⟩, fun q1 => nx_0 h hx (by rw [if_pos (fun w => q1 ⟨w.1, by rw [hat w.1]; exact w.2⟩)])⟩)
  rw [hat q1.1] at q1
  have hr1 := kp_rs hr c1
  have hat1 : rt_b I1 (ga_bo 2 ax) A.1 ax := rt_at hr1.1 q1.1
  have n6 := ni_n hs.1 q1.1
  refine ⟨rt_gn hs.1 hr1.1, fun z1 f1 => ⟨rt_b_ok hat1 (ni_axs hs.1 q1.1), by rw [hat1.1]; exact q1.2, fun I2 c2 => ?_⟩⟩
  have f1' : z1 = ns_tt A.1 := f1.trans (rt_g3 hs.1 hr1.1)
  obtain ⟨t2, g2⟩ := rt_mg hs.1 hr1.1 q1.1 q1.2 c2
  have ht := ni_t_de hs.1 q1.1 q1.2
  obtain ⟨u1, u2⟩ := rs_st (z := z1) hs hr1 t2 ht (fun j hj => ns_de_hi q1.1 (by omega) hj) (fun a ha => g2 a (by omega))
  refine ⟨rt_b_ok t2.1 ht.1, rt_b_ok t2.2.1 ht.2.1, fun I3 e3 => ?_⟩
  have hsz : I3 (ga_bo 2 ax) 0 = ms_n A.1 ax - 1 := by
    have hbo : ga_bo 2 ax = 3 ∨ ga_bo 2 ax = 7 := by
      unfold ga_bo
      by_cases e : ax = 0
      · rw [if_pos e]; exact Or.inl rfl
      · rw [if_neg e]; exact Or.inr rfl
    rw [e3, u2 _ (by omega) (by omega), (rt_at t2 q1.1).1]
    show ns_de A.1 ax b.toNat (ms_n A.1 ax).toNat (19 * ax).toNat = ms_n A.1 ax - 1
    unfold ns_de; rw [if_pos rfl]; rfl
  rw [hsz, e3]
  refine nx_u h hA hx hN c1 (fun a ha => (u2 a (by omega) (by omega)).trans (g2 a (by omega))) u1 ?_
  rw [if_neg (fun w => w q1), f1']
theorem x_setReach {ax b r : Int} (r1 : ga_rg ax) (r2 : ga_rg b) (r3 : ga_rg r) (hx : rx I A) (hA : ni_a A) (h : nx_E E I (no_setReach A ax b r)) : ga_W G (d + 5) mt_GT_setReach 0 (ga_en 7 [.inr 0, .inl ax, .inl b, .inl r]) [] I E := by
  have hs := hA.1
  have hr := hx.1
  have hN := nk_setReach (ax := ax) (b := b) (r := r) hA
  unfold no_setReach at h hN
  have hat : 0 ≤ ax ∧ ax ≤ 1 → I (ga_bo 2 ax) 0 = ms_n A.1 ax := fun q => (rt_at hr.1 q).1
  refine k_GT_setReach_0 r1 r2 r3 (fun hI => ⟨fun q1 => ?_, fun q1 => nx_0 h hx (by rw [if_pos (fun w => q1 ⟨w.1, by rw [hat w.1]; exact w.2⟩)])⟩)
  rw [hat q1.1] at q1
  have hat0 : rt_b I (ga_bo 2 ax) A.1 ax := rt_at hr.1 q1.1
  have n6 := ni_n hs.1 q1.1
  obtain ⟨p1, k1, w1⟩ := ni_b (b := b.toNat) hs.1 q1.1 (by omega)
  obtain ⟨v1, v2, v3⟩ := hat0.2 b.toNat (by omega)
  have at' : ∀ (J : ga_I) (j : Nat), J (ga_bo 2 ax) 0 = ms_n A.1 ax → gb_at J (ga_bo 2 ax) j b = J j b.toNat := fun J j hj => by
    unfold gb_at; rw [hj, if_pos q1.2]
  refine ⟨rt_b_ok hat0 (ni_axs hs.1 q1.1), fun z1 f1 z2 f2 => ?_⟩
  rw [at' I _ hat0.1, v1] at f1
  rw [at' I _ hat0.1, v2] at f2
  have ek : (if z2 = 1 then (1 : Int) else 0) = z2 := by
    by_cases w : z2 = 1
    · rw [if_pos w, w]
    · rw [if_neg w]; omega
  rw [ek]
  have fr := rt_fr hat0 z1 r b
  rw [fr, f1, f2]
  refine ⟨fun q2 => nx_0 h hx (by rw [if_neg (fun w => w q1), if_pos (fun w => q2 w.1)]), fun q2 => ⟨⟨by omega, by omega⟩, ⟨by omega, by omega⟩, fun q3 => ⟨fun q4 => ⟨hx.2.1, fun I1 c1 => ?_⟩, fun q4 => nx_0 h hx (by rw [if_neg (fun w => w q1), if_neg (fun w => w ⟨q2, q3⟩), if_pos q4])⟩, fun q3 => nx_0 h hx (by rw [if_neg (fun w => w q1), if_pos (fun w => q3 w.2)])⟩⟩
  have hr1 := kp_rs hr c1
  have hat1 : rt_b I1 (ga_bo 2 ax) A.1 ax := rt_at hr1.1 q1.1
  refine ⟨rt_b_ok hat1 (ni_axs hs.1 q1.1), fun z3 f3 => ⟨by rw [hat1.1]; exact q1.2, fun I2 e2 => ?_⟩⟩
  rw [at' I1 _ hat1.1, (hat1.2 b.toNat (by omega)).2.2] at f3
  have hbo : ga_bo 2 ax = 3 ∧ ax = 0 ∨ ga_bo 2 ax = 7 ∧ ax = 1 := by
    unfold ga_bo
    by_cases e : ax = 0
    · rw [if_pos e]; exact Or.inl ⟨rfl, e⟩
    · rw [if_neg e]; exact Or.inr ⟨rfl, by omega⟩
  have o2 : ∀ a, a ≠ ga_bo 2 ax + 3 → I2 a = I1 a := fun a ha => by rw [e2, ga_up_fn ha]
  have hok : ni_ok (na_cw A.1 ax b.toNat r) ax := by
    obtain ⟨d1, d2, d3, d4⟩ := na_cw_p (s := A.1) (b := b.toNat) (w := r) q1.1
    unfold ni_ok
    rw [d1, d2, d3, d4]
    exact gp_ok_up (ni_axs hs.1 q1.1) (by omega) q2 q3 (by rw [show ((b.toNat : Nat) : Int) = b by omega]; exact q4)
  have ht : ni_t (na_cw A.1 ax b.toNat r) := ni_t_cw hs.1 q1.1 (by omega) hok
  have B1 : rt_b I2 (ga_bo 2 ax) (na_cw A.1 ax b.toNat r) ax := by
    obtain ⟨d1, d2, d3, d4⟩ := na_cw_p (s := A.1) (b := b.toNat) (w := r) q1.1
    unfold rt_b
    rw [d1, d2, d3, d4]
    refine ⟨by rw [o2 _ (by omega)]; exact hat1.1, fun k hk => ?_⟩
    obtain ⟨g1, g2, g3⟩ := hat1.2 k hk
    rw [o2 _ (by omega), o2 _ (by omega)]
    refine ⟨g1, g2, ?_⟩
    show I2 (ga_bo 2 ax + 3) k = if k = b.toNat then r else ms_r A.1 ax k
    rw [e2]
    by_cases w : k = b.toNat
    · rw [w, ga_up_at, if_pos rfl]
    · rw [ga_up_nj w, if_neg w]; exact g3
  have t2 : rt I2 2 (na_cw A.1 ax b.toNat r) := by
    have hb6 : b.toNat < 6 := by omega
    have B2 : ∀ a, 0 ≤ a ∧ a ≤ 1 → rt_b I2 (ga_bo 2 a) (na_cw A.1 ax b.toNat r) a := fun a ha => by
      by_cases e : a = ax
      · rw [e]; exact B1
      · have hbo2 : ga_bo 2 a = 3 ∧ a = 0 ∨ ga_bo 2 a = 7 ∧ a = 1 := by
          unfold ga_bo
          by_cases e : a = 0
          · rw [if_pos e]; exact Or.inl ⟨rfl, e⟩
          · rw [if_neg e]; exact Or.inr ⟨rfl, by omega⟩
        have h3 : rt_b I1 (ga_bo 2 a) A.1 a := rt_at hr1.1 ha
        have nn := ni_n hs.1 ha
        have o : ∀ j, (19 * a).toNat ≤ j → j < (19 * a).toNat + 19 → na_cw A.1 ax b.toNat r j = A.1 j := fun j x1 x2 => ns_up_ne (by omega)
        have e0 : ms_n (na_cw A.1 ax b.toNat r) a = ms_n A.1 a := o _ (by omega) (by omega)
        refine ⟨by rw [e0, o2 _ (by omega)]; exact h3.1, fun k hk => ?_⟩
        rw [e0] at hk
        obtain ⟨g1, g2, g3⟩ := h3.2 k hk
        rw [o2 _ (by omega), o2 _ (by omega), o2 _ (by omega), g1, g2, g3]
        exact ⟨(o _ (by omega) (by omega)).symm, (o _ (by omega) (by omega)).symm, (o _ (by omega) (by omega)).symm⟩
    refine ⟨B2 0 (by omega), B2 1 (by omega), fun g i hg hi => ?_, fun g hg => ?_⟩
    · rw [o2 _ (by omega)]; unfold na_cw; rw [ns_up_ne (by omega)]; exact hr1.1.2.2.1 g i hg hi
    · rw [o2 _ (by omega)]; unfold na_cw; rw [ns_up_ne (by omega)]; exact hr1.1.2.2.2 g hg
  have ec : ∀ j, 234 ≤ j → na_cw A.1 ax b.toNat r j = A.1 j := fun j hj => ns_up_ne (by omega)
  obtain ⟨u1, u2⟩ := rs_fz hs hr1 t2 ht (fun j h1 h2 => ec j h1) (fun a h1 h2 => o2 a (by omega)) (fun a ha => by rw [o2 _ (by omega), ec _ (by omega)]; exact hr1.2.2.2.2.2.2.2.2.2 a ha)
  refine ⟨rt_b_ok t2.1 ht.1, rt_b_ok t2.2.1 ht.2.1, fun I3 e3 => ?_⟩
  rw [f3, e3]
  refine nx_u h hA hx hN c1 (fun a ha => (u2 a (by omega)).trans (o2 a (by omega))) u1 ?_
  rw [if_neg (fun w => w q1), if_neg (fun w => w ⟨q2, q3⟩), if_neg (by rw [q4]; decide)]
  rfl
theorem x_setMargin {z : Int} (r1 : ga_rg z) (hx : rx I A) (hA : ni_a A) (h : nx_E E I (no_setMargin A z)) : ga_W G (d + 5) mt_GT_setMargin 0 (ga_en 3 [.inr 0, .inl z]) [] I E := by
  have hs := hA.1
  have hr := hx.1
  have hN := nk_setMargin (z := z) hA
  unfold no_setMargin at h hN
  refine k_GT_setMargin_0 r1 (fun hI => ⟨fun q1 => ⟨hx.2.1, fun I1 c1 I2 e2 => ?_⟩, fun q1 => nx_0 h hx (by rw [if_pos q1])⟩)
  have hr1 := kp_rs hr c1
  have o2 : ∀ a, a ≠ 1 → I2 a = I1 a := fun a ha => by rw [e2, ga_up_fn ha]
  have os : ∀ j, j ≠ 238 → ns_up A.1 238 z j = A.1 j := fun j hj => ns_up_ne hj
  rw [hr1.2.2.2.2.1]
  refine nx_u h hA hx hN c1 (fun a ha => o2 a (by omega)) (rs_gen hs hr1 (rt_row hs.1 (fun j hj => os j (by omega)) (rt_of (fun a w1 w2 => o2 a (by omega)) hr1.1)) ?_ ?_ (fun op ho => ?_) (fun a ha => ?_) (fun a ha => o2 a (by omega)) ?_ (fun j hj => os j (by omega))) (by rw [if_neg (fun w => w q1)])
  · rw [o2 _ (by omega), os _ (by omega), os _ (by omega)]; exact hr1.2.2.2.1
  · rw [e2, ga_up_at, ns_up_at]
  · rw [o2 _ (by omega), o2 _ (by omega), o2 _ (by omega), os _ (by omega), os _ (by omega), os _ (by omega)]; exact hr1.2.2.2.2.2.2.2.2.1 op ho
  · rw [o2 _ (by omega), os _ (by omega)]; exact hr1.2.2.2.2.2.2.2.2.2 a ha
  · rw [e2, ga_up_nj (by omega), ga_up_nj (by omega)]; exact ⟨rfl, rfl⟩
theorem x_setOperator {op w z : Int} (r1 : ga_rg op) (r2 : ga_rg w) (r3 : ga_rg z) (hx : rx I A) (hA : ni_a A) (h : nx_E E I (no_setOperator A op w z)) : ga_W G (d + 5) mt_GT_setOperator 0 (ga_en 6 [.inr 0, .inl op, .inl w, .inl z]) [] I E := by
  have hs := hA.1
  have hr := hx.1
  have hN := nk_setOperator (op := op) (w := w) (z := z) hA
  unfold no_setOperator at h hN
  have bad : ¬ ((0 ≤ op ∧ op ≤ 2) ∧ ((w = 0 ∧ 1 ≤ z ∧ z ≤ 9999) ∨ (w = 1 ∧ 0 ≤ z ∧ z ≤ 99999))) → E (some (.inl (-2000000001))) I := fun q => nx_0 h hx (by rw [if_pos q])
  have good : ∀ I1 : ga_I, gr_kp I I1 → ((0 ≤ op ∧ op ≤ 2) ∧ ((w = 0 ∧ 1 ≤ z ∧ z ≤ 9999) ∨ (w = 1 ∧ 0 ≤ z ∧ z ≤ 99999))) → ∀ (c : Nat), (w = 0 ∧ c = 51) ∨ (w = 1 ∧ c = 52) → ∀ I2 : ga_I, I2 = ga_up I1 c op.toNat z → E (some (.inl (I1 c op.toNat))) I2 := fun I1 c1 q c hc I2 e2 => by
    have hr1 := kp_rs hr c1
    have o2 : ∀ a, a ≠ c → I2 a = I1 a := fun a ha => by rw [e2, ga_up_fn ha]
    have os : ∀ j, j ≠ (241 + 3 * op + w).toNat → ns_up A.1 (241 + 3 * op + w).toNat z j = A.1 j := fun j hj => ns_up_ne hj
    obtain ⟨a1, a2, a3⟩ := hr1.2.2.2.2.2.2.2.2.1 op.toNat (by omega)
    have ev : I1 c op.toNat = A.1 (241 + 3 * op + w).toNat := by
      rcases hc with ⟨x1, x2⟩ | ⟨x1, x2⟩
      · subst x1 x2; rw [show (241 + 3 * op + 0).toNat = 241 + 3 * op.toNat by omega]; exact a1
      · subst x1 x2; rw [show (241 + 3 * op + 1).toNat = 241 + 3 * op.toNat + 1 by omega]; exact a2
    rw [ev]
    refine nx_u h hA hx hN c1 (fun a ha => o2 a (by omega)) (rs_gen hs hr1 (rt_row hs.1 (fun j hj => os j (by omega)) (rt_of (fun a w1 w2 => o2 a (by omega)) hr1.1)) ?_ ?_ (fun k hk => ?_) (fun a ha => ?_) (fun a ha => o2 a (by omega)) ?_ (fun j hj => os j (by omega))) (by rw [if_neg (fun w => w q)])
    · rw [o2 _ (by omega), os _ (by omega), os _ (by omega)]; exact hr1.2.2.2.1
    · rw [o2 _ (by omega), os _ (by omega)]; exact hr1.2.2.2.2.1
    · obtain ⟨b1, b2, b3⟩ := hr1.2.2.2.2.2.2.2.2.1 k hk
      change I1 51 k = _ at b1
      change I1 52 k = _ at b2
      change I1 53 k = _ at b3
      refine ⟨?_, ?_, ?_⟩
      · by_cases u : c = 51 ∧ k = op.toNat
        · rw [show 241 + 3 * k = (241 + 3 * op + w).toNat by omega, ns_up_at, e2, u.1, u.2, ga_up_at]
        · rw [os _ (by omega), ← b1, e2]
          by_cases v : c = 51
          · rw [v, ga_up_nj (fun y => u ⟨v, y⟩)]
          · rw [ga_up_fn (fun y => v y.symm)]
      · by_cases u : c = 52 ∧ k = op.toNat
        · rw [show 241 + 3 * k + 1 = (241 + 3 * op + w).toNat by omega, ns_up_at, e2, u.1, u.2, ga_up_at]
        · rw [os _ (by omega), ← b2, e2]
          by_cases v : c = 52
          · rw [v, ga_up_nj (fun y => u ⟨v, y⟩)]
          · rw [ga_up_fn (fun y => v y.symm)]
      · rw [o2 _ (by omega), os _ (by omega)]; exact b3
    · rw [o2 _ (by omega), os _ (by omega)]; exact hr1.2.2.2.2.2.2.2.2.2 a ha
    · rw [o2 _ (by omega)]; exact ⟨rfl, rfl⟩
  refine k_GT_setOperator_0 r1 r2 r3 (fun hI => ⟨fun a1 => bad (fun v => a1 v.1), fun a1 => ⟨fun a2 => ⟨fun a3 => ⟨fun a4 => ⟨hx.2.1, fun I1 c1 => ⟨fun a5 => ⟨by omega, by omega, good I1 c1 (by omega) 52 (by omega)⟩, fun a5 => absurd a5 a3⟩⟩, fun a4 => bad (by omega)⟩, fun a3 => ⟨fun a4 => ⟨hx.2.1, fun I1 c1 => ⟨fun a5 => absurd a3 a5, fun a5 => ⟨by omega, by omega, good I1 c1 (by omega) 51 (by omega)⟩⟩⟩, fun a4 => bad (by omega)⟩⟩, fun a2 => bad (by omega)⟩⟩)
theorem x_edit {op c r i z : Int} (r1 : ga_rg op) (r2 : ga_rg c) (r3 : ga_rg r) (r4 : ga_rg i) (r5 : ga_rg z) (hx : rx I A) (hA : ni_a A) (h : nx_E E I (no_edit A op c r i z)) : ga_W G (d + 5) mt_GT_edit 0 (ga_en 8 [.inr 0, .inl op, .inl c, .inl r, .inl i, .inl z]) [] I E := by
  have hs := hA.1
  have hr := hx.1
  have hN := nk_edit (op := op) (c := c) (r := r) (i := i) (z := z) hA
  unfold no_edit at h hN
  have n0 := ni_n hs.1 (ax := 0) (by omega)
  have n1 := ni_n hs.1 (ax := 1) (by omega)
  have e0 : I 3 0 = ms_n A.1 0 := hr.1.1.1
  have e1 : I 7 0 = ms_n A.1 1 := hr.1.2.1.1
  refine k_GT_edit_0 r1 r2 r3 r4 r5 (fun hI => ?_)
  rw [e0, e1]
  refine ⟨fun q1 => ⟨by omega, by omega, by omega, by omega, gr_gn_rt hs.1 hr.1, fun z1 f1 => ?_⟩, fun q1 => nx_0 h hx (by rw [if_pos q1])⟩
  have f1' : z1 = ns_ra A.1 op c r i z := f1.trans (rs_ra hs hr q1.1 (by omega) (by omega) q1.2.2.1)
  refine ⟨?_, fun q2 => ⟨hx.2.1, fun I1 c1 => ?_⟩, fun q2 => nx_0 h hx (by rw [if_neg (fun w => w q1), if_pos (by rw [← f1']; exact q2)])⟩
  · have := mp_ra_bd (A.1 (38 + 4 * (7 * c + r) + 3).toNat) (A.1 (38 + 4 * (7 * c + r) + i).toNat) (A.1 (241 + 3 * op).toNat) (A.1 (241 + 3 * op + 1).toNat) op z
    rw [f1']; unfold ns_ra; constructor <;> omega
  · have hr1 := kp_rs hr c1
    refine ⟨by omega, fun z2 f2 => ⟨gr_gn_rt hs.1 hr1.1, fun I2 e2 => ?_⟩⟩
    obtain ⟨u1, u2⟩ := rs_ed (z := z) hs hr1 q1.1 (c := c) (r := r) (i := i) (by omega) (by omega) q1.2.2.1
    have f2' : z2 = A.1 (38 + 4 * (7 * c + r) + i).toNat := by
      have := hr1.1.2.2.1 (c * 7 + r).toNat i.toNat (by omega) (by omega)
      rw [show (c * 7 + r).toNat * 3 + i.toNat = ((c * 7 + r) * 3 + i).toNat by omega, show 38 + 4 * (c * 7 + r).toNat + i.toNat = (38 + 4 * (7 * c + r) + i).toNat by omega] at this
      exact f2.trans this
    rw [f2', e2]
    exact nx_u h hA hx hN c1 (fun a ha => u2 a (by omega)) u1 (by rw [if_neg (fun w => w q1), if_neg (fun w => w (f1'.symm.trans q2))])
theorem x_move {x y : Int} (r1 : ga_rg x) (r2 : ga_rg y) (hx : rx I A) (hA : ni_a A) (h : nx_E E I (no_move A x y)) : ga_W G (d + 5) mt_GT_move 0 (ga_en 3 [.inr 0, .inl x, .inl y]) [] I E := by
  have hs := hA.1
  have hr := hx.1
  have hN := nk_move (x := x) (y := y) hA
  unfold no_move at h hN
  refine k_GT_move_0 r1 r2 (fun hI => ⟨fun q1 => nx_0 h hx (by rw [if_pos (fun w => q1 w.1)]), fun q1 => ⟨fun q2 => ⟨hx.2.1, fun I1 c1 => ?_⟩, fun q2 => nx_0 h hx (by rw [if_pos (fun w => q2 w.2)])⟩⟩)
  have hr1 := kp_rs hr c1
  exact s_GT_carryOutMove hs hr1 q1 q2 (fun J j1 j2 => ⟨_, rfl, nx_u h hA hx hN c1 (fun a ha => j2 a (by omega) (by omega)) j1 (by rw [if_neg (fun w => w ⟨q1, q2⟩)])⟩)
end TG
