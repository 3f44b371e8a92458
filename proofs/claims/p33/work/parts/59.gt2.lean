/-! the class: a move carried out -/
section TF
variable {G : ga_G} {d : Nat} {I : ga_I} {E : Option ga_V → ga_I → Prop} {s : Nat → Int}
theorem ns_zo_10 {s : Nat → Int} (hs : ni_s s) : (0 ≤ s 236 ∧ s 236 ≤ 6) ∧ (0 ≤ s 237 ∧ s 237 ≤ 6) := mo_zn_10 (I := fun _ => s) hs.1.1 hs.1.2.1 hs.2.2.1
theorem gv_rt {g z0 c0 z1 c1 : Int} (hs : ni_t s) (hr : rt I 2 s) (h0 : gl_v I 344 = mp_f s 0 z0 c0) (h1 : gl_v I 345 = mp_f s 1 z1 c1) (hc0 : 0 ≤ c0 ∧ c0 ≤ 1000) (hc1 : 0 ≤ c1 ∧ c1 ≤ 1000) (hg : 0 ≤ g ∧ g ≤ 2) : gp_vk (gl_v I 344) ∧ gp_vk (gl_v I 345) ∧ gv_i I g = mp_va s g z0 c0 z1 c1 := by
  have k0 : gp_vk (gl_v I 344) := by rw [h0]; exact mp_f_k (I := fun _ => s) hs.1 hc0
  have k1 : gp_vk (gl_v I 345) := by rw [h1]; exact mp_f_k (I := fun _ => s) hs.2.1 hc1
  refine ⟨k0, k1, ?_⟩
  unfold gv_i mp_va
  rw [← h0, ← h1]
  refine gp_va_cong k0 k1 (fun a b q1 q2 q3 q4 => ?_)
  have e := hr.2.2.1 (a * 7 + b).toNat g.toNat (by omega) (by omega)
  rw [show (a * 7 + b).toNat * 3 + g.toNat = ((a * 7 + b) * 3 + g).toNat by omega, show 38 + 4 * (a * 7 + b).toNat + g.toNat = (38 + 4 * (7 * a + b) + g).toNat by omega] at e
  exact e
theorem gr_gn_rt {t : Nat} (hs : ni_t s) (hr : rt I t s) : gr_gn I t := fun j hj => by
  have e := hr.2.2.1 (j / 3) (j % 3) (by omega) (by omega)
  rw [show j / 3 * 3 + j % 3 = j by omega] at e
  rw [e]
  exact hs.2.2.1 (j / 3) (j % 3) (by omega) (by omega)
/-- the blends at the point -/
theorem gx_bp_rt (hs : ni_t s) (hr : rt I 2 s) (hp : I 47 0 = s 234 ∧ I 47 1 = s 235) (hz : I 48 0 = s 236 ∧ I 48 1 = s 237) : gl_v (gx_bp I) 344 = mp_f s 0 (s 236) (s 234) ∧ gl_v (gx_bp I) 345 = mp_f s 1 (s 237) (s 235) := by
  obtain ⟨e1, e2⟩ := gx_bp_v I
  have a1 := rt_fi hr.1 (I 48 0) (I 47 0)
  have a2 := rt_fi hr.2.1 (I 48 1) (I 47 1)
  rw [e1, e2, ← hp.1, ← hp.2, ← hz.1, ← hz.2]
  exact ⟨a1, a2⟩
theorem rs_pt {k : Nat} (hs : ni_s s) (h : rs I k s) : gr_pt I k := by
  unfold gr_pt
  rw [h.2.2.1.1, h.2.2.1.2]
  exact hs.2.1
theorem rs_P {k : Nat} (hs : ni_s s) (h : rs I k s) : gr_P I (k + 48) := by
  have := h.2.2.2.2.2.1
  refine ⟨?_, this.2.1⟩
  rw [this.1]
  exact hs.2.2.2.1
theorem rs_ok {k : Nat} (hs : ni_s s) (h : rs I k s) : gb_ok I (k + 2) ∧ gb_ok I (k + 6) := ⟨rt_b_ok h.1.1 hs.1.1, rt_b_ok h.1.2.1 hs.1.2.1⟩
theorem s_GT_carryOutMove {x y : Int} (hs : ni_s s) (hr : rs I 1 s) (hx : 0 ≤ x ∧ x ≤ 1000) (hy : 0 ≤ y ∧ y ≤ 1000) (h : ∀ J : ga_I, rs J 1 (ns_mm s x y) → (∀ a, (a < 1 ∨ 55 ≤ a) → (a < 344 ∨ 348 ≤ a) → J a = I a) → E (some (.inl (na_mm s x y))) J) : ga_W G (d + 4) mt_GT_carryOutMove 0 (ga_en 4 [.inr 0, .inl x, .inl y]) [] I E := by
  have hr' := hr
  obtain ⟨r1, r2, r3, r4, r5, r6, r7, r8, r9, r10⟩ := hr'
  have hz6 := ns_zo_10 hs
  have hp := hs.2.1
  have ok := rs_ok hs hr
  have pt := rs_pt hs hr
  refine k_GT_carryOutMove_0 ⟨by omega, by omega⟩ ⟨by omega, by omega⟩ (fun hI => ⟨pt, hx, hy, fun q => ?_, fun q I8 e8 => ?_⟩)
  · rw [r3.1, r3.2, r5] at q
    have q' : ¬ na_ig s x y := q
    have ezz : I 48 0 = s 236 ∧ I 48 1 = s 237 := r4
    have epp : I 47 0 = s 234 ∧ I 47 1 = s 235 := r3
    refine ⟨ok.1, ok.2, by rw [ezz.1]; omega, by rw [ezz.2]; omega, by rw [epp.1]; exact hp.1, by rw [epp.2]; exact hp.2, fun I1 e1 => ?_⟩
    have o1 : ∀ a, a ≠ 344 ∧ a ≠ 345 → I1 a = I a := fun a ha => by rw [e1, gx_bp_o ha]
    obtain ⟨b0, b1⟩ := gx_bp_rt hs.1 r1 epp ezz
    rw [← e1] at b0 b1
    have rt1 : rt I1 2 s := rt_of (fun a w1 w2 => o1 a (by omega)) r1
    obtain ⟨k0, k1, -⟩ := gv_rt (g := 0) hs.1 rt1 b0 b1 hp.1 hp.2 (by omega)
    have gg1 : gr_gn I1 2 := gr_gn_rt hs.1 rt1
    refine ⟨Or.inl rfl, k0, k1, gg1, fun I2 e2 => ?_⟩
    have o2 : ∀ a, a ≠ 344 ∧ a ≠ 345 ∧ a ≠ 346 → I2 a = I a := fun a ha => by
      rw [e2]; unfold gx_nv; rw [ga_up_fn ha.2.2, ga_up_fn ha.2.2, ga_up_fn ha.2.2]; exact o1 a ⟨ha.1, ha.2.1⟩
    have v2 : I2 346 0 = mp_pv s 0 ∧ I2 346 1 = mp_pv s 1 ∧ I2 346 2 = mp_pv s 2 := by
      have w : ∀ g : Int, 0 ≤ g ∧ g ≤ 2 → gv_i I1 g = mp_pv s g := fun g hg => (gv_rt (g := g) hs.1 rt1 b0 b1 hp.1 hp.2 hg).2.2
      rw [e2]
      unfold gx_nv
      refine ⟨?_, ?_, ?_⟩
      · rw [ga_up_nj (by omega), ga_up_nj (by omega), ga_up_at]; exact w 0 (by omega)
      · rw [ga_up_nj (by omega), ga_up_at]; exact w 1 (by omega)
      · rw [ga_up_at]; exact w 2 (by omega)
    have ok2 := rs_ok (I := I2) (k := 1) hs (rs_of (fun a w1 w2 => o2 a (by omega)) hr)
    refine ⟨ok2.1, ok2.2, by rw [o2 (1 + 47) (by omega), r4.1]; omega, by rw [o2 (1 + 47) (by omega), r4.2]; omega, fun I3 e3 => ?_⟩
    have hs1 := ni_t1 hs hx hy
    have hz1 := ns_zo_10 hs1
    have o3 : ∀ a, a ≠ 47 → a ≠ 48 → I3 a = I2 a := fun a h1 h2 => by
      rw [e3]; unfold gx_pp; rw [ga_up_fn h2, ga_up_fn h2, ga_up_fn h1, ga_up_fn h1]
    have rt3 : rt I3 2 (ns_t1 s x y) := rt_row hs.1 (fun j hj => by rw [ns_t1_o (by omega), ns_go_o (by omega)]) (rt_of (fun a w1 w2 => by rw [o3 a (by omega) (by omega), o2 a (by omega)]) r1)
    have p3 : I3 47 0 = ns_t1 s x y 234 ∧ I3 47 1 = ns_t1 s x y 235 := by
      rw [ns_t1_o (by omega), ns_t1_o (by omega), ns_go_v.1, ns_go_v.2.1, e3]
      unfold gx_pp
      refine ⟨?_, ?_⟩
      · rw [ga_up_fn (by omega), ga_up_fn (by omega), ga_up_nj (by omega)]; exact ga_up_at
      · rw [ga_up_fn (by omega), ga_up_fn (by omega)]; exact ga_up_at
    have rt2 : rt I2 2 s := rt_of (fun a w1 w2 => o2 a (by omega)) r1
    have z3 : I3 48 0 = ns_t1 s x y 236 ∧ I3 48 1 = ns_t1 s x y 237 := by
      have a0 := rt_za rt2.1 (I2 48 0) x
      have a1 := rt_za rt2.2.1 (I2 48 1) y
      rw [o2 48 (by omega)] at a0 a1
      rw [ezz.1] at a0
      rw [ezz.2] at a1
      rw [ns_t1_o (by omega), ns_t1_o (by omega), ns_go_v.2.2.1, ns_go_v.2.2.2, ← a0, ← a1, e3]
      unfold gx_pp
      refine ⟨?_, ?_⟩
      · rw [ga_up_nj (by omega), ← ezz.1, ← o2 48 (by omega)]; exact ga_up_at
      · rw [← ezz.2, ← o2 48 (by omega)]; exact ga_up_at
    have hp1 := hs1.2.1
    refine ⟨rt_b_ok rt3.1 hs1.1.1, rt_b_ok rt3.2.1 hs1.1.2.1, by rw [z3.1]; omega, by rw [z3.2]; omega, by rw [p3.1]; exact hp1.1, by rw [p3.2]; exact hp1.2, fun I4 e4 => ?_⟩
    have o4 : ∀ a, a ≠ 344 ∧ a ≠ 345 → I4 a = I3 a := fun a ha => by rw [e4, gx_bp_o ha]
    obtain ⟨d0, d1⟩ := gx_bp_rt hs1.1 rt3 p3 z3
    rw [← e4] at d0 d1
    have rt4 : rt I4 2 (ns_t1 s x y) := rt_of (fun a w1 w2 => o4 a (by omega)) rt3
    obtain ⟨k4, k5, -⟩ := gv_rt (g := 0) hs1.1 rt4 d0 d1 hp1.1 hp1.2 (by omega)
    refine ⟨Or.inr rfl, k4, k5, gr_gn_rt hs1.1 rt4, fun I5 e5 => ?_⟩
    have o5 : ∀ a, a ≠ 344 ∧ a ≠ 345 ∧ a ≠ 347 → I5 a = I3 a := fun a ha => by
      rw [e5]; unfold gx_nv; rw [ga_up_fn ha.2.2, ga_up_fn ha.2.2, ga_up_fn ha.2.2]; exact o4 a ⟨ha.1, ha.2.1⟩
    have v5 : I5 347 0 = mp_pv (ns_t1 s x y) 0 ∧ I5 347 1 = mp_pv (ns_t1 s x y) 1 ∧ I5 347 2 = mp_pv (ns_t1 s x y) 2 := by
      have w : ∀ g : Int, 0 ≤ g ∧ g ≤ 2 → gv_i I4 g = mp_pv (ns_t1 s x y) g := fun g hg => (gv_rt (g := g) hs1.1 rt4 d0 d1 hp1.1 hp1.2 hg).2.2
      rw [e5]
      unfold gx_nv
      refine ⟨?_, ?_, ?_⟩
      · rw [ga_up_nj (by omega), ga_up_nj (by omega), ga_up_at]; exact w 0 (by omega)
      · rw [ga_up_nj (by omega), ga_up_at]; exact w 1 (by omega)
      · rw [ga_up_at]; exact w 2 (by omega)
    have u5 : I5 346 = I2 346 := by rw [o5 346 (by omega), o3 346 (by omega) (by omega)]
    rw [u5, v2.1, v2.2.1, v2.2.2, v5.1, v5.2.1, v5.2.2]
    refine ⟨fun i hi => ?_, fun z1 f1 => ?_⟩
    · rcases (show i = 0 ∨ i = 1 ∨ i = 2 by omega) with w | w | w <;> subst w
      · rw [v2.1, v5.1]; exact ⟨ni_pv hs (by omega), ni_pv hs1 (by omega)⟩
      · rw [v2.2.1, v5.2.1]; exact ⟨ni_pv hs (by omega), ni_pv hs1 (by omega)⟩
      · rw [v2.2.2, v5.2.2]; exact ⟨ni_pv hs (by omega), ni_pv hs1 (by omega)⟩
    change z1 = ns_by s (ns_t1 s x y) at f1
    have hby := ns_by_bd hs hs1
    have P := rs_P hs hr
    have l5 : ∀ a, a ≠ 47 → a ≠ 48 → (a < 344 ∨ 348 ≤ a) → I5 a = I a := fun a h1 h2 h3 => by rw [o5 a (by omega), o3 a h1 h2, o2 a (by omega)]
    refine ⟨by unfold gr_P; rw [l5 (1 + 48) (by omega) (by omega) (by omega)]; exact P, by omega, ⟨by omega, by omega⟩, fun I6 c6 I7 e7 => ?_⟩
    obtain ⟨g1, g2, g3, g4⟩ := c6
    rw [l5 (1 + 48) (by omega) (by omega) (by omega)] at g1 g2 g3
    rw [l5 (1 + 49) (by omega) (by omega) (by omega)] at g3
    have l6 : ∀ a, a ≠ 47 → a ≠ 48 → a ≠ 49 → a ≠ 50 → (a < 344 ∨ 348 ≤ a) → I6 a = I a := fun a h1 h2 h3 h4 h5 => by rw [g4 a h3 h4, l5 a h1 h2 h5]
    have l7 : ∀ a, a ≠ 1 → a ≠ 47 → a ≠ 48 → a ≠ 49 → a ≠ 50 → (a < 344 ∨ 348 ≤ a) → I7 a = I a := fun a h0 h1 h2 h3 h4 h5 => by rw [e7, ga_up_fn h0, l6 a h1 h2 h3 h4 h5]
    have c1 : ∀ j, j ≠ 10 → I7 1 j = I 1 j := fun j hj => by rw [e7, ga_up_nj hj, l6 1 (by omega) (by omega) (by omega) (by omega) (by omega)]
    have e10 : I7 1 10 = ga_wr (s 240 + 1) := by rw [e7, ga_up_at, l6 1 (by omega) (by omega) (by omega) (by omega) (by omega), r8]
    have eM : ns_mm s x y = ns_mv s x y := by unfold ns_mm; rw [if_neg q']
    have eN : na_mm s x y = ns_by s (ns_t1 s x y) := by unfold na_mm; rw [if_neg q']
    rw [f1, ← eN]
    have hn := hs.2.2.2.1
    have c254 : ns_t1 s x y 254 = s 254 := by rw [ns_t1_o (by omega), ns_go_o (by omega)]
    have hEe : ns_e (ns_t1 s x y) = 255 + 8 * (min (s 254) 19).toNat := by unfold ns_e; rw [c254]
    have lo : ∀ j, j < 254 ∨ 415 ≤ j → ns_mv s x y j = ns_t1 s x y j := fun j hj => by
      unfold ns_mv
      rw [ns_wk_o (by omega)]
      unfold ns_ne
      by_cases w : ns_t1 s x y 254 = 20
      · rw [if_pos w, if_neg (by omega)]
      · rw [if_neg w, ns_up_ne (by omega)]
    have lo2 : ∀ j, j < 234 ∨ (238 ≤ j ∧ j < 254 ∧ j ≠ 240) ∨ 415 ≤ j → ns_mv s x y j = s j := fun j hj => by rw [lo j (by omega), ns_t1_o (by omega), ns_go_o (by omega)]
    refine h I7 ?_ (fun a h1 h2 => l7 a (by omega) (by omega) (by omega) (by omega) (by omega) h2)
    rw [eM]
    refine ⟨rt_row hs.1 (fun j hj => lo2 j (by omega)) (rt_of (fun a w1 w2 => l7 a (by omega) (by omega) (by omega) (by omega) (by omega) (by omega)) r1), fun p hp => ?_, ?_, ?_, ?_, ?_, ?_, ?_, fun op ho => ?_, fun a ha => ?_⟩
    · rw [l7 (1 + 45) (by omega) (by omega) (by omega) (by omega) (by omega) (by omega), lo2 _ (by omega)]
      refine ⟨(r2 p hp).1, fun w => ?_⟩
      exact rt_row ((hs.2.2.2.2 p hp).2 w) (fun j hj => lo2 _ (by omega)) (rt_of (fun a w1 w2 => l7 a (by omega) (by omega) (by omega) (by omega) (by omega) (by omega)) ((r2 p hp).2 w))
    · rw [lo _ (by omega), lo _ (by omega), ← p3.1, ← p3.2]
      have : I7 (1 + 46) = I3 47 := by rw [e7, ga_up_fn (by omega), g4 _ (by omega) (by omega), o5 _ (by omega)]
      rw [this]; exact ⟨rfl, rfl⟩
    · rw [lo _ (by omega), lo _ (by omega), ← z3.1, ← z3.2]
      have : I7 (1 + 47) = I3 48 := by rw [e7, ga_up_fn (by omega), g4 _ (by omega) (by omega), o5 _ (by omega)]
      rw [this]; exact ⟨rfl, rfl⟩
    · rw [c1 7 (by omega), lo2 _ (by omega)]; exact r5
    · have m49 : I7 (1 + 48) = I6 (1 + 48) := by rw [e7, ga_up_fn (by omega)]
      have m50 : I7 (1 + 48 + 1) = I6 (1 + 49) := by rw [e7, ga_up_fn (by omega)]
      have m254 : ns_mv s x y 254 = min (s 254 + 1) 20 := by
        unfold ns_mv
        rw [ns_wk_o (by omega)]
        unfold ns_ne
        by_cases w : ns_t1 s x y 254 = 20
        · rw [if_pos w, if_neg (by omega), w]; omega
        · rw [if_neg w, ns_up_at, c254]; omega
      obtain ⟨P1, P2, P3⟩ := r6
      unfold rs_p
      rw [m49, m50, g1, g2, m254, P1]
      refine ⟨rfl, by omega, fun b w hb hw => ?_⟩
      rw [g3 _ (by omega)]
      by_cases hb0 : b = 0
      · subst hb0
        have i1 : (((I (1 + 48) 1 + 1) % 20 - ((0 : Nat) : Int)) % 20).toNat = ((I (1 + 48) 1 + 1) % 20).toNat := by omega
        rw [i1, if_pos (by omega), show (((I (1 + 48) 1 + 1) % 20).toNat * 8 + w) % 8 = w by omega]
        unfold ns_mv ns_wk
        rw [hEe, if_pos (by omega), show 255 + 8 * ((min (s 254 + 1) 20).toNat - 1 - 0) + w - (255 + 8 * (min (s 254) 19).toNat) = w by omega]
        unfold gp_pa
        have t3 : I5 (1 + 46) 0 = x ∧ I5 (1 + 46) 1 = y := by
          rw [show I5 (1 + 46) = I3 47 from o5 47 (by omega), p3.1, p3.2, ns_t1_o (by omega), ns_t1_o (by omega), ns_go_v.1, ns_go_v.2.1]; exact ⟨rfl, rfl⟩
        have t4 : I5 (1 + 47) 0 = ns_t1 s x y 236 ∧ I5 (1 + 47) 1 = ns_t1 s x y 237 := by
          rw [show I5 (1 + 47) = I3 48 from o5 48 (by omega)]; exact z3
        rw [t3.1, t3.2, t4.1, t4.2, v5.1, v5.2.1, v5.2.2, f1]
        rcases (show w = 0 ∨ w = 1 ∨ w = 2 ∨ w = 3 ∨ w = 4 ∨ w = 5 ∨ w = 6 ∨ w = 7 by omega) with u | u | u | u | u | u | u | u <;> subst u <;> rfl
      · have i1 : (((I (1 + 48) 1 + 1) % 20 - (b : Int)) % 20).toNat = ((I (1 + 48) 1 - ((b - 1 : Nat) : Int)) % 20).toNat := by omega
        rw [i1, if_neg (by omega)]
        have e := P3 (b - 1) w (by omega) hw
        rw [show (1 + 48 + 1 : Nat) = 1 + 49 from rfl] at e
        rw [e]
        unfold ns_mv
        rw [ns_wk_o (by omega)]
        unfold ns_ne
        by_cases u : ns_t1 s x y 254 = 20
        · rw [if_pos u, if_pos (by omega), ns_t1_o (by omega), ns_go_o (by omega)]
          exact congrArg s (by omega)
        · rw [if_neg u, ns_up_ne (by omega), ns_t1_o (by omega), ns_go_o (by omega)]
          exact congrArg s (by omega)
    · rw [c1 9 (by omega), lo2 _ (by omega)]; exact r7
    · rw [e10, lo _ (by omega)]
      unfold ns_t1
      rw [ns_up_at, ns_go_o (by omega)]
    · rw [l7 (1 + 50) (by omega) (by omega) (by omega) (by omega) (by omega) (by omega), l7 (1 + 51) (by omega) (by omega) (by omega) (by omega) (by omega) (by omega), l7 (1 + 52) (by omega) (by omega) (by omega) (by omega) (by omega) (by omega), lo2 _ (by omega), lo2 _ (by omega), lo2 _ (by omega)]
      exact r9 op ho
    · rw [l7 (1 + 53) (by omega) (by omega) (by omega) (by omega) (by omega) (by omega), lo2 _ (by omega)]
      exact r10 a ha
  · rw [r3.1, r3.2, r5] at q
    have q' : na_ig s x y := q
    have eM : ns_mm s x y = ns_up s 239 (ga_wr (s 239 + 1)) := by unfold ns_mm; rw [if_pos q']
    have eN : na_mm s x y = -2000000009 := by unfold na_mm; rw [if_pos q']
    rw [eN, eM] at h
    have f8 : ∀ a, a ≠ 1 → I8 a = I a := fun a ha => by rw [e8, ga_up_fn ha]
    have c8 : ∀ j, j ≠ 9 → I8 1 j = I 1 j := fun j hj => by rw [e8, ga_up_nj hj]
    have lo : ∀ j, j ≠ 239 → ns_up s 239 (ga_wr (s 239 + 1)) j = s j := fun j hj => ns_up_ne hj
    refine h I8 ⟨rt_row hs.1 (fun j hj => lo j (by omega)) (rt_of (fun a w1 w2 => f8 a (by omega)) r1), fun p hp => ?_, ?_, ?_, ?_, ?_, ?_, ?_, fun op ho => ?_, fun a ha => ?_⟩ (fun a h1 h2 => f8 a (by omega))
    · rw [f8 _ (by omega), lo _ (by omega)]
      exact ⟨(r2 p hp).1, fun w => rt_row ((hs.2.2.2.2 p hp).2 w) (fun j hj => lo _ (by omega)) (rt_of (fun a w1 w2 => f8 a (by omega)) ((r2 p hp).2 w))⟩
    · rw [f8 _ (by omega), lo _ (by omega), lo _ (by omega)]; exact r3
    · rw [f8 _ (by omega), lo _ (by omega), lo _ (by omega)]; exact r4
    · rw [c8 _ (by omega), lo _ (by omega)]; exact r5
    · unfold rs_p
      rw [f8 _ (by omega), f8 _ (by omega), lo 254 (by omega)]
      exact ⟨r6.1, r6.2.1, fun b w hb hw => by rw [lo _ (by omega)]; exact r6.2.2 b w hb hw⟩
    · rw [e8, ga_up_at, ns_up_at, r7]
    · rw [c8 _ (by omega), lo _ (by omega)]; exact r8
    · rw [f8 _ (by omega), f8 _ (by omega), f8 _ (by omega), lo _ (by omega), lo _ (by omega), lo _ (by omega)]; exact r9 op ho
    · rw [f8 _ (by omega), lo _ (by omega)]; exact r10 a ha
end TF
