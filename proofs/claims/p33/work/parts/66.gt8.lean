/-! the class: what is asked -/
section TJ
variable {G : ga_G} {d : Nat} {I : ga_I} {E : Option ga_V → ga_I → Prop} {A : na_A}
theorem x_count {w : Int} (r1 : ga_rg w) (hx : rx I A) (hA : ni_a A) (h : nx_E E I (no_count A w)) : ga_W G (d + 1) mt_GT_count 0 (ga_en 2 [.inr 0, .inl w]) [] I E := by
  have hs := hA.1
  obtain ⟨h1, h2, h3, h4, h5, h6, h7, h8, h9, h10⟩ := hx.1
  have p0 : I 47 0 = A.1 234 ∧ I 47 1 = A.1 235 := h3
  have z0 : I 48 0 = A.1 236 ∧ I 48 1 = A.1 237 := h4
  have n0 : I 3 0 = A.1 0 := h1.1.1
  have n1 : I 7 0 = A.1 19 := h1.2.1.1
  have q0 : I 49 0 = A.1 254 := h6.1
  unfold no_count at h
  refine k_GT_count_0 r1 (fun hI => ⟨fun q z1 f1 => nx_0 h hx ?_, fun q => nx_0 h hx ?_, fun q => nx_0 h hx ?_, fun q => nx_0 h hx ?_, fun q => nx_0 h hx ?_, fun q => nx_0 h hx ?_, fun q => nx_0 h hx ?_, fun q => nx_0 h hx ?_, fun q => nx_0 h hx ?_, fun q => nx_0 h hx ?_, fun q => nx_0 h hx ?_, fun q z1 f1 => nx_0 h hx ?_, fun q => nx_0 h hx ?_⟩)
  · subst q; rw [f1]; show (A, ns_rg A.1) = (A, (I 3 0 + 1) * (I 7 0 + 1)); rw [n0, n1]; rfl
  · subst q; rw [h5]; rfl
  · subst q; rw [p0.1]; rfl
  · subst q; rw [p0.2]; rfl
  · subst q; rw [z0.1]; rfl
  · subst q; rw [z0.2]; rfl
  · subst q; rw [q0]; rfl
  · subst q; rw [h7]; rfl
  · subst q; rw [h8]; rfl
  · subst q; rw [hx.2.2.1]; rfl
  · subst q; rw [hx.2.2.2.2.1]; rfl
  · subst q
    have t : ∀ p : Nat, p < 3 → I (1 + 45) p = A.1 (415 + 235 * p) := fun p hp => (h2 p hp).1
    have v := hs.2.2.2.2
    have f2 : z1 = A.1 415 + A.1 650 + A.1 885 := by
      have t0 := t 0 (by omega)
      have t1 := t 1 (by omega)
      have t2 := t 2 (by omega)
      have v0 := (v 0 (by omega)).1
      have v1 := (v 1 (by omega)).1
      have v2 := (v 2 (by omega)).1
      rw [f1]
      show (if decide (¬ I (1 + 45) 2 = 0) = true then (if decide (¬ I (1 + 45) 1 = 0) = true then (if decide (¬ I (1 + 45) 0 = 0) = true then (0 : Int) + 1 else 0) + 1 else (if decide (¬ I (1 + 45) 0 = 0) = true then (0 : Int) + 1 else 0)) + 1 else (if decide (¬ I (1 + 45) 1 = 0) = true then (if decide (¬ I (1 + 45) 0 = 0) = true then (0 : Int) + 1 else 0) + 1 else (if decide (¬ I (1 + 45) 0 = 0) = true then (0 : Int) + 1 else 0))) = A.1 415 + A.1 650 + A.1 885
      rw [t0, t1, t2]
      change A.1 415 = 0 ∨ A.1 415 = 1 at v0
      change A.1 650 = 0 ∨ A.1 650 = 1 at v1
      change A.1 885 = 0 ∨ A.1 885 = 1 at v2
      change (if decide (¬ A.1 885 = 0) = true then (if decide (¬ A.1 650 = 0) = true then (if decide (¬ A.1 415 = 0) = true then (0 : Int) + 1 else 0) + 1 else (if decide (¬ A.1 415 = 0) = true then (0 : Int) + 1 else 0)) + 1 else (if decide (¬ A.1 650 = 0) = true then (if decide (¬ A.1 415 = 0) = true then (0 : Int) + 1 else 0) + 1 else (if decide (¬ A.1 415 = 0) = true then (0 : Int) + 1 else 0))) = A.1 415 + A.1 650 + A.1 885
      rcases v0 with v0 | v0 <;> rcases v1 with v1 | v1 <;> rcases v2 with v2 | v2 <;> rw [v0, v1, v2] <;> rfl
    rw [f2]; rfl
  · unfold na_count
    rw [if_neg (by omega), if_neg (by omega), if_neg (by omega), if_neg (by omega), if_neg (by omega), if_neg (by omega), if_neg (by omega), if_neg (by omega), if_neg (by omega)]
theorem gp_zo_all {p q : Nat → Int} {c : Int} {n : Nat} (h : ∀ b, b < n → p b ≤ c) : gp_zo p q c n = gp_ct (gp_sk q) n := by
  unfold gp_zo
  refine gp_ct_cong (fun b hb => ?_)
  unfold gp_sk
  by_cases w : q b = 0
  · rw [decide_eq_true w, decide_eq_true ⟨w, h b hb⟩]
  · rw [decide_eq_false w, decide_eq_false (fun u => w u.1)]
theorem bp_pre (hs : ni_s A.1) (hr : rs I 1 A.1) : gb_ok I 3 ∧ gb_ok I 7 ∧ (0 ≤ I 48 0 ∧ I 48 0 ≤ 10) ∧ (0 ≤ I 48 1 ∧ I 48 1 ≤ 10) ∧ (0 ≤ I 47 0 ∧ I 47 0 ≤ 1000) ∧ (0 ≤ I 47 1 ∧ I 47 1 ≤ 1000) := by
  have hz6 := ns_zo_10 hs
  have hp := hs.2.1
  have ok := rs_ok hs hr
  have p0 : I 47 0 = A.1 234 ∧ I 47 1 = A.1 235 := hr.2.2.1
  have z0 : I 48 0 = A.1 236 ∧ I 48 1 = A.1 237 := hr.2.2.2.1
  exact ⟨ok.1, ok.2, by rw [z0.1]; omega, by rw [z0.2]; omega, by rw [p0.1]; exact hp.1, by rw [p0.2]; exact hp.2⟩
theorem x_axis {ax w : Int} (r1 : ga_rg ax) (r2 : ga_rg w) (hx : rx I A) (hA : ni_a A) (h : nx_E E I (no_axis A ax w)) : ga_W G (d + 4) mt_GT_axis 0 (ga_en 4 [.inr 0, .inl ax, .inl w]) [] I E := by
  have hs := hA.1
  have hr := hx.1
  unfold no_axis at h
  have P := bp_pre hs hr
  refine k_GT_axis_0 r1 r2 (fun hI => ⟨fun q1 => ⟨P.1, P.2.1, P.2.2.1, P.2.2.2.1, P.2.2.2.2.1, P.2.2.2.2.2, fun I1 e1 => ?_⟩, fun q1 => nx_0 h hx (by unfold na_axis; rw [if_pos (fun w => q1 w.1)])⟩)
  have o1 : ∀ a, a ≠ 344 ∧ a ≠ 345 → I1 a = I a := fun a ha => by rw [e1, gx_bp_o ha]
  obtain ⟨b0, b1⟩ := gx_bp_rt hs.1 hr.1 hr.2.2.1 hr.2.2.2.1
  rw [← e1] at b0 b1
  have fin : ∀ z : Int, na_axis A ax w = z → E (some (.inl z)) I1 := fun z hz => nx_q h hx (fun a ha => o1 a (by omega)) (by rw [hz])
  have rt1 : rt I1 2 A.1 := rt_of (fun a w1 w2 => o1 a (by omega)) hr.1
  have hat : rt_b I1 (ga_bo 2 ax) A.1 ax := rt_at rt1 q1
  have n6 := ni_n hs.1 q1
  have zz : gp_zo (I1 (ga_bo 2 ax + 1)) (I1 (ga_bo 2 ax + 2)) 1000 (I1 (ga_bo 2 ax) 0).toNat = gp_ct (gp_sk (ms_q A.1 ax)) (ms_n A.1 ax).toNat := by
    rw [rt_zo hat]
    exact gp_zo_all (fun b hb => by have := (ni_b (b := b) hs.1 q1 (by omega)).1; omega)
  have ok := rt_b_ok hat (ni_axs hs.1 q1)
  have bad : (w < 0 ∨ 5 < w) → na_axis A ax w = -2000000001 := fun q => by unfold na_axis; rw [if_pos (by omega)]
  have st : ∀ v : Int, 0 ≤ w ∧ w ≤ 5 → (na_axis A ax w = v ↔ (if w = 0 then ms_n A.1 ax else if w = 1 then gp_ct (gp_sk (ms_q A.1 ax)) (ms_n A.1 ax).toNat + 1 else if w = 2 then (na_f A.1 ax).1 else if w = 3 then (na_f A.1 ax).2.1 else if w = 4 then (na_f A.1 ax).2.2.1 else (na_f A.1 ax).2.2.2) = v) := fun v q => by unfold na_axis; rw [if_neg (fun u => u ⟨q1, q⟩)]
  refine ⟨fun q2 => ?_, fun q2 => ?_⟩
  · have ef : gl_v I1 345 = na_f A.1 ax := by rw [b1, show ax = 1 by omega]; rfl
    have c0 : I1 345 0 = (na_f A.1 ax).1 := by rw [← ef]; rfl
    have c1 : I1 345 1 = (na_f A.1 ax).2.1 := by rw [← ef]; rfl
    have c2 : I1 345 2 = (na_f A.1 ax).2.2.1 := by rw [← ef]; rfl
    have c3 : I1 345 3 = (na_f A.1 ax).2.2.2 := by rw [← ef]; rfl
    exact ⟨fun q => fin _ ((st _ (by omega)).mpr (by rw [if_pos q, hat.1])), fun q => ⟨ok, fun z1 f1 => fin _ ((st _ (by omega)).mpr (by rw [if_neg (by omega), if_pos q, f1, zz]))⟩, fun q => fin _ ((st _ (by omega)).mpr (by rw [if_neg (by omega), if_neg (by omega), if_pos q, c0])), fun q => fin _ ((st _ (by omega)).mpr (by rw [if_neg (by omega), if_neg (by omega), if_neg (by omega), if_pos q, c1])), fun q => fin _ ((st _ (by omega)).mpr (by rw [if_neg (by omega), if_neg (by omega), if_neg (by omega), if_neg (by omega), if_pos q, c2])), fun q => fin _ ((st _ (by omega)).mpr (by rw [if_neg (by omega), if_neg (by omega), if_neg (by omega), if_neg (by omega), if_neg (by omega), c3])), fun q => fin _ (bad q)⟩
  · have ef : gl_v I1 344 = na_f A.1 ax := by rw [b0, q2]; rfl
    have c0 : I1 344 0 = (na_f A.1 ax).1 := by rw [← ef]; rfl
    have c1 : I1 344 1 = (na_f A.1 ax).2.1 := by rw [← ef]; rfl
    have c2 : I1 344 2 = (na_f A.1 ax).2.2.1 := by rw [← ef]; rfl
    have c3 : I1 344 3 = (na_f A.1 ax).2.2.2 := by rw [← ef]; rfl
    exact ⟨fun q => fin _ ((st _ (by omega)).mpr (by rw [if_pos q, hat.1])), fun q => ⟨ok, fun z1 f1 => fin _ ((st _ (by omega)).mpr (by rw [if_neg (by omega), if_pos q, f1, zz]))⟩, fun q => fin _ ((st _ (by omega)).mpr (by rw [if_neg (by omega), if_neg (by omega), if_pos q, c0])), fun q => fin _ ((st _ (by omega)).mpr (by rw [if_neg (by omega), if_neg (by omega), if_neg (by omega), if_pos q, c1])), fun q => fin _ ((st _ (by omega)).mpr (by rw [if_neg (by omega), if_neg (by omega), if_neg (by omega), if_neg (by omega), if_pos q, c2])), fun q => fin _ ((st _ (by omega)).mpr (by rw [if_neg (by omega), if_neg (by omega), if_neg (by omega), if_neg (by omega), if_neg (by omega), c3])), fun q => fin _ (bad q)⟩
theorem x_border {ax b w : Int} (r1 : ga_rg ax) (r2 : ga_rg b) (r3 : ga_rg w) (hx : rx I A) (hA : ni_a A) (h : nx_E E I (no_border A ax b w)) : ga_W G (d + 2) mt_GT_border 0 (ga_en 5 [.inr 0, .inl ax, .inl b, .inl w]) [] I E := by
  have hs := hA.1
  have hr := hx.1
  unfold no_border na_border at h
  refine k_GT_border_0 r1 r2 r3 (fun hI => ⟨fun q1 => nx_0 h hx (by rw [if_pos (fun w => q1 w.1)]), fun q1 => ⟨fun q2 => nx_0 h hx (by rw [if_pos (fun w => absurd w.2.1 (by omega))]), fun q2 => ⟨fun q3 => ?_, fun q3 => nx_0 h hx (by rw [if_pos (fun w => q3 w.2.2)])⟩⟩⟩)
  have hat : rt_b I (ga_bo 2 ax) A.1 ax := rt_at hr.1 q1
  have ok := rt_b_ok hat (ni_axs hs.1 q1)
  have cc : ¬ ¬ ((0 ≤ ax ∧ ax ≤ 1) ∧ 0 ≤ b ∧ (0 ≤ w ∧ w ≤ 2)) := fun u => u ⟨q1, by omega, q3⟩
  rw [hat.1]
  refine ⟨fun q4 => ?_, fun q4 => nx_0 h hx (by rw [if_neg cc, if_neg (by omega)])⟩
  obtain ⟨v1, v2, v3⟩ := hat.2 b.toNat (by omega)
  have at' : ∀ j : Nat, gb_at I (ga_bo 2 ax) j b = I j b.toNat := fun j => by
    unfold gb_at; rw [hat.1, if_pos q4]
  refine ⟨fun q => ⟨ok, fun z f => nx_0 h hx ?_⟩, fun q => ⟨ok, fun z f => nx_0 h hx ?_⟩, fun q => ⟨ok, fun z f => nx_0 h hx ?_⟩⟩
  · rw [at', v1] at f; rw [if_neg cc, if_pos q4.2, f, q]; rfl
  · rw [at', v2] at f; rw [if_neg cc, if_pos q4.2, f, q]; rfl
  · rw [at', v3] at f; rw [if_neg cc, if_pos q4.2, f, show w = 2 by omega]; rfl
theorem x_region {c r w : Int} (r1 : ga_rg c) (r2 : ga_rg r) (r3 : ga_rg w) (hx : rx I A) (hA : ni_a A) (h : nx_E E I (no_region A c r w)) : ga_W G (d + 2) mt_GT_region 0 (ga_en 5 [.inr 0, .inl c, .inl r, .inl w]) [] I E := by
  have hs := hA.1
  have hr := hx.1
  unfold no_region na_region at h
  have n0 := ni_n hs.1 (ax := 0) (by omega)
  have n1 := ni_n hs.1 (ax := 1) (by omega)
  have e0 : I 3 0 = ms_n A.1 0 := hr.1.1.1
  have e1 : I 7 0 = ms_n A.1 1 := hr.1.2.1.1
  refine k_GT_region_0 r1 r2 r3 (fun hI => ?_)
  rw [e0, e1]
  refine ⟨fun q1 => nx_0 h hx (by rw [if_pos (fun w => q1 w.1)]), fun q1 => ⟨fun q2 => ⟨fun q3 => ⟨by omega, fun z f => nx_0 h hx ?_⟩, fun q3 => ⟨by omega, fun z f => nx_0 h hx ?_⟩⟩, fun q2 => nx_0 h hx (by rw [if_pos (fun w => q2 w.2)])⟩⟩
  · have := hr.1.2.2.2 (c * 7 + r).toNat (by omega)
    rw [show 38 + 4 * (c * 7 + r).toNat + 3 = (38 + 4 * (7 * c + r) + w).toNat by omega] at this
    have f2 : z = rt_l (A.1 (38 + 4 * (7 * c + r) + w).toNat) := f.trans this
    rw [if_neg (fun u => u ⟨q1, q2⟩), f2]
    unfold rt_l
    by_cases u : A.1 (38 + 4 * (7 * c + r) + w).toNat = -1
    · rw [if_pos ⟨by omega, u⟩, if_pos u]
    · rw [if_neg (fun y => u y.2), if_neg u]
  · have := hr.1.2.2.1 (c * 7 + r).toNat w.toNat (by omega) (by omega)
    rw [show (c * 7 + r).toNat * 3 + w.toNat = ((c * 7 + r) * 3 + w).toNat by omega, show 38 + 4 * (c * 7 + r).toNat + w.toNat = (38 + 4 * (7 * c + r) + w).toNat by omega] at this
    have f2 : z = A.1 (38 + 4 * (7 * c + r) + w).toNat := f.trans this
    rw [if_neg (fun u => u ⟨q1, q2⟩), if_neg (fun u => by have := u.1; omega), f2]
theorem x_operator {op w : Int} (r1 : ga_rg op) (r2 : ga_rg w) (hx : rx I A) (hA : ni_a A) (h : nx_E E I (no_operator A op w)) : ga_W G (d + 2) mt_GT_operator 0 (ga_en 3 [.inr 0, .inl op, .inl w]) [] I E := by
  have hs := hA.1
  have hr := hx.1
  unfold no_operator na_operator at h
  refine k_GT_operator_0 r1 r2 (fun hI => ⟨fun q1 => ?_, fun q1 => nx_0 h hx (by rw [if_pos (fun w => q1 w.1)])⟩)
  obtain ⟨a1, a2, a3⟩ := hr.2.2.2.2.2.2.2.2.1 op.toNat (by omega)
  change I 51 op.toNat = _ at a1
  change I 52 op.toNat = _ at a2
  change I 53 op.toNat = _ at a3
  refine ⟨fun q => ⟨by omega, by omega, nx_0 h hx ?_⟩, fun q => ⟨by omega, by omega, nx_0 h hx ?_⟩, fun q => ⟨rt_gn hs.1 hr.1, fun z f => nx_0 h hx ?_⟩, fun q => ⟨by omega, by omega, nx_0 h hx ?_⟩, fun q => nx_0 h hx (by rw [if_pos (by omega)])⟩
  · rw [if_neg (fun u => u ⟨q1, by omega⟩), if_neg (by omega), if_neg (by omega), a1, show 241 + 3 * op.toNat = (241 + 3 * op + w).toNat by omega]
  · rw [if_neg (fun u => u ⟨q1, by omega⟩), if_neg (by omega), if_neg (by omega), a2, show 241 + 3 * op.toNat + 1 = (241 + 3 * op + w).toNat by omega]
  · rw [if_neg (fun u => u ⟨q1, by omega⟩), if_pos q, f]
    congr 1
    exact (rt_lk hs.1 q1 hr.1).symm
  · rw [if_neg (fun u => u ⟨q1, by omega⟩), if_neg (by omega), if_pos q, a3, show 241 + 3 * op.toNat + 2 = (241 + 3 * op + 2).toNat by omega]
theorem x_account {w : Int} (r1 : ga_rg w) (hx : rx I A) (hA : ni_a A) (h : nx_E E I (no_account A w)) : ga_W G (d + 1) mt_GT_account 0 (ga_en 2 [.inr 0, .inl w]) [] I E := by
  have hr := hx.1
  have h10 := hr.2.2.2.2.2.2.2.2.2
  unfold no_account na_account at h
  refine k_GT_account_0 r1 (fun hI => ⟨fun q1 => ⟨fun q2 => ⟨by omega, by omega, nx_0 h hx ?_⟩, fun q2 z f => nx_0 h hx ?_⟩, fun q1 => nx_0 h hx (by rw [if_pos q1])⟩)
  · have := h10 w.toNat (by omega)
    rw [show 250 + w.toNat = (250 + w).toNat by omega] at this
    rw [if_neg (fun u => u q1), if_neg q2, ← this]
  · rw [h10 0 (by omega), h10 1 (by omega), h10 2 (by omega), h10 3 (by omega)] at f
    rw [if_neg (fun u => u q1), if_pos q2, f, Int.zero_add]
theorem x_gain {g w : Int} (r1 : ga_rg g) (r2 : ga_rg w) (hx : rx I A) (hA : ni_a A) (h : nx_E E I (no_gain A g w)) : ga_W G (d + 4) mt_GT_gain 0 (ga_en 3 [.inr 0, .inl g, .inl w]) [] I E := by
  have hs := hA.1
  have hr := hx.1
  have hp := hs.2.1
  unfold no_gain na_gain at h
  have P := bp_pre hs hr
  refine k_GT_gain_0 r1 r2 (fun hI => ⟨fun q1 => ⟨P.1, P.2.1, P.2.2.1, P.2.2.2.1, P.2.2.2.2.1, P.2.2.2.2.2, fun I1 e1 => ?_⟩, fun q1 => nx_0 h hx (by rw [if_pos (fun w => q1 w.1)])⟩)
  have o1 : ∀ a, a ≠ 344 ∧ a ≠ 345 → I1 a = I a := fun a ha => by rw [e1, gx_bp_o ha]
  obtain ⟨b0, b1⟩ := gx_bp_rt hs.1 hr.1 hr.2.2.1 hr.2.2.2.1
  rw [← e1] at b0 b1
  have rt1 : rt I1 2 A.1 := rt_of (fun a w1 w2 => o1 a (by omega)) hr.1
  obtain ⟨k0, k1, kv⟩ := gv_rt (g := g) hs.1 rt1 b0 b1 hp.1 hp.2 q1
  have gg := gr_gn_rt hs.1 rt1
  have fr : ∀ a, (1 ≤ a ∧ a < 329) ∨ 348 ≤ a → I1 a = I a := fun a ha => o1 a (by omega)
  refine ⟨fun q => ⟨k0, k1, q1, gg, nx_q h hx fr ?_⟩, fun q => ⟨k0, k1, q1, fun z f => nx_q h hx fr ?_⟩, fun q => nx_q h hx fr ?_, fun q => nx_q h hx fr (by rw [if_pos (by omega)])⟩
  · rw [if_neg (fun u => u ⟨q1, by omega⟩), if_pos q, kv]; rfl
  · rw [if_neg (fun u => u ⟨q1, by omega⟩), if_neg (by omega), if_pos q, f]
    congr 1
    unfold na_nu na_f
    rw [b0] at k0 ⊢
    rw [b1] at k1 ⊢
    refine (gp_nu_cong k0 k1 (fun a b q1' q2 q3 q4 => ?_)).symm
    have e := rt1.2.2.1 (a * 7 + b).toNat g.toNat (by omega) (by omega)
    rw [show (a * 7 + b).toNat * 3 + g.toNat = ((a * 7 + b) * 3 + g).toNat by omega, show 38 + 4 * (a * 7 + b).toNat + g.toNat = (38 + 4 * (7 * a + b) + g).toNat by omega] at e
    exact e
  · have c0 : I1 344 3 = (na_f A.1 0).2.2.2 := by rw [show na_f A.1 0 = gl_v I1 344 from b0.symm]; rfl
    have c1 : I1 345 3 = (na_f A.1 1).2.2.2 := by rw [show na_f A.1 1 = gl_v I1 345 from b1.symm]; rfl
    rw [if_neg (fun u => u ⟨q1, by omega⟩), if_neg (by omega), if_neg (by omega), c0, c1]
theorem x_trail {b w : Int} (r1 : ga_rg b) (r2 : ga_rg w) (hx : rx I A) (hA : ni_a A) (h : nx_E E I (no_trail A b w)) : ga_W G (d + 2) mt_GT_trail 0 (ga_en 3 [.inr 0, .inl b, .inl w]) [] I E := by
  have hs := hA.1
  have hr := hx.1
  have hn := hs.2.2.2.1
  have h6 := hr.2.2.2.2.2.1
  have q0 : I 49 0 = A.1 254 := h6.1
  unfold no_trail na_trail at h
  refine k_GT_trail_0 r1 r2 (fun hI => ?_)
  rw [q0]
  refine ⟨fun q1 => nx_0 h hx (by rw [if_pos (fun w => absurd w.1 (by omega))]), fun q1 => ⟨fun q2 => ⟨fun q3 => nx_0 h hx (by rw [if_neg (fun u => u ⟨by omega, q2⟩), if_neg (by omega)]), fun q3 => ⟨rs_P hs hr, by omega, by omega, fun z f => nx_0 h hx ?_⟩⟩, fun q2 => nx_0 h hx (by rw [if_pos (fun w => q2 w.2)])⟩⟩
  have e := h6.2.2 b.toNat w.toNat (by omega) (by omega)
  have i1 : ((I (1 + 48) 1 - ((b.toNat : Nat) : Int)) % 20).toNat * 8 + w.toNat = ((I 49 1 - b) % 20 * 8 + w).toNat := by
    rw [show ((b.toNat : Nat) : Int) = b by omega]
    show ((I 49 1 - b) % 20).toNat * 8 + w.toNat = _
    omega
  rw [i1] at e
  rw [if_neg (fun u => u ⟨by omega, q2⟩), if_pos (by omega), f]
  congr 1
  rw [show (255 + 8 * (A.1 254 - 1 - b) + w).toNat = 255 + 8 * ((A.1 254).toNat - 1 - b.toNat) + w.toNat by omega]
  exact e.symm
/-- the blends at places in zones, and the value there -/
theorem bl_rt {s : Nat → Int} {I2 : ga_I} {g z0 c0 z1 c1 : Int} (hs : ni_t s) (hr : rt I 2 s) (e2 : I2 = gx_bl (gx_bl I 344 (mp_f s 0 z0 c0)) 345 (mp_f s 1 z1 c1)) (hc0 : 0 ≤ c0 ∧ c0 ≤ 1000) (hc1 : 0 ≤ c1 ∧ c1 ≤ 1000) (hg : 0 ≤ g ∧ g ≤ 2) : gp_vk (gl_v I2 344) ∧ gp_vk (gl_v I2 345) ∧ gr_gn I2 2 ∧ gv_i I2 g = mp_va s g z0 c0 z1 c1 ∧ ∀ a, a ≠ 344 → a ≠ 345 → I2 a = I a := by
  have o : ∀ a, a ≠ 344 → a ≠ 345 → I2 a = I a := fun a h1 h2 => by rw [e2, gx_bl_o h2, gx_bl_o h1]
  have b0 : gl_v I2 344 = mp_f s 0 z0 c0 := by rw [e2, gl_v_o (gx_bl_o (by omega)), gl_v_bl]
  have b1 : gl_v I2 345 = mp_f s 1 z1 c1 := by rw [e2, gl_v_bl]
  have r2 : rt I2 2 s := rt_of (fun a w1 w2 => o a (by omega) (by omega)) hr
  obtain ⟨k0, k1, kv⟩ := gv_rt (g := g) hs r2 b0 b1 hc0 hc1 hg
  exact ⟨k0, k1, gr_gn_rt hs r2, kv, o⟩
theorem x_valueAt {x y g : Int} (r1 : ga_rg x) (r2 : ga_rg y) (r3 : ga_rg g) (hx : rx I A) (hA : ni_a A) (h : nx_E E I (no_valueAt A x y g)) : ga_W G (d + 4) mt_GT_valueAt 0 (ga_en 4 [.inr 0, .inl x, .inl y, .inl g]) [] I E := by
  have hs := hA.1
  have hr := hx.1
  unfold no_valueAt na_valueAt at h
  have ok := rs_ok hs hr
  refine k_GT_valueAt_0 r1 r2 r3 (fun hI => ⟨fun q1 => nx_0 h hx (by rw [if_pos (fun w => q1 w.1)]), fun q1 => ⟨fun q2 => nx_0 h hx (by rw [if_pos (fun w => q2 w.2.1)]), fun q2 => ⟨fun q3 => ⟨ok.1, q1, fun I1 e1 => ?_⟩, fun q3 => nx_0 h hx (by rw [if_pos (fun w => q3 w.2.2)])⟩⟩⟩)
  have a0 := rt_zo hr.1.1 x
  have f0 := rt_fi hr.1.1 (ns_zo A.1 0 x) x
  have a1 := rt_zo hr.1.2.1 y
  have f1 := rt_fi hr.1.2.1 (ns_zo A.1 1 y) y
  have e1' : I1 = gx_bl I 344 (mp_f A.1 0 (ns_zo A.1 0 x) x) := by rw [e1, ← f0, ← a0]
  have o1 : ∀ a, a ≠ 344 → I1 a = I a := fun a ha => by rw [e1', gx_bl_o ha]
  refine ⟨by unfold gb_ok; rw [o1 7 (by omega), o1 (7 + 1) (by omega), o1 (7 + 2) (by omega), o1 (7 + 3) (by omega)]; exact ok.2, q2, fun I2 e2 => ?_⟩
  rw [o1 7 (by omega), o1 (7 + 1) (by omega), o1 (7 + 2) (by omega), o1 (7 + 3) (by omega)] at e2
  have e2' : I2 = gx_bl (gx_bl I 344 (mp_f A.1 0 (ns_zo A.1 0 x) x)) 345 (mp_f A.1 1 (ns_zo A.1 1 y) y) := by rw [e2, e1', ← f1, ← a1]
  obtain ⟨k0, k1, k2, kv, o2⟩ := bl_rt (g := g) hs.1 hr.1 e2' q1 q2 q3
  exact ⟨k0, k1, q3, k2, nx_q h hx (fun a ha => o2 a (by omega) (by omega)) (by rw [if_neg (fun u => u ⟨q1, q2, q3⟩), kv]; rfl)⟩
theorem x_chatter {ax c m t : Int} (r1 : ga_rg ax) (r2 : ga_rg c) (r3 : ga_rg m) (r4 : ga_rg t) (hx : rx I A) (hA : ni_a A) (h : nx_E E I (no_chatter A ax c m t)) : ga_W G (d + 3) mt_GT_chatter 0 (ga_en 6 [.inr 0, .inl ax, .inl c, .inl m, .inl t]) [] I E := by
  have hs := hA.1
  have hr := hx.1
  unfold no_chatter na_chatter at h
  refine k_GT_chatter_0 r1 r2 r3 r4 (fun hI => ⟨fun q1 => nx_0 h hx (by rw [if_pos (fun w => q1 w.1)]), fun q1 => ⟨fun q2 => nx_0 h hx (by rw [if_pos (fun w => q2 w.2.1)]), fun q2 => ⟨q2, fun q3 => nx_0 h hx (by rw [if_pos (fun w => q3 ⟨w.2.2.1, by omega, by omega⟩)]), fun q3 => ⟨fun q4 => ⟨by omega, by omega, ?_⟩, fun q4 => nx_0 h hx (by rw [if_pos (fun w => q4 w.2.2.2.1)])⟩⟩⟩⟩)
  have hat : rt_b I (ga_bo 2 ax) A.1 ax := rt_at hr.1 q1
  have zz : I 48 ax.toNat = A.1 (236 + ax).toNat := by
    have := hr.2.2.2.1
    rcases (show ax = 0 ∨ ax = 1 by omega) with w | w <;> subst w
    · exact this.1
    · exact this.2
  rw [zz, rt_sk hat, rt_zc hat]
  exact ⟨rt_b_ok hat (ni_axs hs.1 q1), ni_zax hs.2.2.1 q1, by omega, ⟨by omega, by omega⟩, ⟨by omega, by omega⟩, fun z f => nx_0 h hx (by rw [if_neg (fun w => w ⟨q1, q2, q3.1, q4, by omega⟩), f])⟩
end TJ
