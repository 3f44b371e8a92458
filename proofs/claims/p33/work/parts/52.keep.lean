/-! rows stay as they should be, call by call -/
section MW
theorem ni_s_of {s s' : Nat → Int} (e : ∀ j, j < 1120 → s' j = s j) (h : ni_s s) : ni_s s' := by
  refine ⟨ni_t_of (fun j hj => e j (by omega)) h.1, ?_, ni_z_of h.1 (fun j hj => e j (by omega)) ?_, ?_, fun p hp => ?_⟩
  · rw [e 234 (by omega), e 235 (by omega)]; exact h.2.1
  · rw [e 236 (by omega), e 237 (by omega)]; exact h.2.2.1
  · rw [e 254 (by omega)]; exact h.2.2.2.1
  · have := h.2.2.2.2 p hp
    rw [e _ (by omega)]
    exact ⟨this.1, fun q => ni_t_of (fun j hj => e _ (by omega)) (this.2 q)⟩
theorem ac_v_row {v s : Nat → Int} {m : Int} (hm : 0 ≤ m ∧ m ≤ 5) {i j : Nat} (hj : j < 1120) :
    (m < 5 → (i : Int) < m → ac_v v s m (1120 * i + j) = v (1120 * i + j)) ∧ (m < 5 → (i : Int) = m → ac_v v s m (1120 * i + j) = s j) ∧ (m = 5 → i < 4 → ac_v v s m (1120 * i + j) = v (1120 * (i + 1) + j)) ∧ (m = 5 → i = 4 → ac_v v s m (1120 * i + j) = s j) := by
  unfold ac_v av_cp av_sh
  refine ⟨fun h1 h2 => ?_, fun h1 h2 => ?_, fun h1 h2 => ?_, fun h1 h2 => ?_⟩
  · rw [if_neg (by omega), if_neg (by omega)]
  · rw [if_neg (by omega), if_pos (by omega)]; congr 1; omega
  · rw [if_pos h1, if_neg (by omega), if_pos (by omega)]; congr 1; omega
  · rw [if_pos h1, if_pos (by omega)]; exact congrArg s (by omega)
theorem ni_act {A : na_A} {r : Nat → Int} (h : ni_a A) (hr : ni_s r) : ni_a (na_act A r) := by
  obtain ⟨h1, h2, h3, h4⟩ := h
  refine ⟨hr, ⟨by show 0 ≤ min (A.2.2.1 + 1) 5; omega, by show min (A.2.2.1 + 1) 5 ≤ 5; omega⟩, fun i hi => ?_, h4⟩
  change (i : Int) < min (A.2.2.1 + 1) 5 at hi
  change ni_s (fun j => ac_v A.2.1 A.1 A.2.2.1 (1120 * i + j))
  by_cases q : A.2.2.1 = 5
  · by_cases w : i < 4
    · exact ni_s_of (fun j hj => (ac_v_row h2 hj).2.2.1 q w) (h3 (i + 1) (by omega))
    · exact ni_s_of (fun j hj => (ac_v_row h2 hj).2.2.2 q (by omega)) h1
  · by_cases w : (i : Int) < A.2.2.1
    · exact ni_s_of (fun j hj => (ac_v_row h2 hj).1 (by omega) w) (h3 i w)
    · exact ni_s_of (fun j hj => (ac_v_row h2 hj).2.1 (by omega) (by omega)) h1
theorem ni_fz {s s' : Nat → Int} (h : ni_s s) (ht : ni_t s') (e : ∀ j, (234 ≤ j ∧ j < 236) ∨ j = 254 ∨ 415 ≤ j → s' j = s j) : ni_s (ns_fz s') := by
  have o : ∀ j, j ≠ 236 → j ≠ 237 → ns_fz s' j = s' j := fun j h1 h2 => by unfold ns_fz; rw [ns_up_ne h2, ns_up_ne h1]
  refine ⟨ni_t_of (fun j hj => o j (by omega) (by omega)) ht, ?_, ni_z_of ht (fun j hj => o j (by omega) (by omega)) ?_, ?_, fun p hp => ?_⟩
  · rw [o _ (by omega) (by omega), o _ (by omega) (by omega), e _ (by omega), e _ (by omega)]; exact h.2.1
  · have a0 : ns_fz s' 236 = ns_zo s' 0 (s' 234) := by unfold ns_fz; rw [ns_up_ne (by omega), ns_up_at]
    have a1 : ns_fz s' 237 = ns_zo s' 1 (s' 235) := by unfold ns_fz; rw [ns_up_at]
    rw [a0, a1]
    exact ⟨gp_zo_ct _ _ _ _, gp_zo_ct _ _ _ _⟩
  · rw [o _ (by omega) (by omega), e _ (by omega)]; exact h.2.2.2.1
  · have := h.2.2.2.2 p hp
    rw [o _ (by omega) (by omega), e _ (by omega)]
    refine ⟨this.1, fun q => ni_t_of (fun j hj => ?_) (this.2 q)⟩
    rw [o _ (by omega) (by omega), e _ (by omega)]
theorem ni_settle {s s' : Nat → Int} {z : Int} (h : ni_s s) (ht : ni_t s') (e : ∀ j, (234 ≤ j ∧ j < 236) ∨ j = 254 ∨ 415 ≤ j → s' j = s j) : ni_s (ns_st s' z) := by
  unfold ns_st
  refine ni_fz h (ni_t_of (fun j hj => ns_up_ne (by omega)) ht) (fun j hj => ?_)
  rw [ns_up_ne (by omega), e j hj]
theorem ns_de_b {s : Nat → Int} {ax : Int} {c n : Nat} (ha : 0 ≤ ax ∧ ax ≤ 1) (hn : n ≤ 6) {b : Nat} (hb : b < 6) :
    ms_p (ns_de s ax c n) ax b = gx_de (ms_p s ax) c n b ∧ ms_q (ns_de s ax c n) ax b = gx_de (ms_q s ax) c n b ∧ ms_r (ns_de s ax c n) ax b = gx_de (ms_r s ax) c n b := by
  have one : ∀ w : Nat, w < 3 → ns_de s ax c n ((19 * ax).toNat + 1 + 3 * b + w) = gx_de (fun b => s ((19 * ax).toNat + 1 + 3 * b + w)) c n b := fun w hw => by
    unfold ns_de gx_de
    rw [if_neg (by omega)]
    by_cases u : c ≤ b ∧ b + 1 < n
    · rw [if_pos (by omega), if_pos u]; congr 1; omega
    · rw [if_neg (by omega), if_neg (by omega), if_neg u]
  exact ⟨one 0 (by omega), one 1 (by omega), one 2 (by omega)⟩
theorem ns_de_o {s : Nat → Int} {ax a : Int} {c n : Nat} (ha : 0 ≤ ax ∧ ax ≤ 1) (h2 : 0 ≤ a ∧ a ≤ 1) (hne : a ≠ ax) (hn : n ≤ 6) {j : Nat} (hj : (19 * a).toNat ≤ j ∧ j < (19 * a).toNat + 19) : ns_de s ax c n j = s j := by
  unfold ns_de
  rw [if_neg (by omega), if_neg (by omega), if_neg (by omega)]
theorem ns_de_hi {s : Nat → Int} {ax : Int} {c n : Nat} (ha : 0 ≤ ax ∧ ax ≤ 1) (hn : n ≤ 6) {j : Nat} (hj : 234 ≤ j) : ns_de s ax c n j = s j := by
  unfold ns_de
  rw [if_neg (by omega), if_neg (by omega), if_neg (by omega)]
theorem ns_de_g {s : Nat → Int} {ax : Int} {c n : Nat} (ha : 0 ≤ ax ∧ ax ≤ 1) (hn : n ≤ 6) {g i : Nat} (hg : g < 49) (hi : i < 4) : ns_de s ax c n (38 + 4 * g + i) = s (38 + 4 * gp_upr ax (c + 2) (n - c - 1) g + i) := by
  unfold ns_de
  rw [if_neg (by omega), if_neg (by omega), if_pos (by omega), show (38 + 4 * g + i - 38) / 4 = g by omega, show (38 + 4 * g + i - 38) % 4 = i by omega]
theorem ni_t_de {s : Nat → Int} {ax b : Int} (h : ni_t s) (ha : 0 ≤ ax ∧ ax ≤ 1) (hb : 0 ≤ b ∧ b < ms_n s ax) : ni_t (ns_de s ax b.toNat (ms_n s ax).toNat) := by
  have hok := ni_axs h ha
  have h0 : 0 ≤ ms_n s ax := hok.1
  have h6 : ms_n s ax ≤ 6 := hok.2.1
  have A1 : ni_ok (ns_de s ax b.toNat (ms_n s ax).toNat) ax := by
    refine gp_ok_of (gp_ok_de hok (c := b.toNat) (by omega)) ?_ (fun j hj => ns_de_b ha (by omega) hj)
    show ns_de s ax b.toNat (ms_n s ax).toNat (19 * ax).toNat = ms_n s ax - 1
    unfold ns_de
    rw [if_pos rfl]; rfl
  have A3 : ∀ a, 0 ≤ a ∧ a ≤ 1 → ni_ok (ns_de s ax b.toNat (ms_n s ax).toNat) a := fun a h2 => by
    by_cases e : a = ax
    · rw [e]; exact A1
    · refine gp_ok_of (ni_axs h h2) ?_ (fun j hj => ⟨?_, ?_, ?_⟩)
      · exact ns_de_o ha h2 e (by omega) (by omega)
      · exact ns_de_o ha h2 e (by omega) (by omega)
      · exact ns_de_o ha h2 e (by omega) (by omega)
      · exact ns_de_o ha h2 e (by omega) (by omega)
  refine ⟨A3 0 (by omega), A3 1 (by omega), fun g i hg hi => ?_, fun g hg => ?_⟩
  · rw [ns_de_g ha (by omega) hg (by omega)]
    exact h.2.2.1 _ i (gp_upr_lt _ g (by omega) hg) hi
  · rw [ns_de_g ha (by omega) hg (by omega)]
    exact h.2.2.2 _ (gp_upr_lt _ g (by omega) hg)
theorem nk_addBorder {A : na_A} {ax x q r : Int} (h : ni_a A) : ni_a (no_addBorder A ax x q r).1 := by
  unfold no_addBorder
  by_cases q1 : ¬ ((0 ≤ ax ∧ ax ≤ 1) ∧ (1 ≤ x ∧ x ≤ 999) ∧ ((0 ≤ q ∧ q ≤ 1) ∧ (q ≤ r ∧ r ≤ 100)) ∧ (0 ≤ x - r ∧ x + r ≤ 1000))
  · rw [if_pos q1]; exact h
  · rw [if_neg q1]
    obtain ⟨ha, hx, hq, hi⟩ := Decidable.not_not.mp q1
    by_cases q2 : gp_fr (ms_p A.1 ax) (ms_r A.1 ax) x r (-2000000009) (ms_n A.1 ax).toNat = false
    · rw [if_pos q2]; exact h
    · rw [if_neg q2]
      by_cases q3 : ms_n A.1 ax = 6
      · rw [if_pos q3]; exact h
      · rw [if_neg q3]
        have n6 := ni_n h.1.1 ha
        have hb := gp_st_bd (ms_p A.1 ax) x (ms_n A.1 ax).toNat
        refine ni_act h (ni_settle h.1 (ni_t_in h.1.1 ha hx (by omega) hq.2.2 ⟨hq.2.1, hi, by simpa using q2, q3⟩) (fun j hj => ns_in_hi ha (by omega) (by omega) (by omega)))
theorem nk_removeBorder {A : na_A} {ax b : Int} (h : ni_a A) : ni_a (no_removeBorder A ax b).1 := by
  unfold no_removeBorder
  by_cases q1 : ¬ ((0 ≤ ax ∧ ax ≤ 1) ∧ (0 ≤ b ∧ b < ms_n A.1 ax))
  · rw [if_pos q1]; exact h
  · rw [if_neg q1]
    obtain ⟨ha, hb⟩ := Decidable.not_not.mp q1
    have n6 := ni_n h.1.1 ha
    exact ni_act h (ni_settle h.1 (ni_t_de h.1.1 ha hb) (fun j hj => ns_de_hi ha (by omega) (by omega)))
theorem ni_t_cw {s : Nat → Int} {ax : Int} {b : Nat} {w : Int} (h : ni_t s) (ha : 0 ≤ ax ∧ ax ≤ 1) (hb : b < 6) (hok : ni_ok (na_cw s ax b w) ax) : ni_t (na_cw s ax b w) := by
  have A3 : ∀ a, 0 ≤ a ∧ a ≤ 1 → ni_ok (na_cw s ax b w) a := fun a h2 => by
    by_cases e : a = ax
    · rw [e]; exact hok
    · exact gp_ok_of (ni_axs h h2) (ns_up_ne (by omega)) (fun j hj => ⟨ns_up_ne (by omega), ns_up_ne (by omega), ns_up_ne (by omega)⟩)
  refine ⟨A3 0 (by omega), A3 1 (by omega), fun g i hg hi => ?_, fun g hg => ?_⟩
  · unfold na_cw; rw [ns_up_ne (by omega)]; exact h.2.2.1 g i hg hi
  · unfold na_cw; rw [ns_up_ne (by omega)]; exact h.2.2.2 g hg
theorem nk_setReach {A : na_A} {ax b r : Int} (h : ni_a A) : ni_a (no_setReach A ax b r).1 := by
  unfold no_setReach
  by_cases q1 : ¬ ((0 ≤ ax ∧ ax ≤ 1) ∧ (0 ≤ b ∧ b < ms_n A.1 ax))
  · rw [if_pos q1]; exact h
  · rw [if_neg q1]
    obtain ⟨ha, hb⟩ := Decidable.not_not.mp q1
    by_cases q2 : ¬ ((ms_q A.1 ax b.toNat ≤ r ∧ r ≤ 100) ∧ (0 ≤ ms_p A.1 ax b.toNat - r ∧ ms_p A.1 ax b.toNat + r ≤ 1000))
    · rw [if_pos q2]; exact h
    · rw [if_neg q2]
      obtain ⟨hr, hi⟩ := Decidable.not_not.mp q2
      by_cases q3 : gp_fr (ms_p A.1 ax) (ms_r A.1 ax) (ms_p A.1 ax b.toNat) r b (ms_n A.1 ax).toNat = false
      · rw [if_pos q3]; exact h
      · rw [if_neg q3]
        have n6 := ni_n h.1.1 ha
        have hok : ni_ok (na_cw A.1 ax b.toNat r) ax := by
          obtain ⟨d1, d2, d3, d4⟩ := na_cw_p (s := A.1) (b := b.toNat) (w := r) ha
          unfold ni_ok
          rw [d1, d2, d3, d4]
          exact gp_ok_up (ni_axs h.1.1 ha) (by omega) hr hi (by rw [show ((b.toNat : Nat) : Int) = b by omega]; simpa using q3)
        exact ni_act h (ni_fz (s' := na_cw A.1 ax b.toNat r) h.1 (ni_t_cw h.1.1 ha (by omega) hok) (fun j hj => ns_up_ne (by omega)))
theorem ni_hi {s : Nat → Int} {j : Nat} {z : Int} (h : ni_s s) (hj : 238 ≤ j ∧ j < 254) : ni_s (ns_up s j z) := by
  refine ni_of2 h (fun i hi => ns_up_ne (by omega)) (fun g i hg hi => ?_) (fun g hg => ?_)
  · rw [ns_up_ne (by omega)]; exact h.1.2.2.1 g i hg hi
  · rw [ns_up_ne (by omega)]; exact h.1.2.2.2 g hg
theorem nk_setOperator {A : na_A} {op w z : Int} (h : ni_a A) : ni_a (no_setOperator A op w z).1 := by
  unfold no_setOperator
  by_cases q1 : ¬ ((0 ≤ op ∧ op ≤ 2) ∧ ((w = 0 ∧ 1 ≤ z ∧ z ≤ 9999) ∨ (w = 1 ∧ 0 ≤ z ∧ z ≤ 99999)))
  · rw [if_pos q1]; exact h
  · rw [if_neg q1]
    have := Decidable.not_not.mp q1
    exact ni_act h (ni_hi h.1 (by omega))
theorem nk_edit {A : na_A} {op c r i z : Int} (h : ni_a A) : ni_a (no_edit A op c r i z).1 := by
  unfold no_edit
  by_cases q1 : ¬ na_ed A.1 op c r i z
  · rw [if_pos q1]; exact h
  · rw [if_neg q1]
    have w := Decidable.not_not.mp q1
    by_cases q2 : ns_ra A.1 op c r i z ≠ 0
    · rw [if_pos q2]; exact h
    · rw [if_neg q2]
      have n0 := ni_n h.1.1 (ax := 0) (by omega)
      have n1 := ni_n h.1.1 (ax := 1) (by omega)
      have e := ni_ch (g := (7 * c + r).toNat) (i := i.toNat) h.1 w.1 (by omega) (by omega) w.2.2.2
      rw [show 38 + 4 * (7 * c + r).toNat + i.toNat = (38 + 4 * (7 * c + r) + i).toNat by omega] at e
      exact ni_act h e
theorem nk_scale {A : na_A} {op i pc : Int} (h : ni_a A) : ni_a (no_scale A op i pc).1 := by
  unfold no_scale
  by_cases q1 : ¬ ((0 ≤ op ∧ op ≤ 2) ∧ (0 ≤ i ∧ i ≤ 2) ∧ (0 ≤ pc ∧ pc ≤ 1000))
  · rw [if_pos q1]; exact h
  · rw [if_neg q1]
    obtain ⟨w1, w2, w3⟩ := Decidable.not_not.mp q1
    have n0 := ni_n h.1.1 (ax := 0) (by omega)
    have n1 := ni_n h.1.1 (ax := 1) (by omega)
    exact ni_act h (sc_s3 (s0 := A.1) (X := (A.1, 0)) ⟨h.1, rfl, rfl⟩ w1 w2 w3 (by omega) _ (by omega)).1
theorem nk_lock {A : na_A} {op c r l : Int} (h : ni_a A) : ni_a (no_lock A op c r l).1 := by
  unfold no_lock
  by_cases q1 : ¬ ((0 ≤ op ∧ op ≤ 2) ∧ ((0 ≤ c ∧ c ≤ ms_n A.1 0) ∧ (0 ≤ r ∧ r ≤ ms_n A.1 1)) ∧ (0 ≤ l ∧ l ≤ 1))
  · rw [if_pos q1]; exact h
  · rw [if_neg q1]
    obtain ⟨w1, w2, w3⟩ := Decidable.not_not.mp q1
    by_cases q2 : A.1 (38 + 4 * (7 * c + r) + 3).toNat ≠ (if l = 1 then -1 else op)
    · rw [if_pos q2]; exact h
    · rw [if_neg q2]
      have n0 := ni_n h.1.1 (ax := 0) (by omega)
      have n1 := ni_n h.1.1 (ax := 1) (by omega)
      refine ni_act h (ni_of2 h.1 (fun j hj => ns_up_ne (by omega)) (fun g i hg hi => ?_) (fun g hg => ?_))
      · rw [ns_up_ne (by omega)]; exact h.1.1.2.2.1 g i hg hi
      · by_cases e : 38 + 4 * g + 3 = (38 + 4 * (7 * c + r) + 3).toNat
        · rw [e, ns_up_at]
          by_cases u : l = 1
          · rw [if_pos u]; omega
          · rw [if_neg u]; omega
        · rw [ns_up_ne e]; exact h.1.1.2.2.2 g hg
theorem nk_setMargin {A : na_A} {z : Int} (h : ni_a A) : ni_a (no_setMargin A z).1 := by
  unfold no_setMargin
  by_cases q1 : ¬ (0 ≤ z ∧ z ≤ 50)
  · rw [if_pos q1]; exact h
  · rw [if_neg q1]; exact ni_act h (ni_hi h.1 (by omega))
theorem nk_move {A : na_A} {x y : Int} (h : ni_a A) : ni_a (no_move A x y).1 := by
  unfold no_move
  by_cases q1 : ¬ ((0 ≤ x ∧ x ≤ 1000) ∧ (0 ≤ y ∧ y ≤ 1000))
  · rw [if_pos q1]; exact h
  · rw [if_neg q1]
    obtain ⟨w1, w2⟩ := Decidable.not_not.mp q1
    exact ni_act h (ni_mm h.1 w1 w2)
theorem ni_sw {ax to step : Int} (ht : 0 ≤ to ∧ to ≤ 1000) (hst : 1 ≤ step) : ∀ (f : Nat) (s : Nat → Int) (c ch : Int), ni_s s → 0 ≤ c ∧ c ≤ 1000 → ni_s (ns_sw ax to step f s c ch).1
  | 0, s, c, ch, h, _ => h
  | f + 1, s, c, ch, h, hc => by
    have hb := ns_tw_bd hc ht (step := step) hst
    unfold ns_sw
    by_cases q : c = to
    · rw [if_pos q]; exact h
    · rw [if_neg q]; exact ni_sw ht hst f _ _ _ (ni_mw h hb) hb
theorem nk_sweep {A : na_A} {ax to step : Int} (h : ni_a A) : ni_a (no_sweep A ax to step).1 := by
  unfold no_sweep
  by_cases q1 : ¬ ((0 ≤ ax ∧ ax ≤ 1) ∧ (0 ≤ to ∧ to ≤ 1000) ∧ (1 ≤ step ∧ step ≤ 1000))
  · rw [if_pos q1]; exact h
  · rw [if_neg q1]
    obtain ⟨w1, w2, w3⟩ := Decidable.not_not.mp q1
    by_cases q2 : A.1 (234 + ax).toNat = to
    · rw [if_pos q2]; exact h
    · rw [if_neg q2]
      refine ni_act h (ni_sw w2 w3.1 1000 _ _ _ h.1 ?_)
      have hp := h.1.2.1
      rcases (show ax = 0 ∨ ax = 1 by omega) with e | e <;> subst e
      · exact hp.1
      · exact hp.2
theorem nk_take {A : na_A} {p : Int} (h : ni_a A) : ni_a (no_take A p).1 := by
  unfold no_take
  by_cases q1 : ¬ (0 ≤ p ∧ p ≤ 2)
  · rw [if_pos q1]; exact h
  · rw [if_neg q1]
    have lo : ∀ j, j < 415 → ns_tk A.1 p.toNat j = A.1 j := fun j hj => by unfold ns_tk; rw [if_neg (by omega), if_neg (by omega)]
    refine ni_act h ⟨ni_t_of (fun j hj => lo j (by omega)) h.1.1, ?_, ni_z_of h.1.1 (fun j hj => lo j (by omega)) ?_, ?_, fun k hk => ?_⟩
    · rw [lo _ (by omega), lo _ (by omega)]; exact h.1.2.1
    · rw [lo _ (by omega), lo _ (by omega)]; exact h.1.2.2.1
    · rw [lo _ (by omega)]; exact h.1.2.2.2.1
    · by_cases e : k = p.toNat
      · rw [e]
        refine ⟨Or.inr (by unfold ns_tk; rw [if_pos rfl]), fun _ => ni_t_of (fun j hj => ?_) h.1.1⟩
        unfold ns_tk
        rw [if_neg (by omega), if_pos (by omega)]; exact congrArg A.1 (by omega)
      · have := h.1.2.2.2.2 k hk
        have o : ∀ j, j < 235 → ns_tk A.1 p.toNat (415 + 235 * k + j) = A.1 (415 + 235 * k + j) := fun j hj => by unfold ns_tk; rw [if_neg (by omega), if_neg (by omega)]
        have o0 := o 0 (by omega)
        rw [Nat.add_zero] at o0
        rw [o0]
        refine ⟨this.1, fun q => ni_t_of (fun j hj => ?_) (this.2 q)⟩
        have e2 := o (j + 1) (by omega)
        rw [show 415 + 235 * k + (j + 1) = 416 + 235 * k + j by omega] at e2
        exact e2
theorem nk_restore {A : na_A} {p : Int} (h : ni_a A) : ni_a (no_restore A p).1 := by
  unfold no_restore
  by_cases q1 : ¬ (0 ≤ p ∧ p ≤ 2)
  · rw [if_pos q1]; exact h
  · rw [if_neg q1]
    by_cases q2 : A.1 (415 + 235 * p.toNat) = 0
    · rw [if_pos q2]; exact h
    · rw [if_neg q2]
      have hp := h.1.2.2.2.2 p.toNat (by omega)
      refine ni_act h (ni_settle h.1 (ni_t_of (fun j hj => ?_) (hp.2 (by omega))) (fun j hj => ?_))
      · unfold ns_rs; rw [if_pos hj]
      · unfold ns_rs; rw [if_neg (by omega)]
theorem nk_undo {A : na_A} (h : ni_a A) : ni_a (no_undo A).1 := by
  unfold no_undo
  by_cases q1 : A.2.2.1 = 0
  · rw [if_pos q1]; exact h
  · rw [if_neg q1]
    obtain ⟨h1, h2, h3, h4⟩ := h
    refine ⟨?_, ⟨by show 0 ≤ A.2.2.1 - 1; omega, by show A.2.2.1 - 1 ≤ 5; omega⟩, fun i hi => h3 i (by have : (i : Int) < A.2.2.1 - 1 := hi; omega), h4⟩
    refine ni_s_of (fun j hj => ?_) (h3 (A.2.2.1.toNat - 1) (by omega))
    show av_cp A.1 (fun j => A.2.1 (1120 * (A.2.2.1.toNat - 1) + j)) 0 1120 j = A.2.1 (1120 * (A.2.2.1.toNat - 1) + j)
    unfold av_cp
    rw [if_pos (by omega)]; rfl
theorem nk_append {A : na_A} {c : Int} (h : ni_a A) : ni_a (no_append A c).1 := by
  unfold no_append
  by_cases q1 : ¬ (1 ≤ c ∧ c ≤ 255)
  · rw [if_pos q1]; exact h
  · rw [if_neg q1]
    by_cases q2 : A.2.2.2.2 = 160
    · rw [if_pos q2]; exact h
    · rw [if_neg q2]
      obtain ⟨h1, h2, h3, h4, h5⟩ := h
      refine ⟨h1, h2, h3, ⟨by show 0 ≤ A.2.2.2.2 + 1; omega, by show A.2.2.2.2 + 1 ≤ 160; omega⟩, fun i hi => ?_⟩
      change (i : Int) < A.2.2.2.2 + 1 at hi
      change 1 ≤ ns_up A.2.2.2.1 A.2.2.2.2.toNat c i ∧ ns_up A.2.2.2.1 A.2.2.2.2.toNat c i ≤ 255
      by_cases e : i = A.2.2.2.2.toNat
      · rw [e, ns_up_at]; exact Decidable.not_not.mp q1
      · rw [ns_up_ne e]; exact h5 i (by omega)
theorem nk_clearText {A : na_A} (h : ni_a A) : ni_a (no_clearText A).1 := by
  obtain ⟨h1, h2, h3, h4, h5⟩ := h
  exact ⟨h1, h2, h3, ⟨Int.le_refl 0, by show (0 : Int) ≤ 160; omega⟩, fun i hi => by have : (i : Int) < 0 := hi; exfalso; omega⟩
theorem nk_load {A : na_A} (h : ni_a A) : ni_a (no_load A).1 := by
  unfold no_load
  by_cases q1 : (na_ld A).1 = true
  · rw [if_pos q1]
    have LD := gp_ld_ok (t := A.2.2.2.1) (l := A.2.2.2.2.toNat) (A.2.2.2.2.toNat + 1) 0 (ns_em A.1) 0 (ni_em A.1) (Nat.zero_le _)
    have e := ni_act h (r := ns_st (na_ld A).2.2.1 (ns_tt A.1)) (ni_settle h.1 LD.1 (fun j hj => (LD.2.1 j (by omega)).trans (ns_em_o (by omega))))
    exact ⟨e.1, e.2.1, e.2.2.1, ⟨Int.le_refl 0, by show (0 : Int) ≤ 160; omega⟩, fun i hi => by have : (i : Int) < 0 := hi; exfalso; omega⟩
  · rw [if_neg q1]; exact h
end MW
