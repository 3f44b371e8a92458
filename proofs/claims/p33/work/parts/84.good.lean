/-! p33: each call either changes nothing and answers an error, or records the state and answers no error -/
abbrev nX := (Nat → Int) × Int × (Nat → Int) × Int
def nX0 : nX := (fun _ => 0, 0, fun _ => 0, 0)
theorem ni_X0 {s : Nat → Int} (h : ni_s s) : ni_a (s, nX0) := by
  refine ⟨h, ⟨Int.le_refl _, by show (0 : Int) ≤ 5; omega⟩, fun i hi => ?_, ⟨Int.le_refl _, by show (0 : Int) ≤ 160; omega⟩, fun i hi => ?_⟩
  · change (i : Int) < 0 at hi; omega
  · change (i : Int) < 0 at hi; omega
def nq (F : na_A → na_A × Int) (s : Nat → Int) : Prop :=
  (∃ z, (z < 0 ∧ z ≠ -2000000009 ∧ ga_rg z) ∧ ∀ X : nX, F (s, X) = ((s, X), z)) ∨
  (∃ z r, ((0 ≤ z ∨ z = -2000000009) ∧ ga_rg z) ∧ np_s r ∧ ni_s r ∧ ∀ X : nX, F (s, X) = (na_act (s, X) r, z))
theorem nq_err {F : na_A → na_A × Int} {s : Nat → Int} (z : Int) (hz : z = -2000000001 ∨ z = -2000000002 ∨ z = -2000000003) (h : ∀ X : nX, F (s, X) = ((s, X), z)) : nq F s :=
  Or.inl ⟨z, ⟨by omega, by omega, ⟨by omega, by omega⟩⟩, h⟩
theorem nq_ok {F : na_A → na_A × Int} {s : Nat → Int} {z : Int} {r : Nat → Int} (hs : ni_s s) (hk : ∀ A, ni_a A → ni_a (F A).1) (hz : (0 ≤ z ∧ z ≤ 99999) ∨ z = -2000000009) (hp : np_s r) (h : ∀ X : nX, F (s, X) = (na_act (s, X) r, z)) : nq F s := by
  refine Or.inr ⟨z, r, ⟨by omega, by rcases hz with w | w; exact ⟨by omega, by omega⟩; exact ⟨by omega, by omega⟩⟩, hp, ?_, h⟩
  have := hk _ (ni_X0 hs)
  rw [h nX0] at this
  exact this.1
theorem rw_bd {f : Nat → Int} {b : Int} (hf : ∀ k, 0 ≤ f k ∧ f k ≤ b) : ∀ n : Nat, 0 ≤ gp_rw f n ∧ gp_rw f n ≤ b * n
  | 0 => ⟨Int.le_refl _, by show (0 : Int) ≤ b * ((0 : Nat) : Int); omega⟩
  | n + 1 => by
    have h1 := rw_bd hf n
    have h2 := hf n
    have e : b * ((n + 1 : Nat) : Int) = b * (n : Int) + b := by rw [show ((n + 1 : Nat) : Int) = (n : Int) + 1 from rfl, Int.mul_add, Int.mul_one]
    show 0 ≤ gp_rw f n + f n ∧ gp_rw f n + f n ≤ _
    omega
theorem lo_bd2 {s : Nat → Int} {op : Int} {m n : Nat} (hm : m ≤ 7) (hn : n ≤ 7) : 0 ≤ gp_tt (mp_lk s op) m n ∧ gp_tt (mp_lk s op) m n ≤ 49 := by
  have h1 : ∀ k, 0 ≤ mp_lk s op k ∧ mp_lk s op k ≤ 1 := fun k => by
    unfold mp_lk
    by_cases q : s (38 + 4 * k + 3) = op
    · rw [if_pos q]; omega
    · rw [if_neg q]; omega
  have h2 : ∀ c, 0 ≤ gp_rw (fun r => mp_lk s op (c * 7 + r)) n ∧ gp_rw (fun r => mp_lk s op (c * 7 + r)) n ≤ 7 := fun c => by
    have := rw_bd (f := fun r => mp_lk s op (c * 7 + r)) (b := 1) (fun k => h1 _) n
    omega
  have h3 := rw_bd (f := fun c => gp_rw (fun r => mp_lk s op (c * 7 + r)) n) (b := 7) h2 m
  unfold gp_tt
  omega
theorem nq_addBorder {s : Nat → Int} {ax x q r : Int} (hs : ni_s s) (hp : np_s s) : nq (fun A => no_addBorder A ax x q r) s := by
  by_cases q1 : ¬ ((0 ≤ ax ∧ ax ≤ 1) ∧ (1 ≤ x ∧ x ≤ 999) ∧ ((0 ≤ q ∧ q ≤ 1) ∧ (q ≤ r ∧ r ≤ 100)) ∧ (0 ≤ x - r ∧ x + r ≤ 1000))
  · exact nq_err (-2000000001) (by omega) (fun X => if_pos q1)
  · by_cases q2 : gp_fr (ms_p s ax) (ms_r s ax) x r (-2000000009) (ms_n s ax).toNat = false
    · exact nq_err (-2000000002) (by omega) (fun X => (if_neg q1).trans (if_pos q2))
    · by_cases q3 : ms_n s ax = 6
      · exact nq_err (-2000000003) (by omega) (fun X => (if_neg q1).trans ((if_neg q2).trans (if_pos q3)))
      · obtain ⟨ha, hx, hq, hi⟩ := Decidable.not_not.mp q1
        have n6 := ni_n hs.1 ha
        have hb := gp_st_bd (ms_p s ax) x (ms_n s ax).toNat
        refine nq_ok (r := ns_st (ns_in s ax (gp_st (ms_p s ax) x (ms_n s ax).toNat).toNat (ms_n s ax).toNat x q r) (ns_tt s)) hs (fun A h => nk_addBorder h) (z := gp_st (ms_p s ax) x (ms_n s ax).toNat) (by omega) ?_ (fun X => (if_neg q1).trans ((if_neg q2).trans (if_neg q3)))
        exact np_st hp (ni_t_in hs.1 ha hx (by omega) hq.2.2 ⟨hq.2.1, hi, by simpa using q2, q3⟩) (fun j h1 h2 => ns_in_hi ha (by omega) (by omega) (by omega))
theorem nq_removeBorder {s : Nat → Int} {ax b : Int} (hs : ni_s s) (hp : np_s s) : nq (fun A => no_removeBorder A ax b) s := by
  by_cases q1 : ¬ ((0 ≤ ax ∧ ax ≤ 1) ∧ (0 ≤ b ∧ b < ms_n s ax))
  · exact nq_err (-2000000001) (by omega) (fun X => if_pos q1)
  · obtain ⟨ha, hb⟩ := Decidable.not_not.mp q1
    have n6 := ni_n hs.1 ha
    refine nq_ok (r := ns_st (ns_de s ax b.toNat (ms_n s ax).toNat) (ns_tt s)) hs (fun A h => nk_removeBorder h) (z := ms_n s ax - 1) (by omega) ?_ (fun X => if_neg q1)
    exact np_st hp (ni_t_de hs.1 ha hb) (fun j h1 h2 => ns_de_hi ha (by omega) (by omega))
theorem nq_setReach {s : Nat → Int} {ax b r : Int} (hs : ni_s s) (hp : np_s s) : nq (fun A => no_setReach A ax b r) s := by
  by_cases q1 : ¬ ((0 ≤ ax ∧ ax ≤ 1) ∧ (0 ≤ b ∧ b < ms_n s ax))
  · exact nq_err (-2000000001) (by omega) (fun X => if_pos q1)
  · obtain ⟨ha, hb⟩ := Decidable.not_not.mp q1
    by_cases q2 : ¬ ((ms_q s ax b.toNat ≤ r ∧ r ≤ 100) ∧ (0 ≤ ms_p s ax b.toNat - r ∧ ms_p s ax b.toNat + r ≤ 1000))
    · exact nq_err (-2000000001) (by omega) (fun X => (if_neg q1).trans (if_pos q2))
    · obtain ⟨hr, hi⟩ := Decidable.not_not.mp q2
      by_cases q3 : gp_fr (ms_p s ax) (ms_r s ax) (ms_p s ax b.toNat) r b (ms_n s ax).toNat = false
      · exact nq_err (-2000000002) (by omega) (fun X => (if_neg q1).trans ((if_neg q2).trans (if_pos q3)))
      · have n6 := ni_n hs.1 ha
        have bo := (ni_axs hs.1 ha).2.2.1 b.toNat (by omega)
        have hok : ni_ok (na_cw s ax b.toNat r) ax := by
          obtain ⟨d1, d2, d3, d4⟩ := na_cw_p (s := s) (b := b.toNat) (w := r) ha
          unfold ni_ok
          rw [d1, d2, d3, d4]
          exact gp_ok_up (ni_axs hs.1 ha) (by omega) hr hi (by rw [show ((b.toNat : Nat) : Int) = b by omega]; simpa using q3)
        refine nq_ok (r := ns_fz (ns_up s ((19 * ax).toNat + 1 + 3 * b.toNat + 2) r)) hs (fun A h => nk_setReach h) (z := ms_r s ax b.toNat) (by omega) ?_ (fun X => (if_neg q1).trans ((if_neg q2).trans (if_neg q3)))
        have ht := ni_t_cw hs.1 ha (b := b.toNat) (by omega) hok
        exact np_fz (s := na_cw s ax b.toNat r) (np_up hp hs.1 (by omega)) ht
theorem nq_setOperator {s : Nat → Int} {op w z : Int} (hs : ni_s s) (hp : np_s s) : nq (fun A => no_setOperator A op w z) s := by
  by_cases q1 : ¬ ((0 ≤ op ∧ op ≤ 2) ∧ ((w = 0 ∧ 1 ≤ z ∧ z ≤ 9999) ∨ (w = 1 ∧ 0 ≤ z ∧ z ≤ 99999)))
  · exact nq_err (-2000000001) (by omega) (fun X => if_pos q1)
  · obtain ⟨ho, hz⟩ := Decidable.not_not.mp q1
    have h1 := hp.1 op.toNat (by omega)
    have hv : 0 ≤ s (241 + 3 * op + w).toNat ∧ s (241 + 3 * op + w).toNat ≤ 99999 := by
      rcases hz with e | e
      · rw [show (241 + 3 * op + w).toNat = 241 + 3 * op.toNat by omega]; omega
      · rw [show (241 + 3 * op + w).toNat = 242 + 3 * op.toNat by omega]; omega
    exact nq_ok hs (fun A h => nk_setOperator h) (z := s (241 + 3 * op + w).toNat) (Or.inl hv) (np_so hp hs.1 ho hz) (fun X => if_neg q1)
theorem nq_edit {s : Nat → Int} {op c r i z : Int} (hs : ni_s s) (hp : np_s s) : nq (fun A => no_edit A op c r i z) s := by
  by_cases q1 : ¬ na_ed s op c r i z
  · exact nq_err (-2000000001) (by omega) (fun X => if_pos q1)
  · have w := Decidable.not_not.mp q1
    by_cases q2 : ns_ra s op c r i z ≠ 0
    · exact nq_err (-2000000002) (by omega) (fun X => (if_neg q1).trans (if_pos q2))
    · have n0 := ni_n hs.1 (ax := 0) (by omega)
      have n1 := ni_n hs.1 (ax := 1) (by omega)
      have hv := hs.1.2.2.1 (7 * c + r).toNat i.toNat (by omega) (by omega)
      rw [show 38 + 4 * (7 * c + r).toNat + i.toNat = (38 + 4 * (7 * c + r) + i).toNat by omega] at hv
      exact nq_ok hs (fun A h => nk_edit h) (z := s (38 + 4 * (7 * c + r) + i).toNat) (by omega) (np_ch hp hs.1 w (Decidable.not_not.mp q2)) (fun X => (if_neg q1).trans (if_neg q2))
theorem nq_scale {s : Nat → Int} {op i pc : Int} (hs : ni_s s) (hp : np_s s) : nq (fun A => no_scale A op i pc) s := by
  by_cases q1 : ¬ ((0 ≤ op ∧ op ≤ 2) ∧ (0 ≤ i ∧ i ≤ 2) ∧ (0 ≤ pc ∧ pc ≤ 1000))
  · exact nq_err (-2000000001) (by omega) (fun X => if_pos q1)
  · obtain ⟨w1, w2, w3⟩ := Decidable.not_not.mp q1
    have n0 := ni_n hs.1 (ax := 0) (by omega)
    have n1 := ni_n hs.1 (ax := 1) (by omega)
    obtain ⟨a, b, c⟩ := sp_s3 (s0 := s) (X := (s, 0)) (m := (ms_n s 1).toNat + 1) ⟨⟨hs, rfl, rfl⟩, hp⟩ w1 w2 w3 (by omega) (by omega) ((ms_n s 0).toNat + 1) (by omega)
    have b' : (ns_s3 op i pc (s, 0) ((ms_n s 1).toNat + 1) ((ms_n s 0).toNat + 1)).2 - 0 ≤ 7 * (((ms_n s 0).toNat + 1 : Nat) : Int) := b
    have c' : 0 ≤ (ns_s3 op i pc (s, 0) ((ms_n s 1).toNat + 1) ((ms_n s 0).toNat + 1)).2 := c
    exact nq_ok hs (fun A h => nk_scale h) (z := (ns_s3 op i pc (s, 0) ((ms_n s 1).toNat + 1) ((ms_n s 0).toNat + 1)).2) (by omega) a.2 (fun X => if_neg q1)
theorem nq_lock {s : Nat → Int} {op c r l : Int} (hs : ni_s s) (hp : np_s s) : nq (fun A => no_lock A op c r l) s := by
  by_cases q1 : ¬ ((0 ≤ op ∧ op ≤ 2) ∧ ((0 ≤ c ∧ c ≤ ms_n s 0) ∧ (0 ≤ r ∧ r ≤ ms_n s 1)) ∧ (0 ≤ l ∧ l ≤ 1))
  · exact nq_err (-2000000001) (by omega) (fun X => if_pos q1)
  · obtain ⟨w1, w2, w3⟩ := Decidable.not_not.mp q1
    by_cases q2 : s (38 + 4 * (7 * c + r) + 3).toNat ≠ (if l = 1 then -1 else op)
    · exact nq_err (-2000000002) (by omega) (fun X => (if_neg q1).trans (if_pos q2))
    · have n0 := ni_n hs.1 (ax := 0) (by omega)
      have n1 := ni_n hs.1 (ax := 1) (by omega)
      have e0 : ms_n (ns_up s (38 + 4 * (7 * c + r) + 3).toNat (if l = 1 then op else -1)) 0 = ms_n s 0 := ns_up_ne (by omega)
      have e1 : ms_n (ns_up s (38 + 4 * (7 * c + r) + 3).toNat (if l = 1 then op else -1)) 1 = ms_n s 1 := ns_up_ne (by omega)
      have hb := lo_bd2 (s := ns_up s (38 + 4 * (7 * c + r) + 3).toNat (if l = 1 then op else -1)) (op := op) (m := (ms_n s 0).toNat + 1) (n := (ms_n s 1).toNat + 1) (by omega) (by omega)
      refine nq_ok hs (fun A h => nk_lock h) (z := ns_lo (ns_up s (38 + 4 * (7 * c + r) + 3).toNat (if l = 1 then op else -1)) op) ?_ (np_up hp hs.1 (by omega)) (fun X => (if_neg q1).trans (if_neg q2))
      unfold ns_lo
      rw [e0, e1]
      omega
theorem nq_setMargin {s : Nat → Int} {z : Int} (hs : ni_s s) (hp : np_s s) : nq (fun A => no_setMargin A z) s := by
  by_cases q1 : ¬ (0 ≤ z ∧ z ≤ 50)
  · exact nq_err (-2000000001) (by omega) (fun X => if_pos q1)
  · have h2 := hp.2.1
    exact nq_ok hs (fun A h => nk_setMargin h) (z := s 238) (by omega) (np_mg hp hs.1 (Decidable.not_not.mp q1)) (fun X => if_neg q1)
theorem nq_move {s : Nat → Int} {x y : Int} (hs : ni_s s) (hp : np_s s) : nq (fun A => no_move A x y) s := by
  by_cases q1 : ¬ ((0 ≤ x ∧ x ≤ 1000) ∧ (0 ≤ y ∧ y ≤ 1000))
  · exact nq_err (-2000000001) (by omega) (fun X => if_pos q1)
  · obtain ⟨w1, w2⟩ := Decidable.not_not.mp q1
    refine nq_ok hs (fun A h => nk_move h) (z := na_mm s x y) ?_ (np_mv hp hs w1 w2) (fun X => if_neg q1)
    unfold na_mm
    by_cases g : na_ig s x y
    · rw [if_pos g]; exact Or.inr rfl
    · rw [if_neg g]
      have := ns_by_bd hs (ni_t1 hs w1 w2)
      exact Or.inl ⟨this.1, by omega⟩
theorem nq_sweep {s : Nat → Int} {ax to step : Int} (hs : ni_s s) (hp : np_s s) : nq (fun A => no_sweep A ax to step) s := by
  by_cases q1 : ¬ ((0 ≤ ax ∧ ax ≤ 1) ∧ (0 ≤ to ∧ to ≤ 1000) ∧ (1 ≤ step ∧ step ≤ 1000))
  · exact nq_err (-2000000001) (by omega) (fun X => if_pos q1)
  · obtain ⟨w1, w2, w3⟩ := Decidable.not_not.mp q1
    by_cases q2 : s (234 + ax).toNat = to
    · exact nq_err (-2000000002) (by omega) (fun X => (if_neg q1).trans (if_pos q2))
    · have hc : 0 ≤ s (234 + ax).toNat ∧ s (234 + ax).toNat ≤ 1000 := by
        have hp := hs.2.1
        rcases (show ax = 0 ∨ ax = 1 by omega) with e | e <;> subst e
        · exact hp.1
        · exact hp.2
      obtain ⟨a, b, c⟩ := np_sw (ax := ax) w2 w3.1 1000 s (s (234 + ax).toNat) 0 hp hs hc
      exact nq_ok hs (fun A h => nk_sweep h) (z := (ns_sw ax to step 1000 s (s (234 + ax).toNat) 0).2) (by omega) a (fun X => (if_neg q1).trans (if_neg q2))
theorem ns_rg_bd {s : Nat → Int} (h : ni_t s) : 1 ≤ ns_rg s ∧ ns_rg s ≤ 49 := by
  have n0 := ni_n h (ax := 0) (by omega)
  have n1 := ni_n h (ax := 1) (by omega)
  have a : (ms_n s 0 + 1) * (ms_n s 1 + 1) ≤ 7 * 7 := Int.mul_le_mul (by omega) (by omega) (by omega) (by omega)
  have b : 1 * 1 ≤ (ms_n s 0 + 1) * (ms_n s 1 + 1) := Int.mul_le_mul (by omega) (by omega) (by omega) (by omega)
  unfold ns_rg
  omega
theorem nq_take {s : Nat → Int} {p : Int} (hs : ni_s s) (hp : np_s s) : nq (fun A => no_take A p) s := by
  by_cases q1 : ¬ (0 ≤ p ∧ p ≤ 2)
  · exact nq_err (-2000000001) (by omega) (fun X => if_pos q1)
  · have := ns_rg_bd hs.1
    exact nq_ok hs (fun A h => nk_take h) (z := ns_rg s) (by omega) (np_tk hp hs.1) (fun X => if_neg q1)
theorem nq_restore {s : Nat → Int} {p : Int} (hs : ni_s s) (hp : np_s s) : nq (fun A => no_restore A p) s := by
  by_cases q1 : ¬ (0 ≤ p ∧ p ≤ 2)
  · exact nq_err (-2000000001) (by omega) (fun X => if_pos q1)
  · by_cases q2 : s (415 + 235 * p.toNat) = 0
    · exact nq_err (-2000000002) (by omega) (fun X => (if_neg q1).trans (if_pos q2))
    · have hq := hs.2.2.2.2 p.toNat (by omega)
      have ht : ni_t (ns_rs s p.toNat) := ni_t_of (fun j hj => by unfold ns_rs; rw [if_pos hj]) (hq.2 (by omega))
      have := ns_rg_bd ht
      exact nq_ok hs (fun A h => nk_restore h) (z := ns_rg (ns_rs s p.toNat)) (by omega) (np_st hp ht (fun j h1 h2 => by unfold ns_rs; rw [if_neg (by omega)])) (fun X => (if_neg q1).trans (if_neg q2))
theorem nq_nz {s : Nat → Int} {y : Int} (hs : ni_s s) (hp : np_s s) : nq (fun A => nz A y) s := by
  have b15 := an_15 y
  have to : ∀ {F : na_A → na_A × Int}, nq F s → (∀ A, nz A y = F A) → nq (fun A => nz A y) s := fun {F} h e => by
    have : (fun A => nz A y) = F := funext e
    rw [this]; exact h
  rcases (show an y 15 = 0 ∨ an y 15 = 1 ∨ an y 15 = 2 ∨ an y 15 = 3 ∨ an y 15 = 4 ∨ an y 15 = 5 ∨ an y 15 = 6 ∨ an y 15 = 7 ∨ an y 15 = 8 ∨ an y 15 = 9 ∨ an y 15 = 10 ∨ an y 15 = 11 ∨ an y 15 = 12 ∨ an y 15 = 13 ∨ an y 15 = 14 ∨ an y 15 = 15 by omega) with e | e | e | e | e | e | e | e | e | e | e | e | e | e | e | e
  · exact to (nq_addBorder hs hp) (fun A => nz_at.1 e)
  · exact to (nq_addBorder hs hp) (fun A => nz_at.2.1 e)
  · exact to (nq_removeBorder hs hp) (fun A => nz_at.2.2.1 e)
  · exact to (nq_setReach hs hp) (fun A => nz_at.2.2.2.1 e)
  · exact to (nq_setOperator hs hp) (fun A => nz_at.2.2.2.2.1 e)
  · exact to (nq_edit hs hp) (fun A => nz_at.2.2.2.2.2.1 e)
  · exact to (nq_edit hs hp) (fun A => nz_at.2.2.2.2.2.2.1 e)
  · exact to (nq_scale hs hp) (fun A => nz_at.2.2.2.2.2.2.2.1 e)
  · exact to (nq_lock hs hp) (fun A => nz_at.2.2.2.2.2.2.2.2.1 e)
  · exact to (nq_setMargin hs hp) (fun A => nz_at.2.2.2.2.2.2.2.2.2.1 e)
  · exact to (nq_move hs hp) (fun A => nz_at.2.2.2.2.2.2.2.2.2.2.1 e)
  · exact to (nq_move hs hp) (fun A => nz_at.2.2.2.2.2.2.2.2.2.2.2.1 e)
  · exact to (nq_sweep hs hp) (fun A => nz_at.2.2.2.2.2.2.2.2.2.2.2.2.1 e)
  · exact to (nq_take hs hp) (fun A => nz_at.2.2.2.2.2.2.2.2.2.2.2.2.2.1 e)
  · exact to (nq_restore hs hp) (fun A => nz_at.2.2.2.2.2.2.2.2.2.2.2.2.2.2.1 e)
  · exact to (nq_edit hs hp) (fun A => nz_at.2.2.2.2.2.2.2.2.2.2.2.2.2.2.2 e)
/-- the zones and values behind a move look at all but the count of moves -/
theorem mp_f_240 {t : Nat → Int} {z : Int} {ax a b : Int} (ha : 0 ≤ ax ∧ ax ≤ 1) (hok : ni_ok t ax) : mp_f (ns_up t 240 z) ax a b = mp_f t ax a b := by
  have h6 := hok.2.1
  have e : ms_n (ns_up t 240 z) ax = ms_n t ax := ns_up_ne (by omega)
  unfold mp_f
  rw [e]
  exact gp_fi_cong (fun b hb => ⟨ns_up_ne (by omega), ns_up_ne (by omega), ns_up_ne (by omega)⟩)
theorem mp_pv_240 {t : Nat → Int} {z g : Int} (ht : ni_s (ns_up t 240 z)) (ht0 : ni_t t) (hp : (0 ≤ t 234 ∧ t 234 ≤ 1000) ∧ (0 ≤ t 235 ∧ t 235 ≤ 1000)) (hg : 0 ≤ g ∧ g ≤ 2) : mp_pv (ns_up t 240 z) g = mp_pv t g := by
  have e6 : ns_up t 240 z 236 = t 236 := ns_up_ne (by omega)
  have e7 : ns_up t 240 z 237 = t 237 := ns_up_ne (by omega)
  have e4 : ns_up t 240 z 234 = t 234 := ns_up_ne (by omega)
  have e5 : ns_up t 240 z 235 = t 235 := ns_up_ne (by omega)
  unfold mp_pv mp_va
  rw [e6, e7, e4, e5, mp_f_240 (by omega) ht0.1, mp_f_240 (by omega) ht0.2.1]
  exact gp_va_cong (gp_fi_k ht0.1 hp.1) (gp_fi_k ht0.2.1 hp.2) (fun a b h1 h2 h3 h4 => ns_up_ne (by omega))
/-- what effect told is what the move did -/
theorem nz_eff {s : Nat → Int} {x y : Int} (hs : ni_s s) (hx : 0 ≤ x ∧ x ≤ 1000) (hy : 0 ≤ y ∧ y ≤ 1000) (X : nX) :
    (na_ig s x y ∧ na_effect (s, X) x y = 0 ∧ na_mm s x y = -2000000009 ∧ ns_mm s x y 236 = s 236 ∧ ns_mm s x y 239 = ga_wr (s 239 + 1)) ∨
    (∃ a b c : Int, (a = 0 ∨ a = 2) ∧ (b = 0 ∨ b = 4) ∧ (c = 0 ∨ c = 8) ∧ na_effect (s, X) x y = 1 + a + b + c ∧ (a = 0 ↔ ns_mm s x y 236 = s 236) ∧ (c = 0 ↔ na_mm s x y = 0) ∧ 0 ≤ na_mm s x y ∧ na_mm s x y ≤ 9999 ∧ ns_mm s x y 239 = s 239) := by
  by_cases q : na_ig s x y
  · refine Or.inl ⟨q, ?_, if_pos q, ?_, ?_⟩
    · unfold na_effect
      rw [if_neg (by omega), if_pos q]
    · unfold ns_mm; rw [if_pos q, ns_up_ne (by omega)]
    · unfold ns_mm; rw [if_pos q, ns_up_at]
  · refine Or.inr ⟨if ns_go s x y 236 = s 236 then 0 else 2, if ns_go s x y 237 = s 237 then 0 else 4, if ns_by s (ns_go s x y) ≤ 0 then 0 else 8, ?_, ?_, ?_, ?_, ?_, ?_, ?_⟩
    · by_cases w : ns_go s x y 236 = s 236
      · rw [if_pos w]; exact Or.inl rfl
      · rw [if_neg w]; exact Or.inr rfl
    · by_cases w : ns_go s x y 237 = s 237
      · rw [if_pos w]; exact Or.inl rfl
      · rw [if_neg w]; exact Or.inr rfl
    · by_cases w : ns_by s (ns_go s x y) ≤ 0
      · rw [if_pos w]; exact Or.inl rfl
      · rw [if_neg w]; exact Or.inr rfl
    · unfold na_effect
      rw [if_neg (by omega), if_neg q]
    · have hn := hs.2.2.2.1
      have e : ns_mm s x y 236 = ns_go s x y 236 := by
        unfold ns_mm
        rw [if_neg q]
        unfold ns_mv
        rw [ns_wk_o (by unfold ns_e; omega)]
        unfold ns_ne
        by_cases w : ns_t1 s x y 254 = 20
        · rw [if_pos w]
          show (if 255 ≤ 236 ∧ 236 < 407 then ns_t1 s x y (236 + 8) else ns_t1 s x y 236) = _
          rw [if_neg (by omega), ns_t1_o (by omega)]
        · rw [if_neg w, ns_up_ne (by omega), ns_t1_o (by omega)]
      rw [e]
      by_cases w : ns_go s x y 236 = s 236
      · rw [if_pos w]; exact ⟨fun _ => w, fun _ => rfl⟩
      · rw [if_neg w]; exact ⟨fun h => by omega, fun h => absurd h w⟩
    · have ht := ni_t1 hs hx hy
      have hgo : ni_t (ns_go s x y) := ni_t_of (fun j hj => ns_go_o (by omega)) hs.1
      have v := ns_go_v (s := s) (x := x) (y := y)
      have e : ns_by s (ns_t1 s x y) = ns_by s (ns_go s x y) := by
        have pv : ∀ g : Int, 0 ≤ g ∧ g ≤ 2 → mp_pv (ns_t1 s x y) g = mp_pv (ns_go s x y) g := fun g hg => mp_pv_240 ht hgo ⟨by rw [v.1]; exact hx, by rw [v.2.1]; exact hy⟩ hg
        unfold ns_by
        rw [pv 0 (by omega), pv 1 (by omega), pv 2 (by omega)]
      have hb := ns_by_bd hs ht
      unfold na_mm
      rw [if_neg q]
      rw [e] at hb ⊢
      by_cases w : ns_by s (ns_go s x y) ≤ 0
      · rw [if_pos w]; exact ⟨fun _ => by omega, fun _ => rfl⟩
      · rw [if_neg w]; exact ⟨fun h => by omega, fun h => by omega⟩
    · have hb := ns_by_bd hs (ni_t1 hs hx hy)
      unfold na_mm
      rw [if_neg q]
      refine ⟨hb.1, hb.2, ?_⟩
      have hn := hs.2.2.2.1
      unfold ns_mm
      rw [if_neg q]
      unfold ns_mv
      rw [ns_wk_o (by unfold ns_e; omega)]
      unfold ns_ne
      by_cases w : ns_t1 s x y 254 = 20
      · rw [if_pos w]
        show (if 255 ≤ 239 ∧ 239 < 407 then ns_t1 s x y (239 + 8) else ns_t1 s x y 239) = _
        rw [if_neg (by omega), ns_t1_o (by omega), ns_go_o (by omega)]
      · rw [if_neg w, ns_up_ne (by omega), ns_t1_o (by omega), ns_go_o (by omega)]
