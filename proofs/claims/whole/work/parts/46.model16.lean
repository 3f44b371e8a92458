/-! the reference: calmReach, steepest; what is free keeps borders as they should be -/
section MR
variable {G : ga_G} {d : Nat} {I : ga_I} {E : Option ga_V → ga_I → Prop}
theorem gp_fr_at {p r : Nat → Int} {x y ex : Int} {n : Nat} (h : gp_fr p r x y ex n = true) {b : Nat} (hb : b < n) (hx : (b : Int) ≠ ex) : ¬ (x - y ≤ p b + r b ∧ p b - r b ≤ x + y) := by
  have := of_decide_eq_true ((gp_al_iff _ n).mp h b hb)
  rcases this with q | q
  · exact absurd q hx
  · exact q
theorem gp_al_cong {P Q : Nat → Bool} : ∀ {n : Nat}, (∀ b, b < n → P b = Q b) → gp_al P n = gp_al Q n
  | 0, _ => rfl
  | n + 1, h => by
    unfold gp_al
    rw [h n (by omega), gp_al_cong (n := n) (fun b hb => h b (by omega))]
theorem gp_fr_cong {p r p' r' : Nat → Int} {x y ex : Int} {n : Nat} (h : ∀ b : Nat, b < n → (b : Int) ≠ ex → p' b = p b ∧ r' b = r b) : gp_fr p' r' x y ex n = gp_fr p r x y ex n := by
  unfold gp_fr
  refine gp_al_cong (fun b hb => ?_)
  by_cases q : (b : Int) = ex
  · rw [decide_eq_true (Or.inl q), decide_eq_true (Or.inl q)]
  · obtain ⟨h1, h2⟩ := h b hb q
    rw [h1, h2]
theorem gp_ct_imp {P Q : Nat → Bool} (h : ∀ b, P b = true → Q b = true) : ∀ n, gp_ct P n ≤ gp_ct Q n
  | 0 => Int.le_refl _
  | n + 1 => by
    have e := gp_ct_imp h n
    cases hP : P n with
    | true => rw [gp_ct_T hP, gp_ct_T (h n hP)]; omega
    | false =>
      rw [gp_ct_F hP]
      cases hQ : Q n with
      | true => rw [gp_ct_T hQ]; omega
      | false => rw [gp_ct_F hQ]; exact e
theorem gp_zo_ct (p q : Nat → Int) (c : Int) (n : Nat) : 0 ≤ gp_zo p q c n ∧ gp_zo p q c n ≤ gp_ct (gp_sk q) n :=
  ⟨(gp_ct_le _ n).1, gp_ct_imp (fun b hb => decide_eq_true (of_decide_eq_true hb).1) n⟩
theorem gp_ok_up {n : Int} {p q r : Nat → Int} (h : gp_ok n p q r) {b : Nat} {m : Int} (hb : (b : Int) < n) (hm : q b ≤ m ∧ m ≤ 100) (hi : 0 ≤ p b - m ∧ p b + m ≤ 1000) (hf : gp_fr p r (p b) m b n.toNat = true) : gp_ok n p q (fun k => if k = b then m else r k) := by
  refine ⟨h.1, h.2.1, fun k hk => ?_, fun k hk => ?_⟩
  · have := h.2.2.1 k hk
    by_cases e : k = b
    · subst e; dsimp only; rw [if_pos rfl]; exact ⟨this.1, this.2.1, this.2.2.1, hm.1, hm.2, hi.1, hi.2⟩
    · dsimp only; rw [if_neg e]; exact this
  · have h4 := h.2.2.2 k hk
    have a1 := h.2.2.1 k (by omega)
    have a2 := h.2.2.1 (k + 1) (by omega)
    have ab := h.2.2.1 b hb
    dsimp only
    by_cases e : k = b
    · subst e
      rw [if_pos rfl, if_neg (by omega)]
      have := gp_fr_at hf (b := k + 1) (by omega) (by omega)
      omega
    · rw [if_neg e]
      by_cases e2 : k + 1 = b
      · rw [if_pos e2]
        have := gp_fr_at hf (b := k) (by omega) (by omega)
        rw [e2] at h4 a2 ⊢
        omega
      · rw [if_neg e2]; exact h4
theorem gp_st_ex {p : Nat → Int} (x : Int) : ∀ n : Nat, (∀ b : Nat, b + 1 < n → p b ≤ p (b + 1)) → ∃ a, a ≤ n ∧ (∀ b, b < a → p b ≤ x) ∧ (∀ b, a ≤ b → b < n → x < p b)
  | 0, _ => ⟨0, Nat.le_refl 0, fun b hb => absurd hb (Nat.not_lt_zero b), fun b _ hb => absurd hb (Nat.not_lt_zero b)⟩
  | n + 1, h => by
    obtain ⟨a, h1, h2, h3⟩ := gp_st_ex x n (fun b hb => h b (by omega))
    by_cases e : a = n
    · subst e
      by_cases q : p a ≤ x
      · exact ⟨a + 1, Nat.le_refl _, fun b hb => by
          by_cases w : b = a
          · rw [w]; exact q
          · exact h2 b (by omega), fun b hb1 hb2 => by omega⟩
      · exact ⟨a, by omega, h2, fun b hb1 hb2 => by rw [show b = a by omega]; omega⟩
    · refine ⟨a, by omega, h2, fun b hb1 hb2 => ?_⟩
      by_cases w : b = n
      · have h4 := h3 (n - 1) (by omega) (by omega)
        have h5 := h (n - 1) (by omega)
        rw [show n - 1 + 1 = n by omega] at h5
        rw [w]; omega
      · exact h3 b hb1 (by omega)
theorem gp_st_sp {n : Int} {p q r : Nat → Int} (h : gp_ok n p q r) (x : Int) : ∃ a : Nat, gp_st p x n.toNat = a ∧ (a : Int) ≤ n ∧ (∀ b, b < a → p b ≤ x) ∧ (∀ b : Nat, a ≤ b → (b : Int) < n → x < p b) := by
  have h0 := h.1
  obtain ⟨a, h1, h2, h3⟩ := gp_st_ex (p := p) x n.toNat (fun b hb => gp_ok_mono h (by omega) (by omega))
  exact ⟨a, gp_st_eq h1 h2 h3, by omega, h2, fun b hb1 hb2 => h3 b hb1 (by omega)⟩
theorem gp_ok_in {n : Int} {p q r : Nat → Int} (h : gp_ok n p q r) (hn : n < 6) {x k y ex : Int} (hx : 1 ≤ x ∧ x ≤ 999) (hk : k = 0 ∨ k = 1) (hy : k ≤ y ∧ y ≤ 100) (hi : 0 ≤ x - y ∧ x + y ≤ 1000) (hf : gp_fr p r x y ex n.toNat = true) (hex : ex < 0) : gp_ok (n + 1) (gx_in p (gp_st p x n.toNat).toNat n.toNat x) (gx_in q (gp_st p x n.toNat).toNat n.toNat k) (gx_in r (gp_st p x n.toNat).toNat n.toNat y) := by
  have h0 := h.1
  obtain ⟨a, e1, e2, e3, e4⟩ := gp_st_sp h x
  rw [e1, Int.toNat_natCast]
  have low : ∀ b : Nat, b < a → p b + r b < x - y := fun b hb => by
    have := gp_fr_at hf (b := b) (by omega) (by omega)
    have := h.2.2.1 b (by omega)
    have := e3 b hb
    omega
  have hig : ∀ b : Nat, a ≤ b → (b : Int) < n → x + y < p b - r b := fun b hb hb2 => by
    have := gp_fr_at hf (b := b) (by omega) (by omega)
    have := h.2.2.1 b (by omega)
    have := e4 b hb hb2
    omega
  have pos : ∀ (f : Nat → Int) (z : Int) (j : Nat), (j < a → gx_in f a n.toNat z j = f j) ∧ (j = a → gx_in f a n.toNat z j = z) ∧ (a < j → (j : Int) ≤ n → gx_in f a n.toNat z j = f (j - 1)) := fun f z j => by
    unfold gx_in
    refine ⟨fun q => if_pos q, fun q => by rw [if_neg (by omega), if_pos q], fun q w => by rw [if_neg (by omega), if_neg (by omega), if_pos (by omega)]⟩
  refine ⟨by omega, by omega, fun b hb => ?_, fun b hb => ?_⟩
  · rcases (show b < a ∨ b = a ∨ a < b by omega) with w | w | w
    · rw [(pos p x b).1 w, (pos q k b).1 w, (pos r y b).1 w]; exact h.2.2.1 b (by omega)
    · rw [(pos p x b).2.1 w, (pos q k b).2.1 w, (pos r y b).2.1 w]; exact ⟨hx.1, hx.2, hk, hy.1, hy.2, hi.1, hi.2⟩
    · rw [(pos p x b).2.2 w (by omega), (pos q k b).2.2 w (by omega), (pos r y b).2.2 w (by omega)]; exact h.2.2.1 (b - 1) (by omega)
  · rcases (show b + 1 < a ∨ b + 1 = a ∨ b = a ∨ a < b by omega) with w | w | w | w
    · rw [(pos p x b).1 (by omega), (pos r y b).1 (by omega), (pos p x (b + 1)).1 w, (pos r y (b + 1)).1 w]; exact h.2.2.2 b (by omega)
    · rw [(pos p x b).1 (by omega), (pos r y b).1 (by omega), (pos p x (b + 1)).2.1 w, (pos r y (b + 1)).2.1 w]; exact low b (by omega)
    · rw [(pos p x b).2.1 w, (pos r y b).2.1 w, (pos p x (b + 1)).2.2 (by omega) (by omega), (pos r y (b + 1)).2.2 (by omega) (by omega), show b + 1 - 1 = b by omega]; exact hig b (by omega) (by omega)
    · rw [(pos p x b).2.2 w (by omega), (pos r y b).2.2 w (by omega), (pos p x (b + 1)).2.2 (by omega) (by omega), (pos r y (b + 1)).2.2 (by omega) (by omega), show b + 1 - 1 = b - 1 + 1 by omega]; exact h.2.2.2 (b - 1) (by omega)
theorem gp_ok_de {n : Int} {p q r : Nat → Int} (h : gp_ok n p q r) {c : Nat} (hc : (c : Int) < n) : gp_ok (n - 1) (gx_de p c n.toNat) (gx_de q c n.toNat) (gx_de r c n.toNat) := by
  have h0 := h.1
  have h6 := h.2.1
  have pos : ∀ (f : Nat → Int) (j : Nat), (j < c → gx_de f c n.toNat j = f j) ∧ (c ≤ j → (j : Int) + 1 < n → gx_de f c n.toNat j = f (j + 1)) := fun f j => by
    unfold gx_de
    exact ⟨fun w => if_neg (by omega), fun w w2 => if_pos (by omega)⟩
  refine ⟨by omega, by omega, fun b hb => ?_, fun b hb => ?_⟩
  · by_cases w : b < c
    · rw [(pos p b).1 w, (pos q b).1 w, (pos r b).1 w]; exact h.2.2.1 b (by omega)
    · rw [(pos p b).2 (by omega) (by omega), (pos q b).2 (by omega) (by omega), (pos r b).2 (by omega) (by omega)]; exact h.2.2.1 (b + 1) (by omega)
  · rcases (show b + 1 < c ∨ b + 1 = c ∨ c ≤ b by omega) with w | w | w
    · rw [(pos p b).1 (by omega), (pos r b).1 (by omega), (pos p (b + 1)).1 w, (pos r (b + 1)).1 w]; exact h.2.2.2 b (by omega)
    · rw [(pos p b).1 (by omega), (pos r b).1 (by omega), (pos p (b + 1)).2 (by omega) (by omega), (pos r (b + 1)).2 (by omega) (by omega)]
      have h1 := gp_ok_lt h 1 b (by omega)
      exact h1
    · rw [(pos p b).2 w (by omega), (pos r b).2 w (by omega), (pos p (b + 1)).2 (by omega) (by omega), (pos r (b + 1)).2 (by omega) (by omega)]; exact h.2.2.2 (b + 1) (by omega)
/-- the row with another reach at a border -/
def na_cw (s : Nat → Int) (ax : Int) (b : Nat) (w : Int) : Nat → Int := ns_up s ((19 * ax).toNat + 1 + 3 * b + 2) w
theorem na_cw_p {s : Nat → Int} {ax : Int} {b : Nat} {w : Int} (ha : 0 ≤ ax ∧ ax ≤ 1) : ms_n (na_cw s ax b w) ax = ms_n s ax ∧ ms_p (na_cw s ax b w) ax = ms_p s ax ∧ ms_q (na_cw s ax b w) ax = ms_q s ax ∧ ms_r (na_cw s ax b w) ax = fun k => if k = b then w else ms_r s ax k := by
  refine ⟨ns_up_ne (by omega), funext fun k => ns_up_ne (by omega), funext fun k => ns_up_ne (by omega), funext fun k => ?_⟩
  unfold ms_r na_cw
  by_cases e : k = b
  · rw [if_pos e, e, ns_up_at]
  · rw [if_neg e, ns_up_ne (by omega)]
theorem na_cw_sb {s : Nat → Int} {a : Nat} {w z p k : Int} (hp : p = s a) (hk : k = s (a + 1)) : ns_up (ns_up (ns_up (ns_up s (a + 2) w) a p) (a + 1) k) (a + 2) z = ns_up s (a + 2) z := by
  funext i
  unfold ns_up
  by_cases q2 : i = a + 2
  · rw [if_pos q2, if_pos q2]
  · rw [if_neg q2, if_neg q2, if_neg q2]
    by_cases q1 : i = a + 1
    · rw [if_pos q1, hk, q1]
    · rw [if_neg q1]
      by_cases q0 : i = a
      · rw [if_pos q0, hp, q0]
      · rw [if_neg q0]
def na_cz (s : Nat → Int) (ax : Int) (b : Nat) (m : Int) (w : Int) : Int := (gp_zc (ms_p s ax) (ms_q s ax) (fun k => if k = b then w else ms_r s ax k) (ms_n s ax).toNat (ns_zo s ax (s (234 + ax).toNat)) (ms_p s ax b) m 100).1
def na_cP (s : Nat → Int) (ax : Int) (b : Nat) (m : Int) : Nat → Bool := fun w => decide (0 ≤ ms_p s ax b - w ∧ ms_p s ax b + w ≤ 1000) && gp_fr (ms_p s ax) (ms_r s ax) (ms_p s ax b) w b (ms_n s ax).toNat && decide (na_cz s ax b m w ≤ 1)
def na_calmReach (A : na_A) (ax b m : Int) : Int :=
  if ¬ ((0 ≤ ax ∧ ax ≤ 1) ∧ (0 ≤ b ∧ b < ms_n A.1 ax)) then -2000000001
  else if ¬ ((0 ≤ m ∧ m ≤ 500) ∧ (0 ≤ ms_p A.1 ax b.toNat - m ∧ ms_p A.1 ax b.toNat + m ≤ 1000)) then -2000000001
  else if ¬ ms_q A.1 ax b.toNat = 0 then -2000000002
  else if gp_ff (na_cP A.1 ax b.toNat m) 101 = -1 then -2000000009 else gp_ff (na_cP A.1 ax b.toNat m) 101
def no_calmReach (A : na_A) (ax b m : Int) : na_A × Int := (A, na_calmReach A ax b m)
theorem l_Mo_calmReach {s : Nat → Int} {ax m : Int} {b : Nat} (hs : ni_s s) (ha : 0 ≤ ax ∧ ax ≤ 1) (hb : (b : Int) < ms_n s ax) (hm : 0 ≤ m ∧ m ≤ 500) (hi : 0 ≤ ms_p s ax b - m ∧ ms_p s ax b + m ≤ 1000) (hq : ms_q s ax b = 0) {I1 : ga_I}
    (h : ∀ J : ga_I, J 349 = s → (∀ a, a ≠ 349 → J a = I1 a) → E (some (.inl (if gp_ff (na_cP s ax b m) 101 = -1 then -2000000009 else gp_ff (na_cP s ax b m) 101))) J) :
    ∀ (j k : Nat) (w : Int) (I : ga_I), k + j = 101 → I 349 = na_cw s ax b w → ni_ok (na_cw s ax b w) ax → (∀ a, a ≠ 349 → I a = I1 a) → (∀ i, i < k → na_cP s ax b m i = false) →
    ga_W G (d + 4) mt_Mo_calmReach 78 [some (.inr 348), some (.inl ax), some (.inl (b : Int)), some (.inl m), some (.inl (ms_p s ax b)), some (.inl (ms_r s ax b)), some (.inl (-2000000009)), some (.inl (k : Int))] [] I E := by
  have n6 := ni_n hs.1 ha
  obtain ⟨p1, p2, p3⟩ := ni_b (b := b) hs.1 ha hb
  have fin : ∀ (I I2 : ga_I) (w : Int), I 349 = na_cw s ax b w → (∀ a, a ≠ 349 → I a = I1 a) → I2 = mx_sb I ax (b : Int) (ms_p s ax b) 0 (ms_r s ax b) → I2 349 = s ∧ ∀ a, a ≠ 349 → I2 a = I1 a := fun I I2 w h1 h2 e2 => by
    rw [mx_sb_uc, h1, Int.toNat_natCast] at e2
    unfold na_cw at e2
    rw [na_cw_sb (s := s) (a := (19 * ax).toNat + 1 + 3 * b) (w := w) (p := ms_p s ax b) (k := 0) rfl hq.symm, ns_up_id (s := s) (j := (19 * ax).toNat + 1 + 3 * b + 2) (z := ms_r s ax b) rfl] at e2
    exact ⟨by rw [e2, ga_uc_at], fun a ha2 => by rw [e2, ga_uc_ne ha2]; exact h2 a ha2⟩
  have mo : ∀ (I : ga_I) (w : Int), I 349 = na_cw s ax b w → mo_n I := fun I w h1 => by
    refine mo_n_mk h1 ?_ ?_
    · unfold ms_n na_cw; rw [ns_up_ne (by omega)]; exact ni_n hs.1 (by omega)
    · unfold ms_n na_cw; rw [ns_up_ne (by omega)]; exact ni_n hs.1 (by omega)
  intro j
  induction j with
  | zero =>
    intro k w I hk hI1 hok hf hn
    refine k_Mo_calmReach_78 ⟨by omega, by omega⟩ ⟨by omega, by omega⟩ ⟨by omega, by omega⟩ ⟨by omega, by omega⟩ ⟨by omega, by omega⟩ (fun hI => ⟨fun q => ⟨ha, by omega, fun I2 e2 => ?_⟩, fun q => by exfalso; omega⟩)
    obtain ⟨u1, u2⟩ := fin I I2 w hI1 hf e2
    have hh := h I2 u1 u2
    rw [if_pos (gp_ff_none _ 101 (fun i hi => hn i (by omega)))] at hh
    exact hh
  | succ j ih =>
    intro k w I hk hI1 hok hf hn
    obtain ⟨c1, c2, c3, c4⟩ := na_cw_p (s := s) (b := b) (w := w) ha
    have next : na_cP s ax b m k = false → ∀ (w' : Int) (J : ga_I), J 349 = na_cw s ax b w' → ni_ok (na_cw s ax b w') ax → (∀ a, a ≠ 349 → J a = I1 a) → ga_W G (d + 4) mt_Mo_calmReach 78 [some (.inr 348), some (.inl ax), some (.inl (b : Int)), some (.inl m), some (.inl (ms_p s ax b)), some (.inl (ms_r s ax b)), some (.inl (-2000000009)), some (.inl ((k : Int) + 1))] [] J E := fun hP w' J j1 j2 j3 =>
      ih (k + 1) w' J (by omega) j1 j2 j3 (fun i hi => by
        by_cases e : i = k
        · rw [e]; exact hP
        · exact hn i (by omega))
    have efr : gp_fr (ms_p s ax) (fun k => if k = b then w else ms_r s ax k) (ms_p s ax b) k b (ms_n s ax).toNat = gp_fr (ms_p s ax) (ms_r s ax) (ms_p s ax b) k b (ms_n s ax).toNat := gp_fr_cong (fun i hi hne => ⟨rfl, if_neg (by omega)⟩)
    refine k_Mo_calmReach_78 ⟨by omega, by omega⟩ ⟨by omega, by omega⟩ ⟨by omega, by omega⟩ ⟨by omega, by omega⟩ ⟨by omega, by omega⟩ (fun hI => ⟨fun q => by exfalso; omega, fun _ => ⟨fun q => absurd rfl q, fun _ => ⟨⟨by omega, by omega⟩, ⟨by omega, by omega⟩, fun q1 => ?_, fun q1 => ?_⟩⟩⟩)
    · refine next ?_ w I hI1 hok hf
      unfold na_cP
      rw [decide_eq_false q1]; rfl
    · rw [hI1, c1, c2, c4, efr]
      refine ⟨by unfold mo_ok; rw [hI1]; exact hok, ha, by omega, by omega, fun q2 => ?_, fun q2 => ⟨by omega, fun I3 e3 => ?_⟩⟩
      · refine next ?_ w I hI1 hok hf
        unfold na_cP
        rw [decide_eq_true q1, show gp_fr (ms_p s ax) (ms_r s ax) (ms_p s ax b) k b (ms_n s ax).toNat = false by simpa using q2]; rfl
      · have q2' : gp_fr (ms_p s ax) (ms_r s ax) (ms_p s ax b) k b (ms_n s ax).toNat = true := by simpa using q2
        rw [mx_sb_uc, hI1, Int.toNat_natCast] at e3
        unfold na_cw at e3
        rw [na_cw_sb (s := s) (a := (19 * ax).toNat + 1 + 3 * b) (w := w) (p := ms_p s ax b) (k := 0) rfl hq.symm] at e3
        have s3 : I3 349 = na_cw s ax b k := by rw [e3, ga_uc_at]; rfl
        have f3 : ∀ a, a ≠ 349 → I3 a = I1 a := fun a ha2 => by rw [e3, ga_uc_ne ha2]; exact hf a ha2
        obtain ⟨d1, d2, d3, d4⟩ := na_cw_p (s := s) (b := b) (w := (k : Int)) ha
        have hok3 : ni_ok (na_cw s ax b k) ax := by
          unfold ni_ok
          rw [d1, d2, d3, d4]
          exact gp_ok_up (ni_axs hs.1 ha) hb (by omega) q1 q2'
        refine ⟨by omega, by omega, mo I3 k s3, fun z1 f1 => ?_⟩
        have e234 : na_cw s ax b k (234 + ax).toNat = s (234 + ax).toNat := by unfold na_cw; rw [ns_up_ne (by omega)]
        rw [s3, d1, d2, d3, e234] at f1
        change z1 = ns_zo s ax (s (234 + ax).toNat) at f1
        have hz : 0 ≤ z1 ∧ z1 ≤ gp_ct (gp_sk (ms_q s ax)) (ms_n s ax).toNat := by rw [f1]; exact gp_zo_ct _ _ _ _
        rw [s3, d1, d2, d3, d4]
        refine ⟨by unfold mo_ok; rw [s3]; exact hok3, hz, by omega, ⟨by omega, by omega⟩, ⟨by omega, by omega⟩, fun z2 f2 => ?_⟩
        have g2 : z2 = na_cz s ax b m k := by rw [f2, f1]; rfl
        have hzb := gp_zc_zn (ms_p s ax) (ms_q s ax) (fun i => if i = b then (k : Int) else ms_r s ax i) (ms_n s ax).toNat z1 (ms_p s ax b) m hz 100
        have f2' : z2 = (gp_zc (ms_p s ax) (ms_q s ax) (fun i => if i = b then (k : Int) else ms_r s ax i) (ms_n s ax).toNat z1 (ms_p s ax b) m 100).1 := f2
        rw [← f2'] at hzb
        refine ⟨⟨by omega, by omega⟩, fun q3 => ?_, fun q3 => ?_⟩
        · refine next ?_ k I3 s3 hok3 f3
          unfold na_cP
          rw [decide_eq_true q1, q2', decide_eq_false (by rw [← g2]; omega)]; rfl
        · have hP : na_cP s ax b m k = true := by
            unfold na_cP
            rw [decide_eq_true q1, q2', decide_eq_true (by rw [← g2]; omega)]; rfl
          have hff := gp_ff_at (na_cP s ax b m) hP hn 101 (by omega)
          rw [hff, if_neg (by omega)] at h
          refine k_Mo_calmReach_78 ⟨by omega, by omega⟩ ⟨by omega, by omega⟩ ⟨by omega, by omega⟩ ⟨by omega, by omega⟩ ⟨by omega, by omega⟩ (fun hI => ⟨fun q => ⟨ha, by omega, fun I2 e2 => ?_⟩, fun q => ⟨fun _ => ⟨ha, by omega, fun I2 e2 => ?_⟩, fun q => by exfalso; omega⟩⟩)
          · obtain ⟨u1, u2⟩ := fin I3 I2 k s3 f3 e2
            exact h I2 u1 u2
          · obtain ⟨u1, u2⟩ := fin I3 I2 k s3 f3 e2
            exact h I2 u1 u2
theorem m_calmReach {A : na_A} {ax b m : Int} (r1 : ga_rg ax) (r2 : ga_rg b) (r3 : ga_rg m) (eA : na_ab I = A) (hA : ni_a A) (h : na_E E I (no_calmReach A ax b m)) : ga_W G (d + 4) mt_Mo_calmReach 0 (ga_en 8 [.inr 348, .inl ax, .inl b, .inl m]) [] I E := by
  have hs : ni_s A.1 := hA.1
  refine k_Mo_calmReach_0 r1 r2 r3 (fun hI I1 e1 => ?_)
  obtain ⟨s1, v1, m1, x1, l1⟩ := na_t1 eA e1
  have a2 := (ni_all s1 hs).2.2.1
  unfold no_calmReach na_calmReach at h
  rw [s1]
  refine ⟨a2, fun q1 => na_q h eA e1 (by rw [if_pos q1]), fun q1 => ⟨fun q2 => ?_, fun q2 => na_q h eA e1 (by rw [if_neg (fun w => w q1), if_pos (fun w => q2 w.1)])⟩⟩
  have n6 := ni_n hs.1 q1.1
  obtain ⟨p1, p2, p3⟩ := ni_b (b := b.toNat) hs.1 q1.1 (by omega)
  refine ⟨q1.1, by omega, by omega, fun z1 f1 => ?_⟩
  change z1 = ms_p A.1 ax b.toNat at f1
  refine ⟨⟨by omega, by omega⟩, ⟨by omega, by omega⟩, fun q3 => ⟨by omega, fun z2 f2 => ?_⟩, fun q3 => na_q h eA e1 (by rw [if_neg (fun w => w q1), if_pos (fun w => q3 (by rw [f1]; exact w.2))])⟩
  change z2 = ms_q A.1 ax b.toNat at f2
  rw [f1] at q3
  refine ⟨fun q4 => ⟨by omega, fun z3 f3 => ?_⟩, fun q4 => na_q h eA e1 (by rw [if_neg (fun w => w q1), if_neg (fun w => w ⟨q2, q3⟩), if_pos (by rw [← f2]; exact q4)])⟩
  change z3 = ms_r A.1 ax b.toNat at f3
  rw [f2] at q4
  rw [if_neg (fun w => w q1), if_neg (fun w => w ⟨q2, q3⟩), if_neg (fun w => w q4)] at h
  have K := l_Mo_calmReach (G := G) (d := d) (E := E) (m := m) hs q1.1 (b := b.toNat) (by omega) q2 q3 q4 (I1 := I1) ?_ 101 0 (ms_r A.1 ax b.toNat) I1 (by omega) ?_ ?_ (fun a _ => rfl) (fun i hi => absurd hi (Nat.not_lt_zero i))
  · rw [show ((b.toNat : Nat) : Int) = b by omega] at K
    rw [f1, f3]
    exact K
  · intro J j1 j2
    refine na_v h eA e1 (fun a ha => ?_) rfl
    by_cases w : a = 349
    · rw [w, j1, s1]
    · exact j2 a w
  · rw [s1]; exact (ns_up_id rfl).symm
  · have e : na_cw A.1 ax b.toNat (ms_r A.1 ax b.toNat) = A.1 := ns_up_id rfl
    rw [e]; exact ni_axs hs.1 q1.1
/-- steepest: the value along an axis, the greatest step so far -/
def na_vs (s : Nat → Int) (ax g c : Int) : Int := if ax = 0 then mp_vt s c (s 235) g else mp_vt s (s 234) c g
def na_sp (s : Nat → Int) (ax g : Int) : Nat → Int × Int
  | 0 => (-1, 0)
  | m + 1 => if ((na_vs s ax g ((m : Int) + 1) - na_vs s ax g (m : Int)).natAbs : Int) ≤ (na_sp s ax g m).1 then na_sp s ax g m else (((na_vs s ax g ((m : Int) + 1) - na_vs s ax g (m : Int)).natAbs : Int), (m : Int))
def na_steepest (A : na_A) (ax g w : Int) : Int :=
  if ¬ ((0 ≤ ax ∧ ax ≤ 1) ∧ (0 ≤ g ∧ g ≤ 2) ∧ (0 ≤ w ∧ w ≤ 1)) then -2000000001 else if w = 0 then (na_sp A.1 ax g 1000).1 else (na_sp A.1 ax g 1000).2
def no_steepest (A : na_A) (ax g w : Int) : na_A × Int := (A, na_steepest A ax g w)
theorem mp_vt_bd {s : Nat → Int} (hs : ni_s s) {x y g : Int} (hx : 0 ≤ x ∧ x ≤ 1000) (hy : 0 ≤ y ∧ y ≤ 1000) (hg : 0 ≤ g ∧ g ≤ 2) : 0 ≤ mp_vt s x y g ∧ mp_vt s x y g ≤ 9999 := by
  obtain ⟨a0, a1, a2, a3, a4, a5⟩ := ni_all (I := fun _ => s) rfl hs
  have e := mp_va_bd (I := fun _ => s) (z0 := ns_zo s 0 x) (z1 := ns_zo s 1 y) a0 a1 hx hy hg a5
  exact e
theorem na_vs_bd {s : Nat → Int} (hs : ni_s s) {ax g c : Int} (hc : 0 ≤ c ∧ c ≤ 1000) (hg : 0 ≤ g ∧ g ≤ 2) : 0 ≤ na_vs s ax g c ∧ na_vs s ax g c ≤ 9999 := by
  unfold na_vs
  by_cases q : ax = 0
  · rw [if_pos q]; exact mp_vt_bd hs hc hs.2.1.2 hg
  · rw [if_neg q]; exact mp_vt_bd hs hs.2.1.1 hc hg
theorem na_sp_bd {s : Nat → Int} (hs : ni_s s) {ax g : Int} (hg : 0 ≤ g ∧ g ≤ 2) : ∀ m : Nat, m ≤ 1000 → -1 ≤ (na_sp s ax g m).1 ∧ (na_sp s ax g m).1 ≤ 9999
  | 0, _ => ⟨Int.le_refl _, by show (-1 : Int) ≤ 9999; omega⟩
  | m + 1, hm => by
    have h1 := na_sp_bd hs (ax := ax) hg m (by omega)
    have h2 := na_vs_bd hs (ax := ax) (c := (m : Int)) (by omega) hg
    have h3 := na_vs_bd hs (ax := ax) (c := (m : Int) + 1) (by omega) hg
    unfold na_sp
    by_cases q : ((na_vs s ax g ((m : Int) + 1) - na_vs s ax g (m : Int)).natAbs : Int) ≤ (na_sp s ax g m).1
    · rw [if_pos q]; exact h1
    · rw [if_neg q]; dsimp only; omega
theorem l_Mo_steepest {s : Nat → Int} {ax g w : Int} (hs : ni_s s) (ha : 0 ≤ ax ∧ ax ≤ 1) (hg : 0 ≤ g ∧ g ≤ 2) (hw : 0 ≤ w ∧ w ≤ 1) {I1 : ga_I}
    (h : ∀ J : ga_I, (∀ a, a < 353 ∨ 357 ≤ a → J a = I1 a) → E (some (.inl (if w = 0 then (na_sp s ax g 1000).1 else (na_sp s ax g 1000).2))) J) :
    ∀ (j m : Nat) (I : ga_I), m + j = 1000 → I 349 = s → (∀ a, a < 353 ∨ 357 ≤ a → I a = I1 a) →
    ga_W G (d + 4) mt_Mo_steepest 79 [some (.inr 348), some (.inl ax), some (.inl g), some (.inl w), some (.inl (na_sp s ax g m).1), some (.inl (na_sp s ax g m).2), some (.inl (na_vs s ax g (m : Int))), some (.inl (m : Int)), none] [] I E := by
  intro j
  induction j with
  | zero =>
    intro m I hm h1 h2
    have hb := na_sp_bd hs (ax := ax) hg m (by omega)
    have hv := na_vs_bd hs (ax := ax) (c := (m : Int)) (by omega) hg
    have hh := h I h2
    rw [← show m = 1000 by omega] at hh
    refine k_Mo_steepest_79 ⟨by omega, by omega⟩ ⟨by omega, by omega⟩ ⟨by omega, by omega⟩ ⟨by omega, by omega⟩ ⟨by omega, by omega⟩ (fun hI => ⟨fun q => ⟨fun q2 => ?_, fun q2 => ?_⟩, fun q => by exfalso; omega⟩)
    · rw [if_neg q2] at hh; exact hh
    · rw [if_pos q2] at hh; exact hh
  | succ j ih =>
    intro m I hm h1 h2
    have hb := na_sp_bd hs (ax := ax) hg m (by omega)
    have hv := na_vs_bd hs (ax := ax) (c := (m : Int)) (by omega) hg
    have hv2 := na_vs_bd hs (ax := ax) (c := (m : Int) + 1) (by omega) hg
    obtain ⟨a0, a1, a2, a3, a4, a5⟩ := ni_all h1 hs
    have hp := hs.2.1
    have s1 : (((m + 1 : Nat)) : Int) = (m : Int) + 1 := by omega
    have goN : ∀ J : ga_I, gr_vt I J → ((na_vs s ax g ((m : Int) + 1) - na_vs s ax g (m : Int)).natAbs : Int) ≤ (na_sp s ax g m).1 → ga_W G (d + 4) mt_Mo_steepest 79 [some (.inr 348), some (.inl ax), some (.inl g), some (.inl w), some (.inl (na_sp s ax g m).1), some (.inl (na_sp s ax g m).2), some (.inl (na_vs s ax g ((m : Int) + 1))), some (.inl ((m : Int) + 1)), none] [] J E := fun J hJ hq => by
      have e := ih (m + 1) J (by omega) (by rw [hJ 349 (by omega), h1]) (fun a ha2 => (hJ a ha2).trans (h2 a ha2))
      rw [na_sp, if_pos hq, s1] at e
      exact e
    have goY : ∀ J : ga_I, gr_vt I J → ¬ ((na_vs s ax g ((m : Int) + 1) - na_vs s ax g (m : Int)).natAbs : Int) ≤ (na_sp s ax g m).1 → ga_W G (d + 4) mt_Mo_steepest 79 [some (.inr 348), some (.inl ax), some (.inl g), some (.inl w), some (.inl ((na_vs s ax g ((m : Int) + 1) - na_vs s ax g (m : Int)).natAbs : Int)), some (.inl (m : Int)), some (.inl (na_vs s ax g ((m : Int) + 1))), some (.inl ((m : Int) + 1)), none] [] J E := fun J hJ hq => by
      have e := ih (m + 1) J (by omega) (by rw [hJ 349 (by omega), h1]) (fun a ha2 => (hJ a ha2).trans (h2 a ha2))
      rw [na_sp, if_neg hq, s1] at e
      exact e
    refine k_Mo_steepest_79 ⟨by omega, by omega⟩ ⟨by omega, by omega⟩ ⟨by omega, by omega⟩ ⟨by omega, by omega⟩ ⟨by omega, by omega⟩ (fun hI => ⟨fun q => by exfalso; omega, fun _ => ⟨fun q0 => ?_, fun q0 => ?_⟩⟩)
    · have ev : mp_vt (I 349) (I 349 234) ((m : Int) + 1) g = na_vs s ax g ((m : Int) + 1) := by unfold na_vs; rw [if_neg q0, h1]
      rw [ev]
      rw [h1]
      exact ⟨a0, a1, a5, hp.1, by omega, hg, fun J hJ => ⟨⟨by omega, by omega⟩, fun z1 f1 => ⟨⟨by omega, by omega⟩, fun w1 z2 f2 => ⟨⟨by omega, by omega⟩, fun w2 => goN J hJ (by omega), fun w2 => by exfalso; omega⟩, fun w1 z4 f4 => ⟨⟨by omega, by omega⟩, fun w2 => by exfalso; omega, fun w2 z5 f5 => by rw [f5]; exact goY J hJ (by omega)⟩⟩⟩⟩
    · have ev : mp_vt (I 349) ((m : Int) + 1) (I 349 235) g = na_vs s ax g ((m : Int) + 1) := by unfold na_vs; rw [if_pos q0, h1]
      rw [ev]
      rw [h1]
      exact ⟨a0, a1, a5, by omega, hp.2, hg, fun J hJ => ⟨⟨by omega, by omega⟩, fun z1 f1 => ⟨⟨by omega, by omega⟩, fun w1 z2 f2 => ⟨⟨by omega, by omega⟩, fun w2 => goN J hJ (by omega), fun w2 => by exfalso; omega⟩, fun w1 z4 f4 => ⟨⟨by omega, by omega⟩, fun w2 => by exfalso; omega, fun w2 z5 f5 => by rw [f5]; exact goY J hJ (by omega)⟩⟩⟩⟩
theorem m_steepest {A : na_A} {ax g w : Int} (r1 : ga_rg ax) (r2 : ga_rg g) (r3 : ga_rg w) (eA : na_ab I = A) (hA : ni_a A) (h : na_E E I (no_steepest A ax g w)) : ga_W G (d + 4) mt_Mo_steepest 0 (ga_en 9 [.inr 348, .inl ax, .inl g, .inl w]) [] I E := by
  have hs : ni_s A.1 := hA.1
  have hp := hs.2.1
  refine k_Mo_steepest_0 r1 r2 r3 (fun hI I1 e1 => ?_)
  obtain ⟨s1, v1, m1, x1, l1⟩ := na_t1 eA e1
  obtain ⟨a0, a1, a2, a3, a4, a5⟩ := ni_all s1 hs
  unfold no_steepest na_steepest at h
  rw [s1]
  refine ⟨fun q1 => na_q h eA e1 (by rw [if_pos (fun w => q1 w.1)]), fun q1 => ⟨fun q2 => na_q h eA e1 (by rw [if_pos (fun w => q2 w.2.1)]), fun q2 => ⟨fun q3 => ?_, fun q3 => na_q h eA e1 (by rw [if_pos (fun w => q3 w.2.2)])⟩⟩⟩
  rw [if_neg (fun w => w ⟨q1, q2, q3⟩)] at h
  have go : ∀ I2 : ga_I, gr_vt I1 I2 → ga_W G (d + 4) mt_Mo_steepest 79 [some (.inr 348), some (.inl ax), some (.inl g), some (.inl w), some (.inl (-1)), some (.inl 0), some (.inl (na_vs A.1 ax g 0)), some (.inl 0), none] [] I2 E := fun I2 f2 =>
    l_Mo_steepest hs q1 q2 q3 (I1 := I2) (fun J hJ => na_v h eA e1 (fun a ha => (hJ a (by omega)).trans (f2 a (by omega))) rfl) 1000 0 I2 (by omega) (by rw [f2 349 (by omega), s1]) (fun a _ => rfl)
  refine ⟨fun q4 => ⟨a0, a1, a5, hp.1, by omega, q2, fun I2 f2 => ?_⟩, fun q4 => ⟨a0, a1, a5, by omega, hp.2, q2, fun I2 f2 => ?_⟩⟩
  · have e := go I2 f2
    unfold na_vs at e
    rw [if_neg q4] at e
    exact e
  · have e := go I2 f2
    unfold na_vs at e
    rw [if_pos q4] at e
    exact e
end MR
