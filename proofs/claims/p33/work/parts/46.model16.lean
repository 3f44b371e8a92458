/-! the reference: calmReach, steepest; what is free keeps borders as they should be -/
section MR
variable {G : ga_G} {d : Nat} {I : ga_I} {E : Option ga_V → ga_I → Prop}
theorem gp_fr_at {p r : Nat → Int} {x y ex : Int} {n : Nat} (h : gp_fr p r x y ex n = true) {b : Nat} (hb : b < n) (hx : (b : Int) ≠ ex) : ¬ (x - y ≤ p b + r b ∧ p b - r b ≤ x + y) := by
  have := of_decide_eq_true ((gp_al_iff _ n).mp h b hb)
  rcases this with q | q
  · exact absurd q hx
  · exact q
theorem gp_al_cong {P Q : Nat → Bool} : ∀ {n : Nat}, (∀ b, b < n → P b = Q b) → gp_al P n = gp_al Q n
  | 0, _ => rfl
  | n + 1, h => by
    unfold gp_al
    rw [h n (by omega), gp_al_cong (n := n) (fun b hb => h b (by omega))]
theorem gp_fr_cong {p r p' r' : Nat → Int} {x y ex : Int} {n : Nat} (h : ∀ b : Nat, b < n → (b : Int) ≠ ex → p' b = p b ∧ r' b = r b) : gp_fr p' r' x y ex n = gp_fr p r x y ex n := by
  unfold gp_fr
  refine gp_al_cong (fun b hb => ?_)
  by_cases q : (b : Int) = ex
  · rw [decide_eq_true (Or.inl q), decide_eq_true (Or.inl q)]
  · obtain ⟨h1, h2⟩ := h b hb q
    rw [h1, h2]
theorem gp_ct_imp {P Q : Nat → Bool} (h : ∀ b, P b = true → Q b = true) : ∀ n, gp_ct P n ≤ gp_ct Q n
  | 0 => Int.le_refl _
  | n + 1 => by
    have e := gp_ct_imp h n
    cases hP : P n with
    | true => rw [gp_ct_T hP, gp_ct_T (h n hP)]; omega
    | false =>
      rw [gp_ct_F hP]
      cases hQ : Q n with
      | true => rw [gp_ct_T hQ]; omega
      | false => rw [gp_ct_F hQ]; exact e
theorem gp_zo_ct (p q : Nat → Int) (c : Int) (n : Nat) : 0 ≤ gp_zo p q c n ∧ gp_zo p q c n ≤ gp_ct (gp_sk q) n :=
  ⟨(gp_ct_le _ n).1, gp_ct_imp (fun b hb => decide_eq_true (of_decide_eq_true hb).1) n⟩
theorem gp_ok_up {n : Int} {p q r : Nat → Int} (h : gp_ok n p q r) {b : Nat} {m : Int} (hb : (b : Int) < n) (hm : q b ≤ m ∧ m ≤ 100) (hi : 0 ≤ p b - m ∧ p b + m ≤ 1000) (hf : gp_fr p r (p b) m b n.toNat = true) : gp_ok n p q (fun k => if k = b then m else r k) := by
  refine ⟨h.1, h.2.1, fun k hk => ?_, fun k hk => ?_⟩
  · have := h.2.2.1 k hk
    by_cases e : k = b
    · subst e; dsimp only; rw [if_pos rfl]; exact ⟨this.1, this.2.1, this.2.2.1, hm.1, hm.2, hi.1, hi.2⟩
    · dsimp only; rw [if_neg e]; exact this
  · have h4 := h.2.2.2 k hk
    have a1 := h.2.2.1 k (by omega)
    have a2 := h.2.2.1 (k + 1) (by omega)
    have ab := h.2.2.1 b hb
    dsimp only
    by_cases e : k = b
    · subst e
      rw [if_pos rfl, if_neg (by omega)]
      have := gp_fr_at hf (b := k + 1) (by omega) (by omega)
      omega
    · rw [if_neg e]
      by_cases e2 : k + 1 = b
      · rw [if_pos e2]
        have := gp_fr_at hf (b := k) (by omega) (by omega)
        rw [e2] at h4 a2 ⊢
        omega
      · rw [if_neg e2]; exact h4
theorem gp_st_ex {p : Nat → Int} (x : Int) : ∀ n : Nat, (∀ b : Nat, b + 1 < n → p b ≤ p (b + 1)) → ∃ a, a ≤ n ∧ (∀ b, b < a → p b ≤ x) ∧ (∀ b, a ≤ b → b < n → x < p b)
  | 0, _ => ⟨0, Nat.le_refl 0, fun b hb => absurd hb (Nat.not_lt_zero b), fun b _ hb => absurd hb (Nat.not_lt_zero b)⟩
  | n + 1, h => by
    obtain ⟨a, h1, h2, h3⟩ := gp_st_ex x n (fun b hb => h b (by omega))
    by_cases e : a = n
    · subst e
      by_cases q : p a ≤ x
      · exact ⟨a + 1, Nat.le_refl _, fun b hb => by
          by_cases w : b = a
          · rw [w]; exact q
          · exact h2 b (by omega), fun b hb1 hb2 => by omega⟩
      · exact ⟨a, by omega, h2, fun b hb1 hb2 => by rw [show b = a by omega]; omega⟩
    · refine ⟨a, by omega, h2, fun b hb1 hb2 => ?_⟩
      by_cases w : b = n
      · have h4 := h3 (n - 1) (by omega) (by omega)
        have h5 := h (n - 1) (by omega)
        rw [show n - 1 + 1 = n by omega] at h5
        rw [w]; omega
      · exact h3 b hb1 (by omega)
theorem gp_st_sp {n : Int} {p q r : Nat → Int} (h : gp_ok n p q r) (x : Int) : ∃ a : Nat, gp_st p x n.toNat = a ∧ (a : Int) ≤ n ∧ (∀ b, b < a → p b ≤ x) ∧ (∀ b : Nat, a ≤ b → (b : Int) < n → x < p b) := by
  have h0 := h.1
  obtain ⟨a, h1, h2, h3⟩ := gp_st_ex (p := p) x n.toNat (fun b hb => gp_ok_mono h (by omega) (by omega))
  exact ⟨a, gp_st_eq h1 h2 h3, by omega, h2, fun b hb1 hb2 => h3 b hb1 (by omega)⟩
theorem gp_ok_in {n : Int} {p q r : Nat → Int} (h : gp_ok n p q r) (hn : n < 6) {x k y ex : Int} (hx : 1 ≤ x ∧ x ≤ 999) (hk : k = 0 ∨ k = 1) (hy : k ≤ y ∧ y ≤ 100) (hi : 0 ≤ x - y ∧ x + y ≤ 1000) (hf : gp_fr p r x y ex n.toNat = true) (hex : ex < 0) : gp_ok (n + 1) (gx_in p (gp_st p x n.toNat).toNat n.toNat x) (gx_in q (gp_st p x n.toNat).toNat n.toNat k) (gx_in r (gp_st p x n.toNat).toNat n.toNat y) := by
  have h0 := h.1
  obtain ⟨a, e1, e2, e3, e4⟩ := gp_st_sp h x
  rw [e1, Int.toNat_natCast]
  have low : ∀ b : Nat, b < a → p b + r b < x - y := fun b hb => by
    have := gp_fr_at hf (b := b) (by omega) (by omega)
    have := h.2.2.1 b (by omega)
    have := e3 b hb
    omega
  have hig : ∀ b : Nat, a ≤ b → (b : Int) < n → x + y < p b - r b := fun b hb hb2 => by
    have := gp_fr_at hf (b := b) (by omega) (by omega)
    have := h.2.2.1 b (by omega)
    have := e4 b hb hb2
    omega
  have pos : ∀ (f : Nat → Int) (z : Int) (j : Nat), (j < a → gx_in f a n.toNat z j = f j) ∧ (j = a → gx_in f a n.toNat z j = z) ∧ (a < j → (j : Int) ≤ n → gx_in f a n.toNat z j = f (j - 1)) := fun f z j => by
    unfold gx_in
    refine ⟨fun q => if_pos q, fun q => by rw [if_neg (by omega), if_pos q], fun q w => by rw [if_neg (by omega), if_neg (by omega), if_pos (by omega)]⟩
  refine ⟨by omega, by omega, fun b hb => ?_, fun b hb => ?_⟩
  · rcases (show b < a ∨ b = a ∨ a < b by omega) with w | w | w
    · rw [(pos p x b).1 w, (pos q k b).1 w, (pos r y b).1 w]; exact h.2.2.1 b (by omega)
    · rw [(pos p x b).2.1 w, (pos q k b).2.1 w, (pos r y b).2.1 w]; exact ⟨hx.1, hx.2, hk, hy.1, hy.2, hi.1, hi.2⟩
    · rw [(pos p x b).2.2 w (by omega), (pos q k b).2.2 w (by omega), (pos r y b).2.2 w (by omega)]; exact h.2.2.1 (b - 1) (by omega)
  · rcases (show b + 1 < a ∨ b + 1 = a ∨ b = a ∨ a < b by omega) with w | w | w | w
    · rw [(pos p x b).1 (by omega), (pos r y b).1 (by omega), (pos p x (b + 1)).1 w, (pos r y (b + 1)).1 w]; exact h.2.2.2 b (by omega)
    · rw [(pos p x b).1 (by omega), (pos r y b).1 (by omega), (pos p x (b + 1)).2.1 w, (pos r y (b + 1)).2.1 w]; exact low b (by omega)
    · rw [(pos p x b).2.1 w, (pos r y b).2.1 w, (pos p x (b + 1)).2.2 (by omega) (by omega), (pos r y (b + 1)).2.2 (by omega) (by omega), show b + 1 - 1 = b by omega]; exact hig b (by omega) (by omega)
    · rw [(pos p x b).2.2 w (by omega), (pos r y b).2.2 w (by omega), (pos p x (b + 1)).2.2 (by omega) (by omega), (pos r y (b + 1)).2.2 (by omega) (by omega), show b + 1 - 1 = b - 1 + 1 by omega]; exact h.2.2.2 (b - 1) (by omega)
theorem gp_ok_de {n : Int} {p q r : Nat → Int} (h : gp_ok n p q r) {c : Nat} (hc : (c : Int) < n) : gp_ok (n - 1) (gx_de p c n.toNat) (gx_de q c n.toNat) (gx_de r c n.toNat) := by
  have h0 := h.1
  have h6 := h.2.1
  have pos : ∀ (f : Nat → Int) (j : Nat), (j < c → gx_de f c n.toNat j = f j) ∧ (c ≤ j → (j : Int) + 1 < n → gx_de f c n.toNat j = f (j + 1)) := fun f j => by
    unfold gx_de
    exact ⟨fun w => if_neg (by omega), fun w w2 => if_pos (by omega)⟩
  refine ⟨by omega, by omega, fun b hb => ?_, fun b hb => ?_⟩
  · by_cases w : b < c
    · rw [(pos p b).1 w, (pos q b).1 w, (pos r b).1 w]; exact h.2.2.1 b (by omega)
    · rw [(pos p b).2 (by omega) (by omega), (pos q b).2 (by omega) (by omega), (pos r b).2 (by omega) (by omega)]; exact h.2.2.1 (b + 1) (by omega)
  · rcases (show b + 1 < c ∨ b + 1 = c ∨ c ≤ b by omega) with w | w | w
    · rw [(pos p b).1 (by omega), (pos r b).1 (by omega), (pos p (b + 1)).1 w, (pos r (b + 1)).1 w]; exact h.2.2.2 b (by omega)
    · rw [(pos p b).1 (by omega), (pos r b).1 (by omega), (pos p (b + 1)).2 (by omega) (by omega), (pos r (b + 1)).2 (by omega) (by omega)]
      have h1 := gp_ok_lt h 1 b (by omega)
      exact h1
    · rw [(pos p b).2 w (by omega), (pos r b).2 w (by omega), (pos p (b + 1)).2 (by omega) (by omega), (pos r (b + 1)).2 (by omega) (by omega)]; exact h.2.2.2 (b + 1) (by omega)
/-- the row with another reach at a border -/
def na_cw (s : Nat → Int) (ax : Int) (b : Nat) (w : Int) : Nat → Int := ns_up s ((19 * ax).toNat + 1 + 3 * b + 2) w
theorem na_cw_p {s : Nat → Int} {ax : Int} {b : Nat} {w : Int} (ha : 0 ≤ ax ∧ ax ≤ 1) : ms_n (na_cw s ax b w) ax = ms_n s ax ∧ ms_p (na_cw s ax b w) ax = ms_p s ax ∧ ms_q (na_cw s ax b w) ax = ms_q s ax ∧ ms_r (na_cw s ax b w) ax = fun k => if k = b then w else ms_r s ax k := by
  refine ⟨ns_up_ne (by omega), funext fun k => ns_up_ne (by omega), funext fun k => ns_up_ne (by omega), funext fun k => ?_⟩
  unfold ms_r na_cw
  by_cases e : k = b
  · rw [if_pos e, e, ns_up_at]
  · rw [if_neg e, ns_up_ne (by omega)]
/-- steepest: the value along an axis, the greatest step so far -/
def na_vs (s : Nat → Int) (ax g c : Int) : Int := if ax = 0 then mp_vt s c (s 235) g else mp_vt s (s 234) c g
def na_sp (s : Nat → Int) (ax g : Int) : Nat → Int × Int
  | 0 => (-1, 0)
  | m + 1 => if ((na_vs s ax g ((m : Int) + 1) - na_vs s ax g (m : Int)).natAbs : Int) ≤ (na_sp s ax g m).1 then na_sp s ax g m else (((na_vs s ax g ((m : Int) + 1) - na_vs s ax g (m : Int)).natAbs : Int), (m : Int))
def na_steepest (A : na_A) (ax g w : Int) : Int :=
  if ¬ ((0 ≤ ax ∧ ax ≤ 1) ∧ (0 ≤ g ∧ g ≤ 2) ∧ (0 ≤ w ∧ w ≤ 1)) then -2000000001 else if w = 0 then (na_sp A.1 ax g 1000).1 else (na_sp A.1 ax g 1000).2
def no_steepest (A : na_A) (ax g w : Int) : na_A × Int := (A, na_steepest A ax g w)
theorem mp_vt_bd {s : Nat → Int} (hs : ni_s s) {x y g : Int} (hx : 0 ≤ x ∧ x ≤ 1000) (hy : 0 ≤ y ∧ y ≤ 1000) (hg : 0 ≤ g ∧ g ≤ 2) : 0 ≤ mp_vt s x y g ∧ mp_vt s x y g ≤ 9999 := by
  obtain ⟨a0, a1, a2, a3, a4, a5⟩ := ni_all (I := fun _ => s) rfl hs
  have e := mp_va_bd (I := fun _ => s) (z0 := ns_zo s 0 x) (z1 := ns_zo s 1 y) a0 a1 hx hy hg a5
  exact e
theorem na_vs_bd {s : Nat → Int} (hs : ni_s s) {ax g c : Int} (hc : 0 ≤ c ∧ c ≤ 1000) (hg : 0 ≤ g ∧ g ≤ 2) : 0 ≤ na_vs s ax g c ∧ na_vs s ax g c ≤ 9999 := by
  unfold na_vs
  by_cases q : ax = 0
  · rw [if_pos q]; exact mp_vt_bd hs hc hs.2.1.2 hg
  · rw [if_neg q]; exact mp_vt_bd hs hs.2.1.1 hc hg
theorem na_sp_bd {s : Nat → Int} (hs : ni_s s) {ax g : Int} (hg : 0 ≤ g ∧ g ≤ 2) : ∀ m : Nat, m ≤ 1000 → -1 ≤ (na_sp s ax g m).1 ∧ (na_sp s ax g m).1 ≤ 9999
  | 0, _ => ⟨Int.le_refl _, by show (-1 : Int) ≤ 9999; omega⟩
  | m + 1, hm => by
    have h1 := na_sp_bd hs (ax := ax) hg m (by omega)
    have h2 := na_vs_bd hs (ax := ax) (c := (m : Int)) (by omega) hg
    have h3 := na_vs_bd hs (ax := ax) (c := (m : Int) + 1) (by omega) hg
    unfold na_sp
    by_cases q : ((na_vs s ax g ((m : Int) + 1) - na_vs s ax g (m : Int)).natAbs : Int) ≤ (na_sp s ax g m).1
    · rw [if_pos q]; exact h1
    · rw [if_neg q]; dsimp only; omega
end MR
