/-! the class's world and the rows: states, history, text -/
section RB
def rs_p (I : ga_I) (k : Nat) (s : Nat → Int) : Prop := I k 0 = s 254 ∧ (0 ≤ I k 1 ∧ I k 1 < 20) ∧ ∀ b w : Nat, (b : Int) < s 254 → w < 8 → I (k + 1) (((I k 1 - b) % 20).toNat * 8 + w) = s (255 + 8 * ((s 254).toNat - 1 - b) + w)
def rs (I : ga_I) (k : Nat) (s : Nat → Int) : Prop := rt I (k + 1) s
  ∧ (∀ p : Nat, p < 3 → I (k + 45) p = s (415 + 235 * p) ∧ (s (415 + 235 * p) = 1 → rt I (k + 12 + 11 * p) (fun j => s (416 + 235 * p + j))))
  ∧ (I (k + 46) 0 = s 234 ∧ I (k + 46) 1 = s 235) ∧ (I (k + 47) 0 = s 236 ∧ I (k + 47) 1 = s 237)
  ∧ I k 7 = s 238 ∧ rs_p I (k + 48) s ∧ I k 9 = s 239 ∧ I k 10 = s 240
  ∧ (∀ op : Nat, op < 3 → I (k + 50) op = s (241 + 3 * op) ∧ I (k + 51) op = s (241 + 3 * op + 1) ∧ I (k + 52) op = s (241 + 3 * op + 2))
  ∧ ∀ a : Nat, a < 4 → I (k + 53) a = s (250 + a)
def rx (I : ga_I) (A : na_A) : Prop := rs I 1 A.1 ∧ gr_H I ∧ I 55 0 = A.2.2.1 ∧ (∀ i : Nat, (i : Int) < A.2.2.1 → rs I (57 + 54 * ((I 55 1 + i) % 5).toNat) (fun j => A.2.1 (1120 * i + j))) ∧ I 327 0 = A.2.2.2.2 ∧ I 328 = A.2.2.2.1
theorem rs_of {I J : ga_I} {k : Nat} {s : Nat → Int} (e : ∀ a, k ≤ a → a < k + 54 → J a = I a) (h : rs I k s) : rs J k s := by
  obtain ⟨h1, h2, h3, h4, h5, h6, h7, h8, h9, h10⟩ := h
  refine ⟨rt_of (fun a w1 w2 => e a (by omega) (by omega)) h1, fun p hp => ⟨by rw [e _ (by omega) (by omega)]; exact (h2 p hp).1, fun q => rt_of (fun a w1 w2 => e a (by omega) (by omega)) ((h2 p hp).2 q)⟩, ?_, ?_, ?_, ?_, ?_, ?_, fun op ho => ?_, fun a ha => ?_⟩
  · rw [e (k + 46) (by omega) (by omega)]; exact h3
  · rw [e (k + 47) (by omega) (by omega)]; exact h4
  · rw [e k (by omega) (by omega)]; exact h5
  · unfold rs_p; rw [e (k + 48) (by omega) (by omega), e (k + 48 + 1) (by omega) (by omega)]; exact h6
  · rw [e k (by omega) (by omega)]; exact h7
  · rw [e k (by omega) (by omega)]; exact h8
  · rw [e (k + 50) (by omega) (by omega), e (k + 51) (by omega) (by omega), e (k + 52) (by omega) (by omega)]; exact h9 op ho
  · rw [e (k + 53) (by omega) (by omega)]; exact h10 a ha
theorem rs_row {I : ga_I} {k : Nat} {s s' : Nat → Int} (hs : ni_s s) (e : ∀ j, j < 1120 → s' j = s j) (h : rs I k s) : rs I k s' := by
  obtain ⟨h1, h2, h3, h4, h5, h6, h7, h8, h9, h10⟩ := h
  have hn := hs.2.2.2.1
  refine ⟨rt_row hs.1 (fun j hj => e j (by omega)) h1, fun p hp => ⟨by rw [e _ (by omega)]; exact (h2 p hp).1, fun q => ?_⟩, ?_, ?_, ?_, ?_, ?_, ?_, fun op ho => ?_, fun a ha => ?_⟩
  · rw [e _ (by omega)] at q
    exact rt_row ((hs.2.2.2.2 p hp).2 q) (fun j hj => e _ (by omega)) ((h2 p hp).2 q)
  · rw [e _ (by omega), e _ (by omega)]; exact h3
  · rw [e _ (by omega), e _ (by omega)]; exact h4
  · rw [e _ (by omega)]; exact h5
  · unfold rs_p
    rw [e 254 (by omega)]
    refine ⟨h6.1, h6.2.1, fun b w hb hw => ?_⟩
    rw [e _ (by omega)]
    exact h6.2.2 b w hb hw
  · rw [e _ (by omega)]; exact h7
  · rw [e _ (by omega)]; exact h8
  · rw [e _ (by omega), e _ (by omega), e _ (by omega)]; exact h9 op ho
  · rw [e _ (by omega)]; exact h10 a ha
theorem rs_cp {I J : ga_I} {k o : Nat} {s : Nat → Int} (hs : ni_s s) (c : gq_S J k I o) (h : rs I o s) : rs J k s := by
  obtain ⟨h1, h2, h3, h4, h5, h6, h7, h8, h9, h10⟩ := h
  obtain ⟨c1, c2, c3, c4, c5, c6, c7, c8, c9, c10, c11, c12, c13, c14, c15⟩ := c
  have hn := hs.2.2.2.1
  refine ⟨rt_cp hs.1 c1 h1, fun p hp => ⟨(c5 p hp).trans (h2 p hp).1, fun q => ?_⟩, ?_, ?_, c8.trans h5, ?_, c10.trans h7, c11.trans h8, fun op ho => ?_, fun a ha => ?_⟩
  · have t := (h2 p hp).2 q
    have n := (hs.2.2.2.2 p hp).2 q
    rcases (show p = 0 ∨ p = 1 ∨ p = 2 by omega) with e | e | e <;> subst e
    · exact rt_cp n c2 t
    · exact rt_cp n c3 t
    · exact rt_cp n c4 t
  · exact ⟨(c6 0 (by omega)).trans h3.1, (c6 1 (by omega)).trans h3.2⟩
  · exact ⟨(c7 0 (by omega)).trans h4.1, (c7 1 (by omega)).trans h4.2⟩
  · obtain ⟨p1, p2, p3⟩ := c9
    unfold rs_p
    rw [p1, p2]
    refine ⟨h6.1, h6.2.1, fun b w hb hw => ?_⟩
    rw [p3 _ (by omega)]
    exact h6.2.2 b w hb hw
  · obtain ⟨a1, a2, a3⟩ := h9 op ho
    exact ⟨(c12 op ho).trans a1, (c13 op ho).trans a2, (c14 op ho).trans a3⟩
  · exact (c15 a ha).trans (h10 a ha)
/-- a state kept -/
theorem rx_kp {I J : ga_I} {A : na_A} (hA : ni_a A) (h : rx I A) (c : gr_kp I J) : rx J (na_act A A.1) := by
  obtain ⟨h1, h2, h3, h4, h5, h6⟩ := h
  obtain ⟨n1, n2, n3, n4⟩ := hA
  obtain ⟨H1, H2, H3, H4⟩ := h2
  obtain ⟨f, n, hc, c1, c2, c3, c4⟩ := c
  have hf : 0 ≤ f ∧ f < 5 := by omega
  have hn4 : (n : Int) ≤ 4 := by omega
  have fr : ∀ a, a < 55 ∨ a = 56 ∨ 327 ≤ a → J a = I a := fun a ha => c4 a (by omega) (by omega)
  have eM : I 55 0 = A.2.2.1 := h3
  have nJ : rs J (57 + 54 * ((f + (n : Int)) % 5).toNat) A.1 := rs_cp n1 c3 h1
  have oth : ∀ i : Nat, i < 5 → i ≠ ((f + (n : Int)) % 5).toNat → ∀ a, 57 + 54 * i ≤ a → a < 57 + 54 * i + 54 → J a = I a := fun i hi hne a w1 w2 => c4 a (by omega) (by omega)
  refine ⟨rs_of (fun a w1 w2 => fr a (by omega)) h1, ?_, ?_, fun i hi => ?_, by rw [fr 327 (by omega)]; exact h5, by rw [fr 328 (by omega)]; exact h6⟩
  · refine ⟨by omega, by omega, by rw [fr 46 (by omega)]; exact H3, fun i hi j hj => ?_⟩
    by_cases q : i = ((f + (n : Int)) % 5).toNat
    · rw [q]
      have := (nJ.2.1 j hj).1
      rw [this]
      exact (n1.2.2.2.2 j hj).1
    · rw [oth i hi q _ (by omega) (by omega)]; exact H4 i hi j hj
  · rw [c1]; show (n : Int) + 1 = min (A.2.2.1 + 1) 5; omega
  · change (i : Int) < min (A.2.2.1 + 1) 5 at hi
    show rs J (57 + 54 * ((J 55 1 + i) % 5).toNat) (fun j => ac_v A.2.1 A.1 A.2.2.1 (1120 * i + j))
    rw [c2]
    by_cases q : i = n
    · rw [q]
      refine rs_row n1 (fun j hj => ?_) nJ
      rcases hc with ⟨w1, w2, w3⟩ | ⟨w1, w2, w3⟩
      · exact (ac_v_row n2 hj).2.1 (by omega) (by omega)
      · exact (ac_v_row n2 hj).2.2.2 (by omega) w3
    · rcases hc with ⟨w1, w2, w3⟩ | ⟨w1, w2, w3⟩
      · have e := h4 i (by omega)
        rw [← w2] at e
        refine rs_row (n3 i (by omega)) (fun j hj => (ac_v_row n2 hj).1 (by omega) (by omega)) (rs_of (fun a u1 u2 => oth ((f + (i : Int)) % 5).toNat (by omega) (by omega) a u1 u2) e)
      · have e := h4 (i + 1) (by omega)
        rw [show ((I 55 1 + ((i + 1 : Nat) : Int)) % 5).toNat = ((f + (i : Int)) % 5).toNat by omega] at e
        refine rs_row (n3 (i + 1) (by omega)) (fun j hj => (ac_v_row n2 hj).2.2.1 (by omega) (by omega)) (rs_of (fun a u1 u2 => oth ((f + (i : Int)) % 5).toNat (by omega) (by omega) a u1 u2) e)
/-- a state brought back -/
theorem rx_bb {I J : ga_I} {A : na_A} (hA : ni_a A) (h : rx I A) (hm : A.2.2.1 ≠ 0) (c : gr_bb I J) : rx J (no_undo A).1 := by
  obtain ⟨h1, h2, h3, h4, h5, h6⟩ := h
  obtain ⟨n1, n2, n3, n4⟩ := hA
  obtain ⟨H1, H2, H3, H4⟩ := h2
  obtain ⟨c1, c2, c3, c4⟩ := c
  have eU : (no_undo A).1 = (av_cp A.1 (fun j => A.2.1 (1120 * (A.2.2.1.toNat - 1) + j)) 0 1120, A.2.1, A.2.2.1 - 1, A.2.2.2.1, A.2.2.2.2) := by unfold no_undo; rw [if_neg hm]
  rw [eU]
  have fr : ∀ a, 56 ≤ a → J a = I a := fun a ha => c4 a (by omega) (by omega)
  have e := h4 (A.2.2.1.toNat - 1) (by omega)
  rw [show ((I 55 1 + ((A.2.2.1.toNat - 1 : Nat) : Int)) % 5).toNat = ((I 55 1 + I 55 0 - 1) % 5).toNat by omega] at e
  have hrow : ∀ j, j < 1120 → av_cp A.1 (fun j => A.2.1 (1120 * (A.2.2.1.toNat - 1) + j)) 0 1120 j = A.2.1 (1120 * (A.2.2.1.toNat - 1) + j) := fun j hj => by unfold av_cp; rw [if_pos (by omega)]; rfl
  have n5 := n3 (A.2.2.1.toNat - 1) (by omega)
  have r1 := rs_cp n5 c3 e
  refine ⟨rs_row n5 hrow r1, ⟨by omega, by omega, fun j hj => ?_, fun i hi j hj => by rw [fr _ (by omega)]; exact H4 i hi j hj⟩, by show J 55 0 = A.2.2.1 - 1; omega, fun i hi => ?_, by rw [fr 327 (by omega)]; exact h5, by rw [fr 328 (by omega)]; exact h6⟩
  · have := (r1.2.1 j hj).1
    rw [show (46 : Nat) = 1 + 45 from rfl, this]
    exact (n5.2.2.2.2 j hj).1
  · change (i : Int) < A.2.2.1 - 1 at hi
    rw [c2]
    exact rs_of (fun a u1 u2 => fr a (by omega)) (h4 i (by omega))
/-- only the present state has changed -/
theorem rx_up {I J : ga_I} {A : na_A} {r : Nat → Int} (h : rx I A) (f : ∀ a, (55 ≤ a ∧ a < 329) → J a = I a) (hr : rs J 1 r) (hp : ni_s r) : rx J (r, A.2) := by
  obtain ⟨h1, ⟨H1, H2, H3, H4⟩, h3, h4, h5, h6⟩ := h
  refine ⟨hr, ⟨by rw [f 55 (by omega)]; exact H1, by rw [f 55 (by omega)]; exact H2, fun j hj => ?_, fun i hi j hj => by rw [f _ (by omega)]; exact H4 i hi j hj⟩, by rw [f 55 (by omega)]; exact h3, fun i hi => ?_, by rw [f 327 (by omega)]; exact h5, by rw [f 328 (by omega)]; exact h6⟩
  · have := (hr.2.1 j hj).1
    rw [show (46 : Nat) = 1 + 45 from rfl, this]
    exact (hp.2.2.2.2 j hj).1
  · rw [f 55 (by omega)]
    exact rs_of (fun a u1 u2 => f a (by have : A.2.2.1 = I 55 0 := h3.symm; have hi2 : (i : Int) < A.2.2.1 := hi; omega)) (h4 i hi)
theorem rx_fr {I J : ga_I} {A : na_A} (h : rx I A) (f : ∀ a, (1 ≤ a ∧ a < 329) → J a = I a) : rx J A := by
  obtain ⟨h1, ⟨H1, H2, H3, H4⟩, h3, h4, h5, h6⟩ := h
  refine ⟨rs_of (fun a u1 u2 => f a (by omega)) h1, ⟨by rw [f 55 (by omega)]; exact H1, by rw [f 55 (by omega)]; exact H2, by rw [f 46 (by omega)]; exact H3, fun i hi j hj => by rw [f _ (by omega)]; exact H4 i hi j hj⟩, by rw [f 55 (by omega)]; exact h3, fun i hi => ?_, by rw [f 327 (by omega)]; exact h5, by rw [f 328 (by omega)]; exact h6⟩
  rw [f 55 (by omega)]
  exact rs_of (fun a u1 u2 => f a (by omega)) (h4 i hi)
end RB
