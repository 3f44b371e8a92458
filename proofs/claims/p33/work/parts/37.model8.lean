/-! the reference: insert, settle, moves, as functions of its row -/
section MJ
variable {G : ga_G} {d : Nat} {I : ga_I} {E : Option ga_V → ga_I → Prop}
/-- a cell whose numbers are all given anew -/
def ga_uc (I : ga_I) (k : Nat) (f : Nat → Int) : ga_I := fun a => if a = k then f else I a
theorem ga_uc_at {I : ga_I} {k : Nat} {f : Nat → Int} : ga_uc I k f k = f := if_pos rfl
def ns_up (s : Nat → Int) (j : Nat) (z : Int) : Nat → Int := fun i => if i = j then z else s i
theorem ns_up_at {s : Nat → Int} {j : Nat} {z : Int} : ns_up s j z j = z := if_pos rfl
theorem ns_up_ne {s : Nat → Int} {i j : Nat} {z : Int} (h : i ≠ j) : ns_up s j z i = s i := if_neg h
theorem ga_up_uc (I : ga_I) (k j : Nat) (z : Int) : ga_up I k j z = ga_uc I k (ns_up (I k) j z) := by
  funext a b
  unfold ga_up ga_uc ns_up
  by_cases h : a = k
  · subst h
    rw [if_pos rfl]
    by_cases e : b = j
    · rw [if_pos ⟨rfl, e⟩, if_pos e]
    · rw [if_neg (fun q => e q.2), if_neg e]
  · rw [if_neg (fun q => h q.1), if_neg h]
theorem gp_st_eq {p : Nat → Int} {x : Int} {a : Nat} : ∀ {n : Nat}, a ≤ n → (∀ b, b < a → p b ≤ x) → (∀ b, a ≤ b → b < n → x < p b) → gp_st p x n = a := by
  intro n
  induction n with
  | zero => intro h _ _; rw [show a = 0 by omega]; rfl
  | succ n ih =>
    intro h h1 h2
    by_cases e : a = n + 1
    · have e1 := gp_st_bd p x n
      unfold gp_st
      rw [gp_ct_T (decide_eq_true (h1 n (by omega)))]
      have : gp_ct (fun b => decide (p b ≤ x)) n = n := by
        have u : ∀ m, m ≤ n → gp_ct (fun b => decide (p b ≤ x)) m = m := by
          intro m
          induction m with
          | zero => intro _; rfl
          | succ m im => intro hm; rw [gp_ct_T (decide_eq_true (h1 m (by omega))), im (by omega)]; omega
        exact u n (Nat.le_refl n)
      rw [this, e]; omega
    · unfold gp_st
      have h3 := h2 n (by omega) (by omega)
      rw [gp_ct_F (decide_eq_false (by omega))]
      exact ih (by omega) h1 (fun b q1 q2 => h2 b q1 (by omega))
theorem gp_ok_mono {n : Int} {p q r : Nat → Int} (h : gp_ok n p q r) {a b : Nat} (hab : a ≤ b) (hb : (b : Int) < n) : p a ≤ p b := by
  by_cases e : a = b
  · rw [e]; exact Int.le_refl _
  · have h1 := gp_ok_lt h (b - a - 1) a (by omega)
    rw [show a + (b - a - 1) + 1 = b by omega] at h1
    have h2 := h.2.2.1 a (by omega)
    have h3 := h.2.2.1 b (by omega)
    rcases h2.2.2.1 with h2' | h2' <;> rcases h3.2.2.1 with h3' | h3' <;> omega
def ns_in (s : Nat → Int) (ax : Int) (c n : Nat) (x q r : Int) : Nat → Int := fun j =>
  if j = (19 * ax).toNat then s j + 1
  else if j = (19 * ax).toNat + 1 + 3 * c then x
  else if j = (19 * ax).toNat + 1 + 3 * c + 1 then q
  else if j = (19 * ax).toNat + 1 + 3 * c + 2 then r
  else if (19 * ax).toNat + 4 + 3 * c ≤ j ∧ j < (19 * ax).toNat + 4 + 3 * n then s (j - 3)
  else if 38 ≤ j ∧ j < 234 then s (38 + 4 * gp_dnr ax (n + 1) (n + 1 - c) ((j - 38) / 4) + (j - 38) % 4) else s j
/-- the fourth account and the zones, settled -/
def ns_tt (s : Nat → Int) : Int := gp_tt (mp_g3 s) ((ms_n s 0).toNat + 1) ((ms_n s 1).toNat + 1)
def ns_zo (s : Nat → Int) (ax c : Int) : Int := gp_zo (ms_p s ax) (ms_q s ax) c (ms_n s ax).toNat
def ns_fz (s : Nat → Int) : Nat → Int := ns_up (ns_up s 236 (ns_zo s 0 (s 234))) 237 (ns_zo s 1 (s 235))
def ns_st (s : Nat → Int) (z : Int) : Nat → Int := ns_fz (ns_up s 253 (ga_wr (s 253 + (ns_tt s - z))))
end MJ
