section MN
variable {G : ga_G} {d : Nat} {I : ga_I} {E : Option ga_V → ga_I → Prop}
theorem ni_t_of {s s' : Nat → Int} (e : ∀ j, j < 234 → s' j = s j) (h : ni_t s) : ni_t s' := by
  obtain ⟨h0, h1, h2, h3⟩ := h
  have u : ∀ ax, 0 ≤ ax ∧ ax ≤ 1 → ms_n s' ax = ms_n s ax ∧ ∀ b, b < 6 → ms_p s' ax b = ms_p s ax b ∧ ms_q s' ax b = ms_q s ax b ∧ ms_r s' ax b = ms_r s ax b := fun ax ha => ⟨e _ (by omega), fun b hb => ⟨e _ (by omega), e _ (by omega), e _ (by omega)⟩⟩
  refine ⟨gp_ok_of h0 (u 0 (by omega)).1 (u 0 (by omega)).2, gp_ok_of h1 (u 1 (by omega)).1 (u 1 (by omega)).2, fun g i hg hi => ?_, fun g hg => ?_⟩
  · rw [e _ (by omega)]; exact h2 g i hg hi
  · rw [e _ (by omega)]; exact h3 g hg
theorem ni_n {s : Nat → Int} {ax : Int} (h : ni_t s) (ha : 0 ≤ ax ∧ ax ≤ 1) : 0 ≤ ms_n s ax ∧ ms_n s ax ≤ 6 := ⟨(ni_axs h ha).1, (ni_axs h ha).2.1⟩
theorem ni_b {s : Nat → Int} {ax : Int} (h : ni_t s) (ha : 0 ≤ ax ∧ ax ≤ 1) {b : Nat} (hb : (b : Int) < ms_n s ax) : (1 ≤ ms_p s ax b ∧ ms_p s ax b ≤ 999) ∧ (ms_q s ax b = 0 ∨ ms_q s ax b = 1) ∧ (ms_q s ax b ≤ ms_r s ax b ∧ ms_r s ax b ≤ 100) := by
  have := (ni_axs h ha).2.2.1 b hb
  exact ⟨⟨this.1, this.2.1⟩, this.2.2.1, this.2.2.2.1, this.2.2.2.2.1⟩
theorem mp_ra_bd (a b c e f z : Int) : 0 ≤ mp_ra a b c e f z ∧ mp_ra a b c e f z ≤ 3 := by
  unfold mp_ra
  by_cases h1 : a ≠ -1 ∧ a ≠ f
  · rw [if_pos h1]; omega
  · rw [if_neg h1]
    by_cases h2 : c < ((b - z).natAbs : Int)
    · rw [if_pos h2]; omega
    · rw [if_neg h2]
      by_cases h3 : e < ((b - z).natAbs : Int)
      · rw [if_pos h3]; omega
      · rw [if_neg h3]; omega
end MN
