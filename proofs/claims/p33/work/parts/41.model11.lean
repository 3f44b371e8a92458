/-! the reference: addBorder, removeBorder -/
section MM
variable {G : ga_G} {d : Nat} {I : ga_I} {E : Option ga_V → ga_I → Prop}
theorem ns_in_n {s : Nat → Int} {ax a : Int} {c n : Nat} {x q r : Int} (ha : 0 ≤ ax ∧ ax ≤ 1) (hb : 0 ≤ a ∧ a ≤ 1) (hc : c ≤ n) (hn : n < 6) : ms_n (ns_in s ax c n x q r) a = if a = ax then ms_n s a + 1 else ms_n s a := by
  unfold ms_n ns_in
  by_cases e : a = ax
  · subst e; rw [if_pos rfl, if_pos rfl]
  · rw [if_neg e, if_neg (by omega), if_neg (by omega), if_neg (by omega), if_neg (by omega), if_neg (by omega), if_neg (by omega)]
theorem ns_st_o {s : Nat → Int} {z : Int} {j : Nat} (h : j ≠ 236 ∧ j ≠ 237 ∧ j ≠ 253) : ns_st s z j = s j := by
  unfold ns_st ns_fz
  rw [ns_up_ne h.2.1, ns_up_ne h.1, ns_up_ne h.2.2]
end MM
