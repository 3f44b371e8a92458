/-! the class: numbers read -/
section TA
variable {G : ga_G} {d : Nat} {I : ga_I} {E : Option ga_V → ga_I → Prop}
def gr_X (I : ga_I) : Prop := 0 ≤ I 327 0 ∧ I 327 0 ≤ 160
theorem s_Text_put {c : Int} (hx : gr_X I) (hl : I 327 0 < 160) (hc : 0 ≤ c ∧ c < 65536) (h : E none (ga_up (ga_up I 328 (I 327 0).toNat c) 327 0 (I 327 0 + 1))) : ga_W G d mt_Text_put 0 (ga_en 2 [.inr 327, .inl c]) [] I E := by
  unfold gr_X at hx
  refine k_Text_put_0 (fun hI => ⟨fun q => by exfalso; omega, fun q => ⟨by omega, by omega, by omega, by omega, fun I1 e1 I2 e2 => ?_⟩⟩)
  rw [ga_wr_eq ⟨by omega, by omega⟩] at e1
  have e0 : I1 327 0 = I 327 0 := by rw [e1, ga_up_fn (by omega)]
  rw [e0, ga_wr_eq ⟨by omega, by omega⟩] at e2
  rw [e2, e1]
  exact h
end TA
section TA
variable {G : ga_G} {d : Nat} {I : ga_I} {E : Option ga_V → ga_I → Prop}
end TA
section TB
variable {G : ga_G} {d : Nat} {I : ga_I} {E : Option ga_V → ga_I → Prop}
def xf (I J : ga_I) : Prop := (∀ a, a ≠ 327 → J a = I a) ∧ ∀ j, j ≠ 1 → j ≠ 2 → J 327 j = I 327 j
/-- the values of a blend -/
def gl_v (I : ga_I) (o : Nat) : Int × Int × Int × Int := (I o 0, I o 1, I o 2, I o 3)
theorem s_Table_numerator {k o1 o2 : Nat} {g : Int} (hk : ga_isT k) (ho1 : ga_isL o1) (ho2 : ga_isL o2) (h1 : gp_vk (gl_v I o1)) (h2 : gp_vk (gl_v I o2)) (hg : 0 ≤ g ∧ g ≤ 2) (h : E (some (.inl (gp_nu (gl_v I o1) (gl_v I o2) (fun c r => I (k + 9) ((c * 7 + r) * 3 + g).toNat)))) I) : ga_W G (d + 1) mt_Table_numerator 0 (ga_en 6 [.inr k, .inr o1, .inr o2, .inl g]) [] I E := by
  obtain ⟨a1, a2, -, -⟩ := h1
  obtain ⟨b1, b2, -, -⟩ := h2
  change 0 ≤ I o1 0 ∧ I o1 0 ≤ 6 at a1
  change 0 ≤ I o1 1 ∧ I o1 1 ≤ 6 at a2
  change 0 ≤ I o2 0 ∧ I o2 0 ≤ 6 at b1
  change 0 ≤ I o2 1 ∧ I o2 1 ≤ 6 at b2
  exact k_Table_numerator_0 hk ho1 ho2 (fun hI => ⟨by omega, by omega, by omega, by omega, h⟩)
end TB
