/-! the reference: locate -/
section MD
variable {G : ga_G} {d : Nat} {I : ga_I} {E : Option ga_V → ga_I → Prop}
theorem gp_ok_lt {n : Int} {p q r : Nat → Int} (h : gp_ok n p q r) : ∀ (m a : Nat), ((a + m + 1 : Nat) : Int) < n → p a + r a < p (a + m + 1) - r (a + m + 1)
  | 0, a, hb => h.2.2.2 a (by omega)
  | m + 1, a, hb => by
    have h1 := gp_ok_lt h m a (by omega)
    have h2 := h.2.2.2 (a + m + 1) (by omega)
    have h3 := h.2.2.1 (a + m + 1) (by omega)
    show _ < p (a + m + 1 + 1) - r (a + m + 1 + 1)
    omega
end MD
