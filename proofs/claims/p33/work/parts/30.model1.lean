/-! the reference: leaves -/
-- borders in the row of the reference
def ms_n (s : Nat → Int) (ax : Int) : Int := s (19 * ax).toNat
def ms_b (s : Nat → Int) (ax b w : Int) : Int := s ((19 * ax).toNat + 1 + 3 * b.toNat + w.toNat)
def ms_p (s : Nat → Int) (ax : Int) : Nat → Int := fun b => s ((19 * ax).toNat + 1 + 3 * b)
def ms_q (s : Nat → Int) (ax : Int) : Nat → Int := fun b => s ((19 * ax).toNat + 1 + 3 * b + 1)
def ms_r (s : Nat → Int) (ax : Int) : Nat → Int := fun b => s ((19 * ax).toNat + 1 + 3 * b + 2)
def mo_n (I : ga_I) : Prop := (0 ≤ ms_n (I 349) 0 ∧ ms_n (I 349) 0 ≤ 6) ∧ (0 ≤ ms_n (I 349) 1 ∧ ms_n (I 349) 1 ≤ 6)
section MA
variable {G : ga_G} {d : Nat} {I : ga_I} {E : Option ga_V → ga_I → Prop}
end MA
section MA
variable {G : ga_G} {d : Nat} {I : ga_I} {E : Option ga_V → ga_I → Prop}
end MA
section MA
variable {G : ga_G} {d : Nat} {I : ga_I} {E : Option ga_V → ga_I → Prop}
end MA
