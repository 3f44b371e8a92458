/-! the reference: sums, strips -/
section MI
def mp_g3 (s : Nat → Int) : Nat → Int := fun g => s (38 + 4 * g) + s (38 + 4 * g + 1) + s (38 + 4 * g + 2)
def mp_lk (s : Nat → Int) (op : Int) : Nat → Int := fun g => if s (38 + 4 * g + 3) = op then 1 else 0
variable {G : ga_G} {d : Nat} {I : ga_I} {E : Option ga_V → ga_I → Prop}
end MI
section MI
variable {G : ga_G} {d : Nat} {I : ga_I} {E : Option ga_V → ga_I → Prop}
end MI