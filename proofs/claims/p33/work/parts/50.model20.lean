/-! the reference: gains and items read -/
section MU
variable {G : ga_G} {d : Nat} {I : ga_I} {E : Option ga_V → ga_I → Prop}
def gp_h5 (t : Nat → Int) (l : Nat) (s : Nat → Int) (c r i : Int) (R : Bool × Nat × Int) : Bool × Nat × (Nat → Int) :=
  if R.1 = true then (if gt_ok t l (gp_sp t l R.2.1) 59 then (true, gp_sp t l R.2.1 + 1, ns_up s (38 + 4 * (7 * c + r) + i).toNat R.2.2) else (false, gp_sp t l R.2.1, s)) else (false, R.2.1, s)
def gp_h4 (t : Nat → Int) (l : Nat) (s : Nat → Int) (c r : Int) (R : Bool × Nat × Int) : Bool × Nat × (Nat → Int) := if R.1 = true then gp_h5 t l s c r R.2.2 (gp_rd t l R.2.1 0 9999) else (false, R.2.1, s)
def gp_h3 (t : Nat → Int) (l : Nat) (s : Nat → Int) (c : Int) (R : Bool × Nat × Int) : Bool × Nat × (Nat → Int) := if R.1 = true then gp_h4 t l s c R.2.2 (gp_rd t l R.2.1 0 2) else (false, R.2.1, s)
def gp_h2 (t : Nat → Int) (l : Nat) (s : Nat → Int) (R : Bool × Nat × Int) : Bool × Nat × (Nat → Int) := if R.1 = true then gp_h3 t l s R.2.2 (gp_rd t l R.2.1 0 (ms_n s 1)) else (false, R.2.1, s)
/-- a gain's item, from behind its letter on -/
def gp_gd (t : Nat → Int) (l : Nat) (s : Nat → Int) (n : Nat) : Bool × Nat × (Nat → Int) := gp_h2 t l s (gp_rd t l n 0 (ms_n s 0))
/-- an item, that begins at a place -/
def gp_it (t : Nat → Int) (l : Nat) (s : Nat → Int) (p : Nat) : Bool × Nat × (Nat → Int) :=
  if t p = 120 then gp_bd t l s 0 p else if t p = 121 then gp_bd t l s 1 p else if t p = 103 then gp_gd t l s (p + 1) else (false, p, s)
end MU
section MU
variable {G : ga_G} {d : Nat} {I : ga_I} {E : Option ga_V → ga_I → Prop}
end MU
section MU
variable {G : ga_G} {d : Nat} {I : ga_I} {E : Option ga_V → ga_I → Prop}
end MU