/-! the reference: rows kept, chatters -/
section ML
variable {G : ga_G} {d : Nat} {I : ga_I} {E : Option ga_V → ga_I → Prop}
def av_sh (v : Nat → Int) (m : Nat) : Nat → Int := fun j => if j < m then v (j + 1120) else v j
def av_cp (v s : Nat → Int) (a m : Nat) : Nat → Int := fun j => if a ≤ j ∧ j < a + m then s (j - a) else v j
def ac_v (v s : Nat → Int) (m : Int) : Nat → Int := if m = 5 then av_cp (av_sh v 4480) s 4480 1120 else av_cp v s (1120 * m).toNat 1120
def ns_c3 (i : Nat) : Int := if i = 3 then -1 else 0
/-- the regions emptied: of region g on, and of the g-th region i numbers -/
def ns_cl (s : Nat → Int) (g i : Nat) : Nat → Int := fun j => if 38 ≤ j ∧ j < 234 ∧ ((j - 38) / 4 < g ∨ ((j - 38) / 4 = g ∧ (j - 38) % 4 < i)) then ns_c3 ((j - 38) % 4) else s j
end ML
section ML
variable {G : ga_G} {d : Nat} {I : ga_I} {E : Option ga_V → ga_I → Prop}
end ML
section ML
variable {G : ga_G} {d : Nat} {I : ga_I} {E : Option ga_V → ga_I → Prop}
def mp_vt (s : Nat → Int) (x y g : Int) : Int := mp_va s g (ns_zo s 0 x) x (ns_zo s 1 y) y
end ML
