/-! the reference: its loops over borders -/
section MB
variable {G : ga_G} {d : Nat} {I : ga_I} {E : Option ga_V → ga_I → Prop}
abbrev mo_ok (I : ga_I) (ax : Int) : Prop := gp_ok (ms_n (I 349) ax) (ms_p (I 349) ax) (ms_q (I 349) ax) (ms_r (I 349) ax)
end MB