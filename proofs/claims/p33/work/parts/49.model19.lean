/-! the reference: items read -/
section MT
variable {G : ga_G} {d : Nat} {I : ga_I} {E : Option ga_V → ga_I → Prop}
abbrev gt_ok (t : Nat → Int) (l p : Nat) (c : Int) : Prop := p < l ∧ t p = c
abbrev gp_bc (s : Nat → Int) (ax x r k : Int) : Prop := k ≤ r ∧ (0 ≤ x - r ∧ x + r ≤ 1000) ∧ gp_fr (ms_p s ax) (ms_r s ax) x r (-2000000009) (ms_n s ax).toNat = true ∧ ms_n s ax ≠ 6
def gp_bi (s : Nat → Int) (ax x r k : Int) : Nat → Int := ns_in s ax (gp_st (ms_p s ax) x (ms_n s ax).toNat).toNat (ms_n s ax).toNat x k r
/-- from behind the kind on -/
def gp_be (t : Nat → Int) (l : Nat) (s : Nat → Int) (ax : Int) (start : Nat) (x r k : Int) (n : Nat) : Bool × Nat × (Nat → Int) :=
  if ¬ gt_ok t l (gp_sp t l n) 59 then (false, gp_sp t l n, s) else if gp_bc s ax x r k then (true, gp_sp t l n + 1, gp_bi s ax x r k) else (false, start, s)
def gp_bk (t : Nat → Int) (l : Nat) (s : Nat → Int) (ax : Int) (start : Nat) (x r : Int) (n : Nat) : Bool × Nat × (Nat → Int) :=
  if gt_ok t l (gp_sp t l n) 126 then gp_be t l s ax start x r 1 (gp_sp t l n + 1) else gp_be t l s ax start x r 0 (gp_sp t l n)
def gp_b2 (t : Nat → Int) (l : Nat) (s : Nat → Int) (ax : Int) (start : Nat) (x : Int) (R : Bool × Nat × Int) : Bool × Nat × (Nat → Int) := if R.1 = true then gp_bk t l s ax start x R.2.2 R.2.1 else (false, R.2.1, s)
def gp_b1 (t : Nat → Int) (l : Nat) (s : Nat → Int) (ax : Int) (start : Nat) (R : Bool × Nat × Int) : Bool × Nat × (Nat → Int) := if R.1 = true then gp_b2 t l s ax start R.2.2 (gp_rd t l R.2.1 0 100) else (false, R.2.1, s)
/-- a border's item, that begins at a place -/
def gp_bd (t : Nat → Int) (l : Nat) (s : Nat → Int) (ax : Int) (start : Nat) : Bool × Nat × (Nat → Int) := gp_b1 t l s ax start (gp_rd t l (start + 1) 1 999)
end MT
section MT
variable {G : ga_G} {d : Nat} {I : ga_I} {E : Option ga_V → ga_I → Prop}
end MT
