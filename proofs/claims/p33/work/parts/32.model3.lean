/-! the reference: zoneBehind, findZones -/
section MC
variable {G : ga_G} {d : Nat} {I : ga_I} {E : Option ga_V → ga_I → Prop}
theorem gp_zo_cong {p q p' q' : Nat → Int} {c : Int} {n : Nat} (h : ∀ b, b < n → p' b = p b ∧ q' b = q b) : gp_zo p' q' c n = gp_zo p q c n := gp_ct_cong (fun b hb => by rw [(h b hb).1, (h b hb).2])
end MC
