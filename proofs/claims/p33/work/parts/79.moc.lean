/-! the constructor of the reference -/
section MK8
variable {G : ga_G} {d : Nat} {mt : ga_M} {pc : Nat} {lst : List (Option ga_V)} {st : List ga_V} {rc rs : Nat} {E : (Nat → va_E) → Nat → Prop} {X X0 : Nat → va_E} {I : ga_I}
/-- all cells are made: on in the other calculus -/
theorem gc_toW {E' : Option ga_V → ga_I → Prop} (hX : ∀ q, q < 348 → X q = ga_ce G I q (ga_sh q)) (hI : ga_RG I) (hE : ∀ v I', E' v I' → ga_RG I' → (v = none ∨ v = some (.inl 1)) ∧ E (fun q => ga_ce G I' q (ga_sh q)) 348) (K : ga_W G d mt pc lst st I E') : gc_W G d mt pc lst st X 348 rc rs E := by
  intro p e R s m args below meth c MC MS Q C hr H locs ls cells slots hc hs hP hS hL
  obtain ⟨hx, hb, hml, hm, hts, hK, hXs, hbl, hok, hroom, hMC, hMS, hNx⟩ := C.1
  have hP' : ga_Wd G I H := by
    have := hP.1
    rw [gc_ws_cong G hX] at this
    exact this
  refine K p e R s m args below meth c cells slots Q ⟨hx, hb, hml, hm, hts, hK, hXs, hbl, hok, hroom, by omega, by omega, hNx⟩ ?_ hI H locs ls hP' hS hL
  intro pc1 ls1 H1 locs1 I1 v ins hd hfit hE1 hI1 hP1 hS1
  obtain ⟨hv, hE2⟩ := hE v I1 hE1 hI1
  exact hr pc1 ls1 H1 locs1 _ 348 cells slots v ins hd hfit hv hE2 ⟨hP1, fun h => absurd h (by omega), Nat.le_refl _⟩ hS1 (by omega) (by omega)
end MK8
