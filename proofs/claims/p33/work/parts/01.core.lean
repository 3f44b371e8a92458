/-! A calculus over a fixed graph of objects: the world is 348 cells at addresses in a row; a state is what ints they hold. -/
abbrev ga_V : Type := Int ⊕ Nat
abbrev ga_I : Type := Nat → Nat → Int
abbrev ga_M : Type := MethodName × ByteArray × Nat × Option FieldType
abbrev ga_Sh : Type := (Nat × List (Option Nat)) ⊕ (Nat × Nat) ⊕ List Nat
/-- launch, classes, addresses of the cells, classes of the arrays, base of the world, the script: cell, length, ints -/
abbrev ga_G : Type := Launch × va_G × (Nat → Nat) × (Nat → ClassId) × Nat × Nat × Nat × (Nat → Int32)
abbrev ga_l (G : ga_G) : Launch := G.1
abbrev ga_D (G : ga_G) : va_G := G.2.1
abbrev ga_ad (G : ga_G) : Nat → Nat := G.2.2.1
abbrev ga_cy (G : ga_G) : Nat → ClassId := G.2.2.2.1
abbrev ga_ba (G : ga_G) : Nat := G.2.2.2.2.1
abbrev ga_b (G : ga_G) : Nat := G.2.2.2.2.2.1
abbrev ga_L (G : ga_G) : Nat := G.2.2.2.2.2.2.1
abbrev ga_xs (G : ga_G) : Nat → Int32 := G.2.2.2.2.2.2.2
-- the numbers
abbrev ga_rg (z : Int) : Prop := -2147483648 ≤ z ∧ z < 2147483648
theorem ga_bm {z : Int} (h1 : -2147483648 ≤ z) (h2 : z < 2147483648) : z.bmod (2 ^ 32) = z := by
  rw [Int.bmod_eq_of_le (by omega) (by omega)]
theorem ga_oadd (a b : Int) : Int32.ofInt a + Int32.ofInt b = Int32.ofInt (a + b) := (Int32.ofInt_add a b).symm
theorem ga_osub (a b : Int) : Int32.ofInt a - Int32.ofInt b = Int32.ofInt (a - b) := (Int32.ofInt_sub a b).symm
theorem ga_omul (a b : Int) : Int32.ofInt a * Int32.ofInt b = Int32.ofInt (a * b) := (Int32.ofInt_mul a b).symm
theorem ga_toI0 (z : Int) : (Int32.ofInt z).toInt = z.bmod (2 ^ 32) := by
  first | exact Int32.toInt_ofInt z | exact Int32.toInt_ofInt | simp
theorem ga_toI {z : Int} (h : ga_rg z) : (Int32.ofInt z).toInt = z := by
  rw [ga_toI0]
  exact ga_bm h.1 h.2
theorem ga_rgI (x : Int32) : ga_rg x.toInt := by
  exact ⟨Int32.le_toInt x, Int32.toInt_lt x⟩
theorem ga_of_I (x : Int32) : Int32.ofInt x.toInt = x := by
  first | exact Int32.ofInt_toInt x | simp
theorem ga_lt {a b : Int} (ha : ga_rg a) (hb : ga_rg b) : Int32.ofInt a < Int32.ofInt b ↔ a < b := by
  rw [Int32.lt_iff_toInt_lt, ga_toI ha, ga_toI hb]
theorem ga_le {a b : Int} (ha : ga_rg a) (hb : ga_rg b) : Int32.ofInt a ≤ Int32.ofInt b ↔ a ≤ b := by
  rw [Int32.le_iff_toInt_le, ga_toI ha, ga_toI hb]
theorem ga_eq {a b : Int} (ha : ga_rg a) (hb : ga_rg b) : Int32.ofInt a = Int32.ofInt b ↔ a = b := by
  rw [← Int32.toInt_inj, ga_toI ha, ga_toI hb]
theorem ga_nat {z : Int} (h : ga_rg z) : (Int32.ofInt z).toNatClampNeg = z.toNat := by
  show (Int32.ofInt z).toInt.toNat = z.toNat
  rw [ga_toI h]
theorem ga_in {z : Int} {n : Nat} (h0 : 0 ≤ z) (h1 : z < n) (hn : n < 2147483648) : vp_in (Int32.ofInt z) n := by
  have hz : ga_rg z := ⟨by omega, by omega⟩
  rw [vp_in_iff, ga_toI hz]
  exact ⟨h0, h1⟩
theorem ga_tdiv_rg {a b : Int} (ha : ga_rg a) (hb0 : 0 < b) : ga_rg (a.tdiv b) := by
  have h := Int.natAbs_tdiv_le_natAbs a b
  have h3 : ¬ a.tdiv b = 2147483648 := by
    intro h4
    have h5 : a = -2147483648 := by omega
    subst h5
    have h7 : (-2147483648 : Int).tdiv b ≤ 0 := by
      have h8 : (-2147483648 : Int).tdiv b = -((2147483648 : Int).tdiv b) := by rw [← Int.neg_tdiv]
      have h9 : 0 ≤ (2147483648 : Int).tdiv b := Int.tdiv_nonneg (by omega) (by omega)
      omega
    omega
  constructor <;> omega
theorem ga_div {a b : Int} (ha : ga_rg a) (hb : ga_rg b) (hb0 : 0 < b) : Int32.ofInt a / Int32.ofInt b = Int32.ofInt (a.tdiv b) := by
  have h1 := ga_tdiv_rg ha hb0
  apply Int32.toInt_inj.mp
  rw [Int32.toInt_div, ga_toI ha, ga_toI hb, ga_toI h1]
  exact ga_bm h1.1 h1.2
theorem ga_rem {a b : Int} (ha : ga_rg a) (hb : ga_rg b) (hb0 : 0 < b) : Int32.ofInt a - Int32.ofInt a / Int32.ofInt b * Int32.ofInt b = Int32.ofInt (a.tmod b) := by
  rw [ga_div ha hb hb0, ga_omul, ga_osub, Int.tmod_def, Int.mul_comm]

def ga_wr (z : Int) : Int := (Int32.ofInt z).toInt
theorem ga_wr_eq {z : Int} (h : ga_rg z) : ga_wr z = z := ga_toI h
theorem ga_rg_wr (z : Int) : ga_rg (ga_wr z) := ga_rgI _
theorem ga_of_wr (z : Int) : Int32.ofInt (ga_wr z) = Int32.ofInt z := ga_of_I _
