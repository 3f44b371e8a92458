/-! the numbers that both sides answer with: functions of borders, in no machine's terms -/
theorem gw_eq {G : ga_G} {d : Nat} {mt : ga_M} {pc : Nat} {lst lst' : List (Option ga_V)} {st : List ga_V} {I I' : ga_I} {E : Option ga_V → ga_I → Prop} (K : ga_W G d mt pc lst' st I' E) (h : lst' = lst) (hI : I' = I) : ga_W G d mt pc lst st I E := by
  subst h; subst hI; exact K
/-- how many of the first n have the property -/
def gp_ct (P : Nat → Bool) : Nat → Int
  | 0 => 0
  | n + 1 => if P n then gp_ct P n + 1 else gp_ct P n
theorem gp_ct_le (P : Nat → Bool) : ∀ n : Nat, 0 ≤ gp_ct P n ∧ gp_ct P n ≤ n
  | 0 => ⟨Int.le_refl 0, Int.le_refl 0⟩
  | n + 1 => by
    have h := gp_ct_le P n
    unfold gp_ct
    cases P n <;> simp <;> omega
theorem gp_ct_cong {P Q : Nat → Bool} : ∀ {n : Nat}, (∀ b, b < n → P b = Q b) → gp_ct P n = gp_ct Q n
  | 0, _ => rfl
  | n + 1, h => by
    unfold gp_ct
    rw [h n (by omega), gp_ct_cong (n := n) (fun b hb => h b (by omega))]
theorem gp_ct_mono (P : Nat → Bool) {m n : Nat} (h : m ≤ n) : gp_ct P m ≤ gp_ct P n := by
  induction n with
  | zero => rw [show m = 0 by omega]; exact Int.le_refl _
  | succ n ih =>
    by_cases e : m = n + 1
    · rw [e]; exact Int.le_refl _
    · have h1 := ih (by omega)
      show gp_ct P m ≤ (if P n then gp_ct P n + 1 else gp_ct P n)
      cases P n <;> simp <;> omega
theorem gp_ct_T {P : Nat → Bool} {n : Nat} (h : P n = true) : gp_ct P (n + 1) = gp_ct P n + 1 := by
  show (if P n then gp_ct P n + 1 else gp_ct P n) = _
  rw [if_pos h]
theorem gp_ct_F {P : Nat → Bool} {n : Nat} (h : P n = false) : gp_ct P (n + 1) = gp_ct P n := by
  show (if P n then gp_ct P n + 1 else gp_ct P n) = _
  rw [h]; rfl
/-- all of the first n have it -/
def gp_al (P : Nat → Bool) : Nat → Bool
  | 0 => true
  | n + 1 => gp_al P n && P n
theorem gp_al_iff (P : Nat → Bool) : ∀ n : Nat, gp_al P n = true ↔ ∀ b, b < n → P b = true
  | 0 => ⟨fun _ b h => absurd h (Nat.not_lt_zero b), fun _ => rfl⟩
  | n + 1 => by
    unfold gp_al
    rw [Bool.and_eq_true, gp_al_iff P n]
    constructor
    · rintro ⟨h1, h2⟩ b hb
      by_cases e : b = n
      · rw [e]; exact h2
      · exact h1 b (by omega)
    · exact fun h => ⟨fun b hb => h b (by omega), h n (by omega)⟩
/-- the first of the first n that has it, or -1 -/
def gp_ff (P : Nat → Bool) : Nat → Int
  | 0 => -1
  | n + 1 => if gp_ff P n = -1 then (if P n then (n : Int) else -1) else gp_ff P n
theorem gp_ff_none (P : Nat → Bool) : ∀ n : Nat, (∀ b, b < n → P b = false) → gp_ff P n = -1
  | 0, _ => rfl
  | n + 1, h => by
    unfold gp_ff
    rw [gp_ff_none P n (fun b hb => h b (by omega)), h n (by omega)]
    rfl
theorem gp_ff_at (P : Nat → Bool) {b : Nat} (hb : P b = true) (h0 : ∀ a, a < b → P a = false) : ∀ n : Nat, b < n → gp_ff P n = b
  | 0, h => absurd h (Nat.not_lt_zero b)
  | n + 1, h => by
    unfold gp_ff
    by_cases e : b = n
    · subst e
      rw [gp_ff_none P b h0, if_pos rfl, if_pos hb]
    · rw [gp_ff_at P hb h0 n (by omega), if_neg (by omega)]
theorem gp_ff_cong {P Q : Nat → Bool} : ∀ {n : Nat}, (∀ b, b < n → P b = Q b) → gp_ff P n = gp_ff Q n
  | 0, _ => rfl
  | n + 1, h => by
    unfold gp_ff
    rw [h n (by omega), gp_ff_cong (n := n) (fun b hb => h b (by omega))]
-- borders: positions p, kinds q, reaches r
def gp_sk (q : Nat → Int) : Nat → Bool := fun b => decide (q b = 0)
/-- the strip in which a coordinate lies -/
def gp_st (p : Nat → Int) (c : Int) (n : Nat) : Int := gp_ct (fun b => decide (p b ≤ c)) n
/-- the zone in which it lies by positions -/
def gp_zo (p q : Nat → Int) (c : Int) (n : Nat) : Int := gp_ct (fun b => decide (q b = 0 ∧ p b ≤ c)) n
/-- no border but one is in the way -/
def gp_fr (p r : Nat → Int) (x y ex : Int) (n : Nat) : Bool := gp_al (fun b => decide ((b : Int) = ex ∨ ¬ (x - y ≤ p b + r b ∧ p b - r b ≤ x + y))) n
/-- the active zone, upward over the first borders -/
def gp_up (p q r : Nat → Int) (z c : Int) : Nat → Int
  | 0 => z
  | b + 1 => if q b = 0 ∧ gp_ct (gp_sk q) b = gp_up p q r z c b ∧ p b + r b ≤ c then gp_up p q r z c b + 1 else gp_up p q r z c b
/-- then downward over the last j borders of n -/
def gp_dn (p q r : Nat → Int) (n : Nat) (a c : Int) : Nat → Int
  | 0 => a
  | j + 1 => if q (n - 1 - j) = 0 ∧ gp_ct (gp_sk q) (n - j) = gp_dn p q r n a c j ∧ c < p (n - 1 - j) - r (n - 1 - j) then gp_dn p q r n a c j - 1 else gp_dn p q r n a c j
def gp_za (p q r : Nat → Int) (n : Nat) (z c : Int) : Int := gp_dn p q r n (gp_up p q r z c n) c n
/-- the coordinate held between the ends of the zone -/
def gp_hd (p q : Nat → Int) (z c : Int) : Nat → Int
  | 0 => c
  | b + 1 => if q b = 0 then (if gp_ct (gp_sk q) b = z - 1 then max (gp_hd p q z c b) (p b) else if gp_ct (gp_sk q) b = z then min (gp_hd p q z c b) (p b - 1) else gp_hd p q z c b) else gp_hd p q z c b
/-- the blending border that occupies a coordinate, or -1 -/
def gp_bl (p q r : Nat → Int) (c : Int) (n : Nat) : Int := gp_ff (fun b => decide (q b = 1 ∧ p b - r b ≤ c ∧ c ≤ p b + r b)) n
/-- the changes and the zone behind some turns -/
def gp_zc (p q r : Nat → Int) (n : Nat) (z x y : Int) : Nat → Int × Int
  | 0 => (0, z)
  | t + 1 => (if gp_za p q r n (gp_zc p q r n z x y t).2 (if t % 2 = 0 then x + y else x - y) = (gp_zc p q r n z x y t).2 then (gp_zc p q r n z x y t).1 else (gp_zc p q r n z x y t).1 + 1, gp_za p q r n (gp_zc p q r n z x y t).2 (if t % 2 = 0 then x + y else x - y))
/-- borders as they should be: some of six, in their ranges, in order, apart -/
def gp_ok (n : Int) (p q r : Nat → Int) : Prop := 0 ≤ n ∧ n ≤ 6 ∧ (∀ b : Nat, (b : Int) < n → 1 ≤ p b ∧ p b ≤ 999 ∧ (q b = 0 ∨ q b = 1) ∧ q b ≤ r b ∧ r b ≤ 100 ∧ 0 ≤ p b - r b ∧ p b + r b ≤ 1000) ∧ ∀ b : Nat, ((b : Int) + 1) < n → p b + r b < p (b + 1) - r (b + 1)
abbrev gb_ok (I : ga_I) (k : Nat) : Prop := gp_ok (I k 0) (I (k + 1)) (I (k + 2)) (I (k + 3))
