/-! the reference: a number read -/
section MS
variable {G : ga_G} {d : Nat} {I : ga_I} {E : Option ga_V → ga_I → Prop}
/-- over spaces -/
def gp_sq (t : Nat → Int) (l : Nat) : Nat → Nat → Nat
  | 0, n => n
  | f + 1, n => if n < l ∧ t n = 32 then gp_sq t l f (n + 1) else n
def gp_sp (t : Nat → Int) (l n : Nat) : Nat := gp_sq t l (l - n) n
theorem gp_sp_s {t : Nat → Int} {l n : Nat} (h : n < l ∧ t n = 32) : gp_sp t l n = gp_sp t l (n + 1) := by
  unfold gp_sp
  rw [show l - n = (l - (n + 1)) + 1 by omega, gp_sq, if_pos h]
theorem gp_sp_e {t : Nat → Int} {l n : Nat} (h : ¬ (n < l ∧ t n = 32)) : gp_sp t l n = n := by
  unfold gp_sp
  cases l - n with
  | zero => rfl
  | succ f => rw [gp_sq, if_neg h]
theorem gp_sp_bd {t : Nat → Int} {l : Nat} : ∀ (j n : Nat), n + j = l → n ≤ gp_sp t l n ∧ gp_sp t l n ≤ l ∧ ¬ (gp_sp t l n < l ∧ t (gp_sp t l n) = 32)
  | 0, n, h => by
    have e : gp_sp t l n = n := gp_sp_e (by omega)
    rw [e]; exact ⟨Nat.le_refl n, by omega, by omega⟩
  | j + 1, n, h => by
    by_cases q : n < l ∧ t n = 32
    · have e := gp_sp_bd (t := t) (l := l) j (n + 1) (by omega)
      rw [← gp_sp_s q] at e
      exact ⟨by omega, e.2⟩
    · rw [gp_sp_e q]; exact ⟨Nat.le_refl n, by omega, q⟩
theorem gp_sp_le {t : Nat → Int} {l n : Nat} (h : n ≤ l) : n ≤ gp_sp t l n ∧ gp_sp t l n ≤ l := ⟨(gp_sp_bd (t := t) (l - n) n (by omega)).1, (gp_sp_bd (t := t) (l - n) n (by omega)).2.1⟩
/-- over digits -/
def gp_dq (t : Nat → Int) (l : Nat) : Nat → Nat → Nat
  | 0, n => n
  | f + 1, n => if n < l ∧ 48 ≤ t n ∧ t n ≤ 57 then gp_dq t l f (n + 1) else n
def gp_dg (t : Nat → Int) (l n : Nat) : Nat := gp_dq t l (l - n) n
theorem gp_dg_s {t : Nat → Int} {l n : Nat} (h : n < l ∧ 48 ≤ t n ∧ t n ≤ 57) : gp_dg t l n = gp_dg t l (n + 1) := by
  unfold gp_dg
  rw [show l - n = (l - (n + 1)) + 1 by omega, gp_dq, if_pos h]
theorem gp_dg_e {t : Nat → Int} {l n : Nat} (h : ¬ (n < l ∧ 48 ≤ t n ∧ t n ≤ 57)) : gp_dg t l n = n := by
  unfold gp_dg
  cases l - n with
  | zero => rfl
  | succ f => rw [gp_dq, if_neg h]
theorem gp_dg_bd {t : Nat → Int} {l : Nat} : ∀ (j n : Nat), n + j = l → n ≤ gp_dg t l n ∧ gp_dg t l n ≤ l
  | 0, n, h => by
    have e : gp_dg t l n = n := gp_dg_e (by omega)
    rw [e]; exact ⟨Nat.le_refl n, by omega⟩
  | j + 1, n, h => by
    by_cases q : n < l ∧ 48 ≤ t n ∧ t n ≤ 57
    · have e := gp_dg_bd (t := t) (l := l) j (n + 1) (by omega)
      rw [← gp_dg_s q] at e
      exact ⟨by omega, e.2⟩
    · rw [gp_dg_e q]; exact ⟨Nat.le_refl n, by omega⟩
theorem gp_dg_le {t : Nat → Int} {l n : Nat} (h : n ≤ l) : n ≤ gp_dg t l n ∧ gp_dg t l n ≤ l := gp_dg_bd (t := t) (l - n) n (by omega)
/-- the number that some digits write -/
def gp_nx (t : Nat → Int) (p : Nat) : Nat → Int
  | 0 => 0
  | k + 1 => 10 * gp_nx t p k + t (p + k) - 48
def gp_rd (t : Nat → Int) (l n : Nat) (lo hi : Int) : Bool × Nat × Int :=
  if gp_sp t l n < gp_dg t l (gp_sp t l n) ∧ (t (gp_sp t l n) ≠ 48 ∨ gp_dg t l (gp_sp t l n) = gp_sp t l n + 1) ∧ (lo ≤ gp_nx t (gp_sp t l n) (gp_dg t l (gp_sp t l n) - gp_sp t l n) ∧ gp_nx t (gp_sp t l n) (gp_dg t l (gp_sp t l n) - gp_sp t l n) ≤ hi)
  then (true, gp_dg t l (gp_sp t l n), gp_nx t (gp_sp t l n) (gp_dg t l (gp_sp t l n) - gp_sp t l n)) else (false, gp_sp t l n, 0)
theorem gp_rd_bd {t : Nat → Int} {l n : Nat} {lo hi : Int} (h : n ≤ l) : n ≤ (gp_rd t l n lo hi).2.1 ∧ (gp_rd t l n lo hi).2.1 ≤ l ∧ ((gp_rd t l n lo hi).1 = true → lo ≤ (gp_rd t l n lo hi).2.2 ∧ (gp_rd t l n lo hi).2.2 ≤ hi) := by
  have h1 := gp_sp_le (t := t) h
  have h2 := gp_dg_le (t := t) h1.2
  unfold gp_rd
  by_cases q : gp_sp t l n < gp_dg t l (gp_sp t l n) ∧ (t (gp_sp t l n) ≠ 48 ∨ gp_dg t l (gp_sp t l n) = gp_sp t l n + 1) ∧ (lo ≤ gp_nx t (gp_sp t l n) (gp_dg t l (gp_sp t l n) - gp_sp t l n) ∧ gp_nx t (gp_sp t l n) (gp_dg t l (gp_sp t l n) - gp_sp t l n) ≤ hi)
  · rw [if_pos q]; dsimp only; exact ⟨by omega, by omega, fun _ => q.2.2⟩
  · rw [if_neg q]; dsimp only; exact ⟨by omega, by omega, fun w => by cases w⟩
end MS
