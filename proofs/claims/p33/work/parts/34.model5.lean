/-! values of gains, of both sides; the reference's -/
section ME
/-- what an axis blends is in its range -/
def gp_vk (v : Int × Int × Int × Int) : Prop := (0 ≤ v.1 ∧ v.1 ≤ 6) ∧ (0 ≤ v.2.1 ∧ v.2.1 ≤ 6) ∧ (0 ≤ v.2.2.1 ∧ v.2.2.1 ≤ v.2.2.2) ∧ (1 ≤ v.2.2.2 ∧ v.2.2.2 ≤ 200)
theorem gp_fi_k {p q r : Nat → Int} {n : Int} (h : gp_ok n p q r) {z c : Int} (hc : 0 ≤ c ∧ c ≤ 1000) : gp_vk (gp_fi p q r n.toNat z c) := by
  have h0 := h.1
  have h6 := h.2.1
  have hu := gp_hd_bd (q := q) (z := z) (fun b hb => ⟨(h.2.2.1 b hb).1, (h.2.2.1 b hb).2.1⟩) hc n.toNat (by omega)
  have hs := gp_st_bd p (gp_hd p q z c n.toNat) n.toNat
  have hb := gp_ff_bd (fun b => decide (q b = 1 ∧ p b - r b ≤ gp_hd p q z c n.toNat ∧ gp_hd p q z c n.toNat ≤ p b + r b)) n.toNat
  unfold gp_fi
  by_cases e : gp_bl p q r (gp_hd p q z c n.toNat) n.toNat = -1
  · rw [if_pos e]
    refine ⟨⟨hs.1, ?_⟩, ⟨hs.1, ?_⟩, ⟨?_, ?_⟩, ⟨?_, ?_⟩⟩ <;> dsimp only <;> omega
  · rw [if_neg e]
    rcases hb with hb | ⟨b1, b2, b3⟩
    · exact absurd hb e
    · have b4 := of_decide_eq_true b3
      change 0 ≤ gp_bl p q r (gp_hd p q z c n.toNat) n.toNat at b1
      change gp_bl p q r (gp_hd p q z c n.toNat) n.toNat < _ at b2
      change q (gp_bl p q r (gp_hd p q z c n.toNat) n.toNat).toNat = 1 ∧ p (gp_bl p q r (gp_hd p q z c n.toNat) n.toNat).toNat - r (gp_bl p q r (gp_hd p q z c n.toNat) n.toNat).toNat ≤ _ ∧ _ ≤ p (gp_bl p q r (gp_hd p q z c n.toNat) n.toNat).toNat + r (gp_bl p q r (gp_hd p q z c n.toNat) n.toNat).toNat at b4
      have hv := h.2.2.1 (gp_bl p q r (gp_hd p q z c n.toNat) n.toNat).toNat (by omega)
      refine ⟨⟨b1, ?_⟩, ⟨?_, ?_⟩, ⟨?_, ?_⟩, ⟨?_, ?_⟩⟩ <;> dsimp only <;> omega
/-- a numerator -/
def gp_nu (v w : Int × Int × Int × Int) (g : Int → Int → Int) : Int := (v.2.2.2 - v.2.2.1) * (w.2.2.2 - w.2.2.1) * g v.1 w.1 + v.2.2.1 * (w.2.2.2 - w.2.2.1) * g v.2.1 w.1 + (v.2.2.2 - v.2.2.1) * w.2.2.1 * g v.1 w.2.1 + v.2.2.1 * w.2.2.1 * g v.2.1 w.2.1
def gp_va (v w : Int × Int × Int × Int) (g : Int → Int → Int) : Int := Int.tdiv (gp_nu v w g) (v.2.2.2 * w.2.2.2)
theorem gp_w_le {w g : Int} (hw : 0 ≤ w) (hg : 0 ≤ g ∧ g ≤ 9999) : 0 ≤ w * g ∧ w * g ≤ w * 9999 := ⟨Int.mul_nonneg hw hg.1, Int.mul_le_mul_of_nonneg_left hg.2 hw⟩
theorem gp_nu_bd {v w : Int × Int × Int × Int} {g : Int → Int → Int} (hv : gp_vk v) (hw : gp_vk w) (hg : ∀ a b, 0 ≤ a → a ≤ 6 → 0 ≤ b → b ≤ 6 → 0 ≤ g a b ∧ g a b ≤ 9999) : 0 ≤ gp_nu v w g ∧ gp_nu v w g ≤ v.2.2.2 * w.2.2.2 * 9999 ∧ (1 ≤ v.2.2.2 * w.2.2.2 ∧ v.2.2.2 * w.2.2.2 ≤ 40000) := by
  obtain ⟨v1, v2, v3, v4⟩ := hv
  obtain ⟨w1, w2, w3, w4⟩ := hw
  have t1 := gp_w_le (Int.mul_nonneg (show 0 ≤ v.2.2.2 - v.2.2.1 by omega) (show 0 ≤ w.2.2.2 - w.2.2.1 by omega)) (hg v.1 w.1 v1.1 v1.2 w1.1 w1.2)
  have t2 := gp_w_le (Int.mul_nonneg v3.1 (show 0 ≤ w.2.2.2 - w.2.2.1 by omega)) (hg v.2.1 w.1 v2.1 v2.2 w1.1 w1.2)
  have t3 := gp_w_le (Int.mul_nonneg (show 0 ≤ v.2.2.2 - v.2.2.1 by omega) w3.1) (hg v.1 w.2.1 v1.1 v1.2 w2.1 w2.2)
  have t4 := gp_w_le (Int.mul_nonneg v3.1 w3.1) (hg v.2.1 w.2.1 v2.1 v2.2 w2.1 w2.2)
  have hs : (v.2.2.2 - v.2.2.1) * (w.2.2.2 - w.2.2.1) + v.2.2.1 * (w.2.2.2 - w.2.2.1) + (v.2.2.2 - v.2.2.1) * w.2.2.1 + v.2.2.1 * w.2.2.1 = v.2.2.2 * w.2.2.2 := by
    rw [Int.sub_mul, Int.mul_sub, Int.mul_sub, Int.sub_mul]
    omega
  have m1 : v.2.2.2 * w.2.2.2 ≤ 200 * 200 := Int.mul_le_mul v4.2 w4.2 (by omega) (by omega)
  have m2 : 1 * 1 ≤ v.2.2.2 * w.2.2.2 := Int.mul_le_mul v4.1 w4.1 (by omega) (by omega)
  unfold gp_nu
  omega
theorem gp_va_bd {v w : Int × Int × Int × Int} {g : Int → Int → Int} (hv : gp_vk v) (hw : gp_vk w) (hg : ∀ a b, 0 ≤ a → a ≤ 6 → 0 ≤ b → b ≤ 6 → 0 ≤ g a b ∧ g a b ≤ 9999) : 0 ≤ gp_va v w g ∧ gp_va v w g ≤ 9999 := by
  obtain ⟨h1, h2, h3⟩ := gp_nu_bd hv hw hg
  unfold gp_va
  rw [Int.tdiv_eq_ediv_of_nonneg h1]
  exact ⟨Int.ediv_nonneg h1 (by omega), Int.le_of_lt_add_one (Int.ediv_lt_of_lt_mul (by omega) (by
    rw [Int.mul_comm]
    omega))⟩
-- the reference
def mp_f (s : Nat → Int) (ax z c : Int) : Int × Int × Int × Int := gp_fi (ms_p s ax) (ms_q s ax) (ms_r s ax) (ms_n s ax).toNat z c
/-- the point lies on the axes, the zones are some -/
def mo_pz (I : ga_I) : Prop := (0 ≤ I 349 234 ∧ I 349 234 ≤ 1000) ∧ (0 ≤ I 349 235 ∧ I 349 235 ≤ 1000) ∧ (0 ≤ I 349 236 ∧ I 349 236 ≤ 10) ∧ (0 ≤ I 349 237 ∧ I 349 237 ≤ 10)
def mo_g (I : ga_I) : Prop := ∀ g i : Nat, g < 49 → i < 3 → 0 ≤ I 349 (38 + 4 * g + i) ∧ I 349 (38 + 4 * g + i) ≤ 9999
end ME
section MF
variable {G : ga_G} {d : Nat} {I : ga_I} {E : Option ga_V → ga_I → Prop}
theorem mo_n_of (h0 : mo_ok I 0) (h1 : mo_ok I 1) : mo_n I := ⟨⟨h0.1, h0.2.1⟩, h1.1, h1.2.1⟩
theorem mo_g_f {g : Int} (hg : 0 ≤ g ∧ g ≤ 2) (h : mo_g I) : ∀ a b : Int, 0 ≤ a → a ≤ 6 → 0 ≤ b → b ≤ 6 → 0 ≤ I 349 (38 + 4 * (7 * a + b) + g).toNat ∧ I 349 (38 + 4 * (7 * a + b) + g).toNat ≤ 9999 := fun a b h1 h2 h3 h4 => by
  rw [show (38 + 4 * (7 * a + b) + g).toNat = 38 + 4 * (7 * a + b).toNat + g.toNat by omega]
  exact h _ _ (by omega) (by omega)
end MF
section MF
variable {G : ga_G} {d : Nat} {I : ga_I} {E : Option ga_V → ga_I → Prop}
end MF