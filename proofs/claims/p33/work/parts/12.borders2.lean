/-! Borders: zones, what is held, blending -/
theorem k_Borders_zones_0 {G : ga_G} {d : Nat} {I : ga_I} {E : Option ga_V → ga_I → Prop} {k : Nat} (hk : ga_isB k)
    (h : ga_RG I → (gb_ok I k) ∧ (E (some (.inl ((gp_zo (I (k + 1)) (I (k + 2)) 1000 (I k 0).toNat) + 1))) I)) :
    ga_W G (d + 1) mt_Borders_zones 0 (ga_en 1 [.inr k]) [] I E := by
  show ga_W G (d + 1) mt_Borders_zones 0 [some (.inr k)] [] I E
  refine gw_RG (fun hI1 => ?_)
  have h := h hI1
  refine gw_aload_n 0 d_Borders_zones_0 rfl rfl ?_
  refine gw_sipush d_Borders_zones_1 (by decide +kernel) ?_
  obtain ⟨g1, h⟩ := h
  refine gw_invV (as := [.inl 1000]) (k := k) (rest := []) (d' := d) d_Borders_zones_4 lk_Borders_35 (ga_rcv (hk.1) rfl rfl) rfl (Nat.le_of_ble_eq_true rfl) (Nat.le_of_ble_eq_true rfl) rfl rfl (s_Borders_zoneOf hk g1 ⟨by decide, by decide⟩ ?_)
  show ga_W G (d + 1) mt_Borders_zones 7 [some (.inr k)] [.inl (gp_zo (I (k + 1)) (I (k + 2)) 1000 (I k 0).toNat)] I E
  refine gw_iconst d_Borders_zones_7 ?_
  refine gw_iadd d_Borders_zones_8 ?_
  exact gw_ireturn d_Borders_zones_9 rfl h

section LC
variable {G : ga_G} {d : Nat} {I : ga_I} {E : Option ga_V → ga_I → Prop} {k : Nat}
theorem s_Borders_zones (hk : ga_isB k) (hok : gb_ok I k) (h : E (some (.inl (gp_zo (I (k + 1)) (I (k + 2)) 1000 (I k 0).toNat + 1))) I) : ga_W G (d + 1) mt_Borders_zones 0 (ga_en 1 [.inr k]) [] I E :=
  k_Borders_zones_0 hk (fun _ => ⟨hok, h⟩)
theorem gp_up_bd (p q r : Nat → Int) (z c : Int) : ∀ b : Nat, z ≤ gp_up p q r z c b ∧ gp_up p q r z c b ≤ z + b
  | 0 => ⟨Int.le_refl _, by show z ≤ z + ((0 : Nat) : Int); omega⟩
  | b + 1 => by
    have h := gp_up_bd p q r z c b
    unfold gp_up
    by_cases e : q b = 0 ∧ gp_ct (gp_sk q) b = gp_up p q r z c b ∧ p b + r b ≤ c
    · rw [if_pos e]; omega
    · rw [if_neg e]; omega
theorem gp_dn_bd (p q r : Nat → Int) (n : Nat) (a c : Int) : ∀ j : Nat, a - j ≤ gp_dn p q r n a c j ∧ gp_dn p q r n a c j ≤ a
  | 0 => ⟨by show a - ((0 : Nat) : Int) ≤ a; omega, Int.le_refl _⟩
  | j + 1 => by
    have h := gp_dn_bd p q r n a c j
    unfold gp_dn
    by_cases e : q (n - 1 - j) = 0 ∧ gp_ct (gp_sk q) (n - j) = gp_dn p q r n a c j ∧ c < p (n - 1 - j) - r (n - 1 - j)
    · rw [if_pos e]; omega
    · rw [if_neg e]; omega
theorem gp_up_T {p q r : Nat → Int} {z c : Int} {b : Nat} (e : q b = 0 ∧ gp_ct (gp_sk q) b = gp_up p q r z c b ∧ p b + r b ≤ c) : gp_up p q r z c (b + 1) = gp_up p q r z c b + 1 := if_pos e
theorem gp_up_F {p q r : Nat → Int} {z c : Int} {b : Nat} (e : ¬ (q b = 0 ∧ gp_ct (gp_sk q) b = gp_up p q r z c b ∧ p b + r b ≤ c)) : gp_up p q r z c (b + 1) = gp_up p q r z c b := if_neg e
theorem gp_dn_T {p q r : Nat → Int} {n j : Nat} {a c : Int} (e : q (n - 1 - j) = 0 ∧ gp_ct (gp_sk q) (n - j) = gp_dn p q r n a c j ∧ c < p (n - 1 - j) - r (n - 1 - j)) : gp_dn p q r n a c (j + 1) = gp_dn p q r n a c j - 1 := if_pos e
theorem gp_dn_F {p q r : Nat → Int} {n j : Nat} {a c : Int} (e : ¬ (q (n - 1 - j) = 0 ∧ gp_ct (gp_sk q) (n - j) = gp_dn p q r n a c j ∧ c < p (n - 1 - j) - r (n - 1 - j))) : gp_dn p q r n a c (j + 1) = gp_dn p q r n a c j := if_neg e
theorem gp_sk_T {q : Nat → Int} {b : Nat} (e : q b = 0) : gp_ct (gp_sk q) (b + 1) = gp_ct (gp_sk q) b + 1 := gp_ct_T (decide_eq_true e)
theorem gp_sk_F {q : Nat → Int} {b : Nat} (e : ¬ q b = 0) : gp_ct (gp_sk q) (b + 1) = gp_ct (gp_sk q) b := gp_ct_F (decide_eq_false e)
theorem l_Borders_zoneAfter2 (hk : ga_isB k) (hok : gb_ok I k) {c : Int} (hc : ga_rg c) {a : Int} (ha : -100 ≤ a ∧ a ≤ 100) {n : Nat} (hn : (n : Int) = I k 0) (h : E (some (.inl (gp_dn (I (k + 1)) (I (k + 2)) (I (k + 3)) n a c n))) I) : ∀ (m j : Nat), j + m = n → ga_W G d mt_Borders_zoneAfter 72 [some (.inr k), none, some (.inl c), some (.inl (gp_dn (I (k + 1)) (I (k + 2)) (I (k + 3)) n a c j)), some (.inl (gp_ct (gp_sk (I (k + 2))) (n - j))), some (.inl ((n : Int) - 1 - j))] [] I E := by
  have h6 := hok.2.1
  intro m
  induction m with
  | zero =>
    intro j hj
    have hd := gp_dn_bd (I (k + 1)) (I (k + 2)) (I (k + 3)) n a c j
    have ht := gp_ct_le (gp_sk (I (k + 2))) (n - j)
    refine k_Borders_zoneAfter_72 hk hc ⟨by omega, by omega⟩ ⟨by omega, by omega⟩ ⟨by omega, by omega⟩ (fun hI => ⟨fun h1 => ?_, fun h1 => by exfalso; omega⟩)
    rw [show j = n by omega]
    exact h
  | succ m ih =>
    intro j hj
    have e := ih (j + 1) (by omega)
    have hd := gp_dn_bd (I (k + 1)) (I (k + 2)) (I (k + 3)) n a c j
    have ht := gp_ct_le (gp_sk (I (k + 2))) (n - j)
    have hv := hok.2.2.1 (n - 1 - j) (by omega)
    have hix : ((n : Int) - 1 - j).toNat = n - 1 - j := by omega
    have hnj : n - j = (n - 1 - j) + 1 := by omega
    have hnj2 : n - (j + 1) = n - 1 - j := by omega
    have hix2 : (n : Int) - 1 - ((j + 1 : Nat) : Int) = (n : Int) - 1 - j + (-1) := by omega
    refine k_Borders_zoneAfter_72 hk hc ⟨by omega, by omega⟩ ⟨by omega, by omega⟩ ⟨by omega, by omega⟩ (fun hI => ⟨fun h1 => by exfalso; omega, fun h1 => ⟨by omega, by omega, fun h2 => ?_, fun h2 => ⟨fun h3 => ?_, fun h3 => ⟨?_, fun h4 => ?_, fun h4 => ?_⟩⟩⟩⟩) <;> simp only [hix] at *
    · refine gw_eq e ?_ rfl
      have h5 := gp_sk_F h2
      rw [← hnj] at h5
      rw [gp_dn_F (by omega), hnj2, hix2, h5]
    · refine gw_eq e ?_ rfl
      have h5 := gp_sk_T h2
      rw [← hnj] at h5
      rw [gp_dn_F (by omega), hnj2, hix2, show gp_ct (gp_sk (I (k + 2))) (n - 1 - j) = gp_ct (gp_sk (I (k + 2))) (n - j) + (-1) by omega]
    · constructor <;> omega
    · refine gw_eq e ?_ rfl
      have h5 := gp_sk_T h2
      rw [← hnj] at h5
      rw [gp_dn_F (by omega), hnj2, hix2, show gp_ct (gp_sk (I (k + 2))) (n - 1 - j) = gp_ct (gp_sk (I (k + 2))) (n - j) + (-1) by omega]
    · refine gw_eq e ?_ rfl
      have h5 := gp_sk_T h2
      rw [← hnj] at h5
      rw [gp_dn_T (by omega), hnj2, hix2, show gp_ct (gp_sk (I (k + 2))) (n - 1 - j) = gp_ct (gp_sk (I (k + 2))) (n - j) + (-1) by omega]
      rfl
end LC
