/-! the reference: moves' parts, edits -/
section MG
variable {G : ga_G} {d : Nat} {I : ga_I} {E : Option ga_V → ga_I → Prop}
/-- the value of a gain at a place in zones -/
def mp_va (s : Nat → Int) (g z0 c0 z1 c1 : Int) : Int := gp_va (mp_f s 0 z0 c0) (mp_f s 1 z1 c1) (fun c r => s (38 + 4 * (7 * c + r) + g).toNat)
def mp_pv (s : Nat → Int) (g : Int) : Int := mp_va s g (s 236) (s 234) (s 237) (s 235)
theorem mp_f_k {ax z c : Int} (h : mo_ok I ax) (hc : 0 ≤ c ∧ c ≤ 1000) : gp_vk (mp_f (I 349) ax z c) := gp_fi_k h hc
theorem mp_va_bd {g z0 c0 z1 c1 : Int} (h0 : mo_ok I 0) (h1 : mo_ok I 1) (hc0 : 0 ≤ c0 ∧ c0 ≤ 1000) (hc1 : 0 ≤ c1 ∧ c1 ≤ 1000) (hg : 0 ≤ g ∧ g ≤ 2) (hm : mo_g I) : 0 ≤ mp_va (I 349) g z0 c0 z1 c1 ∧ mp_va (I 349) g z0 c0 z1 c1 ≤ 9999 := gp_va_bd (mp_f_k h0 hc0) (mp_f_k h1 hc1) (mo_g_f hg hm)
theorem mp_pv_bd {g : Int} (h0 : mo_ok I 0) (h1 : mo_ok I 1) (hz : mo_pz I) (hg : 0 ≤ g ∧ g ≤ 2) (hm : mo_g I) : 0 ≤ mp_pv (I 349) g ∧ mp_pv (I 349) g ≤ 9999 := mp_va_bd h0 h1 hz.1 hz.2.1 hg hm
def gp_j3 (a b c : Int) : Int := max (max (max 0 a) b) c
def mp_ra (lock g step budget op z : Int) : Int := if lock ≠ -1 ∧ lock ≠ op then 1 else if step < ((g - z).natAbs : Int) then 2 else if budget < ((g - z).natAbs : Int) then 3 else 0
end MG
section MH
variable {G : ga_G} {d : Nat} {I : ga_I} {E : Option ga_V → ga_I → Prop}
/-- the zones are zones -/
def mo_zn (I : ga_I) : Prop := (0 ≤ I 349 236 ∧ I 349 236 ≤ gp_ct (gp_sk (ms_q (I 349) 0)) (ms_n (I 349) 0).toNat) ∧ (0 ≤ I 349 237 ∧ I 349 237 ≤ gp_ct (gp_sk (ms_q (I 349) 1)) (ms_n (I 349) 1).toNat)
def mp_zb (s : Nat → Int) (ax z c : Int) : Int := gp_za (ms_p s ax) (ms_q s ax) (ms_r s ax) (ms_n s ax).toNat z c
theorem gp_up_cong {p q r p' q' r' : Nat → Int} {z c : Int} : ∀ {n : Nat}, (∀ b, b < n → p' b = p b ∧ q' b = q b ∧ r' b = r b) → gp_up p' q' r' z c n = gp_up p q r z c n
  | 0, _ => rfl
  | n + 1, h => by
    obtain ⟨h1, h2, h3⟩ := h n (by omega)
    have e : gp_ct (gp_sk q') n = gp_ct (gp_sk q) n := gp_ct_cong (fun b hb => by unfold gp_sk; rw [(h b (by omega)).2.1])
    unfold gp_up
    rw [h1, h2, h3, e, gp_up_cong (n := n) (fun b hb => h b (by omega))]
theorem gp_dn_cong {p q r p' q' r' : Nat → Int} {n : Nat} {a c : Int} (h : ∀ b, b < n → p' b = p b ∧ q' b = q b ∧ r' b = r b) : ∀ {j : Nat}, j ≤ n → gp_dn p' q' r' n a c j = gp_dn p q r n a c j
  | 0, _ => rfl
  | j + 1, hj => by
    obtain ⟨h1, h2, h3⟩ := h (n - 1 - j) (by omega)
    have e : gp_ct (gp_sk q') (n - j) = gp_ct (gp_sk q) (n - j) := gp_ct_cong (fun b hb => by unfold gp_sk; rw [(h b (by omega)).2.1])
    unfold gp_dn
    rw [h1, h2, h3, e, gp_dn_cong h (j := j) (by omega)]
theorem gp_za_cong {p q r p' q' r' : Nat → Int} {n : Nat} {z c : Int} (h : ∀ b, b < n → p' b = p b ∧ q' b = q b ∧ r' b = r b) : gp_za p' q' r' n z c = gp_za p q r n z c := by
  unfold gp_za
  rw [gp_up_cong h, gp_dn_cong h (Nat.le_refl n)]
theorem ms_up4 {I J : ga_I} (hJ : ∀ j, j < 38 → J 349 j = I 349 j) {ax : Int} (ha : 0 ≤ ax ∧ ax ≤ 1) : ms_n (J 349) ax = ms_n (I 349) ax ∧ ∀ b, b < 6 → ms_p (J 349) ax b = ms_p (I 349) ax b ∧ ms_q (J 349) ax b = ms_q (I 349) ax b ∧ ms_r (J 349) ax b = ms_r (I 349) ax b :=
  ⟨hJ _ (by omega), fun b hb => ⟨hJ _ (by omega), hJ _ (by omega), hJ _ (by omega)⟩⟩
theorem gp_sk_cong {q q' : Nat → Int} {n : Nat} (h : ∀ b, b < n → q' b = q b) : gp_ct (gp_sk q') n = gp_ct (gp_sk q) n := gp_ct_cong (fun b hb => by unfold gp_sk; rw [h b hb])
theorem mo_ct_of {I J : ga_I} (hJ : ∀ j, j < 38 → J 349 j = I 349 j) {ax : Int} (ha : 0 ≤ ax ∧ ax ≤ 1) (h : mo_ok I ax) : gp_ct (gp_sk (ms_q (J 349) ax)) (ms_n (J 349) ax).toNat = gp_ct (gp_sk (ms_q (I 349) ax)) (ms_n (I 349) ax).toNat := by
  have u := ms_up4 hJ ha
  have h6 := h.2.1
  rw [u.1]
  exact gp_sk_cong (fun b hb => (u.2 b (by omega)).2.1)
end MH
