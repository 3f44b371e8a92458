/-! rows stay as they should be; load -/
section MV
theorem gp_dnr_lt {ax : Int} {hi : Nat} (hh : hi < 7) : ∀ m g : Nat, m ≤ hi → g < 49 → gp_dnr ax hi m g < 49
  | 0, g, _, hg => hg
  | m + 1, g, hm, hg => gp_dnr_lt hh m _ (by omega) (gp_sr_lt (by omega) g hg)
theorem gp_upr_lt {ax : Int} {lo : Nat} : ∀ m g : Nat, lo + m ≤ 7 → g < 49 → gp_upr ax lo m g < 49
  | 0, g, _, hg => hg
  | m + 1, g, hm, hg => gp_upr_lt m _ (by omega) (gp_sr_lt (by omega) g hg)
theorem ns_in_b {s : Nat → Int} {ax : Int} {c n : Nat} {x q r : Int} (ha : 0 ≤ ax ∧ ax ≤ 1) (hc : c ≤ n) (hn : n < 6) {b : Nat} (hb : b < 6) :
    ms_p (ns_in s ax c n x q r) ax b = gx_in (ms_p s ax) c n x b ∧ ms_q (ns_in s ax c n x q r) ax b = gx_in (ms_q s ax) c n q b ∧ ms_r (ns_in s ax c n x q r) ax b = gx_in (ms_r s ax) c n r b := by
  have one : ∀ (w : Nat) (z : Int), w < 3 → (w = 0 → z = x) → (w = 1 → z = q) → (w = 2 → z = r) → ns_in s ax c n x q r ((19 * ax).toNat + 1 + 3 * b + w) = gx_in (fun b => s ((19 * ax).toNat + 1 + 3 * b + w)) c n z b := fun w z hw h0 h1 h2 => by
    unfold ns_in gx_in
    rw [if_neg (by omega)]
    rcases (show b < c ∨ b = c ∨ c < b by omega) with e | e | e
    · rw [if_neg (by omega), if_neg (by omega), if_neg (by omega), if_neg (by omega), if_neg (by omega), if_pos e]
    · rw [if_neg (by omega : ¬ b < c), if_pos e]
      rcases (show w = 0 ∨ w = 1 ∨ w = 2 by omega) with u | u | u
      · rw [if_pos (by omega), h0 u]
      · rw [if_neg (by omega), if_pos (by omega), h1 u]
      · rw [if_neg (by omega), if_neg (by omega), if_pos (by omega), h2 u]
    · rw [if_neg (by omega), if_neg (by omega), if_neg (by omega)]
      by_cases u : b ≤ n
      · rw [if_pos (by omega), if_neg (by omega), if_neg (by omega), if_pos u]; congr 1; omega
      · rw [if_neg (by omega), if_neg (by omega), if_neg (by omega), if_neg (by omega), if_neg u]
  exact ⟨one 0 x (by omega) (fun _ => rfl) (fun h => by omega) (fun h => by omega), one 1 q (by omega) (fun h => by omega) (fun _ => rfl) (fun h => by omega), one 2 r (by omega) (fun h => by omega) (fun h => by omega) (fun _ => rfl)⟩
theorem ns_in_o {s : Nat → Int} {ax a : Int} {c n : Nat} {x q r : Int} (ha : 0 ≤ ax ∧ ax ≤ 1) (h2 : 0 ≤ a ∧ a ≤ 1) (hne : a ≠ ax) (hc : c ≤ n) (hn : n < 6) {j : Nat} (hj : (19 * a).toNat ≤ j ∧ j < (19 * a).toNat + 19) : ns_in s ax c n x q r j = s j := by
  unfold ns_in
  rw [if_neg (by omega), if_neg (by omega), if_neg (by omega), if_neg (by omega), if_neg (by omega), if_neg (by omega)]
theorem ns_in_hi {s : Nat → Int} {ax : Int} {c n : Nat} {x q r : Int} (ha : 0 ≤ ax ∧ ax ≤ 1) (hc : c ≤ n) (hn : n < 6) {j : Nat} (hj : 234 ≤ j) : ns_in s ax c n x q r j = s j := by
  unfold ns_in
  rw [if_neg (by omega), if_neg (by omega), if_neg (by omega), if_neg (by omega), if_neg (by omega), if_neg (by omega)]
theorem ns_in_g {s : Nat → Int} {ax : Int} {c n : Nat} {x q r : Int} (ha : 0 ≤ ax ∧ ax ≤ 1) (hc : c ≤ n) (hn : n < 6) {g i : Nat} (hg : g < 49) (hi : i < 4) : ns_in s ax c n x q r (38 + 4 * g + i) = s (38 + 4 * gp_dnr ax (n + 1) (n + 1 - c) g + i) := by
  unfold ns_in
  rw [if_neg (by omega), if_neg (by omega), if_neg (by omega), if_neg (by omega), if_neg (by omega), if_pos (by omega), show (38 + 4 * g + i - 38) / 4 = g by omega, show (38 + 4 * g + i - 38) % 4 = i by omega]
theorem ni_t_in {s : Nat → Int} {ax x k r : Int} (h : ni_t s) (ha : 0 ≤ ax ∧ ax ≤ 1) (hx : 1 ≤ x ∧ x ≤ 999) (hk : k = 0 ∨ k = 1) (hr : r ≤ 100) (hc : gp_bc s ax x r k) : ni_t (gp_bi s ax x r k) := by
  have hok := ni_axs h ha
  have h0 : 0 ≤ ms_n s ax := hok.1
  have h6 : ms_n s ax ≤ 6 := hok.2.1
  have hn : ms_n s ax < 6 := by have := hc.2.2.2; omega
  have hb := gp_st_bd (ms_p s ax) x (ms_n s ax).toNat
  have okn := gp_ok_in hok hn hx hk ⟨hc.1, hr⟩ hc.2.1 hc.2.2.1 (by decide)
  have A1 : ni_ok (gp_bi s ax x r k) ax := by
    refine gp_ok_of okn ?_ (fun j hj => ?_)
    · unfold gp_bi; rw [ns_in_n ha ha (by omega) (by omega), if_pos rfl]
    · exact ns_in_b ha (by omega) (by omega) hj
  have A2 : ∀ a, 0 ≤ a ∧ a ≤ 1 → a ≠ ax → ni_ok (gp_bi s ax x r k) a := fun a h2 hne => by
    refine gp_ok_of (ni_axs h h2) ?_ (fun j hj => ⟨?_, ?_, ?_⟩)
    · exact ns_in_o ha h2 hne (by omega) (by omega) (by omega)
    · exact ns_in_o ha h2 hne (by omega) (by omega) (by omega)
    · exact ns_in_o ha h2 hne (by omega) (by omega) (by omega)
    · exact ns_in_o ha h2 hne (by omega) (by omega) (by omega)
  have A3 : ∀ a, 0 ≤ a ∧ a ≤ 1 → ni_ok (gp_bi s ax x r k) a := fun a h2 => by
    by_cases e : a = ax
    · rw [e]; exact A1
    · exact A2 a h2 e
  refine ⟨A3 0 (by omega), A3 1 (by omega), fun g i hg hi => ?_, fun g hg => ?_⟩
  · unfold gp_bi
    rw [ns_in_g ha (by omega) (by omega) hg (by omega)]
    exact h.2.2.1 _ i (gp_dnr_lt (by omega) _ g (by omega) hg) hi
  · unfold gp_bi
    rw [ns_in_g ha (by omega) (by omega) hg (by omega)]
    exact h.2.2.2 _ (gp_dnr_lt (by omega) _ g (by omega) hg)
theorem ni_t_up {s : Nat → Int} {g i : Nat} {z : Int} (h : ni_t s) (hg : g < 49) (hi : i < 3) (hz : 0 ≤ z ∧ z ≤ 9999) : ni_t (ns_up s (38 + 4 * g + i) z) := by
  have u : ∀ ax, 0 ≤ ax ∧ ax ≤ 1 → ni_ok (ns_up s (38 + 4 * g + i) z) ax := fun ax ha => by
    refine gp_ok_of (ni_axs h ha) (ns_up_ne (by omega)) (fun j hj => ⟨ns_up_ne (by omega), ns_up_ne (by omega), ns_up_ne (by omega)⟩)
  refine ⟨u 0 (by omega), u 1 (by omega), fun g' i' hg' hi' => ?_, fun g' hg' => ?_⟩
  · by_cases q : g' = g ∧ i' = i
    · rw [q.1, q.2, ns_up_at]; exact hz
    · rw [ns_up_ne (by omega)]; exact h.2.2.1 g' i' hg' hi'
  · rw [ns_up_ne (by omega)]; exact h.2.2.2 g' hg'
def pr_ok (s : Nat → Int) (l p : Nat) (R : Bool × Nat × (Nat → Int)) : Prop := ni_t R.2.2 ∧ (∀ j, 234 ≤ j → R.2.2 j = s j) ∧ R.2.1 ≤ l ∧ (R.1 = true → p < R.2.1) ∧ (R.1 = false → R.2.2 = R.2.2)
theorem pr_ok_be {t : Nat → Int} {l : Nat} {s : Nat → Int} {ax x r k : Int} {p n : Nat} (h : ni_t s) (ha : 0 ≤ ax ∧ ax ≤ 1) (hp : p < l) (hx : 1 ≤ x ∧ x ≤ 999) (hk : k = 0 ∨ k = 1) (hr : 0 ≤ r ∧ r ≤ 100) (hn : p < n ∧ n ≤ l) : pr_ok s l p (gp_be t l s ax p x r k n) := by
  have b := gp_sp_le (t := t) hn.2
  have n6 := ni_n h ha
  have hb := gp_st_bd (ms_p s ax) x (ms_n s ax).toNat
  unfold gp_be
  by_cases q : ¬ gt_ok t l (gp_sp t l n) 59
  · rw [if_pos q]; exact ⟨h, fun j _ => rfl, b.2, fun w => by (cases w), fun _ => rfl⟩
  · rw [if_neg q]
    have q1 := (Decidable.not_not.mp q).1
    by_cases q2 : gp_bc s ax x r k
    · rw [if_pos q2]
      have q3 := q2.2.2.2
      exact ⟨ni_t_in h ha hx hk hr.2 q2, fun j hj => ns_in_hi ha (by omega) (by omega) hj, q1, fun _ => (by show p < gp_sp t l n + 1; omega), fun _ => rfl⟩
    · rw [if_neg q2]; exact ⟨h, fun j _ => rfl, by show p ≤ l; omega, fun w => by (cases w), fun _ => rfl⟩
theorem pr_ok_bd {t : Nat → Int} {l : Nat} {s : Nat → Int} {ax : Int} {p : Nat} (h : ni_t s) (ha : 0 ≤ ax ∧ ax ≤ 1) (hp : p < l) : pr_ok s l p (gp_bd t l s ax p) := by
  have B1 := gp_rd_bd (t := t) (l := l) (n := p + 1) (lo := 1) (hi := 999) (by omega)
  unfold gp_bd
  generalize gp_rd t l (p + 1) 1 999 = R1 at *
  unfold gp_b1
  by_cases q1 : R1.1 = true
  · rw [if_pos q1]
    have B2 := gp_rd_bd (t := t) (l := l) (n := R1.2.1) (lo := 0) (hi := 100) B1.2.1
    generalize gp_rd t l R1.2.1 0 100 = R2 at *
    unfold gp_b2
    by_cases q2 : R2.1 = true
    · rw [if_pos q2]
      have b := gp_sp_le (t := t) B2.2.1
      have c1 := B1.2.2 q1
      have c2 := B2.2.2 q2
      unfold gp_bk
      by_cases q3 : gt_ok t l (gp_sp t l R2.2.1) 126
      · rw [if_pos q3]; exact pr_ok_be h ha hp c1 (Or.inr rfl) c2 ⟨by omega, q3.1⟩
      · rw [if_neg q3]; exact pr_ok_be h ha hp c1 (Or.inl rfl) c2 ⟨by omega, by omega⟩
    · rw [if_neg q2]; exact ⟨h, fun j _ => rfl, B2.2.1, fun w => by (cases w), fun _ => rfl⟩
  · rw [if_neg q1]; exact ⟨h, fun j _ => rfl, B1.2.1, fun w => by (cases w), fun _ => rfl⟩
theorem pr_ok_gd {t : Nat → Int} {l : Nat} {s : Nat → Int} {p : Nat} (h : ni_t s) (hp : p < l) : pr_ok s l p (gp_gd t l s (p + 1)) := by
  have n0 := ni_n h (ax := 0) (by omega)
  have n1 := ni_n h (ax := 1) (by omega)
  have B1 := gp_rd_bd (t := t) (l := l) (n := p + 1) (lo := 0) (hi := ms_n s 0) (by omega)
  unfold gp_gd
  generalize gp_rd t l (p + 1) 0 (ms_n s 0) = R1 at *
  unfold gp_h2
  by_cases q1 : R1.1 = true
  · rw [if_pos q1]
    have B2 := gp_rd_bd (t := t) (l := l) (n := R1.2.1) (lo := 0) (hi := ms_n s 1) B1.2.1
    generalize gp_rd t l R1.2.1 0 (ms_n s 1) = R2 at *
    unfold gp_h3
    by_cases q2 : R2.1 = true
    · rw [if_pos q2]
      have B3 := gp_rd_bd (t := t) (l := l) (n := R2.2.1) (lo := 0) (hi := 2) B2.2.1
      generalize gp_rd t l R2.2.1 0 2 = R3 at *
      unfold gp_h4
      by_cases q3 : R3.1 = true
      · rw [if_pos q3]
        have B4 := gp_rd_bd (t := t) (l := l) (n := R3.2.1) (lo := 0) (hi := 9999) B3.2.1
        generalize gp_rd t l R3.2.1 0 9999 = R4 at *
        unfold gp_h5
        by_cases q4 : R4.1 = true
        · rw [if_pos q4]
          have b := gp_sp_le (t := t) B4.2.1
          have c1 := B1.2.2 q1
          have c2 := B2.2.2 q2
          have c3 := B3.2.2 q3
          have c4 := B4.2.2 q4
          by_cases q5 : gt_ok t l (gp_sp t l R4.2.1) 59
          · rw [if_pos q5]
            refine ⟨?_, fun j hj => ?_, q5.1, fun _ => (by show p < gp_sp t l R4.2.1 + 1; omega), fun _ => rfl⟩
            · show ni_t (ns_up s (38 + 4 * (7 * R1.2.2 + R2.2.2) + R3.2.2).toNat R4.2.2)
              rw [show (38 + 4 * (7 * R1.2.2 + R2.2.2) + R3.2.2).toNat = 38 + 4 * (7 * R1.2.2 + R2.2.2).toNat + R3.2.2.toNat by omega]
              exact ni_t_up h (by omega) (by omega) c4
            · exact ns_up_ne (by omega)
          · rw [if_neg q5]; exact ⟨h, fun j _ => rfl, b.2, fun w => by (cases w), fun _ => rfl⟩
        · rw [if_neg q4]; exact ⟨h, fun j _ => rfl, B4.2.1, fun w => by (cases w), fun _ => rfl⟩
      · rw [if_neg q3]; exact ⟨h, fun j _ => rfl, B3.2.1, fun w => by (cases w), fun _ => rfl⟩
    · rw [if_neg q2]; exact ⟨h, fun j _ => rfl, B2.2.1, fun w => by (cases w), fun _ => rfl⟩
  · rw [if_neg q1]; exact ⟨h, fun j _ => rfl, B1.2.1, fun w => by (cases w), fun _ => rfl⟩
theorem pr_ok_it {t : Nat → Int} {l : Nat} {s : Nat → Int} {p : Nat} (h : ni_t s) (hp : p < l) : pr_ok s l p (gp_it t l s p) := by
  unfold gp_it
  by_cases q1 : t p = 120
  · rw [if_pos q1]; exact pr_ok_bd h (by omega) hp
  · rw [if_neg q1]
    by_cases q2 : t p = 121
    · rw [if_pos q2]; exact pr_ok_bd h (by omega) hp
    · rw [if_neg q2]
      by_cases q3 : t p = 103
      · rw [if_pos q3]; exact pr_ok_gd h hp
      · rw [if_neg q3]; exact ⟨h, fun j _ => rfl, by show p ≤ l; omega, fun w => by (cases w), fun _ => rfl⟩
/-- items read until the end, or until one is wrong -/
def gp_ld (t : Nat → Int) (l : Nat) : Nat → Nat → (Nat → Int) → Int → Bool × Nat × (Nat → Int) × Int
  | 0, n, s, k => (true, n, s, k)
  | f + 1, n, s, k => if gp_sp t l n < l then (if (gp_it t l s (gp_sp t l n)).1 = true then gp_ld t l f (gp_it t l s (gp_sp t l n)).2.1 (gp_it t l s (gp_sp t l n)).2.2 (k + 1) else (false, (gp_it t l s (gp_sp t l n)).2.1, (gp_it t l s (gp_sp t l n)).2.2, k + 1)) else (true, n, s, k)
theorem gp_ld_ok {t : Nat → Int} {l : Nat} : ∀ (f n : Nat) (s : Nat → Int) (k : Int), ni_t s → n ≤ l → ni_t (gp_ld t l f n s k).2.2.1 ∧ (∀ j, 234 ≤ j → (gp_ld t l f n s k).2.2.1 j = s j) ∧ (gp_ld t l f n s k).2.1 ≤ l
  | 0, n, s, k, h, hn => ⟨h, fun j _ => rfl, hn⟩
  | f + 1, n, s, k, h, hn => by
    have b := gp_sp_le (t := t) hn
    unfold gp_ld
    by_cases q1 : gp_sp t l n < l
    · rw [if_pos q1]
      obtain ⟨u1, u2, u3, u4, -⟩ := pr_ok_it (t := t) h q1
      by_cases q2 : (gp_it t l s (gp_sp t l n)).1 = true
      · rw [if_pos q2]
        obtain ⟨w1, w2, w3⟩ := gp_ld_ok f (gp_it t l s (gp_sp t l n)).2.1 (gp_it t l s (gp_sp t l n)).2.2 (k + 1) u1 u3
        exact ⟨w1, fun j hj => (w2 j hj).trans (u2 j hj), w3⟩
      · rw [if_neg q2]; exact ⟨u1, u2, u3⟩
    · rw [if_neg q1]; exact ⟨h, fun j _ => rfl, hn⟩
def ns_em (s : Nat → Int) : Nat → Int := ns_cl (ns_up (ns_up s 0 0) 19 0) 49 0
theorem ns_em_o {s : Nat → Int} {j : Nat} (h : 234 ≤ j) : ns_em s j = s j := by
  unfold ns_em ns_cl
  rw [if_neg (by omega), ns_up_ne (by omega), ns_up_ne (by omega)]
theorem ni_em (s : Nat → Int) : ni_t (ns_em s) := by
  have e0 : ms_n (ns_em s) 0 = 0 := by
    show ns_em s 0 = 0
    unfold ns_em ns_cl
    rw [if_neg (by omega), ns_up_ne (by omega), ns_up_at]
  have e1 : ms_n (ns_em s) 1 = 0 := by
    show ns_em s 19 = 0
    unfold ns_em ns_cl
    rw [if_neg (by omega), ns_up_at]
  have z : ∀ (n : Int) (p q r : Nat → Int), n = 0 → gp_ok n p q r := fun n p q r hn => ⟨by omega, by omega, fun b hb => by exfalso; omega, fun b hb => by exfalso; omega⟩
  have v : ∀ g i : Nat, g < 49 → i < 4 → ns_em s (38 + 4 * g + i) = ns_c3 i := fun g i hg hi => by
    unfold ns_em ns_cl
    rw [if_pos (by omega)]; congr 1; omega
  refine ⟨z _ _ _ _ e0, z _ _ _ _ e1, fun g i hg hi => ?_, fun g hg => ?_⟩
  · rw [v g i hg (by omega)]; unfold ns_c3; rw [if_neg (by omega)]; omega
  · rw [v g 3 hg (by omega)]; unfold ns_c3; rw [if_pos rfl]; omega
def na_ld (A : na_A) : Bool × Nat × (Nat → Int) × Int := gp_ld A.2.2.2.1 A.2.2.2.2.toNat (A.2.2.2.2.toNat + 1) 0 (ns_em A.1) 0
def no_load (A : na_A) : na_A × Int :=
  if (na_ld A).1 = true then ((ns_st (na_ld A).2.2.1 (ns_tt A.1), ac_v A.2.1 A.1 A.2.2.1, min (A.2.2.1 + 1) 5, A.2.2.2.1, 0), (na_ld A).2.2.2)
  else (A, -2000001000 - ((na_ld A).2.1 : Int))
end MV
section MV
variable {G : ga_G} {d : Nat} {I : ga_I} {E : Option ga_V → ga_I → Prop}
end MV
