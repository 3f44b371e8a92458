/-! rows stay as they should be; load -/
section MV
theorem gp_dnr_lt {ax : Int} {hi : Nat} (hh : hi < 7) : ∀ m g : Nat, m ≤ hi → g < 49 → gp_dnr ax hi m g < 49
  | 0, g, _, hg => hg
  | m + 1, g, hm, hg => gp_dnr_lt hh m _ (by omega) (gp_sr_lt (by omega) g hg)
theorem gp_upr_lt {ax : Int} {lo : Nat} : ∀ m g : Nat, lo + m ≤ 7 → g < 49 → gp_upr ax lo m g < 49
  | 0, g, _, hg => hg
  | m + 1, g, hm, hg => gp_upr_lt m _ (by omega) (gp_sr_lt (by omega) g hg)
theorem ns_in_b {s : Nat → Int} {ax : Int} {c n : Nat} {x q r : Int} (ha : 0 ≤ ax ∧ ax ≤ 1) (hc : c ≤ n) (hn : n < 6) {b : Nat} (hb : b < 6) :
    ms_p (ns_in s ax c n x q r) ax b = gx_in (ms_p s ax) c n x b ∧ ms_q (ns_in s ax c n x q r) ax b = gx_in (ms_q s ax) c n q b ∧ ms_r (ns_in s ax c n x q r) ax b = gx_in (ms_r s ax) c n r b := by
  have one : ∀ (w : Nat) (z : Int), w < 3 → (w = 0 → z = x) → (w = 1 → z = q) → (w = 2 → z = r) → ns_in s ax c n x q r ((19 * ax).toNat + 1 + 3 * b + w) = gx_in (fun b => s ((19 * ax).toNat + 1 + 3 * b + w)) c n z b := fun w z hw h0 h1 h2 => by
    unfold ns_in gx_in
    rw [if_neg (by omega)]
    rcases (show b < c ∨ b = c ∨ c < b by omega) with e | e | e
    · rw [if_neg (by omega), if_neg (by omega), if_neg (by omega), if_neg (by omega), if_neg (by omega), if_pos e]
    · rw [if_neg (by omega : ¬ b < c), if_pos e]
      rcases (show w = 0 ∨ w = 1 ∨ w = 2 by omega) with u | u | u
      · rw [if_pos (by omega), h0 u]
      · rw [if_neg (by omega), if_pos (by omega), h1 u]
      · rw [if_neg (by omega), if_neg (by omega), if_pos (by omega), h2 u]
    · rw [if_neg (by omega), if_neg (by omega), if_neg (by omega)]
      by_cases u : b ≤ n
      · rw [if_pos (by omega), if_neg (by omega), if_neg (by omega), if_pos u]; congr 1; omega
      · rw [if_neg (by omega), if_neg (by omega), if_neg (by omega), if_neg (by omega), if_neg u]
  exact ⟨one 0 x (by omega) (fun _ => rfl) (fun h => by omega) (fun h => by omega), one 1 q (by omega) (fun h => by omega) (fun _ => rfl) (fun h => by omega), one 2 r (by omega) (fun h => by omega) (fun h => by omega) (fun _ => rfl)⟩
theorem ns_in_o {s : Nat → Int} {ax a : Int} {c n : Nat} {x q r : Int} (ha : 0 ≤ ax ∧ ax ≤ 1) (h2 : 0 ≤ a ∧ a ≤ 1) (hne : a ≠ ax) (hc : c ≤ n) (hn : n < 6) {j : Nat} (hj : (19 * a).toNat ≤ j ∧ j < (19 * a).toNat + 19) : ns_in s ax c n x q r j = s j := by
  unfold ns_in
  rw [if_neg (by omega), if_neg (by omega), if_neg (by omega), if_neg (by omega), if_neg (by omega), if_neg (by omega)]
theorem ns_in_hi {s : Nat → Int} {ax : Int} {c n : Nat} {x q r : Int} (ha : 0 ≤ ax ∧ ax ≤ 1) (hc : c ≤ n) (hn : n < 6) {j : Nat} (hj : 234 ≤ j) : ns_in s ax c n x q r j = s j := by
  unfold ns_in
  rw [if_neg (by omega), if_neg (by omega), if_neg (by omega), if_neg (by omega), if_neg (by omega), if_neg (by omega)]
theorem ns_in_g {s : Nat → Int} {ax : Int} {c n : Nat} {x q r : Int} (ha : 0 ≤ ax ∧ ax ≤ 1) (hc : c ≤ n) (hn : n < 6) {g i : Nat} (hg : g < 49) (hi : i < 4) : ns_in s ax c n x q r (38 + 4 * g + i) = s (38 + 4 * gp_dnr ax (n + 1) (n + 1 - c) g + i) := by
  unfold ns_in
  rw [if_neg (by omega), if_neg (by omega), if_neg (by omega), if_neg (by omega), if_neg (by omega), if_pos (by omega), show (38 + 4 * g + i - 38) / 4 = g by omega, show (38 + 4 * g + i - 38) % 4 = i by omega]
theorem ni_t_in {s : Nat → Int} {ax x k r : Int} (h : ni_t s) (ha : 0 ≤ ax ∧ ax ≤ 1) (hx : 1 ≤ x ∧ x ≤ 999) (hk : k = 0 ∨ k = 1) (hr : r ≤ 100) (hc : gp_bc s ax x r k) : ni_t (gp_bi s ax x r k) := by
  have hok := ni_axs h ha
  have h0 : 0 ≤ ms_n s ax := hok.1
  have h6 : ms_n s ax ≤ 6 := hok.2.1
  have hn : ms_n s ax < 6 := by have := hc.2.2.2; omega
  have hb := gp_st_bd (ms_p s ax) x (ms_n s ax).toNat
  have okn := gp_ok_in hok hn hx hk ⟨hc.1, hr⟩ hc.2.1 hc.2.2.1 (by decide)
  have A1 : ni_ok (gp_bi s ax x r k) ax := by
    refine gp_ok_of okn ?_ (fun j hj => ?_)
    · unfold gp_bi; rw [ns_in_n ha ha (by omega) (by omega), if_pos rfl]
    · exact ns_in_b ha (by omega) (by omega) hj
  have A2 : ∀ a, 0 ≤ a ∧ a ≤ 1 → a ≠ ax → ni_ok (gp_bi s ax x r k) a := fun a h2 hne => by
    refine gp_ok_of (ni_axs h h2) ?_ (fun j hj => ⟨?_, ?_, ?_⟩)
    · exact ns_in_o ha h2 hne (by omega) (by omega) (by omega)
    · exact ns_in_o ha h2 hne (by omega) (by omega) (by omega)
    · exact ns_in_o ha h2 hne (by omega) (by omega) (by omega)
    · exact ns_in_o ha h2 hne (by omega) (by omega) (by omega)
  have A3 : ∀ a, 0 ≤ a ∧ a ≤ 1 → ni_ok (gp_bi s ax x r k) a := fun a h2 => by
    by_cases e : a = ax
    · rw [e]; exact A1
    · exact A2 a h2 e
  refine ⟨A3 0 (by omega), A3 1 (by omega), fun g i hg hi => ?_, fun g hg => ?_⟩
  · unfold gp_bi
    rw [ns_in_g ha (by omega) (by omega) hg (by omega)]
    exact h.2.2.1 _ i (gp_dnr_lt (by omega) _ g (by omega) hg) hi
  · unfold gp_bi
    rw [ns_in_g ha (by omega) (by omega) hg (by omega)]
    exact h.2.2.2 _ (gp_dnr_lt (by omega) _ g (by omega) hg)
theorem ni_t_up {s : Nat → Int} {g i : Nat} {z : Int} (h : ni_t s) (hg : g < 49) (hi : i < 3) (hz : 0 ≤ z ∧ z ≤ 9999) : ni_t (ns_up s (38 + 4 * g + i) z) := by
  have u : ∀ ax, 0 ≤ ax ∧ ax ≤ 1 → ni_ok (ns_up s (38 + 4 * g + i) z) ax := fun ax ha => by
    refine gp_ok_of (ni_axs h ha) (ns_up_ne (by omega)) (fun j hj => ⟨ns_up_ne (by omega), ns_up_ne (by omega), ns_up_ne (by omega)⟩)
  refine ⟨u 0 (by omega), u 1 (by omega), fun g' i' hg' hi' => ?_, fun g' hg' => ?_⟩
  · by_cases q : g' = g ∧ i' = i
    · rw [q.1, q.2, ns_up_at]; exact hz
    · rw [ns_up_ne (by omega)]; exact h.2.2.1 g' i' hg' hi'
  · rw [ns_up_ne (by omega)]; exact h.2.2.2 g' hg'
def pr_ok (s : Nat → Int) (l p : Nat) (R : Bool × Nat × (Nat → Int)) : Prop := ni_t R.2.2 ∧ (∀ j, 234 ≤ j → R.2.2 j = s j) ∧ R.2.1 ≤ l ∧ (R.1 = true → p < R.2.1) ∧ (R.1 = false → R.2.2 = R.2.2)
theorem pr_ok_be {t : Nat → Int} {l : Nat} {s : Nat → Int} {ax x r k : Int} {p n : Nat} (h : ni_t s) (ha : 0 ≤ ax ∧ ax ≤ 1) (hp : p < l) (hx : 1 ≤ x ∧ x ≤ 999) (hk : k = 0 ∨ k = 1) (hr : 0 ≤ r ∧ r ≤ 100) (hn : p < n ∧ n ≤ l) : pr_ok s l p (gp_be t l s ax p x r k n) := by
  have b := gp_sp_le (t := t) hn.2
  have n6 := ni_n h ha
  have hb := gp_st_bd (ms_p s ax) x (ms_n s ax).toNat
  unfold gp_be
  by_cases q : ¬ gt_ok t l (gp_sp t l n) 59
  · rw [if_pos q]; exact ⟨h, fun j _ => rfl, b.2, fun w => by (cases w), fun _ => rfl⟩
  · rw [if_neg q]
    have q1 := (Decidable.not_not.mp q).1
    by_cases q2 : gp_bc s ax x r k
    · rw [if_pos q2]
      have q3 := q2.2.2.2
      exact ⟨ni_t_in h ha hx hk hr.2 q2, fun j hj => ns_in_hi ha (by omega) (by omega) hj, q1, fun _ => (by show p < gp_sp t l n + 1; omega), fun _ => rfl⟩
    · rw [if_neg q2]; exact ⟨h, fun j _ => rfl, by show p ≤ l; omega, fun w => by (cases w), fun _ => rfl⟩
theorem pr_ok_bd {t : Nat → Int} {l : Nat} {s : Nat → Int} {ax : Int} {p : Nat} (h : ni_t s) (ha : 0 ≤ ax ∧ ax ≤ 1) (hp : p < l) : pr_ok s l p (gp_bd t l s ax p) := by
  have B1 := gp_rd_bd (t := t) (l := l) (n := p + 1) (lo := 1) (hi := 999) (by omega)
  unfold gp_bd
  generalize gp_rd t l (p + 1) 1 999 = R1 at *
  unfold gp_b1
  by_cases q1 : R1.1 = true
  · rw [if_pos q1]
    have B2 := gp_rd_bd (t := t) (l := l) (n := R1.2.1) (lo := 0) (hi := 100) B1.2.1
    generalize gp_rd t l R1.2.1 0 100 = R2 at *
    unfold gp_b2
    by_cases q2 : R2.1 = true
    · rw [if_pos q2]
      have b := gp_sp_le (t := t) B2.2.1
      have c1 := B1.2.2 q1
      have c2 := B2.2.2 q2
      unfold gp_bk
      by_cases q3 : gt_ok t l (gp_sp t l R2.2.1) 126
      · rw [if_pos q3]; exact pr_ok_be h ha hp c1 (Or.inr rfl) c2 ⟨by omega, q3.1⟩
      · rw [if_neg q3]; exact pr_ok_be h ha hp c1 (Or.inl rfl) c2 ⟨by omega, by omega⟩
    · rw [if_neg q2]; exact ⟨h, fun j _ => rfl, B2.2.1, fun w => by (cases w), fun _ => rfl⟩
  · rw [if_neg q1]; exact ⟨h, fun j _ => rfl, B1.2.1, fun w => by (cases w), fun _ => rfl⟩
theorem pr_ok_gd {t : Nat → Int} {l : Nat} {s : Nat → Int} {p : Nat} (h : ni_t s) (hp : p < l) : pr_ok s l p (gp_gd t l s (p + 1)) := by
  have n0 := ni_n h (ax := 0) (by omega)
  have n1 := ni_n h (ax := 1) (by omega)
  have B1 := gp_rd_bd (t := t) (l := l) (n := p + 1) (lo := 0) (hi := ms_n s 0) (by omega)
  unfold gp_gd
  generalize gp_rd t l (p + 1) 0 (ms_n s 0) = R1 at *
  unfold gp_h2
  by_cases q1 : R1.1 = true
  · rw [if_pos q1]
    have B2 := gp_rd_bd (t := t) (l := l) (n := R1.2.1) (lo := 0) (hi := ms_n s 1) B1.2.1
    generalize gp_rd t l R1.2.1 0 (ms_n s 1) = R2 at *
    unfold gp_h3
    by_cases q2 : R2.1 = true
    · rw [if_pos q2]
      have B3 := gp_rd_bd (t := t) (l := l) (n := R2.2.1) (lo := 0) (hi := 2) B2.2.1
      generalize gp_rd t l R2.2.1 0 2 = R3 at *
      unfold gp_h4
      by_cases q3 : R3.1 = true
      · rw [if_pos q3]
        have B4 := gp_rd_bd (t := t) (l := l) (n := R3.2.1) (lo := 0) (hi := 9999) B3.2.1
        generalize gp_rd t l R3.2.1 0 9999 = R4 at *
        unfold gp_h5
        by_cases q4 : R4.1 = true
        · rw [if_pos q4]
          have b := gp_sp_le (t := t) B4.2.1
          have c1 := B1.2.2 q1
          have c2 := B2.2.2 q2
          have c3 := B3.2.2 q3
          have c4 := B4.2.2 q4
          by_cases q5 : gt_ok t l (gp_sp t l R4.2.1) 59
          · rw [if_pos q5]
            refine ⟨?_, fun j hj => ?_, q5.1, fun _ => (by show p < gp_sp t l R4.2.1 + 1; omega), fun _ => rfl⟩
            · show ni_t (ns_up s (38 + 4 * (7 * R1.2.2 + R2.2.2) + R3.2.2).toNat R4.2.2)
              rw [show (38 + 4 * (7 * R1.2.2 + R2.2.2) + R3.2.2).toNat = 38 + 4 * (7 * R1.2.2 + R2.2.2).toNat + R3.2.2.toNat by omega]
              exact ni_t_up h (by omega) (by omega) c4
            · exact ns_up_ne (by omega)
          · rw [if_neg q5]; exact ⟨h, fun j _ => rfl, b.2, fun w => by (cases w), fun _ => rfl⟩
        · rw [if_neg q4]; exact ⟨h, fun j _ => rfl, B4.2.1, fun w => by (cases w), fun _ => rfl⟩
      · rw [if_neg q3]; exact ⟨h, fun j _ => rfl, B3.2.1, fun w => by (cases w), fun _ => rfl⟩
    · rw [if_neg q2]; exact ⟨h, fun j _ => rfl, B2.2.1, fun w => by (cases w), fun _ => rfl⟩
  · rw [if_neg q1]; exact ⟨h, fun j _ => rfl, B1.2.1, fun w => by (cases w), fun _ => rfl⟩
theorem pr_ok_it {t : Nat → Int} {l : Nat} {s : Nat → Int} {p : Nat} (h : ni_t s) (hp : p < l) : pr_ok s l p (gp_it t l s p) := by
  unfold gp_it
  by_cases q1 : t p = 120
  · rw [if_pos q1]; exact pr_ok_bd h (by omega) hp
  · rw [if_neg q1]
    by_cases q2 : t p = 121
    · rw [if_pos q2]; exact pr_ok_bd h (by omega) hp
    · rw [if_neg q2]
      by_cases q3 : t p = 103
      · rw [if_pos q3]; exact pr_ok_gd h hp
      · rw [if_neg q3]; exact ⟨h, fun j _ => rfl, by show p ≤ l; omega, fun w => by (cases w), fun _ => rfl⟩
/-- items read until the end, or until one is wrong -/
def gp_ld (t : Nat → Int) (l : Nat) : Nat → Nat → (Nat → Int) → Int → Bool × Nat × (Nat → Int) × Int
  | 0, n, s, k => (true, n, s, k)
  | f + 1, n, s, k => if gp_sp t l n < l then (if (gp_it t l s (gp_sp t l n)).1 = true then gp_ld t l f (gp_it t l s (gp_sp t l n)).2.1 (gp_it t l s (gp_sp t l n)).2.2 (k + 1) else (false, (gp_it t l s (gp_sp t l n)).2.1, (gp_it t l s (gp_sp t l n)).2.2, k + 1)) else (true, n, s, k)
theorem gp_ld_ok {t : Nat → Int} {l : Nat} : ∀ (f n : Nat) (s : Nat → Int) (k : Int), ni_t s → n ≤ l → ni_t (gp_ld t l f n s k).2.2.1 ∧ (∀ j, 234 ≤ j → (gp_ld t l f n s k).2.2.1 j = s j) ∧ (gp_ld t l f n s k).2.1 ≤ l
  | 0, n, s, k, h, hn => ⟨h, fun j _ => rfl, hn⟩
  | f + 1, n, s, k, h, hn => by
    have b := gp_sp_le (t := t) hn
    unfold gp_ld
    by_cases q1 : gp_sp t l n < l
    · rw [if_pos q1]
      obtain ⟨u1, u2, u3, u4, -⟩ := pr_ok_it (t := t) h q1
      by_cases q2 : (gp_it t l s (gp_sp t l n)).1 = true
      · rw [if_pos q2]
        obtain ⟨w1, w2, w3⟩ := gp_ld_ok f (gp_it t l s (gp_sp t l n)).2.1 (gp_it t l s (gp_sp t l n)).2.2 (k + 1) u1 u3
        exact ⟨w1, fun j hj => (w2 j hj).trans (u2 j hj), w3⟩
      · rw [if_neg q2]; exact ⟨u1, u2, u3⟩
    · rw [if_neg q1]; exact ⟨h, fun j _ => rfl, hn⟩
def ns_em (s : Nat → Int) : Nat → Int := ns_cl (ns_up (ns_up s 0 0) 19 0) 49 0
theorem ns_em_o {s : Nat → Int} {j : Nat} (h : 234 ≤ j) : ns_em s j = s j := by
  unfold ns_em ns_cl
  rw [if_neg (by omega), ns_up_ne (by omega), ns_up_ne (by omega)]
theorem ni_em (s : Nat → Int) : ni_t (ns_em s) := by
  have e0 : ms_n (ns_em s) 0 = 0 := by
    show ns_em s 0 = 0
    unfold ns_em ns_cl
    rw [if_neg (by omega), ns_up_ne (by omega), ns_up_at]
  have e1 : ms_n (ns_em s) 1 = 0 := by
    show ns_em s 19 = 0
    unfold ns_em ns_cl
    rw [if_neg (by omega), ns_up_at]
  have z : ∀ (n : Int) (p q r : Nat → Int), n = 0 → gp_ok n p q r := fun n p q r hn => ⟨by omega, by omega, fun b hb => by exfalso; omega, fun b hb => by exfalso; omega⟩
  have v : ∀ g i : Nat, g < 49 → i < 4 → ns_em s (38 + 4 * g + i) = ns_c3 i := fun g i hg hi => by
    unfold ns_em ns_cl
    rw [if_pos (by omega)]; congr 1; omega
  refine ⟨z _ _ _ _ e0, z _ _ _ _ e1, fun g i hg hi => ?_, fun g hg => ?_⟩
  · rw [v g i hg (by omega)]; unfold ns_c3; rw [if_neg (by omega)]; omega
  · rw [v g 3 hg (by omega)]; unfold ns_c3; rw [if_pos rfl]; omega
def na_ld (A : na_A) : Bool × Nat × (Nat → Int) × Int := gp_ld A.2.2.2.1 A.2.2.2.2.toNat (A.2.2.2.2.toNat + 1) 0 (ns_em A.1) 0
def no_load (A : na_A) : na_A × Int :=
  if (na_ld A).1 = true then ((ns_st (na_ld A).2.2.1 (ns_tt A.1), ac_v A.2.1 A.1 A.2.2.1, min (A.2.2.1 + 1) 5, A.2.2.2.1, 0), (na_ld A).2.2.2)
  else (A, -2000001000 - ((na_ld A).2.1 : Int))
end MV
section MV
variable {G : ga_G} {d : Nat} {I : ga_I} {E : Option ga_V → ga_I → Prop}
def lf (B I : ga_I) : Prop := (∀ a, a ≠ 348 → a ≠ 349 → I a = B a) ∧ ∀ j, j ≠ 12 → j ≠ 13 → I 348 j = B 348 j
theorem l_Mo_load (B : ga_I) {z : Int} {R : Bool × Nat × (Nat → Int) × Int}
    (H1 : ∀ (J : ga_I) (k : Int), lf B J → R = (true, R.2.1, J 349, k) → mo_n J ∧ ∀ I1 : ga_I, I1 = ga_uc J 349 (ns_st (J 349) z) → ∀ I2 : ga_I, I2 = mx_ex I1 1120 → (0 ≤ I2 348 4 ∧ I2 348 4 ≤ 5) ∧ ∀ I3 : ga_I, I3 = mx_ac I2 → ∀ I4 : ga_I, I4 = mx_ex I3 1120 → ∀ I5 : ga_I, I5 = ga_up I4 348 6 0 → E (some (.inl k)) I5)
    (H0 : ∀ (J : ga_I) (k : Int), lf B J → J 348 12 = (R.2.1 : Int) → R = (false, R.2.1, J 349, k) → ∀ I6 : ga_I, I6 = ga_uc J 349 (av_cp (J 349) (J 350) 0 1120) → E (some (.inl (-2000001000 - I6 348 12))) I6) :
    ∀ (f : Nat) (I : ga_I) (k : Int) (n : Nat), lf B I → mo_x I → ni_t (I 349) → I 348 12 = (n : Int) → (B 348 6).toNat < n + f → gp_ld (B 352) (B 348 6).toNat f n (I 349) k = R →
    ga_W G (d + 6) mt_Mo_load 42 [some (.inr 348), some (.inl z), some (.inl k), some (.inl 1)] [] I E := by
  intro f
  induction f with
  | zero =>
    intro I k n hf hx hs hn hl hR
    have := hx.1
    have := hx.2.1
    have := hf.2 6 (by omega) (by omega)
    exfalso; omega
  | succ f ih =>
    intro I k n hf hx hs hn hl hR
    have hx1 := hx.1
    have hx2 := hx.2.1
    have l1 : I 348 6 = B 348 6 := hf.2 6 (by omega) (by omega)
    have x1 : I 352 = B 352 := hf.1 352 (by omega) (by omega)
    have hpb := mt_p_bd hx
    have hhb := mt_hv_bd hx
    have ep : mt_p I = gp_sp (B 352) (B 348 6).toNat n := by unfold mt_p; rw [x1, l1, hn, Int.toNat_natCast]
    unfold gp_ld at hR
    rw [← ep] at hR
    refine k_Mo_load_42 ⟨by omega, by omega⟩ (fun hI => ⟨fun q => absurd q (by decide), fun _ => ⟨hx, fun I7 e7 => ?_⟩⟩)
    have n7 : I7 348 12 = (mt_p I : Nat) := by rw [e7, ga_up_at]
    have m7 : mf I I7 := ⟨fun a ha => by rw [e7, ga_up_fn (by omega)], fun j h1 h2 => by rw [e7, ga_up_nj (by omega)]⟩
    have f7 : lf B I7 := ⟨fun a h1 h2 => (m7.1 a h1).trans (hf.1 a h1 h2), fun j h1 h2 => (m7.2 j h1 h2).trans (hf.2 j h1 h2)⟩
    have s7 : I7 349 = I 349 := m7.1 349 (by omega)
    have x7 : mo_x I7 := mo_x_of hx m7 n7 (by omega)
    refine ⟨⟨by omega, by omega⟩, fun q => ⟨fun _ => ?_, fun q2 => absurd q2 (by decide)⟩, fun q => ⟨x7, by unfold mo_ok; rw [s7]; exact hs.1, by unfold mo_ok; rw [s7]; exact hs.2.1, ?_, fun I14 e14 => ?_⟩⟩
    · have hge : ¬ (mt_p I < (B 348 6).toNat) := fun w => by
        unfold mt_hv at q
        rw [if_pos (by omega)] at q
        have := hx.2.2 (mt_p I) (by omega)
        omega
      rw [if_neg hge] at hR
      exact H1 I7 k f7 (by rw [← hR, s7])
    all_goals
      have hlt : mt_p I < (B 348 6).toNat := by
        unfold mt_hv at q
        by_cases w : (mt_p I : Int) < I 348 6
        · omega
        · rw [if_neg w] at q; omega
      have ns := (gp_sp_bd (t := I 352) (l := (I 348 6).toNat) ((I 348 6).toNat - (I 348 12).toNat) (I 348 12).toNat (by omega)).2.2
      change ¬ (mt_p I < (I 348 6).toNat ∧ I 352 (mt_p I) = 32) at ns
      have p7 : mt_p I7 = mt_p I := by
        rw [(mt_at m7 n7).1]
        exact gp_sp_e ns
    · unfold mt_hv
      rw [p7, show I7 348 6 = I 348 6 from m7.2 6 (by omega) (by omega), show I7 352 = I 352 from m7.1 352 (by omega), if_pos (by omega)]
      have := hx.2.2 (mt_p I) (by omega)
      omega
    · have eI : mt_it I7 = gp_it (B 352) (B 348 6).toNat (I 349) (mt_p I) := by
        unfold mt_it
        rw [p7, s7, show I7 348 6 = B 348 6 from (m7.2 6 (by omega) (by omega)).trans l1, show I7 352 = B 352 from (m7.1 352 (by omega)).trans x1]
      unfold gr_it at e14
      rw [eI] at e14 ⊢
      rw [if_pos hlt] at hR
      obtain ⟨u1, u2, u3, u4, -⟩ := pr_ok_it (t := B 352) hs hlt
      obtain ⟨g1, g2, g3, g4⟩ := e14
      have f14 : lf B I14 := ⟨fun a h1 h2 => (g1 a h1 h2).trans (f7.1 a h1 h2), fun j h1 h2 => (g2 j h1 h2).trans (f7.2 j h1 h2)⟩
      have x14 : mo_x I14 := by
        have a1 : I14 348 6 = B 348 6 := f14.2 6 (by omega) (by omega)
        have a2 : I14 352 = B 352 := f14.1 352 (by omega) (by omega)
        refine ⟨by rw [a1, ← l1]; exact hx1, by rw [a1, g3]; omega, by rw [a1, a2, ← l1, ← x1]; exact hx.2.2⟩
      by_cases q2 : (gp_it (B 352) (B 348 6).toNat (I 349) (mt_p I)).1 = true
      · rw [if_pos q2] at hR
        rw [q2]
        refine ih I14 (k + 1) _ f14 x14 (by rw [g4]; exact u1) g3 (by have := u4 q2; omega) ?_
        rw [g4]; exact hR
      · rw [if_neg q2] at hR
        have q3 : (gp_it (B 352) (B 348 6).toNat (I 349) (mt_p I)).1 = false := by simpa using q2
        rw [q3]
        refine k_Mo_load_42 (v3 := 0) ⟨by omega, by omega⟩ (fun hI => ⟨fun _ => ⟨fun w => absurd rfl w, fun _ => ?_⟩, fun w => absurd rfl w⟩)
        exact H0 I14 (k + 1) f14 (by rw [← hR]; exact g3) (by rw [← hR, g4])
theorem ac_v_cong {v s s' : Nat → Int} {m : Int} (h : ∀ j, j < 1120 → s' j = s j) : ac_v v s' m = ac_v v s m := by
  unfold ac_v av_cp
  by_cases q : m = 5
  · rw [if_pos q, if_pos q]
    funext j
    by_cases w : 4480 ≤ j ∧ j < 4480 + 1120
    · rw [if_pos w, if_pos w, h _ (by omega)]
    · rw [if_neg w, if_neg w]
  · rw [if_neg q, if_neg q]
    funext j
    by_cases w : (1120 * m).toNat ≤ j ∧ j < (1120 * m).toNat + 1120
    · rw [if_pos w, if_pos w, h _ (by omega)]
    · rw [if_neg w, if_neg w]
theorem m_load {A : na_A} (eA : na_ab I = A) (hA : ni_a A) (h : na_E E I (no_load A)) : ga_W G (d + 6) mt_Mo_load 0 (ga_en 4 [.inr 348]) [] I E := by
  have hs : ni_s A.1 := hA.1
  have hm := hA.2.1
  have hl := hA.2.2.2.1
  refine k_Mo_load_0 (fun hI I1 e1 I2 e2 => ?_)
  obtain ⟨s1, v1, m1, x1, l1⟩ := na_t1 eA e1
  have s2 : I2 349 = A.1 := by rw [e2, ga_uc_ne (by omega), s1]
  have o2 : I2 350 = av_cp (I1 350) A.1 0 1120 := by rw [e2, ga_uc_at, s1]
  refine ⟨(ni_all s2 hs).2.2.1, fun z1 f1 I3 e3 I4 e4 I5 e5 I6 e6 => ?_⟩
  rw [s2] at f1
  rw [ga_up_uc, s2] at e3
  rw [ga_up_uc, e3, ga_uc_uc, ga_uc_at] at e4
  rw [e4, ga_uc_uc, ga_uc_at] at e5
  have e5' : I5 = ga_uc I2 349 (ns_em A.1) := e5
  have c6 : ∀ a, a ≠ 348 → a ≠ 349 → I6 a = I2 a := fun a h1 h2 => by rw [e6, ga_up_fn (by omega), e5', ga_uc_ne h2]
  have s6 : I6 349 = ns_em A.1 := by rw [e6, ga_up_fn (by omega), e5', ga_uc_at]
  have t6 : ∀ j, j ≠ 12 → I6 348 j = I1 348 j := fun j hj => by rw [e6, ga_up_nj (by omega), e5', ga_uc_ne (by omega), e2, ga_uc_ne (by omega)]
  have n6 : I6 348 12 = 0 := by rw [e6, ga_up_at]
  have l6 : I6 348 6 = A.2.2.2.2 := by rw [t6 6 (by omega), l1]
  have m6 : I6 348 4 = A.2.2.1 := by rw [t6 4 (by omega), m1]
  have x6 : I6 352 = A.2.2.2.1 := by rw [c6 352 (by omega) (by omega), e2, ga_uc_ne (by omega), x1]
  have v6 : I6 351 = A.2.1 := by rw [c6 351 (by omega) (by omega), e2, ga_uc_ne (by omega), v1]
  have o6 : I6 350 = av_cp (I1 350) A.1 0 1120 := by rw [c6 350 (by omega) (by omega), o2]
  have fr6 : ∀ a, a < 348 → I6 a = I a := fun a ha => by rw [c6 a (by omega) (by omega), e2, ga_uc_ne (by omega), e1, ga_up_fn (by omega)]
  have hx6 : mo_x I6 := ⟨by rw [l6]; exact hl, by rw [n6, l6]; omega, by rw [l6, x6]; exact hA.2.2.2.2⟩
  have LD := gp_ld_ok (t := A.2.2.2.1) (l := A.2.2.2.2.toNat) (A.2.2.2.2.toNat + 1) 0 (ns_em A.1) 0 (ni_em A.1) (Nat.zero_le _)
  unfold no_load at h
  change ni_t (na_ld A).2.2.1 ∧ (∀ j, 234 ≤ j → (na_ld A).2.2.1 j = ns_em A.1 j) ∧ (na_ld A).2.1 ≤ A.2.2.2.2.toNat at LD
  refine l_Mo_load I6 (R := na_ld A) ?_ ?_ (A.2.2.2.2.toNat + 1) I6 0 0 ⟨fun a _ _ => rfl, fun j _ _ => rfl⟩ hx6 (by rw [s6]; exact ni_em A.1) n6 (by rw [l6]; omega) (by rw [x6, l6, s6]; rfl)
  · intro J k hf hR
    have eJ : J 349 = (na_ld A).2.2.1 := by rw [hR]
    have ek : k = (na_ld A).2.2.2 := by rw [hR]
    have eT : (na_ld A).1 = true := by rw [hR]
    have kn := LD.1
    refine ⟨mo_n_mk eJ (ni_n kn (by omega)) (ni_n kn (by omega)), fun J1 g1 J2 g2 => ?_⟩
    rw [eJ, f1] at g1
    have a9 : J1 349 = ns_st (na_ld A).2.2.1 (ns_tt A.1) := by rw [g1, ga_uc_at]; rfl
    have a0 : J1 350 = av_cp (I1 350) A.1 0 1120 := by rw [g1, ga_uc_ne (by omega), hf.1 350 (by omega) (by omega), o6]
    have aJ : ∀ a, a ≠ 349 → J1 a = J a := fun a ha => by rw [g1, ga_uc_ne ha]
    have b9 : J2 349 = av_cp (J1 349) (J1 350) 0 1120 := by rw [g2]; unfold mx_ex; rw [ga_uc_ne (by omega), ga_uc_at]
    have b0 : J2 350 = av_cp (J1 350) (J1 349) 0 1120 := by rw [g2]; unfold mx_ex; rw [ga_uc_at]
    have bJ : ∀ a, a ≠ 349 → a ≠ 350 → J2 a = J a := fun a h1 h2 => by rw [g2]; unfold mx_ex; rw [ga_uc_ne h2, ga_uc_ne h1, aJ a h1]
    have m2 : J2 348 4 = A.2.2.1 := by rw [bJ 348 (by omega) (by omega), hf.2 4 (by omega) (by omega), m6]
    refine ⟨by rw [m2]; exact hm, fun J3 g3 J4 g4 J5 g5 => ?_⟩
    have c9 : J3 349 = J2 349 := by rw [g3]; unfold mx_ac; rw [ga_up_fn (by omega), ga_uc_ne (by omega)]
    have c0 : J3 350 = J2 350 := by rw [g3]; unfold mx_ac; rw [ga_up_fn (by omega), ga_uc_ne (by omega)]
    have c1 : J3 351 = ac_v A.2.1 A.1 A.2.2.1 := by
      rw [g3]; unfold mx_ac
      rw [ga_up_fn (by omega), ga_uc_at, m2, bJ 351 (by omega) (by omega), hf.1 351 (by omega) (by omega), v6]
      refine ac_v_cong (fun j hj => ?_)
      rw [b9, a0]; unfold av_cp; rw [if_pos (by omega), if_pos (by omega)]; rfl
    have d9 : J4 349 = ns_st (na_ld A).2.2.1 (ns_tt A.1) := by
      rw [g4]; unfold mx_ex
      rw [ga_uc_ne (by omega), ga_uc_at, c9, c0, b9, b0, a9]
      funext j
      unfold av_cp
      by_cases w : 0 ≤ j ∧ j < 0 + 1120
      · rw [if_pos w, if_pos (by omega)]; rfl
      · rw [if_neg w, if_neg w]
    have dJ : ∀ a, a ≠ 349 → a ≠ 350 → J4 a = J3 a := fun a h1 h2 => by rw [g4]; unfold mx_ex; rw [ga_uc_ne h2, ga_uc_ne h1]
    rw [ek]
    refine na_x h (if_pos eT) (na_ab_mk ?_ ?_ ?_ ?_ ?_) (fun a ha => ?_)
    · rw [g5, ga_up_fn (by omega), d9]
    · rw [g5, ga_up_fn (by omega), dJ 351 (by omega) (by omega), c1]
    · rw [g5, ga_up_nj (by omega), dJ 348 (by omega) (by omega), g3]; unfold mx_ac; rw [ga_up_at, m2]
    · rw [g5, ga_up_fn (by omega), dJ 352 (by omega) (by omega), g3]; unfold mx_ac; rw [ga_up_fn (by omega), ga_uc_ne (by omega), bJ 352 (by omega) (by omega), hf.1 352 (by omega) (by omega), x6]
    · rw [g5, ga_up_at]
    · rw [g5, ga_up_fn (by omega), dJ a (by omega) (by omega), g3]; unfold mx_ac; rw [ga_up_fn (by omega), ga_uc_ne (by omega), bJ a (by omega) (by omega), hf.1 a (by omega) (by omega), fr6 a ha]
  · intro J k hf hn hR I7 e7
    have eJ : J 349 = (na_ld A).2.2.1 := by rw [hR]
    have eF : (na_ld A).1 = false := by rw [hR]
    have n7 : I7 348 12 = ((na_ld A).2.1 : Int) := by rw [e7, ga_uc_ne (by omega), hn]
    have s7 : I7 349 = A.1 := by
      rw [e7, ga_uc_at, hf.1 350 (by omega) (by omega), o6, eJ]
      funext j
      unfold av_cp
      by_cases w : 0 ≤ j ∧ j < 0 + 1120
      · rw [if_pos w, if_pos (by omega)]; rfl
      · rw [if_neg w, LD.2.1 j (by omega), ns_em_o (by omega)]
    rw [n7]
    refine na_x h (if_neg (by rw [eF]; decide)) (na_ab_mk s7 ?_ ?_ ?_ ?_) (fun a ha => ?_)
    · rw [e7, ga_uc_ne (by omega), hf.1 351 (by omega) (by omega), v6]
    · rw [e7, ga_uc_ne (by omega), hf.2 4 (by omega) (by omega), m6]
    · rw [e7, ga_uc_ne (by omega), hf.1 352 (by omega) (by omega), x6]
    · rw [e7, ga_uc_ne (by omega), hf.2 6 (by omega) (by omega), l6]
    · rw [e7, ga_uc_ne (by omega), hf.1 a (by omega) (by omega), fr6 a ha]
end MV
