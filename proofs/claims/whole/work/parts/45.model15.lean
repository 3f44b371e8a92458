/-! the reference: what is asked -/
section MQ
variable {G : ga_G} {d : Nat} {I : ga_I} {E : Option ga_V → ga_I → Prop}
theorem na_v {E : Option ga_V → ga_I → Prop} {I I1 J : ga_I} {A : na_A} {R : na_A × Int} {z : Int} (h : na_E E I R) (eA : na_ab I = A) (e1 : I1 = ga_up I 348 0 0) (f : ∀ a, a < 350 ∨ (350 < a ∧ a < 353) → J a = I1 a) (hR : R = (A, z)) : E (some (.inl z)) J := by
  obtain ⟨s1, v1, m1, x1, l1⟩ := na_t1 eA e1
  refine na_x h hR (na_ab_mk ?_ ?_ ?_ ?_ ?_) (fun a ha => ?_)
  · rw [f _ (by omega), s1]
  · rw [f _ (by omega), v1]
  · rw [f _ (by omega), m1]
  · rw [f _ (by omega), x1]
  · rw [f _ (by omega), l1]
  · rw [f _ (by omega), e1, ga_up_fn (by omega)]
def na_count (A : na_A) (w : Int) : Int :=
  if w = 0 then ns_rg A.1 else if w = 1 then A.1 238 else if 2 ≤ w ∧ w ≤ 5 then A.1 (232 + w).toNat else if w = 6 then A.1 254 else if w = 7 then A.1 239 else if w = 8 then A.1 240
  else if w = 9 then A.2.2.1 else if w = 10 then A.2.2.2.2 else if w = 11 then A.1 415 + A.1 650 + A.1 885 else -2000000001
def no_count (A : na_A) (w : Int) : na_A × Int := (A, na_count A w)
theorem m_count {A : na_A} {w : Int} (r1 : ga_rg w) (eA : na_ab I = A) (hA : ni_a A) (h : na_E E I (no_count A w)) : ga_W G (d + 2) mt_Mo_count 0 (ga_en 2 [.inr 348, .inl w]) [] I E := by
  refine k_Mo_count_0 r1 (fun hI I1 e1 => ?_)
  obtain ⟨s1, v1, m1, x1, l1⟩ := na_t1 eA e1
  unfold no_count na_count at h
  rw [s1, m1, l1]
  refine ⟨fun q z1 f1 => na_q h eA e1 ?_, fun q => na_q h eA e1 ?_, fun q => ⟨by omega, by omega, na_q h eA e1 ?_⟩, fun q => ⟨by omega, by omega, na_q h eA e1 ?_⟩, fun q => ⟨by omega, by omega, na_q h eA e1 ?_⟩, fun q => ⟨by omega, by omega, na_q h eA e1 ?_⟩, fun q => na_q h eA e1 ?_, fun q => na_q h eA e1 ?_, fun q => na_q h eA e1 ?_, fun q => na_q h eA e1 ?_, fun q => na_q h eA e1 ?_, fun q z1 f1 => na_q h eA e1 ?_, fun q => na_q h eA e1 ?_⟩
  · subst q; rw [if_pos rfl, f1]; rfl
  · subst q; rfl
  · subst q; rfl
  · subst q; rfl
  · subst q; rfl
  · subst q; rfl
  · subst q; rfl
  · subst q; rfl
  · subst q; rfl
  · subst q; rfl
  · subst q; rfl
  · subst q; rw [f1]; rfl
  · rw [if_neg (by omega), if_neg (by omega), if_neg (by omega), if_neg (by omega), if_neg (by omega), if_neg (by omega), if_neg (by omega), if_neg (by omega), if_neg (by omega)]
def na_f (s : Nat → Int) (ax : Int) : Int × Int × Int × Int := mp_f s ax (s (236 + ax).toNat) (s (234 + ax).toNat)
def na_axis (A : na_A) (ax w : Int) : Int :=
  if ¬ ((0 ≤ ax ∧ ax ≤ 1) ∧ (0 ≤ w ∧ w ≤ 5)) then -2000000001
  else if w = 0 then ms_n A.1 ax else if w = 1 then gp_ct (gp_sk (ms_q A.1 ax)) (ms_n A.1 ax).toNat + 1 else if w = 2 then (na_f A.1 ax).1 else if w = 3 then (na_f A.1 ax).2.1 else if w = 4 then (na_f A.1 ax).2.2.1 else (na_f A.1 ax).2.2.2
def no_axis (A : na_A) (ax w : Int) : na_A × Int := (A, na_axis A ax w)
theorem m_axis {A : na_A} {ax w : Int} (r1 : ga_rg ax) (r2 : ga_rg w) (eA : na_ab I = A) (hA : ni_a A) (h : na_E E I (no_axis A ax w)) : ga_W G (d + 4) mt_Mo_axis 0 (ga_en 3 [.inr 348, .inl ax, .inl w]) [] I E := by
  have hs : ni_s A.1 := hA.1
  refine k_Mo_axis_0 r1 r2 (fun hI I1 e1 => ?_)
  obtain ⟨s1, v1, m1, x1, l1⟩ := na_t1 eA e1
  obtain ⟨a0, a1, a2, a3, a4, a5⟩ := ni_all s1 hs
  unfold no_axis na_axis at h
  refine ⟨fun q1 => na_q h eA e1 (by rw [if_pos (fun w => q1 w.1)]), fun q1 => ⟨fun q2 => ⟨a0, a1, a3, fun I2 e2 => ?_⟩, fun q2 => na_q h eA e1 (by rw [if_pos (fun w => q2 w.2)])⟩⟩
  have f2 : ∀ a, a < 353 ∨ 357 ≤ a → I2 a = I1 a := fun a ha => by rw [e2]; exact mx_lp_s ha
  have f3 : ∀ a, a < 350 ∨ (350 < a ∧ a < 353) → I2 a = I1 a := fun a ha => f2 a (by omega)
  have s2 : I2 349 = A.1 := by rw [f2 _ (by omega), s1]
  have v : mo_v I2 ax.toNat = na_f A.1 ax := by
    rcases (show ax = 0 ∨ ax = 1 by omega) with q | q <;> subst q
    · rw [e2]; exact mx_lp_0.trans (by rw [s1]; rfl)
    · rw [e2]; exact mx_lp_1.trans (by rw [s1]; rfl)
  have n2 := (ni_all s2 hs).2.2.1
  have c1 : I2 353 ax.toNat = (na_f A.1 ax).1 := by rw [← v]; rfl
  have c2 : I2 354 ax.toNat = (na_f A.1 ax).2.1 := by rw [← v]; rfl
  have c3 : I2 355 ax.toNat = (na_f A.1 ax).2.2.1 := by rw [← v]; rfl
  have c4 : I2 356 ax.toNat = (na_f A.1 ax).2.2.2 := by rw [← v]; rfl
  rw [s2, c1, c2, c3, c4]
  have qq : ¬ ¬ ((0 ≤ ax ∧ ax ≤ 1) ∧ (0 ≤ w ∧ w ≤ 5)) := fun w => w ⟨q1, q2⟩
  refine ⟨fun q => ⟨q1, na_v h eA e1 f3 ?_⟩, fun q => ⟨n2, q1, fun z1 g1 => na_v h eA e1 f3 ?_⟩, fun q => ⟨by omega, by omega, na_v h eA e1 f3 ?_⟩, fun q => ⟨by omega, by omega, na_v h eA e1 f3 ?_⟩, fun q => ⟨by omega, by omega, na_v h eA e1 f3 ?_⟩, fun q => ⟨by omega, by omega, na_v h eA e1 f3 ?_⟩⟩
  · rw [if_neg qq, if_pos q]
  · rw [if_neg qq, if_neg (by omega), if_pos q, g1]
  · rw [if_neg qq, if_neg (by omega), if_neg (by omega), if_pos q]
  · rw [if_neg qq, if_neg (by omega), if_neg (by omega), if_neg (by omega), if_pos q]
  · rw [if_neg qq, if_neg (by omega), if_neg (by omega), if_neg (by omega), if_neg (by omega), if_pos q]
  · rw [if_neg qq, if_neg (by omega), if_neg (by omega), if_neg (by omega), if_neg (by omega), if_neg (by omega)]
def na_border (A : na_A) (ax b w : Int) : Int :=
  if ¬ ((0 ≤ ax ∧ ax ≤ 1) ∧ 0 ≤ b ∧ (0 ≤ w ∧ w ≤ 2)) then -2000000001 else if b < ms_n A.1 ax then ms_b A.1 ax b w else -2000000009
def no_border (A : na_A) (ax b w : Int) : na_A × Int := (A, na_border A ax b w)
theorem m_border {A : na_A} {ax b w : Int} (r1 : ga_rg ax) (r2 : ga_rg b) (r3 : ga_rg w) (eA : na_ab I = A) (hA : ni_a A) (h : na_E E I (no_border A ax b w)) : ga_W G (d + 2) mt_Mo_border 0 (ga_en 4 [.inr 348, .inl ax, .inl b, .inl w]) [] I E := by
  have hs : ni_s A.1 := hA.1
  refine k_Mo_border_0 r1 r2 r3 (fun hI I1 e1 => ?_)
  obtain ⟨s1, v1, m1, x1, l1⟩ := na_t1 eA e1
  unfold no_border na_border at h
  rw [s1]
  refine ⟨fun q1 => na_q h eA e1 (by rw [if_pos (fun w => q1 w.1)]), fun q1 => ⟨fun q2 => na_q h eA e1 (by rw [if_pos (fun w => absurd w.2.1 (by omega))]), fun q2 => ⟨fun q3 => ⟨q1, fun q4 => na_q h eA e1 (by rw [if_neg (fun w => w ⟨q1, by omega, q3⟩), if_neg (by omega)]), fun q4 => ⟨?_, q3, na_q h eA e1 (by rw [if_neg (fun w => w ⟨q1, by omega, q3⟩), if_pos (by omega)])⟩⟩, fun q3 => na_q h eA e1 (by rw [if_pos (fun w => q3 w.2.2)])⟩⟩⟩
  have n6 := ni_n hs.1 q1
  omega
def na_region (A : na_A) (c r w : Int) : Int :=
  if ¬ (((0 ≤ c ∧ c ≤ ms_n A.1 0) ∧ (0 ≤ r ∧ r ≤ ms_n A.1 1)) ∧ (0 ≤ w ∧ w ≤ 3)) then -2000000001
  else if w = 3 ∧ A.1 (38 + 4 * (7 * c + r) + w).toNat = -1 then -2000000009 else A.1 (38 + 4 * (7 * c + r) + w).toNat
def no_region (A : na_A) (c r w : Int) : na_A × Int := (A, na_region A c r w)
theorem m_region {A : na_A} {c r w : Int} (r1 : ga_rg c) (r2 : ga_rg r) (r3 : ga_rg w) (eA : na_ab I = A) (hA : ni_a A) (h : na_E E I (no_region A c r w)) : ga_W G (d + 2) mt_Mo_region 0 (ga_en 5 [.inr 348, .inl c, .inl r, .inl w]) [] I E := by
  have hs : ni_s A.1 := hA.1
  refine k_Mo_region_0 r1 r2 r3 (fun hI I1 e1 => ?_)
  obtain ⟨s1, v1, m1, x1, l1⟩ := na_t1 eA e1
  unfold no_region na_region at h
  rw [s1]
  have n0 := ni_n hs.1 (ax := 0) (by omega)
  have n1 := ni_n hs.1 (ax := 1) (by omega)
  refine ⟨fun q1 => na_q h eA e1 (by rw [if_pos (fun w => q1 w.1)]), fun q1 => ⟨fun q2 => ⟨by omega, by omega, fun q3 => na_q h eA e1 (by rw [if_neg (fun w => w ⟨q1, q2⟩), if_neg (fun w => q3 w.1)]), fun q3 => ⟨fun q4 => na_q h eA e1 (by rw [if_neg (fun w => w ⟨q1, q2⟩), if_neg (fun w => q4 w.2)]), fun q4 => na_q h eA e1 (by rw [if_neg (fun w => w ⟨q1, q2⟩), if_pos ⟨q3, q4⟩])⟩⟩, fun q2 => na_q h eA e1 (by rw [if_pos (fun w => q2 w.2)])⟩⟩
def na_operator (A : na_A) (op w : Int) : Int :=
  if ¬ ((0 ≤ op ∧ op ≤ 2) ∧ (0 ≤ w ∧ w ≤ 3)) then -2000000001
  else if w = 2 then ns_lo A.1 op else if w = 3 then A.1 (241 + 3 * op + 2).toNat else A.1 (241 + 3 * op + w).toNat
def no_operator (A : na_A) (op w : Int) : na_A × Int := (A, na_operator A op w)
theorem m_operator {A : na_A} {op w : Int} (r1 : ga_rg op) (r2 : ga_rg w) (eA : na_ab I = A) (hA : ni_a A) (h : na_E E I (no_operator A op w)) : ga_W G (d + 2) mt_Mo_operator 0 (ga_en 3 [.inr 348, .inl op, .inl w]) [] I E := by
  have hs : ni_s A.1 := hA.1
  refine k_Mo_operator_0 r1 r2 (fun hI I1 e1 => ?_)
  obtain ⟨s1, v1, m1, x1, l1⟩ := na_t1 eA e1
  have n1 := (ni_all s1 hs).2.2.1
  unfold no_operator na_operator at h
  rw [s1]
  refine ⟨fun q1 => na_q h eA e1 (by rw [if_pos (fun w => q1 w.1)]), fun q1 => ⟨fun q2 => ⟨fun q3 => ⟨fun q4 => ⟨by omega, by omega, na_q h eA e1 (by rw [if_neg (fun w => w ⟨q1, q2⟩), if_neg q3, if_neg q4])⟩, fun q4 => ⟨by omega, by omega, na_q h eA e1 (by rw [if_neg (fun w => w ⟨q1, q2⟩), if_neg q3, if_pos q4])⟩⟩, fun q3 => ⟨n1, fun z1 f1 => na_q h eA e1 (by rw [if_neg (fun w => w ⟨q1, q2⟩), if_pos q3, f1]; rfl)⟩⟩, fun q2 => na_q h eA e1 (by rw [if_pos (fun w => q2 w.2)])⟩⟩
def na_account (A : na_A) (w : Int) : Int :=
  if ¬ (0 ≤ w ∧ w ≤ 4) then -2000000001 else if w = 4 then A.1 250 + A.1 251 + A.1 252 + A.1 253 else A.1 (250 + w).toNat
def no_account (A : na_A) (w : Int) : na_A × Int := (A, na_account A w)
theorem m_account {A : na_A} {w : Int} (r1 : ga_rg w) (eA : na_ab I = A) (h : na_E E I (no_account A w)) : ga_W G (d + 1) mt_Mo_account 0 (ga_en 2 [.inr 348, .inl w]) [] I E := by
  refine k_Mo_account_0 r1 (fun hI I1 e1 => ?_)
  obtain ⟨s1, v1, m1, x1, l1⟩ := na_t1 eA e1
  unfold no_account na_account at h
  rw [s1]
  exact ⟨fun q1 => ⟨fun q2 => na_q h eA e1 (by rw [if_neg (fun w => w q1), if_pos (by omega)]), fun q2 => ⟨by omega, by omega, na_q h eA e1 (by rw [if_neg (fun w => w q1), if_neg (by omega)])⟩⟩, fun q1 => na_q h eA e1 (by rw [if_pos q1])⟩
def na_nu (s : Nat → Int) (g : Int) : Int := gp_nu (na_f s 0) (na_f s 1) (fun c r => s (38 + 4 * (7 * c + r) + g).toNat)
def na_gain (A : na_A) (g w : Int) : Int :=
  if ¬ ((0 ≤ g ∧ g ≤ 2) ∧ (0 ≤ w ∧ w ≤ 2)) then -2000000001
  else if w = 0 then mp_pv A.1 g else if w = 1 then na_nu A.1 g else (na_f A.1 0).2.2.2 * (na_f A.1 1).2.2.2
def no_gain (A : na_A) (g w : Int) : na_A × Int := (A, na_gain A g w)
theorem m_gain {A : na_A} {g w : Int} (r1 : ga_rg g) (r2 : ga_rg w) (eA : na_ab I = A) (hA : ni_a A) (h : na_E E I (no_gain A g w)) : ga_W G (d + 4) mt_Mo_gain 0 (ga_en 3 [.inr 348, .inl g, .inl w]) [] I E := by
  have hs : ni_s A.1 := hA.1
  refine k_Mo_gain_0 r1 r2 (fun hI I1 e1 => ?_)
  obtain ⟨s1, v1, m1, x1, l1⟩ := na_t1 eA e1
  obtain ⟨a0, a1, a2, a3, a4, a5⟩ := ni_all s1 hs
  unfold no_gain na_gain at h
  refine ⟨fun q1 => na_q h eA e1 (by rw [if_pos (fun w => q1 w.1)]), fun q1 => ⟨fun q2 => ⟨a0, a1, a3, fun I2 e2 => ?_⟩, fun q2 => na_q h eA e1 (by rw [if_pos (fun w => q2 w.2)])⟩⟩
  have f2 : ∀ a, a < 353 ∨ 357 ≤ a → I2 a = I1 a := fun a ha => by rw [e2]; exact mx_lp_s ha
  have f3 : ∀ a, a < 350 ∨ (350 < a ∧ a < 353) → I2 a = I1 a := fun a ha => f2 a (by omega)
  have s2 : I2 349 = A.1 := by rw [f2 _ (by omega), s1]
  have w0 : mo_v I2 0 = na_f A.1 0 := by rw [e2]; exact mx_lp_0.trans (by rw [s1]; rfl)
  have w1 : mo_v I2 1 = na_f A.1 1 := by rw [e2]; exact mx_lp_1.trans (by rw [s1]; rfl)
  have k0 : gp_vk (mo_v I2 0) := by rw [e2, mx_lp_0]; exact mp_f_k a0 a3.1
  have k1 : gp_vk (mo_v I2 1) := by rw [e2, mx_lp_1]; exact mp_f_k a1 a3.2.1
  have g2 := (ni_all s2 hs).2.2.2.2.2
  have c0 : I2 356 0 = (na_f A.1 0).2.2.2 := by rw [← w0]; rfl
  have c1 : I2 356 1 = (na_f A.1 1).2.2.2 := by rw [← w1]; rfl
  have qq : ¬ ¬ ((0 ≤ g ∧ g ≤ 2) ∧ (0 ≤ w ∧ w ≤ 2)) := fun w => w ⟨q1, q2⟩
  refine ⟨fun q3 => ⟨fun q4 => ?_, fun q4 => ⟨k0, k1, q1, fun z1 f1 => ?_⟩⟩, fun q3 => ⟨k0, k1, q1, g2, fun z1 f1 => ?_⟩⟩
  · rw [c0, c1]; exact na_v h eA e1 f3 (by rw [if_neg qq, if_neg q3, if_neg q4])
  · rw [w0, w1, s2] at f1; exact na_v h eA e1 f3 (by rw [if_neg qq, if_neg q3, if_pos q4, f1]; rfl)
  · rw [w0, w1, s2] at f1; exact na_v h eA e1 f3 (by rw [if_neg qq, if_pos q3, f1]; rfl)
def na_trail (A : na_A) (b w : Int) : Int :=
  if ¬ (0 ≤ b ∧ (0 ≤ w ∧ w ≤ 7)) then -2000000001 else if b < A.1 254 then A.1 (255 + 8 * (A.1 254 - 1 - b) + w).toNat else -2000000009
def no_trail (A : na_A) (b w : Int) : na_A × Int := (A, na_trail A b w)
theorem m_trail {A : na_A} {b w : Int} (r1 : ga_rg b) (r2 : ga_rg w) (eA : na_ab I = A) (hA : ni_a A) (h : na_E E I (no_trail A b w)) : ga_W G (d + 1) mt_Mo_trail 0 (ga_en 3 [.inr 348, .inl b, .inl w]) [] I E := by
  have hn := hA.1.2.2.2.1
  refine k_Mo_trail_0 r1 r2 (fun hI I1 e1 => ?_)
  obtain ⟨s1, v1, m1, x1, l1⟩ := na_t1 eA e1
  unfold no_trail na_trail at h
  rw [s1]
  exact ⟨fun q1 => na_q h eA e1 (by rw [if_pos (fun w => absurd w.1 (by omega))]), fun q1 => ⟨fun q2 => ⟨fun q3 => na_q h eA e1 (by rw [if_neg (fun w => w ⟨by omega, q2⟩), if_neg (by omega)]), fun q3 => ⟨by omega, by omega, na_q h eA e1 (by rw [if_neg (fun w => w ⟨by omega, q2⟩), if_pos (by omega)])⟩⟩, fun q2 => na_q h eA e1 (by rw [if_pos (fun w => q2 w.2)])⟩⟩
def na_refusal (A : na_A) (op c r i z : Int) : Int := if na_ed A.1 op c r i z then ns_ra A.1 op c r i z else -2000000001
def no_refusal (A : na_A) (op c r i z : Int) : na_A × Int := (A, na_refusal A op c r i z)
theorem m_refusal {A : na_A} {op c r i z : Int} (r1 : ga_rg op) (r2 : ga_rg c) (r3 : ga_rg r) (r4 : ga_rg i) (r5 : ga_rg z) (eA : na_ab I = A) (hA : ni_a A) (h : na_E E I (no_refusal A op c r i z)) : ga_W G (d + 3) mt_Mo_refusal 0 (ga_en 6 [.inr 348, .inl op, .inl c, .inl r, .inl i, .inl z]) [] I E := by
  have hs : ni_s A.1 := hA.1
  refine k_Mo_refusal_0 r1 r2 r3 r4 r5 (fun hI I1 e1 => ?_)
  obtain ⟨s1, v1, m1, x1, l1⟩ := na_t1 eA e1
  unfold no_refusal na_refusal at h
  have n0 := ni_n hs.1 (ax := 0) (by omega)
  have n1 := ni_n hs.1 (ax := 1) (by omega)
  have hg := (ni_all s1 hs).2.2.2.2.2
  rw [s1]
  exact ⟨fun q1 => na_q h eA e1 (by rw [if_neg q1]), fun q1 => ⟨q1.1, by omega, by omega, by omega, by omega, hg, fun z1 f1 => na_q h eA e1 (by rw [if_pos q1, f1]; rfl)⟩⟩
def na_effect (A : na_A) (x y : Int) : Int :=
  if ¬ ((0 ≤ x ∧ x ≤ 1000) ∧ (0 ≤ y ∧ y ≤ 1000)) then -2000000001 else if na_ig A.1 x y then 0
  else 1 + (if ns_go A.1 x y 236 = A.1 236 then 0 else 2) + (if ns_go A.1 x y 237 = A.1 237 then 0 else 4) + (if ns_by A.1 (ns_go A.1 x y) ≤ 0 then 0 else 8)
def no_effect (A : na_A) (x y : Int) : na_A × Int := (A, na_effect A x y)
theorem ni_go {s : Nat → Int} {x y : Int} (h : ni_s s) (hx : 0 ≤ x ∧ x ≤ 1000) (hy : 0 ≤ y ∧ y ≤ 1000) : ni_s (ns_go s x y) := by
  have hz := ns_go_zn (I := fun _ => s) h.1.1 h.1.2.1 h.2.2.1 x y
  refine ni_of h (fun j hj => ns_go_o (by omega)) (fun j hj => ns_go_o (by omega)) ?_ hz ?_
  · rw [ns_go_v.1, ns_go_v.2.1]; exact ⟨hx, hy⟩
  · rw [ns_go_o (by omega)]; exact h.2.2.2.1
theorem m_effect {A : na_A} {x y : Int} (r1 : ga_rg x) (r2 : ga_rg y) (eA : na_ab I = A) (hA : ni_a A) (h : na_E E I (no_effect A x y)) : ga_W G (d + 5) mt_Mo_effect 0 (ga_en 6 [.inr 348, .inl x, .inl y]) [] I E := by
  have hs : ni_s A.1 := hA.1
  refine k_Mo_effect_0 r1 r2 (fun hI I1 e1 => ?_)
  obtain ⟨s1, v1, m1, x1, l1⟩ := na_t1 eA e1
  obtain ⟨a0, a1, a2, a3, a4, a5⟩ := ni_all s1 hs
  unfold no_effect na_effect at h
  rw [s1]
  refine ⟨fun q1 => na_q h eA e1 (by rw [if_pos (fun w => q1 w.1)]), fun q1 => ⟨fun q2 => ⟨q1, q2, a3, fun q3 I2 e2 => ?_, fun q3 => na_q h eA e1 (by rw [if_neg (fun w => w ⟨q1, q2⟩), if_pos q3])⟩, fun q2 => na_q h eA e1 (by rw [if_pos (fun w => q2 w.2)])⟩⟩
  rw [if_neg (fun w => w ⟨q1, q2⟩), if_neg q3] at h
  have s2 : I2 349 = A.1 := by rw [e2, ga_uc_ne (by omega), s1]
  have f2 : ∀ a, a ≠ 350 → I2 a = I1 a := fun a ha => by rw [e2, ga_uc_ne ha]
  have o2 : I2 350 = av_cp (I1 350) A.1 0 1120 := by rw [e2, ga_uc_at]
  obtain ⟨b0, b1, b2, b3, b4, b5⟩ := ni_all s2 hs
  refine ⟨b0, b1, b3, b5, fun I3 e3 => ?_⟩
  have s3 : I3 349 = A.1 := by rw [e3, mx_nv_s _ (by omega), s2]
  have f3 : ∀ a, a < 353 ∨ 357 < a → I3 a = I2 a := fun a ha => by rw [e3, mx_nv_s _ ha]
  have v3 := mx_nv_a I2
  rw [← e3, s2] at v3
  obtain ⟨c0, c1, c2, c3, c4, c5⟩ := ni_all s3 hs
  refine ⟨c0, c1, c4, fun I4 e4 => ?_⟩
  rw [mx_go_uc, s3] at e4
  have s4 : I4 349 = ns_go A.1 x y := by rw [e4, ga_uc_at]
  have f4 : ∀ a, a ≠ 349 → I4 a = I3 a := fun a ha => by rw [e4, ga_uc_ne ha]
  have hs4 := ni_go hs q1 q2
  obtain ⟨d0, d1, d2, d3, d4, d5⟩ := ni_all s4 hs4
  have v4 : I4 357 0 = mp_pv A.1 0 ∧ I4 357 1 = mp_pv A.1 1 ∧ I4 357 2 = mp_pv A.1 2 := by rw [f4 357 (by omega)]; exact v3
  have ah4 : mo_ah I4 := fun i hi => by
    rcases (show i = 0 ∨ i = 1 ∨ i = 2 by omega) with q | q | q <;> subst q
    · rw [v4.1]; exact ni_pv hs (by omega)
    · rw [v4.2.1]; exact ni_pv hs (by omega)
    · rw [v4.2.2]; exact ni_pv hs (by omega)
  rw [v4.1, v4.2.1, v4.2.2, s4, s2]
  change (_ → (_ → _ ∧ _ ∧ _ ∧ _ ∧ _ ∧ ∀ I5 : ga_I, I5 = mx_lp I4 → ga_rg (ns_by A.1 (ns_go A.1 x y)) ∧ (ns_by A.1 (ns_go A.1 x y) ≤ 0 → _) ∧ (¬ (ns_by A.1 (ns_go A.1 x y) ≤ 0) → _)) ∧ (_ → _ ∧ _ ∧ _ ∧ _ ∧ _ ∧ ∀ I5 : ga_I, I5 = mx_lp I4 → ga_rg (ns_by A.1 (ns_go A.1 x y)) ∧ (ns_by A.1 (ns_go A.1 x y) ≤ 0 → _) ∧ (¬ (ns_by A.1 (ns_go A.1 x y) ≤ 0) → _))) ∧ (_ → (_ → _ ∧ _ ∧ _ ∧ _ ∧ _ ∧ ∀ I5 : ga_I, I5 = mx_lp I4 → ga_rg (ns_by A.1 (ns_go A.1 x y)) ∧ (ns_by A.1 (ns_go A.1 x y) ≤ 0 → _) ∧ (¬ (ns_by A.1 (ns_go A.1 x y) ≤ 0) → _)) ∧ (_ → _ ∧ _ ∧ _ ∧ _ ∧ _ ∧ ∀ I5 : ga_I, I5 = mx_lp I4 → ga_rg (ns_by A.1 (ns_go A.1 x y)) ∧ (ns_by A.1 (ns_go A.1 x y) ≤ 0 → _) ∧ (¬ (ns_by A.1 (ns_go A.1 x y) ≤ 0) → _)))
  have hby := ns_by_bd hs hs4
  have hrg : ga_rg (ns_by A.1 (ns_go A.1 x y)) := ⟨by omega, by omega⟩
  have fin : ∀ (I5 I6 : ga_I) (z : Int), I5 = mx_lp I4 → I6 = ga_uc I5 349 (av_cp (I5 349) (I5 350) 0 1120) → z = 1 + (if ns_go A.1 x y 236 = A.1 236 then 0 else 2) + (if ns_go A.1 x y 237 = A.1 237 then 0 else 4) + (if ns_by A.1 (ns_go A.1 x y) ≤ 0 then 0 else 8) → E (some (.inl z)) I6 := fun I5 I6 z e5 e6 hz => by
    have f5 : ∀ a, a < 353 → I5 a = I4 a := fun a ha => by rw [e5]; exact mx_lp_s (by omega)
    have hrow : av_cp (I5 349) (I5 350) 0 1120 = A.1 := by
      rw [f5 _ (by omega), f5 _ (by omega), f4 350 (by omega), f3 350 (by omega), o2, s4]
      funext j
      unfold av_cp
      by_cases q : 0 ≤ j ∧ j < 0 + 1120
      · rw [if_pos q, if_pos (by omega)]; rfl
      · rw [if_neg q]; exact ns_go_o (by omega)
    rw [hrow] at e6
    refine na_v h eA e1 (fun a ha => ?_) (by rw [hz])
    by_cases q : a = 349
    · rw [q, e6, ga_uc_at, s1]
    · rw [e6, ga_uc_ne q, f5 a (by omega), f4 a q, f3 a (by omega), f2 a (by omega)]
  refine ⟨fun w1 => ⟨fun w2 => ⟨d0, d1, d3, d5, ah4, fun I5 e5 => ⟨hrg, fun w3 I6 e6 => ?_, fun w3 I6 e6 => ?_⟩⟩, fun w2 => ⟨d0, d1, d3, d5, ah4, fun I5 e5 => ⟨hrg, fun w3 I6 e6 => ?_, fun w3 I6 e6 => ?_⟩⟩⟩, fun w1 => ⟨fun w2 => ⟨d0, d1, d3, d5, ah4, fun I5 e5 => ⟨hrg, fun w3 I6 e6 => ?_, fun w3 I6 e6 => ?_⟩⟩, fun w2 => ⟨d0, d1, d3, d5, ah4, fun I5 e5 => ⟨hrg, fun w3 I6 e6 => ?_, fun w3 I6 e6 => ?_⟩⟩⟩⟩
  · exact fin I5 I6 _ e5 e6 (by rw [if_pos w1, if_pos w2, if_pos w3])
  · exact fin I5 I6 _ e5 e6 (by rw [if_pos w1, if_pos w2, if_neg w3])
  · exact fin I5 I6 _ e5 e6 (by rw [if_pos w1, if_neg w2, if_pos w3])
  · exact fin I5 I6 _ e5 e6 (by rw [if_pos w1, if_neg w2, if_neg w3])
  · exact fin I5 I6 _ e5 e6 (by rw [if_neg w1, if_pos w2, if_pos w3])
  · exact fin I5 I6 _ e5 e6 (by rw [if_neg w1, if_pos w2, if_neg w3])
  · exact fin I5 I6 _ e5 e6 (by rw [if_neg w1, if_neg w2, if_pos w3])
  · exact fin I5 I6 _ e5 e6 (by rw [if_neg w1, if_neg w2, if_neg w3])
def na_valueAt (A : na_A) (x y g : Int) : Int :=
  if ¬ ((0 ≤ x ∧ x ≤ 1000) ∧ (0 ≤ y ∧ y ≤ 1000) ∧ (0 ≤ g ∧ g ≤ 2)) then -2000000001 else mp_vt A.1 x y g
def no_valueAt (A : na_A) (x y g : Int) : na_A × Int := (A, na_valueAt A x y g)
theorem m_valueAt {A : na_A} {x y g : Int} (r1 : ga_rg x) (r2 : ga_rg y) (r3 : ga_rg g) (eA : na_ab I = A) (hA : ni_a A) (h : na_E E I (no_valueAt A x y g)) : ga_W G (d + 4) mt_Mo_valueAt 0 (ga_en 4 [.inr 348, .inl x, .inl y, .inl g]) [] I E := by
  have hs : ni_s A.1 := hA.1
  refine k_Mo_valueAt_0 r1 r2 r3 (fun hI I1 e1 => ?_)
  obtain ⟨s1, v1, m1, x1, l1⟩ := na_t1 eA e1
  obtain ⟨a0, a1, a2, a3, a4, a5⟩ := ni_all s1 hs
  unfold no_valueAt na_valueAt at h
  rw [s1]
  exact ⟨fun q1 => na_q h eA e1 (by rw [if_pos (fun w => q1 w.1)]), fun q1 => ⟨fun q2 => na_q h eA e1 (by rw [if_pos (fun w => q2 w.2.1)]), fun q2 => ⟨fun q3 => na_q h eA e1 (by rw [if_pos (fun w => q3 w.2.2)]), fun q3 => ⟨a0, a1, a5, q1, q2, q3, fun I2 e2 => na_v h eA e1 (fun a ha => e2 a (by omega)) (by rw [if_neg (fun w => w ⟨q1, q2, q3⟩)])⟩⟩⟩⟩
def na_chatter (A : na_A) (ax c m t : Int) : Int :=
  if ¬ ((0 ≤ ax ∧ ax ≤ 1) ∧ (0 ≤ c ∧ c ≤ 1000) ∧ (0 ≤ m ∧ m ≤ 500) ∧ (1 ≤ t ∧ t ≤ 100) ∧ (0 ≤ c - m ∧ c + m ≤ 1000)) then -2000000001
  else (gp_zc (ms_p A.1 ax) (ms_q A.1 ax) (ms_r A.1 ax) (ms_n A.1 ax).toNat (A.1 (236 + ax).toNat) c m t.toNat).1
def no_chatter (A : na_A) (ax c m t : Int) : na_A × Int := (A, na_chatter A ax c m t)
theorem ni_zax {s : Nat → Int} {ax : Int} (h : ni_z s) (ha : 0 ≤ ax ∧ ax ≤ 1) : 0 ≤ s (236 + ax).toNat ∧ s (236 + ax).toNat ≤ gp_ct (gp_sk (ms_q s ax)) (ms_n s ax).toNat := by
  rcases (show ax = 0 ∨ ax = 1 by omega) with w | w <;> subst w
  · exact h.1
  · exact h.2
theorem m_chatter {A : na_A} {ax c m t : Int} (r1 : ga_rg ax) (r2 : ga_rg c) (r3 : ga_rg m) (r4 : ga_rg t) (eA : na_ab I = A) (hA : ni_a A) (h : na_E E I (no_chatter A ax c m t)) : ga_W G (d + 4) mt_Mo_chatter 0 (ga_en 5 [.inr 348, .inl ax, .inl c, .inl m, .inl t]) [] I E := by
  have hs : ni_s A.1 := hA.1
  refine k_Mo_chatter_0 r1 r2 r3 r4 (fun hI I1 e1 => ?_)
  obtain ⟨s1, v1, m1, x1, l1⟩ := na_t1 eA e1
  have a2 := (ni_all s1 hs).2.2.1
  unfold no_chatter na_chatter at h
  rw [s1]
  exact ⟨fun q1 => na_q h eA e1 (by rw [if_pos (fun w => q1 w.1)]), fun q1 => ⟨fun q2 => na_q h eA e1 (by rw [if_pos (fun w => q2 w.2.1)]), fun q2 => ⟨fun q3 => na_q h eA e1 (by rw [if_pos (fun w => q3 w.2.2.1)]), fun q3 => ⟨fun q4 => ⟨⟨by omega, by omega⟩, ⟨by omega, by omega⟩, fun q5 => ⟨by omega, by omega, ni_ax s1 hs q1, a2, q1, ni_zax hs.2.2.1 q1, by omega, fun z1 f1 => na_q h eA e1 (by rw [if_neg (fun w => w ⟨q1, q2, q3, q4, q5⟩), f1])⟩, fun q5 => na_q h eA e1 (by rw [if_pos (fun w => q5 w.2.2.2.2)])⟩, fun q4 => na_q h eA e1 (by rw [if_pos (fun w => q4 w.2.2.2.1)])⟩⟩⟩⟩
end MQ
