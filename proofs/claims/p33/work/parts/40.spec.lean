/-! what each call answers, and what it leaves, as functions of rows -/
abbrev na_A := (Nat → Int) × (Nat → Int) × Int × (Nat → Int) × Int
def na_act (A : na_A) (r : Nat → Int) : na_A := (r, ac_v A.2.1 A.1 A.2.2.1, min (A.2.2.1 + 1) 5, A.2.2.2.1, A.2.2.2.2)
def ni_ok (s : Nat → Int) (ax : Int) : Prop := gp_ok (ms_n s ax) (ms_p s ax) (ms_q s ax) (ms_r s ax)
def ni_t (s : Nat → Int) : Prop := ni_ok s 0 ∧ ni_ok s 1 ∧ (∀ g i : Nat, g < 49 → i < 3 → 0 ≤ s (38 + 4 * g + i) ∧ s (38 + 4 * g + i) ≤ 9999) ∧ ∀ g : Nat, g < 49 → -1 ≤ s (38 + 4 * g + 3) ∧ s (38 + 4 * g + 3) ≤ 2
def ni_z (s : Nat → Int) : Prop := (0 ≤ s 236 ∧ s 236 ≤ gp_ct (gp_sk (ms_q s 0)) (ms_n s 0).toNat) ∧ (0 ≤ s 237 ∧ s 237 ≤ gp_ct (gp_sk (ms_q s 1)) (ms_n s 1).toNat)
def ni_s (s : Nat → Int) : Prop := ni_t s ∧ ((0 ≤ s 234 ∧ s 234 ≤ 1000) ∧ (0 ≤ s 235 ∧ s 235 ≤ 1000)) ∧ ni_z s ∧ (0 ≤ s 254 ∧ s 254 ≤ 20) ∧ ∀ p : Nat, p < 3 → (s (415 + 235 * p) = 0 ∨ s (415 + 235 * p) = 1) ∧ (s (415 + 235 * p) = 1 → ni_t (fun j => s (416 + 235 * p + j)))
def ni_a (A : na_A) : Prop := ni_s A.1 ∧ (0 ≤ A.2.2.1 ∧ A.2.2.1 ≤ 5) ∧ (∀ i : Nat, (i : Int) < A.2.2.1 → ni_s (fun j => A.2.1 (1120 * i + j))) ∧ (0 ≤ A.2.2.2.2 ∧ A.2.2.2.2 ≤ 160) ∧ ∀ i : Nat, (i : Int) < A.2.2.2.2 → 1 ≤ A.2.2.2.1 i ∧ A.2.2.2.1 i ≤ 255
theorem ni_all {I : ga_I} {s : Nat → Int} (e : I 349 = s) (h : ni_s s) : mo_ok I 0 ∧ mo_ok I 1 ∧ mo_n I ∧ mo_pz I ∧ mo_zn I ∧ mo_g I := by
  subst e
  obtain ⟨⟨h0, h1, h2, -⟩, hp, hz, -, -⟩ := h
  have hz2 := mo_zn_10 (I := I) h0 h1 hz
  exact ⟨h0, h1, mo_n_of h0 h1, ⟨hp.1, hp.2, by omega, by omega⟩, hz, h2⟩
theorem ni_axs {s : Nat → Int} {ax : Int} (h : ni_t s) (ha : 0 ≤ ax ∧ ax ≤ 1) : ni_ok s ax := by
  rcases (show ax = 0 ∨ ax = 1 by omega) with q | q <;> subst q
  · exact h.1
  · exact h.2.1
def no_addBorder (A : na_A) (ax x q r : Int) : na_A × Int :=
  if ¬ ((0 ≤ ax ∧ ax ≤ 1) ∧ (1 ≤ x ∧ x ≤ 999) ∧ ((0 ≤ q ∧ q ≤ 1) ∧ (q ≤ r ∧ r ≤ 100)) ∧ (0 ≤ x - r ∧ x + r ≤ 1000)) then (A, -2000000001)
  else if gp_fr (ms_p A.1 ax) (ms_r A.1 ax) x r (-2000000009) (ms_n A.1 ax).toNat = false then (A, -2000000002)
  else if ms_n A.1 ax = 6 then (A, -2000000003)
  else (na_act A (ns_st (ns_in A.1 ax (gp_st (ms_p A.1 ax) x (ms_n A.1 ax).toNat).toNat (ms_n A.1 ax).toNat x q r) (ns_tt A.1)), gp_st (ms_p A.1 ax) x (ms_n A.1 ax).toNat)
def ns_de (s : Nat → Int) (ax : Int) (b n : Nat) : Nat → Int := fun j =>
  if j = (19 * ax).toNat then s j - 1
  else if (19 * ax).toNat + 1 + 3 * b ≤ j ∧ j + 3 < (19 * ax).toNat + 1 + 3 * n then s (j + 3)
  else if 38 ≤ j ∧ j < 234 then s (38 + 4 * gp_upr ax (b + 2) (n - b - 1) ((j - 38) / 4) + (j - 38) % 4) else s j
def no_removeBorder (A : na_A) (ax b : Int) : na_A × Int :=
  if ¬ ((0 ≤ ax ∧ ax ≤ 1) ∧ (0 ≤ b ∧ b < ms_n A.1 ax)) then (A, -2000000001)
  else (na_act A (ns_st (ns_de A.1 ax b.toNat (ms_n A.1 ax).toNat) (ns_tt A.1)), ms_n A.1 ax - 1)
def no_setReach (A : na_A) (ax b r : Int) : na_A × Int :=
  if ¬ ((0 ≤ ax ∧ ax ≤ 1) ∧ (0 ≤ b ∧ b < ms_n A.1 ax)) then (A, -2000000001)
  else if ¬ ((ms_q A.1 ax b.toNat ≤ r ∧ r ≤ 100) ∧ (0 ≤ ms_p A.1 ax b.toNat - r ∧ ms_p A.1 ax b.toNat + r ≤ 1000)) then (A, -2000000001)
  else if gp_fr (ms_p A.1 ax) (ms_r A.1 ax) (ms_p A.1 ax b.toNat) r b (ms_n A.1 ax).toNat = false then (A, -2000000002)
  else (na_act A (ns_fz (ns_up A.1 ((19 * ax).toNat + 1 + 3 * b.toNat + 2) r)), ms_r A.1 ax b.toNat)
def no_setOperator (A : na_A) (op w z : Int) : na_A × Int :=
  if ¬ ((0 ≤ op ∧ op ≤ 2) ∧ ((w = 0 ∧ 1 ≤ z ∧ z ≤ 9999) ∨ (w = 1 ∧ 0 ≤ z ∧ z ≤ 99999))) then (A, -2000000001)
  else (na_act A (ns_up A.1 (241 + 3 * op + w).toNat z), A.1 (241 + 3 * op + w).toNat)
abbrev na_ed (s : Nat → Int) (op c r i z : Int) : Prop := (0 ≤ op ∧ op ≤ 2) ∧ ((0 ≤ c ∧ c ≤ ms_n s 0) ∧ (0 ≤ r ∧ r ≤ ms_n s 1)) ∧ (0 ≤ i ∧ i ≤ 2) ∧ (0 ≤ z ∧ z ≤ 9999)
def ns_ra (s : Nat → Int) (op c r i z : Int) : Int := mp_ra (s (38 + 4 * (7 * c + r) + 3).toNat) (s (38 + 4 * (7 * c + r) + i).toNat) (s (241 + 3 * op).toNat) (s (241 + 3 * op + 1).toNat) op z
def ns_ch (s : Nat → Int) (op : Int) (j : Nat) (z : Int) : Nat → Int := ns_up (ns_up (ns_up (ns_up s (241 + 3 * op + 1).toNat (ga_wr (s (241 + 3 * op + 1).toNat - ((s j - z).natAbs : Int)))) (241 + 3 * op + 2).toNat (ga_wr (s (241 + 3 * op + 2).toNat + 1))) (250 + op).toNat (ga_wr (s (250 + op).toNat + (z - s j)))) j z
def no_edit (A : na_A) (op c r i z : Int) : na_A × Int :=
  if ¬ na_ed A.1 op c r i z then (A, -2000000001)
  else if ns_ra A.1 op c r i z ≠ 0 then (A, -2000000002)
  else (na_act A (ns_ch A.1 op (38 + 4 * (7 * c + r) + i).toNat z), A.1 (38 + 4 * (7 * c + r) + i).toNat)
def ns_sv (s : Nat → Int) (c r i pc : Int) : Int := min (Int.tdiv (s (38 + 4 * (7 * c + r) + i).toNat * pc) 100) 9999
def ns_s1 (op i pc : Int) (X : (Nat → Int) × Int) (c r : Int) : (Nat → Int) × Int := if ns_ra X.1 op c r i (ns_sv X.1 c r i pc) = 0 then (ns_ch X.1 op (38 + 4 * (7 * c + r) + i).toNat (ns_sv X.1 c r i pc), X.2 + 1) else X
def ns_s2 (op i pc : Int) (X : (Nat → Int) × Int) (c : Int) : Nat → (Nat → Int) × Int
  | 0 => X
  | r + 1 => ns_s1 op i pc (ns_s2 op i pc X c r) c (r : Int)
def ns_s3 (op i pc : Int) (X : (Nat → Int) × Int) (m : Nat) : Nat → (Nat → Int) × Int
  | 0 => X
  | c + 1 => ns_s2 op i pc (ns_s3 op i pc X m c) (c : Int) m
def no_scale (A : na_A) (op i pc : Int) : na_A × Int :=
  if ¬ ((0 ≤ op ∧ op ≤ 2) ∧ (0 ≤ i ∧ i ≤ 2) ∧ (0 ≤ pc ∧ pc ≤ 1000)) then (A, -2000000001)
  else (na_act A (ns_s3 op i pc (A.1, 0) ((ms_n A.1 1).toNat + 1) ((ms_n A.1 0).toNat + 1)).1, (ns_s3 op i pc (A.1, 0) ((ms_n A.1 1).toNat + 1) ((ms_n A.1 0).toNat + 1)).2)
def ns_lo (s : Nat → Int) (op : Int) : Int := gp_tt (mp_lk s op) ((ms_n s 0).toNat + 1) ((ms_n s 1).toNat + 1)
def no_lock (A : na_A) (op c r l : Int) : na_A × Int :=
  if ¬ ((0 ≤ op ∧ op ≤ 2) ∧ ((0 ≤ c ∧ c ≤ ms_n A.1 0) ∧ (0 ≤ r ∧ r ≤ ms_n A.1 1)) ∧ (0 ≤ l ∧ l ≤ 1)) then (A, -2000000001)
  else if A.1 (38 + 4 * (7 * c + r) + 3).toNat ≠ (if l = 1 then -1 else op) then (A, -2000000002)
  else (na_act A (ns_up A.1 (38 + 4 * (7 * c + r) + 3).toNat (if l = 1 then op else -1)), ns_lo (ns_up A.1 (38 + 4 * (7 * c + r) + 3).toNat (if l = 1 then op else -1)) op)
def no_setMargin (A : na_A) (z : Int) : na_A × Int :=
  if ¬ (0 ≤ z ∧ z ≤ 50) then (A, -2000000001) else (na_act A (ns_up A.1 238 z), A.1 238)
def no_move (A : na_A) (x y : Int) : na_A × Int :=
  if ¬ ((0 ≤ x ∧ x ≤ 1000) ∧ (0 ≤ y ∧ y ≤ 1000)) then (A, -2000000001) else (na_act A (ns_mm A.1 x y), na_mm A.1 x y)
def ns_tw (c to step : Int) : Int := if c < to then min (c + step) to else max (c - step) to
def ns_mw (s : Nat → Int) (ax c : Int) : Nat → Int := if ax = 0 then ns_mm s c (s 235) else ns_mm s (s 234) c
def ns_sw (ax to step : Int) : Nat → (Nat → Int) → Int → Int → (Nat → Int) × Int
  | 0, s, _, ch => (s, ch)
  | f + 1, s, c, ch => if c = to then (s, ch) else ns_sw ax to step f (ns_mw s ax (ns_tw c to step)) (ns_tw c to step) (if ns_mw s ax (ns_tw c to step) (236 + ax).toNat = s (236 + ax).toNat then ch else ch + 1)
def no_sweep (A : na_A) (ax to step : Int) : na_A × Int :=
  if ¬ ((0 ≤ ax ∧ ax ≤ 1) ∧ (0 ≤ to ∧ to ≤ 1000) ∧ (1 ≤ step ∧ step ≤ 1000)) then (A, -2000000001)
  else if A.1 (234 + ax).toNat = to then (A, -2000000002)
  else (na_act A (ns_sw ax to step 1000 A.1 (A.1 (234 + ax).toNat) 0).1, (ns_sw ax to step 1000 A.1 (A.1 (234 + ax).toNat) 0).2)
def ns_tk (s : Nat → Int) (p : Nat) : Nat → Int := fun j => if j = 415 + 235 * p then 1 else if 416 + 235 * p ≤ j ∧ j < 416 + 235 * p + 234 then s (j - (416 + 235 * p)) else s j
def ns_rg (s : Nat → Int) : Int := (ms_n s 0 + 1) * (ms_n s 1 + 1)
def no_take (A : na_A) (p : Int) : na_A × Int :=
  if ¬ (0 ≤ p ∧ p ≤ 2) then (A, -2000000001) else (na_act A (ns_tk A.1 p.toNat), ns_rg A.1)
def ns_rs (s : Nat → Int) (p : Nat) : Nat → Int := fun j => if j < 234 then s (416 + 235 * p + j) else s j
def no_restore (A : na_A) (p : Int) : na_A × Int :=
  if ¬ (0 ≤ p ∧ p ≤ 2) then (A, -2000000001)
  else if A.1 (415 + 235 * p.toNat) = 0 then (A, -2000000002)
  else (na_act A (ns_st (ns_rs A.1 p.toNat) (ns_tt A.1)), ns_rg (ns_rs A.1 p.toNat))
def no_undo (A : na_A) : na_A × Int :=
  if A.2.2.1 = 0 then (A, -2000000002)
  else ((av_cp A.1 (fun j => A.2.1 (1120 * (A.2.2.1.toNat - 1) + j)) 0 1120, A.2.1, A.2.2.1 - 1, A.2.2.2.1, A.2.2.2.2), A.2.2.1 - 1)
def no_append (A : na_A) (c : Int) : na_A × Int :=
  if ¬ (1 ≤ c ∧ c ≤ 255) then (A, -2000000001)
  else if A.2.2.2.2 = 160 then (A, -2000000003)
  else ((A.1, A.2.1, A.2.2.1, ns_up A.2.2.2.1 A.2.2.2.2.toNat c, A.2.2.2.2 + 1), A.2.2.2.2 + 1)
def no_clearText (A : na_A) : na_A × Int := ((A.1, A.2.1, A.2.2.1, A.2.2.2.1, 0), A.2.2.2.2)
