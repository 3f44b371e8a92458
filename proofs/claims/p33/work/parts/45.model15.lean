/-! the reference: what is asked -/
section MQ
variable {G : ga_G} {d : Nat} {I : ga_I} {E : Option ga_V → ga_I → Prop}
def na_count (A : na_A) (w : Int) : Int :=
  if w = 0 then ns_rg A.1 else if w = 1 then A.1 238 else if 2 ≤ w ∧ w ≤ 5 then A.1 (232 + w).toNat else if w = 6 then A.1 254 else if w = 7 then A.1 239 else if w = 8 then A.1 240
  else if w = 9 then A.2.2.1 else if w = 10 then A.2.2.2.2 else if w = 11 then A.1 415 + A.1 650 + A.1 885 else -2000000001
def no_count (A : na_A) (w : Int) : na_A × Int := (A, na_count A w)
def na_f (s : Nat → Int) (ax : Int) : Int × Int × Int × Int := mp_f s ax (s (236 + ax).toNat) (s (234 + ax).toNat)
def na_axis (A : na_A) (ax w : Int) : Int :=
  if ¬ ((0 ≤ ax ∧ ax ≤ 1) ∧ (0 ≤ w ∧ w ≤ 5)) then -2000000001
  else if w = 0 then ms_n A.1 ax else if w = 1 then gp_ct (gp_sk (ms_q A.1 ax)) (ms_n A.1 ax).toNat + 1 else if w = 2 then (na_f A.1 ax).1 else if w = 3 then (na_f A.1 ax).2.1 else if w = 4 then (na_f A.1 ax).2.2.1 else (na_f A.1 ax).2.2.2
def no_axis (A : na_A) (ax w : Int) : na_A × Int := (A, na_axis A ax w)
def na_border (A : na_A) (ax b w : Int) : Int :=
  if ¬ ((0 ≤ ax ∧ ax ≤ 1) ∧ 0 ≤ b ∧ (0 ≤ w ∧ w ≤ 2)) then -2000000001 else if b < ms_n A.1 ax then ms_b A.1 ax b w else -2000000009
def no_border (A : na_A) (ax b w : Int) : na_A × Int := (A, na_border A ax b w)
def na_region (A : na_A) (c r w : Int) : Int :=
  if ¬ (((0 ≤ c ∧ c ≤ ms_n A.1 0) ∧ (0 ≤ r ∧ r ≤ ms_n A.1 1)) ∧ (0 ≤ w ∧ w ≤ 3)) then -2000000001
  else if w = 3 ∧ A.1 (38 + 4 * (7 * c + r) + w).toNat = -1 then -2000000009 else A.1 (38 + 4 * (7 * c + r) + w).toNat
def no_region (A : na_A) (c r w : Int) : na_A × Int := (A, na_region A c r w)
def na_operator (A : na_A) (op w : Int) : Int :=
  if ¬ ((0 ≤ op ∧ op ≤ 2) ∧ (0 ≤ w ∧ w ≤ 3)) then -2000000001
  else if w = 2 then ns_lo A.1 op else if w = 3 then A.1 (241 + 3 * op + 2).toNat else A.1 (241 + 3 * op + w).toNat
def no_operator (A : na_A) (op w : Int) : na_A × Int := (A, na_operator A op w)
def na_account (A : na_A) (w : Int) : Int :=
  if ¬ (0 ≤ w ∧ w ≤ 4) then -2000000001 else if w = 4 then A.1 250 + A.1 251 + A.1 252 + A.1 253 else A.1 (250 + w).toNat
def no_account (A : na_A) (w : Int) : na_A × Int := (A, na_account A w)
def na_nu (s : Nat → Int) (g : Int) : Int := gp_nu (na_f s 0) (na_f s 1) (fun c r => s (38 + 4 * (7 * c + r) + g).toNat)
def na_gain (A : na_A) (g w : Int) : Int :=
  if ¬ ((0 ≤ g ∧ g ≤ 2) ∧ (0 ≤ w ∧ w ≤ 2)) then -2000000001
  else if w = 0 then mp_pv A.1 g else if w = 1 then na_nu A.1 g else (na_f A.1 0).2.2.2 * (na_f A.1 1).2.2.2
def no_gain (A : na_A) (g w : Int) : na_A × Int := (A, na_gain A g w)
def na_trail (A : na_A) (b w : Int) : Int :=
  if ¬ (0 ≤ b ∧ (0 ≤ w ∧ w ≤ 7)) then -2000000001 else if b < A.1 254 then A.1 (255 + 8 * (A.1 254 - 1 - b) + w).toNat else -2000000009
def no_trail (A : na_A) (b w : Int) : na_A × Int := (A, na_trail A b w)
def na_effect (A : na_A) (x y : Int) : Int :=
  if ¬ ((0 ≤ x ∧ x ≤ 1000) ∧ (0 ≤ y ∧ y ≤ 1000)) then -2000000001 else if na_ig A.1 x y then 0
  else 1 + (if ns_go A.1 x y 236 = A.1 236 then 0 else 2) + (if ns_go A.1 x y 237 = A.1 237 then 0 else 4) + (if ns_by A.1 (ns_go A.1 x y) ≤ 0 then 0 else 8)
def no_effect (A : na_A) (x y : Int) : na_A × Int := (A, na_effect A x y)
theorem ni_go {s : Nat → Int} {x y : Int} (h : ni_s s) (hx : 0 ≤ x ∧ x ≤ 1000) (hy : 0 ≤ y ∧ y ≤ 1000) : ni_s (ns_go s x y) := by
  have hz := ns_go_zn (I := fun _ => s) h.1.1 h.1.2.1 h.2.2.1 x y
  refine ni_of h (fun j hj => ns_go_o (by omega)) (fun j hj => ns_go_o (by omega)) ?_ hz ?_
  · rw [ns_go_v.1, ns_go_v.2.1]; exact ⟨hx, hy⟩
  · rw [ns_go_o (by omega)]; exact h.2.2.2.1
def na_valueAt (A : na_A) (x y g : Int) : Int :=
  if ¬ ((0 ≤ x ∧ x ≤ 1000) ∧ (0 ≤ y ∧ y ≤ 1000) ∧ (0 ≤ g ∧ g ≤ 2)) then -2000000001 else mp_vt A.1 x y g
def no_valueAt (A : na_A) (x y g : Int) : na_A × Int := (A, na_valueAt A x y g)
def na_chatter (A : na_A) (ax c m t : Int) : Int :=
  if ¬ ((0 ≤ ax ∧ ax ≤ 1) ∧ (0 ≤ c ∧ c ≤ 1000) ∧ (0 ≤ m ∧ m ≤ 500) ∧ (1 ≤ t ∧ t ≤ 100) ∧ (0 ≤ c - m ∧ c + m ≤ 1000)) then -2000000001
  else (gp_zc (ms_p A.1 ax) (ms_q A.1 ax) (ms_r A.1 ax) (ms_n A.1 ax).toNat (A.1 (236 + ax).toNat) c m t.toNat).1
def no_chatter (A : na_A) (ax c m t : Int) : na_A × Int := (A, na_chatter A ax c m t)
theorem ni_zax {s : Nat → Int} {ax : Int} (h : ni_z s) (ha : 0 ≤ ax ∧ ax ≤ 1) : 0 ≤ s (236 + ax).toNat ∧ s (236 + ax).toNat ≤ gp_ct (gp_sk (ms_q s ax)) (ms_n s ax).toNat := by
  rcases (show ax = 0 ∨ ax = 1 by omega) with w | w <;> subst w
  · exact h.1
  · exact h.2
end MQ
