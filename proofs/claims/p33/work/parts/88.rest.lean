/-! p33: a zone found twice is the same; undone, all is as it was -/
section PZ
variable {p q r : Nat → Int} {n : Nat} {z c : Int}
theorem sk_ct {q : Nat → Int} {b : Nat} (h : q b = 0) : gp_ct (gp_sk q) (b + 1) = gp_ct (gp_sk q) b + 1 := gp_ct_T (show gp_sk q b = true from decide_eq_true h)
theorem up_end : ∀ m : Nat, ∀ b, b < m → q b = 0 → gp_ct (gp_sk q) b = gp_up p q r z c m → ¬ p b + r b ≤ c
  | 0, b, hb, _, _ => absurd hb (Nat.not_lt_zero b)
  | m + 1, b, hb, hq, he => by
    have hm : gp_up p q r z c (m + 1) = (if q m = 0 ∧ gp_ct (gp_sk q) m = gp_up p q r z c m ∧ p m + r m ≤ c then gp_up p q r z c m + 1 else gp_up p q r z c m) := rfl
    rw [hm] at he
    by_cases w : q m = 0 ∧ gp_ct (gp_sk q) m = gp_up p q r z c m ∧ p m + r m ≤ c
    · rw [if_pos w] at he
      have := gp_ct_mono (gp_sk q) (show b ≤ m by omega)
      omega
    · rw [if_neg w] at he
      by_cases e : b = m
      · subst e
        exact fun h => w ⟨hq, he, h⟩
      · exact up_end m b (by omega) hq he
theorem dn_end {a : Int} : ∀ j : Nat, j ≤ n → (∀ b, n - j ≤ b → b < n → q b = 0 → gp_ct (gp_sk q) (b + 1) = gp_dn p q r n a c j → ¬ c < p b - r b) ∧ (gp_dn p q r n a c j = a ∨ ∃ b, n - j ≤ b ∧ b < n ∧ q b = 0 ∧ gp_ct (gp_sk q) b = gp_dn p q r n a c j ∧ c < p b - r b)
  | 0, _ => ⟨fun b h1 h2 => by omega, Or.inl rfl⟩
  | j + 1, hj => by
    obtain ⟨h1, h2⟩ := dn_end (a := a) j (by omega)
    have hm : gp_dn p q r n a c (j + 1) = (if q (n - 1 - j) = 0 ∧ gp_ct (gp_sk q) (n - j) = gp_dn p q r n a c j ∧ c < p (n - 1 - j) - r (n - 1 - j) then gp_dn p q r n a c j - 1 else gp_dn p q r n a c j) := rfl
    by_cases w : q (n - 1 - j) = 0 ∧ gp_ct (gp_sk q) (n - j) = gp_dn p q r n a c j ∧ c < p (n - 1 - j) - r (n - 1 - j)
    · rw [if_pos w] at hm
      have es := sk_ct w.1
      rw [show n - 1 - j + 1 = n - j by omega] at es
      rw [hm]
      refine ⟨fun b b1 b2 bq be => ?_, Or.inr ⟨n - 1 - j, by omega, by omega, w.1, by omega, w.2.2⟩⟩
      have e2 := sk_ct bq
      have := gp_ct_mono (gp_sk q) (show n - 1 - j ≤ b by omega)
      omega
    · rw [if_neg w] at hm
      rw [hm]
      refine ⟨fun b b1 b2 bq be => ?_, ?_⟩
      · by_cases e : b = n - 1 - j
        · rw [e] at bq be ⊢
          rw [show n - 1 - j + 1 = n - j by omega] at be
          exact fun h => w ⟨bq, be, h⟩
        · exact h1 b (by omega) b2 bq be
      · rcases h2 with h2 | ⟨b, b1, b2, b3⟩
        · exact Or.inl h2
        · exact Or.inr ⟨b, by omega, b2, b3⟩
theorem up_id : ∀ m : Nat, (∀ b, b < m → q b = 0 → gp_ct (gp_sk q) b = z → ¬ p b + r b ≤ c) → gp_up p q r z c m = z
  | 0, _ => rfl
  | m + 1, h => by
    have e := up_id m (fun b hb => h b (by omega))
    show (if q m = 0 ∧ gp_ct (gp_sk q) m = gp_up p q r z c m ∧ p m + r m ≤ c then gp_up p q r z c m + 1 else gp_up p q r z c m) = z
    rw [e, if_neg (fun w => h m (by omega) w.1 w.2.1 w.2.2)]
theorem dn_id : ∀ j : Nat, j ≤ n → (∀ b, n - j ≤ b → b < n → q b = 0 → gp_ct (gp_sk q) (b + 1) = z → ¬ c < p b - r b) → gp_dn p q r n z c j = z
  | 0, _, _ => rfl
  | j + 1, hj, h => by
    have e := dn_id j (by omega) (fun b b1 b2 => h b (by omega) b2)
    show (if q (n - 1 - j) = 0 ∧ gp_ct (gp_sk q) (n - j) = gp_dn p q r n z c j ∧ c < p (n - 1 - j) - r (n - 1 - j) then gp_dn p q r n z c j - 1 else gp_dn p q r n z c j) = z
    rw [e, if_neg (fun w => h (n - 1 - j) (by omega) (by omega) w.1 (by rw [show n - 1 - j + 1 = n - j by omega]; exact w.2.1) w.2.2)]
theorem za_twice (hr : ∀ b, b < n → 0 ≤ r b) : gp_za p q r n (gp_za p q r n z c) c = gp_za p q r n z c := by
  obtain ⟨w, hw⟩ : ∃ w, w = gp_za p q r n z c := ⟨_, rfl⟩
  have hd : w = gp_dn p q r n (gp_up p q r z c n) c n := hw
  obtain ⟨h1, h2⟩ := dn_end (p := p) (q := q) (r := r) (c := c) (a := gp_up p q r z c n) n (Nat.le_refl n)
  rw [← hd] at h1 h2
  rw [← hw]
  have hu : gp_up p q r w c n = w := by
    refine up_id n (fun b hb bq be => ?_)
    rcases h2 with h2 | ⟨b2, -, c2, c3, c4, c5⟩
    · rw [h2] at be
      exact up_end n b hb bq be
    · have e : b = b2 := by
        have e1 := sk_ct bq
        have e2 := sk_ct c3
        rcases Nat.lt_trichotomy b b2 with l | l | l
        · have := gp_ct_mono (gp_sk q) (show b + 1 ≤ b2 by omega); omega
        · exact l
        · have := gp_ct_mono (gp_sk q) (show b2 + 1 ≤ b by omega); omega
      have := hr b hb
      rw [← e] at c5
      omega
  unfold gp_za
  rw [hu]
  exact dn_id n (Nat.le_refl n) (fun b b1 b2 bq be => h1 b b1 b2 bq be)
theorem zc_one (hr : ∀ b, b < n → 0 ≤ r b) : ∀ t : Nat, (gp_zc p q r n z c 0 (t + 1)).2 = gp_za p q r n z c ∧ 0 ≤ (gp_zc p q r n z c 0 (t + 1)).1 ∧ (gp_zc p q r n z c 0 (t + 1)).1 ≤ 1
  | 0 => by
    have e : (if (0 : Nat) % 2 = 0 then c + 0 else c - 0) = c := by rw [if_pos rfl, Int.add_zero]
    refine ⟨?_, ?_, ?_⟩
    · show gp_za p q r n z (if (0 : Nat) % 2 = 0 then c + 0 else c - 0) = _; rw [e]
    · show 0 ≤ (if gp_za p q r n z (if (0 : Nat) % 2 = 0 then c + 0 else c - 0) = z then (0 : Int) else 0 + 1)
      rw [e]
      by_cases w : gp_za p q r n z c = z
      · rw [if_pos w]; omega
      · rw [if_neg w]; omega
    · show (if gp_za p q r n z (if (0 : Nat) % 2 = 0 then c + 0 else c - 0) = z then (0 : Int) else 0 + 1) ≤ 1
      rw [e]
      by_cases w : gp_za p q r n z c = z
      · rw [if_pos w]; omega
      · rw [if_neg w]; omega
  | t + 1 => by
    obtain ⟨h1, h2, h3⟩ := zc_one hr t
    have e : (if (t + 1) % 2 = 0 then c + 0 else c - 0) = c := by
      by_cases w : (t + 1) % 2 = 0
      · rw [if_pos w, Int.add_zero]
      · rw [if_neg w, Int.sub_zero]
    have s : gp_zc p q r n z c 0 (t + 1 + 1) = (if gp_za p q r n (gp_zc p q r n z c 0 (t + 1)).2 (if (t + 1) % 2 = 0 then c + 0 else c - 0) = (gp_zc p q r n z c 0 (t + 1)).2 then (gp_zc p q r n z c 0 (t + 1)).1 else (gp_zc p q r n z c 0 (t + 1)).1 + 1, gp_za p q r n (gp_zc p q r n z c 0 (t + 1)).2 (if (t + 1) % 2 = 0 then c + 0 else c - 0)) := rfl
    rw [s, e, h1, za_twice hr, if_pos rfl]
    exact ⟨rfl, h2, h3⟩
end PZ
theorem chat1 {A : na_A} (h : ni_s A.1) : 0 ≤ na_chatter A 0 500 0 100 ∧ na_chatter A 0 500 0 100 ≤ 1 := by
  unfold na_chatter
  rw [if_neg (by omega)]
  have n0 := ni_n h.1 (ax := 0) (by omega)
  exact (zc_one (fun b hb => by have := h.1.1.2.2.1 b (by omega); omega) 99).2
theorem stp1 {A : na_A} (h : ni_s A.1) : 0 ≤ na_steepest A 0 0 0 ∧ na_steepest A 0 0 0 ≤ 9999 := by
  unfold na_steepest
  rw [if_neg (by omega), if_pos rfl]
  exact ⟨na_sp_nn A.1 0 0 999, (na_sp_bd h (by omega) 1000 (by omega)).2⟩
theorem val1 {A : na_A} (h : ni_s A.1) : na_valueAt A (A.1 234) (A.1 235) 0 = mp_vt A.1 (A.1 234) (A.1 235) 0 ∧ 0 ≤ mp_vt A.1 (A.1 234) (A.1 235) 0 ∧ mp_vt A.1 (A.1 234) (A.1 235) 0 ≤ 9999 := by
  have hp := h.2.1
  refine ⟨?_, mp_vt_bd h hp.1 hp.2 (by omega)⟩
  unfold na_valueAt
  rw [if_neg (by omega)]
theorem z236 {s : Nat → Int} (h : ni_s s) : 0 ≤ s 236 ∧ s 236 ≤ 6 := by
  have hz := h.2.2.1.1
  have n0 := ni_n h.1 (ax := 0) (by omega)
  have := gp_ct_le (gp_sk (ms_q s 0)) (ms_n s 0).toNat
  omega
/-- undone: the row is as it was -/
theorem un_row {A : na_A} {r : Nat → Int} (hA : ni_a A) : (0 ≤ (no_undo (na_act A r)).2 ∧ (no_undo (na_act A r)).2 ≤ 4) ∧ ∀ j, j < 1120 → (no_undo (na_act A r)).1.1 j = A.1 j := by
  have hm := hA.2.1
  have e : (na_act A r).2.2.1 = min (A.2.2.1 + 1) 5 := rfl
  have ne : ¬ (na_act A r).2.2.1 = 0 := by rw [e]; omega
  unfold no_undo
  rw [if_neg ne]
  refine ⟨⟨by show 0 ≤ min (A.2.2.1 + 1) 5 - 1; omega, by show min (A.2.2.1 + 1) 5 - 1 ≤ 4; omega⟩, fun j hj => ?_⟩
  show av_cp r (fun j => ac_v A.2.1 A.1 A.2.2.1 (1120 * ((min (A.2.2.1 + 1) 5).toNat - 1) + j)) 0 1120 j = A.1 j
  unfold av_cp
  rw [if_pos (by omega)]
  show ac_v A.2.1 A.1 A.2.2.1 (1120 * ((min (A.2.2.1 + 1) 5).toNat - 1) + (j - 0)) = A.1 j
  rw [Nat.sub_zero]
  by_cases q : A.2.2.1 = 5
  · exact (ac_v_row hm hj).2.2.2 q (by omega)
  · exact (ac_v_row hm hj).2.1 (by omega) (by omega)
theorem un_rx {J : ga_I} {A : na_A} {r : Nat → Int} (hA : ni_a A) (hr : ni_s r) (h : rx J (no_undo (na_act A r)).1) : rx J (A.1, (no_undo (na_act A r)).1.2) ∧ ni_a (A.1, (no_undo (na_act A r)).1.2) := by
  have u := (un_row (r := r) hA).2
  have k := nk_undo (ni_act hA hr)
  exact ⟨⟨rs_row k.1 (fun j hj => (u j hj).symm) h.1, h.2⟩, ⟨hA.1, k.2⟩⟩
theorem nx_e {E : Option ga_V → ga_I → Prop} {I : ga_I} {R : na_A × Int} {A : na_A} {v : Int} (e : R = (A, v)) (K : ∀ J, rx J A → E (some (.inl v)) J) : nx_E E I R := by
  subst e
  intro J j1 _
  exact K J j1
/-- a move that is taken at a place that is there -/
theorem nz_mv {A : na_A} {y : Int} (hm : an y 15 = 10 ∨ an y 15 = 11) : nz A y = (na_act A (ns_mm A.1 (lo (sh y 3) 1001) (lo (sh (y * 7) 4) 1001)), na_mm A.1 (lo (sh y 3) 1001) (lo (sh (y * 7) 4) 1001)) := by
  have b1 := lo_bd (sh y 3) 1001 (by omega)
  have b2 := lo_bd (sh (y * 7) 4) 1001 (by omega)
  have e : nz A y = no_move A (lo (sh y 3) 1001) (lo (sh (y * 7) 4) 1001) := by
    rcases hm with h | h
    · exact nz_at.2.2.2.2.2.2.2.2.2.2.1 h
    · exact nz_at.2.2.2.2.2.2.2.2.2.2.2.1 h
  rw [e]
  exact if_neg (by omega)
