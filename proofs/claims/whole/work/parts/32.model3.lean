/-! the reference: zoneBehind, findZones -/
section MC
theorem gp_ff_no {P : Nat → Bool} : ∀ {n : Nat}, gp_ff P n = -1 → ∀ b, b < n → P b = false
  | 0, _, b, hb => absurd hb (Nat.not_lt_zero b)
  | n + 1, h, b, hb => by
    unfold gp_ff at h
    by_cases e : gp_ff P n = -1
    · rw [if_pos e] at h
      by_cases e2 : P n = true
      · rw [if_pos e2] at h; omega
      · by_cases q : b = n
        · rw [q]; exact Bool.eq_false_iff.mpr e2
        · exact gp_ff_no e b (by omega)
    · rw [if_neg e] at h
      exact absurd h e
theorem mp_sy_cases (q : Nat → Int) (n : Nat) (z : Int) : (mp_sy q n z = -2000000009 ∧ ∀ b, b < n → ¬ (q b = 0 ∧ gp_ct (gp_sk q) b = z)) ∨ ∃ b, b < n ∧ mp_sy q n z = (b : Int) ∧ q b = 0 ∧ gp_ct (gp_sk q) b = z := by
  unfold mp_sy
  by_cases e : gp_ff (fun b => decide (q b = 0 ∧ gp_ct (gp_sk q) b = z)) n = -1
  · rw [if_pos e]
    exact Or.inl ⟨rfl, fun b hb => of_decide_eq_false (gp_ff_no e b hb)⟩
  · rw [if_neg e]
    rcases gp_ff_bd (fun b => decide (q b = 0 ∧ gp_ct (gp_sk q) b = z)) n with h | ⟨h1, h2, h3⟩
    · exact absurd h e
    · have h4 := of_decide_eq_true h3
      exact Or.inr ⟨_, by omega, by omega, h4.1, h4.2⟩
theorem gp_sk_inj {q : Nat → Int} {a b : Nat} (ha : q a = 0) (hb : q b = 0) (h : gp_ct (gp_sk q) a = gp_ct (gp_sk q) b) : a = b := by
  rcases Nat.lt_trichotomy a b with x | x | x
  · have h1 := gp_ct_mono (gp_sk q) (show a + 1 ≤ b by omega)
    rw [gp_sk_T ha] at h1; omega
  · exact x
  · have h1 := gp_ct_mono (gp_sk q) (show b + 1 ≤ a by omega)
    rw [gp_sk_T hb] at h1; omega
theorem gp_up_is (p q r : Nat → Int) (z c : Int) : ∀ b : Nat, (∀ y, z ≤ y → y < gp_up p q r z c b → ∃ a, a < b ∧ q a = 0 ∧ gp_ct (gp_sk q) a = y ∧ p a + r a ≤ c) ∧ ∀ a, a < b → q a = 0 → gp_ct (gp_sk q) a = gp_up p q r z c b → ¬ (p a + r a ≤ c)
  | 0 => ⟨fun y h1 h2 => by
      have : gp_up p q r z c 0 = z := rfl
      omega, fun a h => absurd h (Nat.not_lt_zero a)⟩
  | b + 1 => by
    obtain ⟨hA, hB⟩ := gp_up_is p q r z c b
    by_cases e : q b = 0 ∧ gp_ct (gp_sk q) b = gp_up p q r z c b ∧ p b + r b ≤ c
    · rw [gp_up_T e]
      refine ⟨fun y h1 h2 => ?_, fun a h1 h2 h3 => ?_⟩
      · by_cases ey : y = gp_up p q r z c b
        · exact ⟨b, by omega, e.1, by omega, e.2.2⟩
        · obtain ⟨a, x1, x2⟩ := hA y h1 (by omega)
          exact ⟨a, by omega, x2⟩
      · have hm := gp_ct_mono (gp_sk q) (show a ≤ b by omega)
        omega
    · rw [gp_up_F e]
      refine ⟨fun y h1 h2 => ?_, fun a h1 h2 h3 => ?_⟩
      · obtain ⟨a, x1, x2⟩ := hA y h1 h2
        exact ⟨a, by omega, x2⟩
      · by_cases ea : a = b
        · subst ea
          exact fun h4 => e ⟨h2, h3, h4⟩
        · exact hB a (by omega) h2 h3
theorem gp_dn_is (p q r : Nat → Int) (n : Nat) (a0 c : Int) : ∀ j : Nat, j ≤ n → (∀ y, gp_dn p q r n a0 c j < y → y ≤ a0 → ∃ b, n - j ≤ b ∧ b < n ∧ q b = 0 ∧ gp_ct (gp_sk q) (b + 1) = y ∧ c < p b - r b) ∧ ∀ b, n - j ≤ b → b < n → q b = 0 → gp_ct (gp_sk q) (b + 1) = gp_dn p q r n a0 c j → ¬ (c < p b - r b)
  | 0, _ => ⟨fun y h1 h2 => by
      have : gp_dn p q r n a0 c 0 = a0 := rfl
      omega, fun b h1 h2 => by omega⟩
  | j + 1, hj => by
    obtain ⟨hA, hB⟩ := gp_dn_is p q r n a0 c j (by omega)
    have hnj : n - j = (n - 1 - j) + 1 := by omega
    by_cases e : q (n - 1 - j) = 0 ∧ gp_ct (gp_sk q) (n - j) = gp_dn p q r n a0 c j ∧ c < p (n - 1 - j) - r (n - 1 - j)
    · rw [gp_dn_T e]
      refine ⟨fun y h1 h2 => ?_, fun b h1 h2 h3 h4 => ?_⟩
      · by_cases ey : y = gp_dn p q r n a0 c j
        · exact ⟨n - 1 - j, by omega, by omega, e.1, by rw [← hnj]; omega, e.2.2⟩
        · obtain ⟨b, x1, x2⟩ := hA y (by omega) h2
          exact ⟨b, by omega, x2⟩
      · have hm := gp_ct_mono (gp_sk q) (show n - 1 - j + 1 ≤ b + 1 by omega)
        rw [← hnj] at hm
        omega
    · rw [gp_dn_F e]
      refine ⟨fun y h1 h2 => ?_, fun b h1 h2 h3 h4 => ?_⟩
      · obtain ⟨b, x1, x2⟩ := hA y h1 h2
        exact ⟨b, by omega, x2⟩
      · by_cases eb : b = n - 1 - j
        · subst eb
          rw [← hnj] at h4
          exact fun h5 => e ⟨h3, h4, h5⟩
        · exact hB b (by omega) h2 h3 h4
variable {G : ga_G} {d : Nat} {I : ga_I} {E : Option ga_V → ga_I → Prop}
theorem l_Mo_zoneBehind2 (hn : mo_n I) {ax : Int} (ha : 0 ≤ ax ∧ ax ≤ 1) (hok : mo_ok I ax) {c : Int} (hc : ga_rg c) {n : Nat} (hnn : (n : Int) = ms_n (I 349) ax) {a0 : Int} (ha0 : 0 ≤ a0 ∧ a0 ≤ 7) (h : E (some (.inl (gp_dn (ms_p (I 349) ax) (ms_q (I 349) ax) (ms_r (I 349) ax) n a0 c n))) I) :
    ∀ (m : Nat) (v : Int), v = gp_dn (ms_p (I 349) ax) (ms_q (I 349) ax) (ms_r (I 349) ax) n a0 c n + m → v ≤ a0 → ga_W G (d + 2) mt_Mo_zoneBehind 76 [some (.inr 348), some (.inl ax), none, some (.inl c), some (.inl v), some (.inl (if v = 0 then -2000000009 else mp_sy (ms_q (I 349) ax) n (v - 1)))] [] I E := by
  have h6 := hok.2.1
  have hD0 := gp_dn_zn (ms_p (I 349) ax) (ms_q (I 349) ax) (ms_r (I 349) ax) n a0 c ha0.1 n (Nat.le_refl n)
  obtain ⟨hA, hB⟩ := gp_dn_is (ms_p (I 349) ax) (ms_q (I 349) ax) (ms_r (I 349) ax) n a0 c n (Nat.le_refl n)
  intro m
  induction m with
  | zero =>
    intro v hv hva
    have hve : v = gp_dn (ms_p (I 349) ax) (ms_q (I 349) ax) (ms_r (I 349) ax) n a0 c n := by omega
    rw [← hve] at h
    by_cases e0 : v = 0
    · rw [if_pos e0]
      exact k_Mo_zoneBehind_76 hc ⟨by omega, by omega⟩ (fun hI => ⟨fun _ => h, fun h1 => absurd rfl h1⟩)
    · rw [if_neg e0]
      rcases mp_sy_cases (ms_q (I 349) ax) n (v - 1) with ⟨s1, s2⟩ | ⟨b, b1, b2, b3, b4⟩
      · rw [s1]
        exact k_Mo_zoneBehind_76 hc ⟨by omega, by omega⟩ (fun hI => ⟨fun _ => h, fun h1 => absurd rfl h1⟩)
      · rw [b2]
        have hv2 := hok.2.2.1 b (by omega)
        have hno := hB b (by omega) b1 b3 (by rw [gp_sk_T b3]; omega)
        refine k_Mo_zoneBehind_76 hc ⟨by omega, by omega⟩ (fun hI => ⟨fun h1 => by exfalso; omega, fun h1 => ⟨ha, by omega, by omega, by omega, ?_, fun h2 => h, fun h2 => ?_⟩⟩)
        · rw [ms_b0, ms_b2]; constructor <;> omega
        · rw [ms_b0, ms_b2] at h2
          exfalso; omega
  | succ m ih =>
    intro v hv hva
    have e := ih (v - 1) (by omega) (by omega)
    obtain ⟨b', y1, y2, y3, y4, y5⟩ := hA v (by omega) hva
    rw [if_neg (show ¬ v = 0 by omega)]
    rw [gp_sk_T y3] at y4
    rcases mp_sy_cases (ms_q (I 349) ax) n (v - 1) with ⟨s1, s2⟩ | ⟨b, b1, b2, b3, b4⟩
    · exact absurd ⟨y3, by omega⟩ (s2 b' y2)
    · have eb := gp_sk_inj b3 y3 (by omega)
      subst eb
      rw [b2]
      have hv2 := hok.2.2.1 b (by omega)
      refine k_Mo_zoneBehind_76 hc ⟨by omega, by omega⟩ (fun hI => ⟨fun h1 => by exfalso; omega, fun h1 => ⟨ha, by omega, by omega, by omega, ?_, fun h2 => ?_, fun h2 => ⟨⟨by omega, by omega⟩, fun h3 => ⟨hn, by omega, ?_⟩, fun h3 => ?_⟩⟩⟩)
      · rw [ms_b0, ms_b2]; constructor <;> omega
      · rw [ms_b0, ms_b2] at h2
        exfalso; omega
      · rw [if_neg (show ¬ v - 1 = 0 by omega)] at e
        rw [show (ms_n (I 349) ax).toNat = n by omega]
        exact e
      · rw [if_pos (show v - 1 = 0 by omega)] at e
        exact e
theorem l_Mo_zoneBehind1 (hn : mo_n I) {ax : Int} (ha : 0 ≤ ax ∧ ax ≤ 1) (hok : mo_ok I ax) {z c : Int} (hc : ga_rg c) {n : Nat} (hnn : (n : Int) = ms_n (I 349) ax) (hz : 0 ≤ z ∧ z ≤ gp_ct (gp_sk (ms_q (I 349) ax)) n) (h : E (some (.inl (gp_za (ms_p (I 349) ax) (ms_q (I 349) ax) (ms_r (I 349) ax) n z c))) I) :
    ∀ (m : Nat) (v : Int), v + m = gp_up (ms_p (I 349) ax) (ms_q (I 349) ax) (ms_r (I 349) ax) z c n → z ≤ v → ga_W G (d + 2) mt_Mo_zoneBehind 12 [some (.inr 348), some (.inl ax), none, some (.inl c), some (.inl v), some (.inl (mp_sy (ms_q (I 349) ax) n v))] [] I E := by
  have h6 := hok.2.1
  have hN := gp_ct_le (gp_sk (ms_q (I 349) ax)) n
  have hU := gp_up_zn (ms_p (I 349) ax) (ms_q (I 349) ax) (ms_r (I 349) ax) z c n
  obtain ⟨hA, hB⟩ := gp_up_is (ms_p (I 349) ax) (ms_q (I 349) ax) (ms_r (I 349) ax) z c n
  have fin : ∀ v : Int, v = gp_up (ms_p (I 349) ax) (ms_q (I 349) ax) (ms_r (I 349) ax) z c n → z ≤ v → ga_W G (d + 2) mt_Mo_zoneBehind 76 [some (.inr 348), some (.inl ax), none, some (.inl c), some (.inl v), some (.inl (if v = 0 then -2000000009 else mp_sy (ms_q (I 349) ax) n (v - 1)))] [] I E := fun v hv hzv => by
    have hD := gp_dn_bd (ms_p (I 349) ax) (ms_q (I 349) ax) (ms_r (I 349) ax) n v c n
    refine l_Mo_zoneBehind2 hn ha hok hc hnn (a0 := v) (by omega) ?_ (v - gp_dn (ms_p (I 349) ax) (ms_q (I 349) ax) (ms_r (I 349) ax) n v c n).toNat v (by omega) (Int.le_refl _)
    rw [hv]; exact h
  intro m
  induction m with
  | zero =>
    intro v hv hzv
    have f := fin v (by omega) hzv
    rcases mp_sy_cases (ms_q (I 349) ax) n v with ⟨s1, s2⟩ | ⟨b, b1, b2, b3, b4⟩
    · rw [s1]
      refine k_Mo_zoneBehind_12 hc ⟨by omega, by omega⟩ ⟨by omega, by omega⟩ (fun hI => ⟨fun _ => ⟨fun h3 => ⟨hn, ha, by omega, ?_⟩, fun h3 => ?_⟩, fun h1 => absurd rfl h1⟩)
      · rw [if_neg h3] at f
        rw [show (ms_n (I 349) ax).toNat = n by omega]; exact f
      · rw [if_pos h3] at f; exact f
    · rw [b2]
      have hv2 := hok.2.2.1 b (by omega)
      have hno := hB b b1 b3 (by omega)
      refine k_Mo_zoneBehind_12 hc ⟨by omega, by omega⟩ ⟨by omega, by omega⟩ (fun hI => ⟨fun h1 => by exfalso; omega, fun h1 => ⟨ha, by omega, by omega, by omega, ?_, fun h2 => ⟨fun h3 => ⟨hn, by omega, ?_⟩, fun h3 => ?_⟩, fun h2 => ?_⟩⟩)
      · rw [ms_b0, ms_b2]; constructor <;> omega
      · rw [if_neg h3] at f
        rw [show (ms_n (I 349) ax).toNat = n by omega]; exact f
      · rw [if_pos h3] at f; exact f
      · rw [ms_b0, ms_b2] at h2
        exfalso; omega
  | succ m ih =>
    intro v hv hzv
    have e := ih (v + 1) (by omega) (by omega)
    obtain ⟨b', y2, y3, y4, y5⟩ := hA v hzv (by omega)
    rcases mp_sy_cases (ms_q (I 349) ax) n v with ⟨s1, s2⟩ | ⟨b, b1, b2, b3, b4⟩
    · exact absurd ⟨y3, y4⟩ (s2 b' y2)
    · have eb := gp_sk_inj b3 y3 (by omega)
      subst eb
      rw [b2]
      have hv2 := hok.2.2.1 b (by omega)
      refine k_Mo_zoneBehind_12 hc ⟨by omega, by omega⟩ ⟨by omega, by omega⟩ (fun hI => ⟨fun h1 => by exfalso; omega, fun h1 => ⟨ha, by omega, by omega, by omega, ?_, fun h2 => ?_, fun h2 => ⟨hn, by omega, ?_⟩⟩⟩)
      · rw [ms_b0, ms_b2]; constructor <;> omega
      · rw [ms_b0, ms_b2] at h2
        exfalso; omega
      · rw [show (ms_n (I 349) ax).toNat = n by omega]; exact e
theorem s_Mo_zoneBehind {ax z c : Int} (hok : mo_ok I ax) (hn : mo_n I) (ha : 0 ≤ ax ∧ ax ≤ 1) (hz : 0 ≤ z ∧ z ≤ gp_ct (gp_sk (ms_q (I 349) ax)) (ms_n (I 349) ax).toNat) (hc : ga_rg c) (h : E (some (.inl (gp_za (ms_p (I 349) ax) (ms_q (I 349) ax) (ms_r (I 349) ax) (ms_n (I 349) ax).toNat z c))) I) : ga_W G (d + 2) mt_Mo_zoneBehind 0 (ga_en 6 [.inr 348, .inl ax, .inl z, .inl c]) [] I E := by
  have h0 := hok.1
  have h6 := hok.2.1
  have hN := gp_ct_le (gp_sk (ms_q (I 349) ax)) (ms_n (I 349) ax).toNat
  have hU := gp_up_bd (ms_p (I 349) ax) (ms_q (I 349) ax) (ms_r (I 349) ax) z c (ms_n (I 349) ax).toNat
  exact k_Mo_zoneBehind_0 (fun hI => ⟨hn, ha, by omega, l_Mo_zoneBehind1 hn ha hok hc (n := (ms_n (I 349) ax).toNat) (by omega) hz h (gp_up (ms_p (I 349) ax) (ms_q (I 349) ax) (ms_r (I 349) ax) z c (ms_n (I 349) ax).toNat - z).toNat z (by omega) (Int.le_refl _)⟩)
def mx_fz (I : ga_I) : ga_I := ga_up (ga_up I 349 236 (gp_zo (ms_p (I 349) 0) (ms_q (I 349) 0) (I 349 234) (ms_n (I 349) 0).toNat)) 349 237 (gp_zo (ms_p (I 349) 1) (ms_q (I 349) 1) (I 349 235) (ms_n (I 349) 1).toNat)
/-- writing above the table leaves the borders -/
theorem ms_up {I : ga_I} {j : Nat} {z : Int} (hj : 38 ≤ j) {ax : Int} (ha : 0 ≤ ax ∧ ax ≤ 1) : ms_n (ga_up I 349 j z 349) ax = ms_n (I 349) ax ∧ ∀ b, b < 6 → ms_p (ga_up I 349 j z 349) ax b = ms_p (I 349) ax b ∧ ms_q (ga_up I 349 j z 349) ax b = ms_q (I 349) ax b ∧ ms_r (ga_up I 349 j z 349) ax b = ms_r (I 349) ax b := by
  refine ⟨ga_up_nj (by omega), fun b hb => ⟨ga_up_nj (by omega), ga_up_nj (by omega), ga_up_nj (by omega)⟩⟩
theorem gp_zo_cong {p q p' q' : Nat → Int} {c : Int} {n : Nat} (h : ∀ b, b < n → p' b = p b ∧ q' b = q b) : gp_zo p' q' c n = gp_zo p q c n := gp_ct_cong (fun b hb => by rw [(h b hb).1, (h b hb).2])
theorem s_Mo_findZones (hn : mo_n I) (h : E none (mx_fz I)) : ga_W G (d + 2) mt_Mo_findZones 0 (ga_en 1 [.inr 348]) [] I E := by
  refine k_Mo_findZones_0 (fun hI => ⟨hn, by omega, fun z1 hz1 I1 e1 => ⟨?_, by omega, fun z2 hz2 I2 e2 => ?_⟩⟩)
  · subst e1
    refine ⟨?_, ?_⟩
    · rw [(ms_up (by omega) (by omega)).1]; exact hn.1
    · rw [(ms_up (by omega) (by omega)).1]; exact hn.2
  · have b1 := gp_zo_bd (ms_p (I 349) 0) (ms_q (I 349) 0) (I 349 234) (ms_n (I 349) 0).toNat
    rw [← hz1] at b1
    have c1 := hn.1
    have c2 := hn.2
    rw [ga_wr_eq ⟨by omega, by omega⟩] at e1
    subst e1
    have u := ms_up (I := I) (j := 236) (z := z1) (by omega) (ax := 1) (by omega)
    rw [u.1, gp_zo_cong (p := ms_p (I 349) 1) (q := ms_q (I 349) 1) (fun b hb => ⟨(u.2 b (by omega)).1, (u.2 b (by omega)).2.1⟩), ga_up_nj (by omega)] at hz2
    have b2 := gp_zo_bd (ms_p (I 349) 1) (ms_q (I 349) 1) (I 349 235) (ms_n (I 349) 1).toNat
    rw [← hz2] at b2
    rw [ga_wr_eq ⟨by omega, by omega⟩] at e2
    rw [e2, hz2, hz1]
    exact h
end MC
