/-! Borders: zoneAfter, heldIn, blendingAt, zoneChanges -/
section LD
variable {G : ga_G} {d : Nat} {I : ga_I} {E : Option ga_V → ga_I → Prop} {k : Nat}
theorem l_Borders_zoneAfter1 (hk : ga_isB k) (hok : gb_ok I k) {c : Int} (hc : ga_rg c) {z : Int} (hz : -10 ≤ z ∧ z ≤ 10) {n : Nat} (hn : (n : Int) = I k 0) (h : E (some (.inl (gp_za (I (k + 1)) (I (k + 2)) (I (k + 3)) n z c))) I) : ∀ (m b : Nat), b + m = n → ga_W G d mt_Borders_zoneAfter 8 [some (.inr k), none, some (.inl c), some (.inl (gp_up (I (k + 1)) (I (k + 2)) (I (k + 3)) z c b)), some (.inl (gp_ct (gp_sk (I (k + 2))) b)), some (.inl b)] [] I E := by
  have h6 := hok.2.1
  intro m
  induction m with
  | zero =>
    intro b hb
    have hd := gp_up_bd (I (k + 1)) (I (k + 2)) (I (k + 3)) z c b
    have ht := gp_ct_le (gp_sk (I (k + 2))) b
    refine k_Borders_zoneAfter_8 hk hc ⟨by omega, by omega⟩ ⟨by omega, by omega⟩ ⟨by omega, by omega⟩ (fun hI => ⟨fun h1 => ?_, fun h1 => by exfalso; omega⟩)
    rw [show b = n by omega]
    have e := l_Borders_zoneAfter2 (G := G) (d := d) hk hok hc (a := gp_up (I (k + 1)) (I (k + 2)) (I (k + 3)) z c n) (by rw [← show b = n by omega]; omega) hn h n 0 (by omega)
    refine gw_eq e ?_ rfl
    rw [hn, show n - 0 = n by omega, show I k 0 - 1 - ((0 : Nat) : Int) = I k 0 - 1 by omega]
    rfl
  | succ m ih =>
    intro b hb
    have e := ih (b + 1) (by omega)
    have hd := gp_up_bd (I (k + 1)) (I (k + 2)) (I (k + 3)) z c b
    have ht := gp_ct_le (gp_sk (I (k + 2))) b
    have hv := hok.2.2.1 b (by omega)
    refine k_Borders_zoneAfter_8 hk hc ⟨by omega, by omega⟩ ⟨by omega, by omega⟩ ⟨by omega, by omega⟩ (fun hI => ⟨fun h1 => by exfalso; omega, fun h1 => ⟨by omega, by omega, fun h2 => ?_, fun h2 => ⟨fun h3 => ?_, fun h3 => ⟨?_, fun h4 => ?_, fun h4 => ?_⟩⟩⟩⟩) <;> simp only [Int.toNat_natCast] at *
    · refine gw_eq e ?_ rfl
      rw [gp_up_F (by omega), gp_sk_F h2]; rfl
    · refine gw_eq e ?_ rfl
      rw [gp_up_F (by omega), gp_sk_T h2]; rfl
    · constructor <;> omega
    · refine gw_eq e ?_ rfl
      rw [gp_up_F (by omega), gp_sk_T h2]; rfl
    · refine gw_eq e ?_ rfl
      rw [gp_up_T (by omega), gp_sk_T h2]; rfl
theorem s_Borders_zoneAfter (hk : ga_isB k) (hok : gb_ok I k) {z c : Int} (hz : -10 ≤ z ∧ z ≤ 10) (hc : ga_rg c) (h : E (some (.inl (gp_za (I (k + 1)) (I (k + 2)) (I (k + 3)) (I k 0).toNat z c))) I) : ga_W G d mt_Borders_zoneAfter 0 (ga_en 6 [.inr k, .inl z, .inl c]) [] I E := by
  have h0 := hok.1
  exact k_Borders_zoneAfter_0 (fun _ => l_Borders_zoneAfter1 hk hok hc hz (n := (I k 0).toNat) (by omega) h (I k 0).toNat 0 (by omega))
theorem gp_hd_bd {p q : Nat → Int} {n : Int} {z c : Int} (hp : ∀ b : Nat, (b : Int) < n → 1 ≤ p b ∧ p b ≤ 999) (hc : 0 ≤ c ∧ c ≤ 1000) : ∀ b : Nat, (b : Int) ≤ n → 0 ≤ gp_hd p q z c b ∧ gp_hd p q z c b ≤ 1000
  | 0, _ => hc
  | b + 1, hb => by
    have h := gp_hd_bd (q := q) (z := z) hp hc b (by omega)
    have h2 := hp b (by omega)
    unfold gp_hd
    by_cases e : q b = 0
    · rw [if_pos e]
      by_cases e2 : gp_ct (gp_sk q) b = z - 1
      · rw [if_pos e2]; omega
      · rw [if_neg e2]
        by_cases e3 : gp_ct (gp_sk q) b = z
        · rw [if_pos e3]; omega
        · rw [if_neg e3]; exact h
    · rw [if_neg e]; exact h
theorem l_Borders_heldIn (hk : ga_isB k) (hok : gb_ok I k) {z c : Int} (hz : -10 ≤ z ∧ z ≤ 10) (hc : 0 ≤ c ∧ c ≤ 1000) (h : E (some (.inl (gp_hd (I (k + 1)) (I (k + 2)) z c (I k 0).toNat))) I) : ∀ (m b : Nat), (b : Int) + m = I k 0 → ga_W G (d + 1) mt_Borders_heldIn 8 [some (.inr k), some (.inl z), none, some (.inl (gp_hd (I (k + 1)) (I (k + 2)) z c b)), some (.inl (gp_ct (gp_sk (I (k + 2))) b)), some (.inl b)] [] I E := by
  have h6 := hok.2.1
  intro m
  induction m with
  | zero =>
    intro b hb
    have hd := gp_hd_bd (q := I (k + 2)) (z := z) (fun a ha => ⟨(hok.2.2.1 a ha).1, (hok.2.2.1 a ha).2.1⟩) hc b (by omega)
    have ht := gp_ct_le (gp_sk (I (k + 2))) b
    refine k_Borders_heldIn_8 hk ⟨by omega, by omega⟩ ⟨by omega, by omega⟩ ⟨by omega, by omega⟩ ⟨by omega, by omega⟩ (fun hI => ⟨fun h1 => ?_, fun h1 => by exfalso; omega⟩)
    rwa [show (I k 0).toNat = b by omega] at h
  | succ m ih =>
    intro b hb
    have e := ih (b + 1) (by omega)
    have hd := gp_hd_bd (q := I (k + 2)) (z := z) (fun a ha => ⟨(hok.2.2.1 a ha).1, (hok.2.2.1 a ha).2.1⟩) hc b (by omega)
    have ht := gp_ct_le (gp_sk (I (k + 2))) b
    have hv := hok.2.2.1 b (by omega)
    refine k_Borders_heldIn_8 hk ⟨by omega, by omega⟩ ⟨by omega, by omega⟩ ⟨by omega, by omega⟩ ⟨by omega, by omega⟩ (fun hI => ⟨fun h1 => by exfalso; omega, fun h1 => ⟨by omega, by omega, fun h2 => ?_, fun h2 => ⟨?_, fun h3 => ⟨fun h4 => ?_, fun h4 => ⟨?_, ?_⟩⟩, fun h3 => ?_⟩⟩⟩)
    · simp only [Int.toNat_natCast] at h2
      refine gw_eq e ?_ rfl
      rw [show gp_hd (I (k + 1)) (I (k + 2)) z c (b + 1) = gp_hd (I (k + 1)) (I (k + 2)) z c b from if_neg h2, gp_sk_F h2]; rfl
    · constructor <;> omega
    · simp only [Int.toNat_natCast] at h2
      refine gw_eq e ?_ rfl
      rw [show gp_hd (I (k + 1)) (I (k + 2)) z c (b + 1) = gp_hd (I (k + 1)) (I (k + 2)) z c b from (if_pos h2).trans ((if_neg h3).trans (if_neg h4)), gp_sk_T h2]; rfl
    · simp only [Int.toNat_natCast]
      constructor <;> omega
    · simp only [Int.toNat_natCast] at h2 ⊢
      refine gw_eq e ?_ rfl
      rw [show gp_hd (I (k + 1)) (I (k + 2)) z c (b + 1) = min (gp_hd (I (k + 1)) (I (k + 2)) z c b) (I (k + 1) b - 1) from (if_pos h2).trans ((if_neg h3).trans (if_pos h4)), gp_sk_T h2]; rfl
    · simp only [Int.toNat_natCast] at h2 ⊢
      refine gw_eq e ?_ rfl
      rw [show gp_hd (I (k + 1)) (I (k + 2)) z c (b + 1) = max (gp_hd (I (k + 1)) (I (k + 2)) z c b) (I (k + 1) b) from (if_pos h2).trans (if_pos h3), gp_sk_T h2]; rfl
theorem s_Borders_heldIn (hk : ga_isB k) (hok : gb_ok I k) {z c : Int} (hz : -10 ≤ z ∧ z ≤ 10) (hc : 0 ≤ c ∧ c ≤ 1000) (h : E (some (.inl (gp_hd (I (k + 1)) (I (k + 2)) z c (I k 0).toNat))) I) : ga_W G (d + 1) mt_Borders_heldIn 0 (ga_en 6 [.inr k, .inl z, .inl c]) [] I E := by
  have h0 := hok.1
  exact k_Borders_heldIn_0 (fun _ => l_Borders_heldIn hk hok hz hc h (I k 0).toNat 0 (by omega))
theorem l_Borders_blendingAt (hk : ga_isB k) (hok : gb_ok I k) {c : Int} (hc : ga_rg c) (h : E (some (.inl (gp_bl (I (k + 1)) (I (k + 2)) (I (k + 3)) c (I k 0).toNat))) I) : ∀ (m b : Nat), (b : Int) + m = I k 0 → gp_bl (I (k + 1)) (I (k + 2)) (I (k + 3)) c b = -1 → (∀ a, a < b → decide (I (k + 2) a = 1 ∧ I (k + 1) a - I (k + 3) a ≤ c ∧ c ≤ I (k + 1) a + I (k + 3) a) = false) → ga_W G d mt_Borders_blendingAt 2 [some (.inr k), some (.inl c), some (.inl b)] [] I E := by
  have h6 := hok.2.1
  intro m
  induction m with
  | zero =>
    intro b hb hf ha
    refine k_Borders_blendingAt_2 hk hc ⟨by omega, by omega⟩ (fun hI => ⟨fun h1 => ?_, fun h1 => by exfalso; omega⟩)
    rw [show (I k 0).toNat = b by omega] at h
    rwa [hf] at h
  | succ m ih =>
    intro b hb hf ha
    have hv := hok.2.2.1 b (by omega)
    have no : ¬ (I (k + 2) b = 1 ∧ I (k + 1) b - I (k + 3) b ≤ c ∧ c ≤ I (k + 1) b + I (k + 3) b) → ga_W G d mt_Borders_blendingAt 2 [some (.inr k), some (.inl c), some (.inl ((b : Int) + 1))] [] I E := fun q => by
      refine ih (b + 1) (by omega) (gp_ff_none _ _ ?_) ?_
      all_goals
        intro a h9
        by_cases e : a = b
        · rw [e]; exact decide_eq_false q
        · exact ha a (by omega)
    refine k_Borders_blendingAt_2 hk hc ⟨by omega, by omega⟩ (fun hI => ⟨fun h1 => by exfalso; omega, fun h1 => ⟨by omega, by omega, fun h2 => ?_, fun h2 => ⟨?_, fun h3 => ?_, fun h3 => ⟨?_, fun h4 => ?_, fun h4 => ?_⟩⟩⟩⟩) <;> simp only [Int.toNat_natCast] at *
    · exact no (by omega)
    · constructor <;> omega
    · exact no (by omega)
    · constructor <;> omega
    · exact no (by omega)
    · have e : gp_bl (I (k + 1)) (I (k + 2)) (I (k + 3)) c (I k 0).toNat = b := gp_ff_at _ (decide_eq_true (by omega)) ha _ (by omega)
      rwa [e] at h
theorem s_Borders_blendingAt (hk : ga_isB k) (hok : gb_ok I k) {c : Int} (hc : ga_rg c) (h : E (some (.inl (gp_bl (I (k + 1)) (I (k + 2)) (I (k + 3)) c (I k 0).toNat))) I) : ga_W G d mt_Borders_blendingAt 0 (ga_en 3 [.inr k, .inl c]) [] I E := by
  have h0 := hok.1
  exact k_Borders_blendingAt_0 (fun _ => l_Borders_blendingAt hk hok hc h (I k 0).toNat 0 (by omega) rfl (fun a h => absurd h (Nat.not_lt_zero a)))
-- the zones stay zones
theorem gp_up_zn (p q r : Nat → Int) (z c : Int) : ∀ b : Nat, gp_up p q r z c b ≤ max z (gp_ct (gp_sk q) b)
  | 0 => by show z ≤ max z 0; omega
  | b + 1 => by
    have h := gp_up_zn p q r z c b
    have hm := gp_ct_mono (gp_sk q) (show b ≤ b + 1 by omega)
    by_cases e : q b = 0 ∧ gp_ct (gp_sk q) b = gp_up p q r z c b ∧ p b + r b ≤ c
    · rw [gp_up_T e, gp_sk_T e.1]; omega
    · rw [gp_up_F e]; omega
theorem gp_dn_zn (p q r : Nat → Int) (n : Nat) (a c : Int) (ha : 0 ≤ a) : ∀ j : Nat, j ≤ n → 0 ≤ gp_dn p q r n a c j
  | 0, _ => ha
  | j + 1, hj => by
    have h := gp_dn_zn p q r n a c ha j (by omega)
    by_cases e : q (n - 1 - j) = 0 ∧ gp_ct (gp_sk q) (n - j) = gp_dn p q r n a c j ∧ c < p (n - 1 - j) - r (n - 1 - j)
    · rw [gp_dn_T e]
      have h2 := gp_sk_T e.1
      have h3 := (gp_ct_le (gp_sk q) (n - 1 - j)).1
      rw [show n - 1 - j + 1 = n - j by omega] at h2
      omega
    · rw [gp_dn_F e]; exact h
theorem gp_za_zn (p q r : Nat → Int) (n : Nat) (z c : Int) (hz : 0 ≤ z ∧ z ≤ gp_ct (gp_sk q) n) : 0 ≤ gp_za p q r n z c ∧ gp_za p q r n z c ≤ gp_ct (gp_sk q) n := by
  have h1 := gp_up_bd p q r z c n
  have h2 := gp_up_zn p q r z c n
  have h3 := gp_dn_bd p q r n (gp_up p q r z c n) c n
  have h4 := gp_dn_zn p q r n (gp_up p q r z c n) c (by omega) n (Nat.le_refl n)
  unfold gp_za
  omega
theorem gp_zc_zn (p q r : Nat → Int) (n : Nat) (z x y : Int) (hz : 0 ≤ z ∧ z ≤ gp_ct (gp_sk q) n) : ∀ t : Nat, (0 ≤ (gp_zc p q r n z x y t).2 ∧ (gp_zc p q r n z x y t).2 ≤ gp_ct (gp_sk q) n) ∧ 0 ≤ (gp_zc p q r n z x y t).1 ∧ (gp_zc p q r n z x y t).1 ≤ t
  | 0 => ⟨hz, Int.le_refl _, Int.le_refl _⟩
  | t + 1 => by
    have h := gp_zc_zn p q r n z x y hz t
    refine ⟨gp_za_zn p q r n _ _ h.1, ?_⟩
    unfold gp_zc
    dsimp only
    by_cases e : gp_za p q r n (gp_zc p q r n z x y t).2 (if t % 2 = 0 then x + y else x - y) = (gp_zc p q r n z x y t).2
    · rw [if_pos e]; omega
    · rw [if_neg e]; omega
end LD
theorem k_Borders_zoneChanges_0 {G : ga_G} {d : Nat} {I : ga_I} {E : Option ga_V → ga_I → Prop} {k : Nat} {v1 : Int} {v2 : Int} {v3 : Int} {v4 : Int} 
    (h : ga_RG I → ga_W G (d + 1) mt_Borders_zoneChanges 9 [some (.inr k), none, some (.inl v2), some (.inl v3), some (.inl v4), some (.inl 0), some (.inl v1), some (.inl 0), none, none] [] I E) :
    ga_W G (d + 1) mt_Borders_zoneChanges 0 (ga_en 10 [.inr k, .inl v1, .inl v2, .inl v3, .inl v4]) [] I E := by
  show ga_W G (d + 1) mt_Borders_zoneChanges 0 [some (.inr k), some (.inl v1), some (.inl v2), some (.inl v3), some (.inl v4), none, none, none, none, none] [] I E
  refine gw_RG (fun hI1 => ?_)
  have h := h hI1
  refine gw_iconst d_Borders_zoneChanges_0 ?_
  refine gw_istore 5 d_Borders_zoneChanges_1 (Nat.le_of_ble_eq_true rfl) rfl ?_
  refine gw_iload_n 1 d_Borders_zoneChanges_3 rfl rfl ?_
  refine gw_istore 6 d_Borders_zoneChanges_4 (Nat.le_of_ble_eq_true rfl) rfl ?_
  refine gw_iconst d_Borders_zoneChanges_6 ?_
  refine gw_istore 7 d_Borders_zoneChanges_7 (Nat.le_of_ble_eq_true rfl) rfl ?_
  exact gw_le h (by exact ⟨rfl, ⟨rfl, ⟨rfl, ⟨rfl, ⟨rfl, ⟨rfl, ⟨rfl, trivial⟩⟩⟩⟩⟩⟩⟩)
theorem k_Borders_zoneChanges_9 {G : ga_G} {d : Nat} {I : ga_I} {E : Option ga_V → ga_I → Prop} {k : Nat} {v2 : Int} {v3 : Int} {v4 : Int} {v5 : Int} {v6 : Int} {v7 : Int} (hk : ga_isB k) (r4 : ga_rg v4) (r6 : ga_rg v6) (r7 : ga_rg v7)
    (h : ga_RG I → ((v4 ≤ v7) → E (some (.inl v5)) I) ∧ ((¬ (v4 ≤ v7)) → (ga_rg (Int.tmod v7 2)) ∧ ((((Int.tmod v7 2) ≠ 0) → (gb_ok I k) ∧ ((-10 ≤ v6 ∧ v6 ≤ 10) ∧ ((ga_rg (v2 - v3)) ∧ ((ga_rg (gp_za (I (k + 1)) (I (k + 2)) (I (k + 3)) (I k 0).toNat v6 (v2 - v3))) ∧ ((((gp_za (I (k + 1)) (I (k + 2)) (I (k + 3)) (I k 0).toNat v6 (v2 - v3)) = v6) → ga_W G (d + 1) mt_Borders_zoneChanges 9 [some (.inr k), none, some (.inl v2), some (.inl v3), some (.inl v4), some (.inl v5), some (.inl (gp_za (I (k + 1)) (I (k + 2)) (I (k + 3)) (I k 0).toNat v6 (v2 - v3))), some (.inl (v7 + 1)), none, none] [] I E) ∧ ((¬ ((gp_za (I (k + 1)) (I (k + 2)) (I (k + 3)) (I k 0).toNat v6 (v2 - v3)) = v6)) → ga_W G (d + 1) mt_Borders_zoneChanges 9 [some (.inr k), none, some (.inl v2), some (.inl v3), some (.inl v4), some (.inl (v5 + 1)), some (.inl (gp_za (I (k + 1)) (I (k + 2)) (I (k + 3)) (I k 0).toNat v6 (v2 - v3))), some (.inl (v7 + 1)), none, none] [] I E)))))) ∧ (((Int.tmod v7 2) = 0) → (gb_ok I k) ∧ ((-10 ≤ v6 ∧ v6 ≤ 10) ∧ ((ga_rg (v2 + v3)) ∧ ((ga_rg (gp_za (I (k + 1)) (I (k + 2)) (I (k + 3)) (I k 0).toNat v6 (v2 + v3))) ∧ ((((gp_za (I (k + 1)) (I (k + 2)) (I (k + 3)) (I k 0).toNat v6 (v2 + v3)) = v6) → ga_W G (d + 1) mt_Borders_zoneChanges 9 [some (.inr k), none, some (.inl v2), some (.inl v3), some (.inl v4), some (.inl v5), some (.inl (gp_za (I (k + 1)) (I (k + 2)) (I (k + 3)) (I k 0).toNat v6 (v2 + v3))), some (.inl (v7 + 1)), none, none] [] I E) ∧ ((¬ ((gp_za (I (k + 1)) (I (k + 2)) (I (k + 3)) (I k 0).toNat v6 (v2 + v3)) = v6)) → ga_W G (d + 1) mt_Borders_zoneChanges 9 [some (.inr k), none, some (.inl v2), some (.inl v3), some (.inl v4), some (.inl (v5 + 1)), some (.inl (gp_za (I (k + 1)) (I (k + 2)) (I (k + 3)) (I k 0).toNat v6 (v2 + v3))), some (.inl (v7 + 1)), none, none] [] I E))))))))) :
    ga_W G (d + 1) mt_Borders_zoneChanges 9 [some (.inr k), none, some (.inl v2), some (.inl v3), some (.inl v4), some (.inl v5), some (.inl v6), some (.inl v7), none, none] [] I E := by
  refine gw_RG (fun hI1 => ?_)
  have h := h hI1
  refine gw_iload 7 d_Borders_zoneChanges_9 rfl ?_
  refine gw_iload 4 d_Borders_zoneChanges_11 rfl ?_
  refine gw_icmp_ge 64 d_Borders_zoneChanges_13 (by decide) r7 r4 (fun hc => ?_) (fun hc => ?_)
  · have h := h.1 hc
    refine gw_iload 5 d_Borders_zoneChanges_64 rfl ?_
    exact gw_ireturn d_Borders_zoneChanges_66 rfl h
  · have h := h.2 hc
    refine gw_iload 7 d_Borders_zoneChanges_16 rfl ?_
    refine gw_iconst d_Borders_zoneChanges_18 ?_
    refine gw_irem d_Borders_zoneChanges_19 r7 ⟨by decide, by decide⟩ (by decide) ?_
    obtain ⟨g1, h⟩ := h
    refine gw_if_ne 29 d_Borders_zoneChanges_20 (by decide) g1 (fun hc => ?_) (fun hc => ?_)
    · have h := h.1 hc
      refine gw_iload_n 2 d_Borders_zoneChanges_29 rfl rfl ?_
      refine gw_iload_n 3 d_Borders_zoneChanges_30 rfl rfl ?_
      refine gw_isub d_Borders_zoneChanges_31 ?_
      refine gw_istore 8 d_Borders_zoneChanges_32 (Nat.le_of_ble_eq_true rfl) rfl ?_
      refine gw_aload_n 0 d_Borders_zoneChanges_34 rfl rfl ?_
      refine gw_iload 6 d_Borders_zoneChanges_35 rfl ?_
      refine gw_iload 8 d_Borders_zoneChanges_37 rfl ?_
      obtain ⟨g2, h⟩ := h
      obtain ⟨g3, h⟩ := h
      obtain ⟨g4, h⟩ := h
      refine gw_invV (as := [.inl v6, .inl (v2 - v3)]) (k := k) (rest := []) (d' := d) d_Borders_zoneChanges_39 lk_Borders_48 (ga_rcv (hk.1) rfl rfl) rfl (Nat.le_of_ble_eq_true rfl) (Nat.le_of_ble_eq_true rfl) rfl rfl (s_Borders_zoneAfter hk g2 g3 g4 ?_)
      show ga_W G (d + 1) mt_Borders_zoneChanges 42 [some (.inr k), none, some (.inl v2), some (.inl v3), some (.inl v4), some (.inl v5), some (.inl v6), some (.inl v7), some (.inl (v2 - v3)), none] [.inl (gp_za (I (k + 1)) (I (k + 2)) (I (k + 3)) (I k 0).toNat v6 (v2 - v3))] I E
      refine gw_istore 9 d_Borders_zoneChanges_42 (Nat.le_of_ble_eq_true rfl) rfl ?_
      refine gw_iload 9 d_Borders_zoneChanges_44 rfl ?_
      refine gw_iload 6 d_Borders_zoneChanges_46 rfl ?_
      obtain ⟨g5, h⟩ := h
      refine gw_icmp_eq 54 d_Borders_zoneChanges_48 (by decide) g5 r6 (fun hc => ?_) (fun hc => ?_)
      · have h := h.1 hc
        refine gw_iload 9 d_Borders_zoneChanges_54 rfl ?_
        refine gw_istore 6 d_Borders_zoneChanges_56 (Nat.le_of_ble_eq_true rfl) rfl ?_
        refine gw_iinc 7 d_Borders_zoneChanges_58 rfl rfl ?_
        refine gw_goto 9 d_Borders_zoneChanges_61 (by decide) ?_
        exact gw_le h (by exact ⟨rfl, ⟨rfl, ⟨rfl, ⟨rfl, ⟨rfl, ⟨rfl, ⟨rfl, trivial⟩⟩⟩⟩⟩⟩⟩)
      · have h := h.2 hc
        refine gw_iinc 5 d_Borders_zoneChanges_51 rfl rfl ?_
        refine gw_iload 9 d_Borders_zoneChanges_54 rfl ?_
        refine gw_istore 6 d_Borders_zoneChanges_56 (Nat.le_of_ble_eq_true rfl) rfl ?_
        refine gw_iinc 7 d_Borders_zoneChanges_58 rfl rfl ?_
        refine gw_goto 9 d_Borders_zoneChanges_61 (by decide) ?_
        exact gw_le h (by exact ⟨rfl, ⟨rfl, ⟨rfl, ⟨rfl, ⟨rfl, ⟨rfl, ⟨rfl, trivial⟩⟩⟩⟩⟩⟩⟩)
    · have h := h.2 hc
      refine gw_iload_n 2 d_Borders_zoneChanges_23 rfl rfl ?_
      refine gw_iload_n 3 d_Borders_zoneChanges_24 rfl rfl ?_
      refine gw_iadd d_Borders_zoneChanges_25 ?_
      refine gw_goto 32 d_Borders_zoneChanges_26 (by decide) ?_
      refine gw_istore 8 d_Borders_zoneChanges_32 (Nat.le_of_ble_eq_true rfl) rfl ?_
      refine gw_aload_n 0 d_Borders_zoneChanges_34 rfl rfl ?_
      refine gw_iload 6 d_Borders_zoneChanges_35 rfl ?_
      refine gw_iload 8 d_Borders_zoneChanges_37 rfl ?_
      obtain ⟨g6, h⟩ := h
      obtain ⟨g7, h⟩ := h
      obtain ⟨g8, h⟩ := h
      refine gw_invV (as := [.inl v6, .inl (v2 + v3)]) (k := k) (rest := []) (d' := d) d_Borders_zoneChanges_39 lk_Borders_48 (ga_rcv (hk.1) rfl rfl) rfl (Nat.le_of_ble_eq_true rfl) (Nat.le_of_ble_eq_true rfl) rfl rfl (s_Borders_zoneAfter hk g6 g7 g8 ?_)
      show ga_W G (d + 1) mt_Borders_zoneChanges 42 [some (.inr k), none, some (.inl v2), some (.inl v3), some (.inl v4), some (.inl v5), some (.inl v6), some (.inl v7), some (.inl (v2 + v3)), none] [.inl (gp_za (I (k + 1)) (I (k + 2)) (I (k + 3)) (I k 0).toNat v6 (v2 + v3))] I E
      refine gw_istore 9 d_Borders_zoneChanges_42 (Nat.le_of_ble_eq_true rfl) rfl ?_
      refine gw_iload 9 d_Borders_zoneChanges_44 rfl ?_
      refine gw_iload 6 d_Borders_zoneChanges_46 rfl ?_
      obtain ⟨g9, h⟩ := h
      refine gw_icmp_eq 54 d_Borders_zoneChanges_48 (by decide) g9 r6 (fun hc => ?_) (fun hc => ?_)
      · have h := h.1 hc
        refine gw_iload 9 d_Borders_zoneChanges_54 rfl ?_
        refine gw_istore 6 d_Borders_zoneChanges_56 (Nat.le_of_ble_eq_true rfl) rfl ?_
        refine gw_iinc 7 d_Borders_zoneChanges_58 rfl rfl ?_
        refine gw_goto 9 d_Borders_zoneChanges_61 (by decide) ?_
        exact gw_le h (by exact ⟨rfl, ⟨rfl, ⟨rfl, ⟨rfl, ⟨rfl, ⟨rfl, ⟨rfl, trivial⟩⟩⟩⟩⟩⟩⟩)
      · have h := h.2 hc
        refine gw_iinc 5 d_Borders_zoneChanges_51 rfl rfl ?_
        refine gw_iload 9 d_Borders_zoneChanges_54 rfl ?_
        refine gw_istore 6 d_Borders_zoneChanges_56 (Nat.le_of_ble_eq_true rfl) rfl ?_
        refine gw_iinc 7 d_Borders_zoneChanges_58 rfl rfl ?_
        refine gw_goto 9 d_Borders_zoneChanges_61 (by decide) ?_
        exact gw_le h (by exact ⟨rfl, ⟨rfl, ⟨rfl, ⟨rfl, ⟨rfl, ⟨rfl, ⟨rfl, trivial⟩⟩⟩⟩⟩⟩⟩)

section LE
variable {G : ga_G} {d : Nat} {I : ga_I} {E : Option ga_V → ga_I → Prop} {k : Nat}
theorem l_Borders_zoneChanges (hk : ga_isB k) (hok : gb_ok I k) {z x y : Int} {n t : Nat} (hn : (I k 0).toNat = n) (hz : 0 ≤ z ∧ z ≤ gp_ct (gp_sk (I (k + 2))) n) (ht : t ≤ 100) (h1 : ga_rg (x + y)) (h2 : ga_rg (x - y)) (h : E (some (.inl (gp_zc (I (k + 1)) (I (k + 2)) (I (k + 3)) n z x y t).1)) I) : ∀ (m b : Nat), b + m = t → ga_W G (d + 1) mt_Borders_zoneChanges 9 [some (.inr k), none, some (.inl x), some (.inl y), some (.inl t), some (.inl (gp_zc (I (k + 1)) (I (k + 2)) (I (k + 3)) n z x y b).1), some (.inl (gp_zc (I (k + 1)) (I (k + 2)) (I (k + 3)) n z x y b).2), some (.inl b), none, none] [] I E := by
  have h6 := hok.2.1
  have hN := gp_ct_le (gp_sk (I (k + 2))) n
  intro m
  induction m with
  | zero =>
    intro b hb
    have hd := gp_zc_zn (I (k + 1)) (I (k + 2)) (I (k + 3)) n z x y hz b
    refine k_Borders_zoneChanges_9 hk ⟨by omega, by omega⟩ ⟨by omega, by omega⟩ ⟨by omega, by omega⟩ (fun hI => ⟨fun h1 => ?_, fun h1 => by exfalso; omega⟩)
    rwa [show t = b by omega] at h
  | succ m ih =>
    intro b hb
    have e := ih (b + 1) (by omega)
    have hd := gp_zc_zn (I (k + 1)) (I (k + 2)) (I (k + 3)) n z x y hz b
    have hd2 := gp_zc_zn (I (k + 1)) (I (k + 2)) (I (k + 3)) n z x y hz (b + 1)
    have hm : Int.tmod (b : Int) 2 = ((b % 2 : Nat) : Int) := by rw [Int.tmod_eq_emod_of_nonneg (by omega)]; omega
    refine k_Borders_zoneChanges_9 hk ⟨by omega, by omega⟩ ⟨by omega, by omega⟩ ⟨by omega, by omega⟩ (fun hI => ⟨fun h1 => by exfalso; omega, fun h3 => ⟨?_, fun h4 => ⟨hok, by omega, h2, ?_, fun h5 => ?_, fun h5 => ?_⟩, fun h4 => ⟨hok, by omega, h1, ?_, fun h5 => ?_, fun h5 => ?_⟩⟩⟩)
    · rw [hm]; constructor <;> omega
    · have hb2 : ¬ b % 2 = 0 := by rw [hm] at h4; omega
      simp only [gp_zc, if_neg hb2] at hd2
      rw [hn]
      constructor <;> omega
    · have hb2 : ¬ b % 2 = 0 := by rw [hm] at h4; omega
      rw [hn] at h5 ⊢
      simp only [gp_zc, if_neg hb2] at e
      rw [if_pos h5] at e
      exact e
    · have hb2 : ¬ b % 2 = 0 := by rw [hm] at h4; omega
      rw [hn] at h5 ⊢
      simp only [gp_zc, if_neg hb2] at e
      rw [if_neg h5] at e
      exact e
    · have hb2 : b % 2 = 0 := by rw [hm] at h4; omega
      simp only [gp_zc, if_pos hb2] at hd2
      rw [hn]
      constructor <;> omega
    · have hb2 : b % 2 = 0 := by rw [hm] at h4; omega
      rw [hn] at h5 ⊢
      simp only [gp_zc, if_pos hb2] at e
      rw [if_pos h5] at e
      exact e
    · have hb2 : b % 2 = 0 := by rw [hm] at h4; omega
      rw [hn] at h5 ⊢
      simp only [gp_zc, if_pos hb2] at e
      rw [if_neg h5] at e
      exact e
theorem s_Borders_zoneChanges (hk : ga_isB k) (hok : gb_ok I k) {z x y t : Int} (hz : 0 ≤ z ∧ z ≤ gp_ct (gp_sk (I (k + 2))) (I k 0).toNat) (ht : 0 ≤ t ∧ t ≤ 100) (h1 : ga_rg (x + y)) (h2 : ga_rg (x - y)) (h : E (some (.inl (gp_zc (I (k + 1)) (I (k + 2)) (I (k + 3)) (I k 0).toNat z x y t.toNat).1)) I) : ga_W G (d + 1) mt_Borders_zoneChanges 0 (ga_en 10 [.inr k, .inl z, .inl x, .inl y, .inl t]) [] I E := by
  refine k_Borders_zoneChanges_0 (fun _ => ?_)
  have e := l_Borders_zoneChanges (G := G) (d := d) hk hok rfl hz (t := t.toNat) (by omega) h1 h2 h t.toNat 0 (by omega)
  rw [show ((t.toNat : Nat) : Int) = t by omega] at e
  exact e
end LE
