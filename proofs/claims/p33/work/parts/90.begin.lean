/-! the law: its beginning -/
def ns_0 : Nat → Int := fun j => if 38 ≤ j ∧ j < 234 then (if (j - 38) % 4 = 3 then -1 else 0) else if j = 234 ∨ j = 235 then 500 else if j = 241 ∨ j = 244 ∨ j = 247 then 100 else if j = 242 ∨ j = 245 ∨ j = 248 then 1000 else 0
section LI
theorem RG_fi {I : ga_I} {r n : Nat} {z : Int} (h : ga_RG I) (hz : ga_rg z) : ga_RG (gx_fi I r n z) := fun a b => by
  unfold gx_fi
  by_cases q : a = r ∧ b < n
  · rw [if_pos q]; exact hz
  · rw [if_neg q]; exact h a b
theorem RG_T {I : ga_I} {k : Nat} (h : ga_RG I) : ga_RG (gi_T I k) := RG_fi h ⟨by omega, by omega⟩
theorem RG_S {I : ga_I} {k : Nat} (h : ga_RG I) : ga_RG (gi_S I k) := RG_fi (RG_fi (RG_fi (RG_T (RG_T (RG_T (RG_T h)))) ⟨by omega, by omega⟩) ⟨by omega, by omega⟩) ⟨by omega, by omega⟩
theorem RG_H {I : ga_I} (h : ga_RG I) : ∀ i, ga_RG (gi_H I i)
  | 0 => h
  | i + 1 => RG_S (RG_H h i)
theorem RG_0 : ga_RG gi_0 := fun a b => ⟨by show (-2147483648 : Int) ≤ 0; omega, by show (0 : Int) < 2147483648; omega⟩
theorem RG_G : ga_RG (gi_G 7) := ga_RG_up (ga_RG_up (RG_T (ga_RG_up (RG_H (RG_S RG_0) 5) 327 1 ⟨by omega, by omega⟩)) 344 3 ⟨by omega, by omega⟩) 345 3 ⟨by omega, by omega⟩
/-- what the first cells hold at the beginning -/
theorem gi_v {a : Nat} (h : a < 57) : gi_G 7 a = gi_S gi_0 1 a := by
  rw [gi_G_7 (by omega), gi_G_6 (by omega), gi_G_5, gi_G_4 (by omega), gi_G_3 (by omega), gi_G_2 (by omega)]
  rfl
theorem gi_z {a : Nat} (h : a < 57) (h1 : a ≠ 12 ∧ a ≠ 23 ∧ a ≠ 34 ∧ a ≠ 45 ∧ a ≠ 47 ∧ a ≠ 51 ∧ a ≠ 52) : gi_G 7 a = fun _ => 0 := by
  rw [gi_v h]
  unfold gi_S gi_S4
  rw [gx_fi_o (by omega), gx_fi_o (by omega), gx_fi_o (by omega), gi_T_o (by omega), gi_T_o (by omega), gi_T_o (by omega), gi_T_o (by omega)]
  rfl
theorem gi_47 : gi_G 7 47 0 = 500 ∧ gi_G 7 47 1 = 500 := by
  rw [gi_v (by omega)]
  unfold gi_S
  rw [gx_fi_o (by omega), gx_fi_o (by omega)]
  exact ⟨rfl, rfl⟩
theorem gi_51 {op : Nat} (h : op < 3) : gi_G 7 51 op = 100 := by
  rw [gi_v (by omega)]
  unfold gi_S
  rw [gx_fi_o (by omega)]
  exact if_pos ⟨rfl, h⟩
theorem gi_52 {op : Nat} (h : op < 3) : gi_G 7 52 op = 1000 := by
  rw [gi_v (by omega)]
  unfold gi_S
  exact if_pos ⟨rfl, h⟩
theorem gi_12 {g : Nat} (h : g < 49) : gi_G 7 12 g = -2000000009 := by
  rw [gi_v (by omega)]
  unfold gi_S gi_S4
  rw [gx_fi_o (by omega), gx_fi_o (by omega), gx_fi_o (by omega), gi_T_o (by omega), gi_T_o (by omega), gi_T_o (by omega)]
  exact if_pos ⟨rfl, h⟩
theorem gi_S_45 {I : ga_I} {k : Nat} : gi_S I k (k + 45) = I (k + 45) := by
  unfold gi_S
  rw [gx_fi_o (by omega), gx_fi_o (by omega), gx_fi_o (by omega), gi_S4_o (by omega)]
theorem gi_tk {i : Nat} (h : i < 5) : gi_G 7 (57 + 54 * i + 45) = fun _ => 0 := by
  rw [gi_G_7 (by omega), gi_G_6 (by omega), gi_G_5, gi_G_4 (by omega), gi_G_3 (by omega)]
  have e : ∀ m, m ≤ 5 → gi_H (gi_S gi_0 1) m (57 + 54 * i + 45) = fun _ => 0 := by
    intro m
    induction m with
    | zero => intro _; show gi_S gi_0 1 (57 + 54 * i + 45) = _; rw [gi_S_o (by omega)]; rfl
    | succ m ih =>
      intro hm
      show gi_S (gi_H (gi_S gi_0 1) m) (57 + 54 * m) (57 + 54 * i + 45) = _
      by_cases q : m = i
      · subst q; rw [gi_S_45]; exact ih (by omega)
      · rw [gi_S_o (by omega)]; exact ih (by omega)
  exact e 5 (by omega)
def na_0 : na_A := (ns_0, fun _ => 0, 0, fun _ => 0, 0)
theorem ns_0_z {j : Nat} (h : j < 38 ∨ 249 ≤ j ∨ (236 ≤ j ∧ j ≤ 240) ∨ j = 243 ∨ j = 246) : ns_0 j = 0 := by
  unfold ns_0
  rw [if_neg (by omega), if_neg (by omega), if_neg (by omega), if_neg (by omega)]
theorem ns_0_g {g i : Nat} (hg : g < 49) (hi : i < 3) : ns_0 (38 + 4 * g + i) = 0 := by
  unfold ns_0
  rw [if_pos (by omega), if_neg (by omega)]
theorem ns_0_l {g : Nat} (hg : g < 49) : ns_0 (38 + 4 * g + 3) = -1 := by
  unfold ns_0
  rw [if_pos (by omega), if_pos (by omega)]
theorem ns_0_n {ax : Int} (h : 0 ≤ ax ∧ ax ≤ 1) : ms_n ns_0 ax = 0 := by
  unfold ms_n
  exact ns_0_z (by omega)
theorem ni_ok_0 {ax : Int} (h : 0 ≤ ax ∧ ax ≤ 1) : ni_ok ns_0 ax := by
  unfold ni_ok
  rw [ns_0_n h]
  exact ⟨by omega, by omega, fun b hb => by exfalso; omega, fun b hb => by exfalso; omega⟩
theorem ni_t_0 : ni_t ns_0 := by
  refine ⟨ni_ok_0 (by omega), ni_ok_0 (by omega), fun g i hg hi => ?_, fun g hg => ?_⟩
  · rw [ns_0_g hg hi]; omega
  · rw [ns_0_l hg]; omega
theorem ni_a_0 : ni_a na_0 := by
  have hs : ni_s ns_0 := by
    refine ⟨ni_t_0, ⟨⟨by decide, by decide⟩, ⟨by decide, by decide⟩⟩, ⟨⟨?_, ?_⟩, ⟨?_, ?_⟩⟩, ⟨?_, ?_⟩, fun p hp => ?_⟩
    · rw [ns_0_z (by omega)]; omega
    · rw [ns_0_z (j := 236) (by omega), ns_0_n (by omega)]; exact Int.le_refl _
    · rw [ns_0_z (by omega)]; omega
    · rw [ns_0_z (j := 237) (by omega), ns_0_n (by omega)]; exact Int.le_refl _
    · rw [ns_0_z (by omega)]; omega
    · rw [ns_0_z (by omega)]; omega
    · rw [ns_0_z (by omega)]
      exact ⟨Or.inl rfl, fun h => absurd h (by omega)⟩
  exact ⟨hs, ⟨Int.le_refl _, by show (0 : Int) ≤ 5; omega⟩, fun i hi => by change (i : Int) < 0 at hi; exfalso; omega, ⟨Int.le_refl _, by show (0 : Int) ≤ 160; omega⟩, fun i hi => by change (i : Int) < 0 at hi; exfalso; omega⟩
theorem rt_b_0 {J : ga_I} {k : Nat} {ax : Int} (h : 0 ≤ ax ∧ ax ≤ 1) (e : J k = fun _ => 0) : rt_b J k ns_0 ax := by
  refine ⟨by rw [e, ns_0_n h], fun b hb => ?_⟩
  rw [ns_0_n h] at hb
  exfalso; omega
theorem rx_0 {J : ga_I} (h2 : ∀ a, a ≠ 349 → J a = gi_G 7 a) : rx J na_0 := by
  have v : ∀ a, a < 57 → a ≠ 12 ∧ a ≠ 23 ∧ a ≠ 34 ∧ a ≠ 45 ∧ a ≠ 47 ∧ a ≠ 51 ∧ a ≠ 52 → J a = fun _ => 0 := fun a w1 w2 => (h2 a (by omega)).trans (gi_z w1 w2)
  have t : rt J 2 ns_0 := by
    refine ⟨rt_b_0 (by omega) (v 3 (by omega) (by omega)), rt_b_0 (by omega) (v 7 (by omega) (by omega)), fun g i hg hi => ?_, fun g hg => ?_⟩
    · rw [ns_0_g hg hi]
      show J 11 (g * 3 + i) = 0
      rw [v 11 (by omega) (by omega)]
    · rw [ns_0_l hg]
      show J 12 g = rt_l (-1)
      rw [h2 12 (by omega), gi_12 hg]; rfl
  have s : rs J 1 ns_0 := by
    refine ⟨t, fun p hp => ⟨?_, fun q => ?_⟩, ⟨?_, ?_⟩, ⟨?_, ?_⟩, ?_, ⟨?_, ⟨?_, ?_⟩, fun b w hb hw => ?_⟩, ?_, ?_, fun op ho => ⟨?_, ?_, ?_⟩, fun a ha => ?_⟩
    · rw [ns_0_z (by omega)]
      show J 46 p = 0
      rw [v 46 (by omega) (by omega)]
    · rw [ns_0_z (by omega)] at q
      exact absurd q (by omega)
    · show J 47 0 = 500
      rw [h2 47 (by omega)]; exact gi_47.1
    · show J 47 1 = 500
      rw [h2 47 (by omega)]; exact gi_47.2
    · show J 48 0 = 0
      rw [v 48 (by omega) (by omega)]
    · show J 48 1 = 0
      rw [v 48 (by omega) (by omega)]
    · show J 1 7 = 0
      rw [v 1 (by omega) (by omega)]
    · show J 49 0 = 0
      rw [v 49 (by omega) (by omega)]
    · show 0 ≤ J 49 1
      rw [v 49 (by omega) (by omega)]
      exact Int.le_refl _
    · show J 49 1 < 20
      rw [v 49 (by omega) (by omega)]
      show (0 : Int) < 20
      omega
    · rw [ns_0_z (by omega)] at hb
      exfalso; omega
    · show J 1 9 = 0
      rw [v 1 (by omega) (by omega)]
    · show J 1 10 = 0
      rw [v 1 (by omega) (by omega)]
    · show J 51 op = ns_0 (241 + 3 * op)
      rw [h2 51 (by omega), gi_51 ho]
      rcases (show op = 0 ∨ op = 1 ∨ op = 2 by omega) with e | e | e <;> subst e <;> rfl
    · show J 52 op = ns_0 (241 + 3 * op + 1)
      rw [h2 52 (by omega), gi_52 ho]
      rcases (show op = 0 ∨ op = 1 ∨ op = 2 by omega) with e | e | e <;> subst e <;> rfl
    · show J 53 op = ns_0 (241 + 3 * op + 2)
      rw [v 53 (by omega) (by omega), ns_0_z (by omega)]
    · show J 54 a = ns_0 (250 + a)
      rw [v 54 (by omega) (by omega), ns_0_z (by omega)]
  have z55 : J 55 = fun _ => 0 := v 55 (by omega) (by omega)
  refine ⟨s, ⟨?_, ?_, fun j hj => Or.inl ?_, fun i hi j hj => Or.inl ?_⟩, ?_, fun i hi => ?_, ?_, ?_⟩
  · rw [z55]; exact ⟨Int.le_refl _, by show (0 : Int) ≤ 5; omega⟩
  · rw [z55]; exact ⟨Int.le_refl _, by show (0 : Int) < 5; omega⟩
  · rw [v 46 (by omega) (by omega)]
  · rw [h2 _ (by omega), gi_tk hi]
  · rw [z55]; rfl
  · change (i : Int) < 0 at hi
    exfalso; omega
  · rw [h2 327 (by omega), gi_G_7 (by omega), gi_G_6 (by omega), gi_G_5, gi_G_4 (by omega)]
    show ga_up (gi_G 2) 327 1 (-1) 327 0 = 0
    rw [ga_up_nj (by omega), gi_G_z2 (by omega)]
  · rw [h2 328 (by omega), gi_G_7 (by omega), gi_G_6 (by omega), gi_G_5, gi_G_4 (by omega), gi_G_3 (by omega), gi_G_z2 (by omega)]
    rfl
end LI
theorem np_0 : np_s ns_0 := by
  refine ⟨fun op ho => ?_, ?_, fun i hi => ?_, 0, ?_⟩
  · rcases (show op = 0 ∨ op = 1 ∨ op = 2 by omega) with e | e | e <;> subst e <;> decide +kernel
  · rw [ns_0_z (by omega)]; omega
  · rw [ns_0_z (by omega)]; omega
  · have e : ns_tt ns_0 = 0 := by
      unfold ns_tt
      rw [ns_0_n (by omega), ns_0_n (by omega)]
      decide +kernel
    rw [ns_0_z (by omega), ns_0_z (j := 251) (by omega), ns_0_z (j := 252) (by omega), ns_0_z (j := 253) (by omega), e]
    rfl
theorem law_0 {G : ga_G} {X : Nat → va_E} (hL : ga_L G < 100000) : gc_W G 7 mt_Law 0 (ga_en 13 [.inr 1000]) [] X 0 348 7505 (fun _ _ => True) := by
  refine gc_room (rc' := 347 + 0 + 1) (rs' := 7496 + 0 + 9) (by omega) (by omega) ?_
  refine gc_new (N := 9) (ci := 7) (fs := [.null, .null, .null, .null, .null, .null, .null, .null, .null]) y_GT d_Law_0 rfl in_GT ty_GT lc_Law_13 ic_GT.1 ic_GT.2 gc_dG (by omega) (gc_dup d_Law_3 ?_)
  refine gc_invI (d' := 6) (rc := 0) (rs := 0) (rc2 := 347) (rs2 := 7496) d_Law_4 li_Law_84 (Nat.le_of_ble_eq_true rfl) (by show 1 ≤ 8; omega) rfl ?_
  refine gc_cong (X' := gc_X G X 0 (.inr (7, [.null, .null, .null, .null, .null, .null, .null, .null, .null])) (gi_G 0)) (fun q hq => ?_) (c_GT ?_)
  · rw [if_pos (by omega), show q = 0 by omega]; exact gc_X_at.symm
  refine gc_astore_n 1 d_Law_7 rfl (Nat.le_of_ble_eq_true rfl) rfl ?_
  refine gc_toW (I := gi_G 7) (fun q hq => ?_) RG_G (E' := fun v _ => v = some (.inl 1)) (fun v I' hE _ => ⟨Or.inr hE, trivial⟩) ?_
  · by_cases e2 : q = 0
    · rw [e2, gc_X_at]
    · rw [gc_X_gt (by omega)]
  · refine gw_iconst d_Law_8 (gw_istore_n 2 d_Law_9 rfl (Nat.le_of_ble_eq_true rfl) rfl ?_)
    refine gl_of rfl ?_
    refine gl_le (lw_10 hL (fun J A1 j1 j2 j3 => lw_340 (fun J => ⟨.inl 1, rfl, rfl⟩) j1 j2) 15 0 (gi_G 7) na_0 (by omega) (rx_0 (fun a _ => rfl)) ni_a_0 np_0) (by exact ⟨rfl, ⟨rfl, ⟨rfl, trivial⟩⟩⟩)
