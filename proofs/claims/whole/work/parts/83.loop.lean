/-! the law: its loop, its beginning -/
section LL
variable {G : ga_G} {E : Option ga_V → ga_I → Prop}
theorem lw_loop (hL : ga_L G < 100000) (hE : ∀ J, E (some (.inl 1)) J) : ∀ (f i : Nat) (I : ga_I) (A : na_A), ga_L G < i + f → i ≤ ga_L G → rx I A → na_ab I = A → ni_a A → ga_W G 8 mt_Law 18 (lw_l i) [] I E := by
  intro f
  induction f with
  | zero => intro i I A h1 h2; exfalso; omega
  | succ f ih =>
    intro i I A h1 h2 hx eA hA
    refine gw_iload_n 3 d_Law_18 rfl rfl (gw_aload_n 0 d_Law_19 rfl rfl (gw_slen hL d_Law_20 (gw_bipush d_Law_21 (by decide +kernel) (gw_isub d_Law_23 (gw_icmp_gt 1254 d_Law_24 (by decide) ⟨by omega, by omega⟩ ⟨by omega, by omega⟩ (fun _ => ?_) (fun q => ?_))))))
    · exact gw_iconst d_Law_1254 (gw_zreturn d_Law_1255 rfl (Or.inr rfl) (hE I))
    · have hi : i + 6 ≤ ga_L G := by omega
      have next : ∀ J A', rx J A' → na_ab J = A' → ni_a A' → ga_W G 8 mt_Law 1248 (lw_l i) [] J E := fun J A' j1 j2 j3 =>
        gw_iinc 3 d_Law_1248 rfl rfl (gw_goto 18 d_Law_1251 (by decide) (ih (i + 6) J A' (by omega) hi j1 j2 j3))
      refine gw_aload_n 0 d_Law_27 rfl rfl (gw_iload_n 3 d_Law_28 rfl rfl (gw_sld hL (by omega) d_Law_29 (gw_bipush d_Law_30 (by decide +kernel) (gw_iand31 d_Law_32 (fun j hj => ?_)))))
      refine gw_tsw d_Law_33 ⟨by omega, by omega⟩ (fun a b => ?_) (fun _ => ⟨1248, by decide, next I A hx eA hA⟩)
      have hj2 : j ≤ 29 := by omega
      rcases (show j = 0 ∨ j = 1 ∨ j = 2 ∨ j = 3 ∨ j = 4 ∨ j = 5 ∨ j = 6 ∨ j = 7 ∨ j = 8 ∨ j = 9 ∨ j = 10 ∨ j = 11 ∨ j = 12 ∨ j = 13 ∨ j = 14 ∨ j = 15 ∨ j = 16 ∨ j = 17 ∨ j = 18 ∨ j = 19 ∨ j = 20 ∨ j = 21 ∨ j = 22 ∨ j = 23 ∨ j = 24 ∨ j = 25 ∨ j = 26 ∨ j = 27 ∨ j = 28 ∨ j = 29 by omega) with e | e | e | e | e | e | e | e | e | e | e | e | e | e | e | e | e | e | e | e | e | e | e | e | e | e | e | e | e | e <;> subst e
      · exact ⟨168, 135, rfl, by decide, q_addBorder hL hi hx eA hA next⟩
      · exact ⟨221, 188, rfl, by decide, q_removeBorder hL hi hx eA hA next⟩
      · exact ⟨254, 221, rfl, by decide, q_setReach hL hi hx eA hA next⟩
      · exact ⟨297, 264, rfl, by decide, q_setOperator hL hi hx eA hA next⟩
      · exact ⟨340, 307, rfl, by decide, q_edit hL hi hx eA hA next⟩
      · exact ⟨403, 370, rfl, by decide, q_scale hL hi hx eA hA next⟩
      · exact ⟨446, 413, rfl, by decide, q_lock hL hi hx eA hA next⟩
      · exact ⟨499, 466, rfl, by decide, q_setMargin hL hi hx eA hA next⟩
      · exact ⟨522, 489, rfl, by decide, q_move hL hi hx eA hA next⟩
      · exact ⟨555, 522, rfl, by decide, q_sweep hL hi hx eA hA next⟩
      · exact ⟨598, 565, rfl, by decide, q_take hL hi hx eA hA next⟩
      · exact ⟨621, 588, rfl, by decide, q_restore hL hi hx eA hA next⟩
      · exact ⟨644, 611, rfl, by decide, q_undo hL hi hx eA hA next⟩
      · exact ⟨657, 624, rfl, by decide, q_append hL hi hx eA hA next⟩
      · exact ⟨680, 647, rfl, by decide, q_clearText hL hi hx eA hA next⟩
      · exact ⟨693, 660, rfl, by decide, q_load hL hi hx eA hA next⟩
      · exact ⟨706, 673, rfl, by decide, q_count hL hi hx eA hA next⟩
      · exact ⟨729, 696, rfl, by decide, q_axis hL hi hx eA hA next⟩
      · exact ⟨762, 729, rfl, by decide, q_border hL hi hx eA hA next⟩
      · exact ⟨805, 772, rfl, by decide, q_region hL hi hx eA hA next⟩
      · exact ⟨848, 815, rfl, by decide, q_operator hL hi hx eA hA next⟩
      · exact ⟨881, 848, rfl, by decide, q_account hL hi hx eA hA next⟩
      · exact ⟨904, 871, rfl, by decide, q_gain hL hi hx eA hA next⟩
      · exact ⟨937, 904, rfl, by decide, q_trail hL hi hx eA hA next⟩
      · exact ⟨970, 937, rfl, by decide, q_refusal hL hi hx eA hA next⟩
      · exact ⟨1033, 1000, rfl, by decide, q_effect hL hi hx eA hA next⟩
      · exact ⟨1066, 1033, rfl, by decide, q_valueAt hL hi hx eA hA next⟩
      · exact ⟨1109, 1076, rfl, by decide, q_chatter hL hi hx eA hA next⟩
      · exact ⟨1162, 1129, rfl, by decide, q_calmReach hL hi hx eA hA next⟩
      · exact ⟨1205, 1172, rfl, by decide, q_steepest hL hi hx eA hA next⟩
end LL
section LI
theorem RG_fi {I : ga_I} {r n : Nat} {z : Int} (h : ga_RG I) (hz : ga_rg z) : ga_RG (gx_fi I r n z) := fun a b => by
  unfold gx_fi
  by_cases q : a = r ∧ b < n
  · rw [if_pos q]; exact hz
  · rw [if_neg q]; exact h a b
theorem RG_T {I : ga_I} {k : Nat} (h : ga_RG I) : ga_RG (gi_T I k) := RG_fi h ⟨by omega, by omega⟩
theorem RG_S {I : ga_I} {k : Nat} (h : ga_RG I) : ga_RG (gi_S I k) := RG_fi (RG_fi (RG_fi (RG_T (RG_T (RG_T (RG_T h)))) ⟨by omega, by omega⟩) ⟨by omega, by omega⟩) ⟨by omega, by omega⟩
theorem RG_H {I : ga_I} (h : ga_RG I) : ∀ i, ga_RG (gi_H I i)
  | 0 => h
  | i + 1 => RG_S (RG_H h i)
theorem RG_0 : ga_RG gi_0 := fun a b => ⟨by show (-2147483648 : Int) ≤ 0; omega, by show (0 : Int) < 2147483648; omega⟩
theorem RG_G : ga_RG (gi_G 7) := ga_RG_up (ga_RG_up (RG_T (ga_RG_up (RG_H (RG_S RG_0) 5) 327 1 ⟨by omega, by omega⟩)) 344 3 ⟨by omega, by omega⟩) 345 3 ⟨by omega, by omega⟩
/-- what the first cells hold at the beginning -/
theorem gi_v {a : Nat} (h : a < 57) : gi_G 7 a = gi_S gi_0 1 a := by
  rw [gi_G_7 (by omega), gi_G_6 (by omega), gi_G_5, gi_G_4 (by omega), gi_G_3 (by omega), gi_G_2 (by omega)]
  rfl
theorem gi_z {a : Nat} (h : a < 57) (h1 : a ≠ 12 ∧ a ≠ 23 ∧ a ≠ 34 ∧ a ≠ 45 ∧ a ≠ 47 ∧ a ≠ 51 ∧ a ≠ 52) : gi_G 7 a = fun _ => 0 := by
  rw [gi_v h]
  unfold gi_S gi_S4
  rw [gx_fi_o (by omega), gx_fi_o (by omega), gx_fi_o (by omega), gi_T_o (by omega), gi_T_o (by omega), gi_T_o (by omega), gi_T_o (by omega)]
  rfl
theorem gi_47 : gi_G 7 47 0 = 500 ∧ gi_G 7 47 1 = 500 := by
  rw [gi_v (by omega)]
  unfold gi_S
  rw [gx_fi_o (by omega), gx_fi_o (by omega)]
  exact ⟨rfl, rfl⟩
theorem gi_51 {op : Nat} (h : op < 3) : gi_G 7 51 op = 100 := by
  rw [gi_v (by omega)]
  unfold gi_S
  rw [gx_fi_o (by omega)]
  exact if_pos ⟨rfl, h⟩
theorem gi_52 {op : Nat} (h : op < 3) : gi_G 7 52 op = 1000 := by
  rw [gi_v (by omega)]
  unfold gi_S
  exact if_pos ⟨rfl, h⟩
theorem gi_12 {g : Nat} (h : g < 49) : gi_G 7 12 g = -2000000009 := by
  rw [gi_v (by omega)]
  unfold gi_S gi_S4
  rw [gx_fi_o (by omega), gx_fi_o (by omega), gx_fi_o (by omega), gi_T_o (by omega), gi_T_o (by omega), gi_T_o (by omega)]
  exact if_pos ⟨rfl, h⟩
theorem gi_S_45 {I : ga_I} {k : Nat} : gi_S I k (k + 45) = I (k + 45) := by
  unfold gi_S
  rw [gx_fi_o (by omega), gx_fi_o (by omega), gx_fi_o (by omega), gi_S4_o (by omega)]
theorem gi_tk {i : Nat} (h : i < 5) : gi_G 7 (57 + 54 * i + 45) = fun _ => 0 := by
  rw [gi_G_7 (by omega), gi_G_6 (by omega), gi_G_5, gi_G_4 (by omega), gi_G_3 (by omega)]
  have e : ∀ m, m ≤ 5 → gi_H (gi_S gi_0 1) m (57 + 54 * i + 45) = fun _ => 0 := by
    intro m
    induction m with
    | zero => intro _; show gi_S gi_0 1 (57 + 54 * i + 45) = _; rw [gi_S_o (by omega)]; rfl
    | succ m ih =>
      intro hm
      show gi_S (gi_H (gi_S gi_0 1) m) (57 + 54 * m) (57 + 54 * i + 45) = _
      by_cases q : m = i
      · subst q; rw [gi_S_45]; exact ih (by omega)
      · rw [gi_S_o (by omega)]; exact ih (by omega)
  exact e 5 (by omega)
def na_0 : na_A := (ns_0, fun _ => 0, 0, fun _ => 0, 0)
theorem ns_0_z {j : Nat} (h : j < 38 ∨ 249 ≤ j ∨ (236 ≤ j ∧ j ≤ 240) ∨ j = 243 ∨ j = 246) : ns_0 j = 0 := by
  unfold ns_0
  rw [if_neg (by omega), if_neg (by omega), if_neg (by omega), if_neg (by omega)]
theorem ns_0_g {g i : Nat} (hg : g < 49) (hi : i < 3) : ns_0 (38 + 4 * g + i) = 0 := by
  unfold ns_0
  rw [if_pos (by omega), if_neg (by omega)]
theorem ns_0_l {g : Nat} (hg : g < 49) : ns_0 (38 + 4 * g + 3) = -1 := by
  unfold ns_0
  rw [if_pos (by omega), if_pos (by omega)]
theorem ns_0_n {ax : Int} (h : 0 ≤ ax ∧ ax ≤ 1) : ms_n ns_0 ax = 0 := by
  unfold ms_n
  exact ns_0_z (by omega)
theorem ni_ok_0 {ax : Int} (h : 0 ≤ ax ∧ ax ≤ 1) : ni_ok ns_0 ax := by
  unfold ni_ok
  rw [ns_0_n h]
  exact ⟨by omega, by omega, fun b hb => by exfalso; omega, fun b hb => by exfalso; omega⟩
theorem ni_t_0 : ni_t ns_0 := by
  refine ⟨ni_ok_0 (by omega), ni_ok_0 (by omega), fun g i hg hi => ?_, fun g hg => ?_⟩
  · rw [ns_0_g hg hi]; omega
  · rw [ns_0_l hg]; omega
theorem ni_a_0 : ni_a na_0 := by
  have hs : ni_s ns_0 := by
    refine ⟨ni_t_0, ⟨⟨by decide, by decide⟩, ⟨by decide, by decide⟩⟩, ⟨⟨?_, ?_⟩, ⟨?_, ?_⟩⟩, ⟨?_, ?_⟩, fun p hp => ?_⟩
    · rw [ns_0_z (by omega)]; omega
    · rw [ns_0_z (j := 236) (by omega), ns_0_n (by omega)]; exact Int.le_refl _
    · rw [ns_0_z (by omega)]; omega
    · rw [ns_0_z (j := 237) (by omega), ns_0_n (by omega)]; exact Int.le_refl _
    · rw [ns_0_z (by omega)]; omega
    · rw [ns_0_z (by omega)]; omega
    · rw [ns_0_z (by omega)]
      exact ⟨Or.inl rfl, fun h => absurd h (by omega)⟩
  exact ⟨hs, ⟨Int.le_refl _, by show (0 : Int) ≤ 5; omega⟩, fun i hi => by change (i : Int) < 0 at hi; exfalso; omega, ⟨Int.le_refl _, by show (0 : Int) ≤ 160; omega⟩, fun i hi => by change (i : Int) < 0 at hi; exfalso; omega⟩
theorem rt_b_0 {J : ga_I} {k : Nat} {ax : Int} (h : 0 ≤ ax ∧ ax ≤ 1) (e : J k = fun _ => 0) : rt_b J k ns_0 ax := by
  refine ⟨by rw [e, ns_0_n h], fun b hb => ?_⟩
  rw [ns_0_n h] at hb
  exfalso; omega
theorem rx_0 {J : ga_I} (h1 : J 349 = ns_0) (h2 : ∀ a, a ≠ 349 → J a = gi_G 7 a) : rx J na_0 ∧ na_ab J = na_0 := by
  have v : ∀ a, a < 57 → a ≠ 12 ∧ a ≠ 23 ∧ a ≠ 34 ∧ a ≠ 45 ∧ a ≠ 47 ∧ a ≠ 51 ∧ a ≠ 52 → J a = fun _ => 0 := fun a w1 w2 => (h2 a (by omega)).trans (gi_z w1 w2)
  have t : rt J 2 ns_0 := by
    refine ⟨rt_b_0 (by omega) (v 3 (by omega) (by omega)), rt_b_0 (by omega) (v 7 (by omega) (by omega)), fun g i hg hi => ?_, fun g hg => ?_⟩
    · rw [ns_0_g hg hi]
      show J 11 (g * 3 + i) = 0
      rw [v 11 (by omega) (by omega)]
    · rw [ns_0_l hg]
      show J 12 g = rt_l (-1)
      rw [h2 12 (by omega), gi_12 hg]; rfl
  have s : rs J 1 ns_0 := by
    refine ⟨t, fun p hp => ⟨?_, fun q => ?_⟩, ⟨?_, ?_⟩, ⟨?_, ?_⟩, ?_, ⟨?_, ⟨?_, ?_⟩, fun b w hb hw => ?_⟩, ?_, ?_, fun op ho => ⟨?_, ?_, ?_⟩, fun a ha => ?_⟩
    · rw [ns_0_z (by omega)]
      show J 46 p = 0
      rw [v 46 (by omega) (by omega)]
    · rw [ns_0_z (by omega)] at q
      exact absurd q (by omega)
    · show J 47 0 = 500
      rw [h2 47 (by omega)]; exact gi_47.1
    · show J 47 1 = 500
      rw [h2 47 (by omega)]; exact gi_47.2
    · show J 48 0 = 0
      rw [v 48 (by omega) (by omega)]
    · show J 48 1 = 0
      rw [v 48 (by omega) (by omega)]
    · show J 1 7 = 0
      rw [v 1 (by omega) (by omega)]
    · show J 49 0 = 0
      rw [v 49 (by omega) (by omega)]
    · show 0 ≤ J 49 1
      rw [v 49 (by omega) (by omega)]
      exact Int.le_refl _
    · show J 49 1 < 20
      rw [v 49 (by omega) (by omega)]
      show (0 : Int) < 20
      omega
    · rw [ns_0_z (by omega)] at hb
      exfalso; omega
    · show J 1 9 = 0
      rw [v 1 (by omega) (by omega)]
    · show J 1 10 = 0
      rw [v 1 (by omega) (by omega)]
    · show J 51 op = ns_0 (241 + 3 * op)
      rw [h2 51 (by omega), gi_51 ho]
      rcases (show op = 0 ∨ op = 1 ∨ op = 2 by omega) with e | e | e <;> subst e <;> rfl
    · show J 52 op = ns_0 (241 + 3 * op + 1)
      rw [h2 52 (by omega), gi_52 ho]
      rcases (show op = 0 ∨ op = 1 ∨ op = 2 by omega) with e | e | e <;> subst e <;> rfl
    · show J 53 op = ns_0 (241 + 3 * op + 2)
      rw [v 53 (by omega) (by omega), ns_0_z (by omega)]
    · show J 54 a = ns_0 (250 + a)
      rw [v 54 (by omega) (by omega), ns_0_z (by omega)]
  have z55 : J 55 = fun _ => 0 := v 55 (by omega) (by omega)
  refine ⟨⟨s, ⟨?_, ?_, fun j hj => Or.inl ?_, fun i hi j hj => Or.inl ?_⟩, ?_, fun i hi => ?_, ?_, ?_⟩, ?_⟩
  · rw [z55]; exact ⟨Int.le_refl _, by show (0 : Int) ≤ 5; omega⟩
  · rw [z55]; exact ⟨Int.le_refl _, by show (0 : Int) < 5; omega⟩
  · rw [v 46 (by omega) (by omega)]
  · rw [h2 _ (by omega), gi_tk hi]
  · rw [z55]; rfl
  · change (i : Int) < 0 at hi
    exfalso; omega
  · rw [h2 327 (by omega), gi_G_7 (by omega), gi_G_6 (by omega), gi_G_5, gi_G_4 (by omega)]
    show ga_up (gi_G 2) 327 1 (-1) 327 0 = 0
    rw [ga_up_nj (by omega), gi_G_z2 (by omega)]
  · rw [h2 328 (by omega), gi_G_7 (by omega), gi_G_6 (by omega), gi_G_5, gi_G_4 (by omega), gi_G_3 (by omega), gi_G_z2 (by omega)]
    rfl
  · refine na_ab_mk h1 ?_ ?_ ?_ ?_
    · rw [h2 351 (by omega), gi_G_z7 (by omega)]; rfl
    · rw [h2 348 (by omega), gi_G_z7 (by omega)]; rfl
    · rw [h2 352 (by omega), gi_G_z7 (by omega)]; rfl
    · rw [h2 348 (by omega), gi_G_z7 (by omega)]; rfl
end LI
theorem law_0 {G : ga_G} {X : Nat → va_E} (hL : ga_L G < 100000) : gc_W G 8 mt_Law 0 (ga_en 4 [.inr 1000]) [] X 0 358 15530 (fun _ _ => True) := by
  refine gc_room (rc' := 347 + 10 + 1) (rs' := 7496 + 8025 + 9) (by omega) (by omega) ?_
  refine gc_new (N := 9) (ci := 7) (fs := [.null, .null, .null, .null, .null, .null, .null, .null, .null]) y_GT d_Law_0 rfl in_GT ty_GT lc_Law_7 ic_GT.1 ic_GT.2 gc_dG (by omega) (gc_dup d_Law_3 ?_)
  refine gc_invI (d' := 7) (rc := 10) (rs := 8025) (rc2 := 347) (rs2 := 7496) d_Law_4 li_Law_9 (Nat.le_of_ble_eq_true rfl) (by show 1 ≤ 8; omega) rfl ?_
  refine gc_cong (X' := gc_X G X 0 (.inr (7, [.null, .null, .null, .null, .null, .null, .null, .null, .null])) (gi_G 0)) (fun q hq => ?_) (c_GT ?_)
  · rw [if_pos (by omega), show q = 0 by omega]; exact gc_X_at.symm
  refine gc_astore_n 1 d_Law_7 rfl (Nat.le_of_ble_eq_true rfl) rfl ?_
  refine gc_room (rc' := 9 + 0 + 1) (rs' := 8011 + 0 + 14) (by omega) (by omega) ?_
  refine gc_new (N := 14) (ci := 8) (fs := [.int 0, .null, .null, .null, .int 0, .null, .int 0, .null, .null, .null, .null, .null, .int 0, .int 0]) y_Mo d_Law_8 rfl in_Mo ty_Mo lc_Law_10 ic_Mo.1 ic_Mo.2 gc_dM (by omega) (gc_dup d_Law_11 ?_)
  refine gc_invI (d' := 7) (rc := 0) (rs := 0) (rc2 := 9) (rs2 := 8011) d_Law_12 li_Law_12 (Nat.le_of_ble_eq_true rfl) (by show 1 ≤ 8; omega) rfl ?_
  refine gc_cong (X' := gc_X G (fun q => ga_ce G (gi_G 7) q (ga_sh q)) 348 (.inr (8, [.int 0, .null, .null, .null, .int 0, .null, .int 0, .null, .null, .null, .null, .null, .int 0, .int 0])) (gi_G 7)) (fun q hq => ?_) (c_Mo (fun q hq => gi_G_z7 (by omega)) (fun q hq => rfl) RG_G (fun J' h1 h2 h3 => ?_))
  · by_cases e1 : q = 348
    · rw [if_pos e1, e1]; exact gc_X_at.symm
    · rw [if_neg e1]
      refine Eq.trans ?_ (gc_X_lt (show q < 348 by omega)).symm
      by_cases e2 : q = 0
      · rw [e2, gc_X_at]
      · rw [gc_X_gt (by omega)]
  · refine gc_toW (fun q hq => rfl) h3 (E' := fun v _ => v = some (.inl 1)) (fun v I' hE _ => ⟨Or.inr hE, trivial⟩) ?_
    refine gw_astore_n 2 d_Law_15 rfl (Nat.le_of_ble_eq_true rfl) rfl (gw_iconst d_Law_16 (gw_istore_n 3 d_Law_17 rfl (Nat.le_of_ble_eq_true rfl) rfl ?_))
    obtain ⟨r1, r2⟩ := rx_0 h1 h2
    exact lw_loop hL (fun J => rfl) (ga_L G + 1) 0 J' na_0 (by omega) (Nat.zero_le _) r1 r2 ni_a_0
