/-! the constructors, leaves first -/
def gi_T (I : ga_I) (k : Nat) : ga_I := gx_fi I (k + 10) 49 (-2000000009)
theorem gx_fi_o {I : ga_I} {r len a : Nat} {z : Int} (h : a ≠ r) : gx_fi I r len z a = I a := funext fun j => by
  unfold gx_fi; rw [if_neg (fun w => h w.1)]
theorem gi_T_o {I : ga_I} {k a : Nat} (h : a ≠ k + 10) : gi_T I k a = I a := gx_fi_o h
def gi_S4 (I : ga_I) (k : Nat) : ga_I := gi_T (gi_T (gi_T (gi_T I (k + 1)) (k + 12)) (k + 23)) (k + 34)
def gi_S (I : ga_I) (k : Nat) : ga_I := gx_fi (gx_fi (gx_fi (gi_S4 I k) (k + 46) 2 500) (k + 50) 3 100) (k + 51) 3 1000
theorem gi_S4_o {I : ga_I} {k a : Nat} (h : a < k ∨ k + 45 ≤ a) : gi_S4 I k a = I a := by
  unfold gi_S4
  rw [gi_T_o (by omega), gi_T_o (by omega), gi_T_o (by omega), gi_T_o (by omega)]
theorem gi_S_o {I : ga_I} {k a : Nat} (h : a < k ∨ k + 54 ≤ a) : gi_S I k a = I a := by
  unfold gi_S
  rw [gx_fi_o (by omega), gx_fi_o (by omega), gx_fi_o (by omega), gi_S4_o (by omega)]
section MK4
variable {G : ga_G} {d k : Nat} {E : (Nat → va_E) → Nat → Prop} {X0 : Nat → va_E} {I : ga_I}
theorem c_Borders (hk : ga_isB k) (hI : ∀ q, k ≤ q → I q = fun _ => 0) (h : E (gc_X G X0 k (ga_ce G I k (ga_sh k)) I) (k + 4)) : gc_W G (d + 1) mt_Borders_init 0 (ga_en 1 [.inr k]) [] (gc_X G X0 k (.inr (1, [.int 0, .null, .null, .null])) I) (k + 1) 3 18 E := by
  obtain ⟨⟨k1, s0⟩, a1, a2, a3⟩ := hk
  refine gc_head d_Borders_init_0 d_Borders_init_1 lo_Borders_3 (by omega) rfl ?_
  refine gc_fArr (rc := 2) (rs := 12) (w := 2) (len := 6) 12 d_Borders_init_4 rfl (fun _ _ _ _ K => gc_bipush d_Borders_init_5 (by decide +kernel) K) d_Borders_init_7 (gc_ATi G) d_Borders_init_9 fc_Borders_9 rfl (fun a => ⟨rfl, rfl⟩) (Nat.le_of_ble_eq_true rfl) a1 (by omega) (by omega) (hI _ (by omega)) rfl ?_
  refine gc_fArr (rc := 1) (rs := 6) (w := 2) (len := 6) 20 d_Borders_init_12 rfl (fun _ _ _ _ K => gc_bipush d_Borders_init_13 (by decide +kernel) K) d_Borders_init_15 (gc_ATi G) d_Borders_init_17 fc_Borders_15 rfl (fun a => ⟨rfl, rfl⟩) (Nat.le_of_ble_eq_true rfl) a2 (by omega) (by omega) (hI _ (by omega)) rfl ?_
  refine gc_fArr (rc := 0) (rs := 0) (w := 2) (len := 6) 28 d_Borders_init_20 rfl (fun _ _ _ _ K => gc_bipush d_Borders_init_21 (by decide +kernel) K) d_Borders_init_23 (gc_ATi G) d_Borders_init_25 fc_Borders_18 rfl (fun a => ⟨rfl, rfl⟩) (Nat.le_of_ble_eq_true rfl) a3 (by omega) (by omega) (hI _ (by omega)) rfl ?_
  have e : ga_ce G I k (ga_sh k) = .inr (1, [.int 0, .ref (ga_ad G (k + 1)), .ref (ga_ad G (k + 2)), .ref (ga_ad G (k + 3))]) := by
    rw [s0]; simp [ga_ce, ga_fv, ga_f1, hI k (Nat.le_refl k)]
  rw [e] at h
  exact gc_return d_Borders_init_28 rfl h
theorem c_Path (hk : ga_isP k) (hI : ∀ q, k ≤ q → I q = fun _ => 0) (h : E (gc_X G X0 k (ga_ce G I k (ga_sh k)) I) (k + 2)) : gc_W G (d + 1) mt_Path_init 0 (ga_en 1 [.inr k]) [] (gc_X G X0 k (.inr (3, [.int 0, .int 0, .null])) I) (k + 1) 1 160 E := by
  obtain ⟨⟨k1, s0⟩, a1⟩ := hk
  refine gc_head d_Path_init_0 d_Path_init_1 lo_Path_3 (by omega) rfl ?_
  refine gc_fArr (rc := 0) (rs := 0) (w := 3) (len := 160) 13 d_Path_init_4 rfl (fun _ _ _ _ K => gc_sipush d_Path_init_5 (by decide +kernel) K) d_Path_init_8 (gc_ATi G) d_Path_init_10 fc_Path_9 rfl (fun a => ⟨rfl, rfl⟩) (Nat.le_of_ble_eq_true rfl) a1 (by omega) (by omega) (hI _ (by omega)) rfl ?_
  have e : ga_ce G I k (ga_sh k) = .inr (3, [.int 0, .int 0, .ref (ga_ad G (k + 1))]) := by
    rw [s0]; simp [ga_ce, ga_fv, ga_f1, hI k (Nat.le_refl k)]
  rw [e] at h
  exact gc_return d_Path_init_13 rfl h
theorem c_Blend (hk : ga_isL k) (hI : ∀ q, k ≤ q → I q = fun _ => 0) (h : E (gc_X G X0 k (ga_ce G (ga_up I k 3 1) k (ga_sh k)) (ga_up I k 3 1)) (k + 1)) : gc_W G (d + 1) mt_Blend_init 0 (ga_en 1 [.inr k]) [] (gc_X G X0 k (.inr (0, [.int 0, .int 0, .int 0, .int 0])) I) (k + 1) 0 0 E := by
  obtain ⟨k1, s0⟩ := hk
  refine gc_head d_Blend_init_0 d_Blend_init_1 lo_Blend_3 (by omega) rfl ?_
  refine gc_aload_n 0 d_Blend_init_4 rfl rfl (gc_iconst d_Blend_init_5 (gc_putI (v := .inl 1) d_Blend_init_6 fc_Blend_9 gc_X_at (by omega) (Nat.le_of_ble_eq_true rfl) ⟨rfl, rfl⟩ ?_))
  have e : ga_ce G (ga_up I k 3 1) k (ga_sh k) = .inr (0, [.int 0, .int 0, .int 0, .int (Int32.ofInt 1)]) := by
    rw [s0]; simp [ga_ce, ga_fv, ga_f1, ga_up, hI k (Nat.le_refl k)]
  rw [e] at h
  refine gc_cong (fun q hq => ?_) (gc_return d_Blend_init_9 rfl h)
  by_cases e1 : q = k
  · rw [if_pos e1, e1]; exact gc_X_at.symm
  · rw [if_neg e1, gc_X_lt (by omega), gc_X_lt (by omega)]
theorem c_Text (hk : ga_obj k 6 [none, none, none, some (k + 1)]) (ha : ga_arr (k + 1) 2 160) (hI : ∀ q, k ≤ q → I q = fun _ => 0) (h : E (gc_X G X0 k (ga_ce G (ga_up I k 1 (-1)) k (ga_sh k)) (ga_up I k 1 (-1))) (k + 2)) : gc_W G (d + 1) mt_Text_init 0 (ga_en 1 [.inr k]) [] (gc_X G X0 k (.inr (6, [.int 0, .int 0, .int 0, .null])) I) (k + 1) 1 160 E := by
  obtain ⟨k1, s0⟩ := hk
  refine gc_head d_Text_init_0 d_Text_init_1 lo_Text_3 (by omega) rfl ?_
  refine gc_aload_n 0 d_Text_init_4 rfl rfl (gc_iconst d_Text_init_5 (gc_putI (v := .inl (-1)) d_Text_init_6 fc_Text_11 gc_X_at (by omega) (Nat.le_of_ble_eq_true rfl) ⟨rfl, rfl⟩ ?_))
  refine gc_cong (X' := gc_X G X0 k (.inr (6, [.int 0, .int (Int32.ofInt (-1)), .int 0, .null])) (ga_up I k 1 (-1))) (fun q hq => ?_) ?_
  · by_cases e1 : q = k
    · rw [if_pos e1, e1]; exact gc_X_at.symm
    · rw [if_neg e1, gc_X_lt (by omega), gc_X_lt (by omega)]
  refine gc_fArr (rc := 0) (rs := 0) (w := 3) (len := 160) 18 d_Text_init_9 rfl (fun _ _ _ _ K => gc_sipush d_Text_init_10 (by decide +kernel) K) d_Text_init_13 (gc_ATc G) d_Text_init_15 fc_Text_15 rfl (fun a => ⟨rfl, rfl⟩) (Nat.le_of_ble_eq_true rfl) ha (by omega) (by omega) (by rw [ga_up_fn (by omega)]; exact hI _ (by omega)) rfl ?_
  have e : ga_ce G (ga_up I k 1 (-1)) k (ga_sh k) = .inr (6, [.int 0, .int (Int32.ofInt (-1)), .int 0, .ref (ga_ad G (k + 1))]) := by
    rw [s0]; simp [ga_ce, ga_fv, ga_f1, ga_up, hI k (Nat.le_refl k)]
  rw [e] at h
  exact gc_return d_Text_init_18 rfl h
theorem c_Table (hk : ga_isT k) (hI : ∀ q, k ≤ q → I q = fun _ => 0) (h : E (gc_X G X0 k (ga_ce G (gi_T I k) k (ga_sh k)) (gi_T I k)) (k + 11)) : gc_W G (d + 2) mt_Table_init 0 (ga_en 1 [.inr k]) [] (gc_X G X0 k (.inr (5, [.null, .null, .null, .null])) I) (k + 1) 10 240 E := by
  obtain ⟨⟨k1, s0⟩, b1, b2, a1, a2⟩ := hk
  refine gc_head d_Table_init_0 d_Table_init_1 lo_Table_3 (by omega) rfl ?_
  refine gc_fObj (N := 4) (n := k + 1) (rc2 := 3) (rs2 := 18) (rc := 6) (rs := 218) (sz := 4) (I' := I) y_Borders 15 d_Table_init_4 rfl d_Table_init_5 d_Table_init_8 d_Table_init_9 d_Table_init_12 (ci2 := 1) rfl in_Borders ty_Borders lc_Table_9 ic_Borders (fs2 := [.int 0, .null, .null, .null]) ?_ li_Table_11 (Nat.le_of_ble_eq_true rfl) rfl fc_Table_12 rfl (fun a => ⟨rfl, rfl⟩) (Nat.le_of_ble_eq_true rfl) (by omega) (by omega) (by omega) (fun _ _ => rfl) rfl (fun X1 E' h' => c_Borders b1 (fun q hq => hI q (by omega)) h') ?_
  · intro j hj
    rcases (show j = 0 ∨ j = 1 ∨ j = 2 ∨ j = 3 by omega) with rfl | rfl | rfl | rfl <;> rfl
  refine gc_fObj (N := 4) (n := k + 5) (rc2 := 3) (rs2 := 18) (rc := 2) (rs := 196) (sz := 4) (I' := I) y_Borders 26 d_Table_init_15 rfl d_Table_init_16 d_Table_init_19 d_Table_init_20 d_Table_init_23 (ci2 := 1) rfl in_Borders ty_Borders lc_Table_9 ic_Borders (fs2 := [.int 0, .null, .null, .null]) ?_ li_Table_11 (Nat.le_of_ble_eq_true rfl) rfl fc_Table_18 rfl (fun a => ⟨rfl, rfl⟩) (Nat.le_of_ble_eq_true rfl) (by omega) (by omega) (by omega) (fun _ _ => rfl) rfl (fun X1 E' h' => c_Borders b2 (fun q hq => hI q (by omega)) h') ?_
  · intro j hj
    rcases (show j = 0 ∨ j = 1 ∨ j = 2 ∨ j = 3 by omega) with rfl | rfl | rfl | rfl <;> rfl
  refine gc_fArr (rc := 1) (rs := 49) (w := 3) (len := 147) 35 d_Table_init_26 rfl (fun _ _ _ _ K => gc_sipush d_Table_init_27 (by decide +kernel) K) d_Table_init_30 (gc_ATi G) d_Table_init_32 fc_Table_21 rfl (fun a => ⟨rfl, rfl⟩) (Nat.le_of_ble_eq_true rfl) a1 (by omega) (by omega) (hI _ (by omega)) rfl ?_
  refine gc_fArr (rc := 0) (rs := 0) (w := 2) (len := 49) 43 d_Table_init_35 rfl (fun _ _ _ _ K => gc_bipush d_Table_init_36 (by decide +kernel) K) d_Table_init_38 (gc_ATi G) d_Table_init_40 fc_Table_25 rfl (fun a => ⟨rfl, rfl⟩) (Nat.le_of_ble_eq_true rfl) a2 (by omega) (by omega) (hI _ (by omega)) rfl ?_
  refine gc_fFill (w := 2) (r := k + 10) (len := 49) (z := -2000000009) 52 d_Table_init_43 rfl d_Table_init_44 fc_Table_25 rfl (fun _ _ _ _ K => gc_ldc d_Table_init_47 kw_Table_28 (by decide +kernel) K) d_Table_init_49 lk_Table_29 rfl a2.2 (by omega) (by omega) (by omega) ⟨by omega, by omega⟩ rfl ?_
  have e : ga_ce G (gi_T I k) k (ga_sh k) = .inr (5, [.ref (ga_ad G (k + 1)), .ref (ga_ad G (k + 5)), .ref (ga_ad G (k + 9)), .ref (ga_ad G (k + 10))]) := by
    rw [s0]; simp [ga_ce, ga_fv, ga_f1]
  rw [e] at h
  exact gc_return d_Table_init_52 rfl h
end MK4
