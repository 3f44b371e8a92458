/-! the constructor of the class -/
def gi_0 : ga_I := fun _ _ => 0
def gi_G (m : Nat) : ga_I := match m with
  | 0 => gi_0
  | 1 => gi_S gi_0 1
  | 2 => gi_H (gi_S gi_0 1) 5
  | 3 => ga_up (gi_H (gi_S gi_0 1) 5) 327 1 (-1)
  | 4 => gi_T (ga_up (gi_H (gi_S gi_0 1) 5) 327 1 (-1)) 329
  | 5 => gi_T (ga_up (gi_H (gi_S gi_0 1) 5) 327 1 (-1)) 329
  | 6 => ga_up (gi_T (ga_up (gi_H (gi_S gi_0 1) 5) 327 1 (-1)) 329) 344 3 1
  | _ => ga_up (ga_up (gi_T (ga_up (gi_H (gi_S gi_0 1) 5) 327 1 (-1)) 329) 344 3 1) 345 3 1
theorem gi_G_1 {q : Nat} (h : q < 1 ∨ 55 ≤ q) : gi_G 1 q = gi_G 0 q := gi_S_o (by omega)
theorem gi_G_2 {q : Nat} (h : q < 57 ∨ 327 ≤ q) : gi_G 2 q = gi_G 1 q := gi_H_o (by omega)
theorem gi_G_3 {q : Nat} (h : q ≠ 327) : gi_G 3 q = gi_G 2 q := ga_up_fn h
theorem gi_G_4 {q : Nat} (h : q ≠ 339) : gi_G 4 q = gi_G 3 q := gi_T_o (by omega)
theorem gi_G_5 {q : Nat} : gi_G 5 q = gi_G 4 q := rfl
theorem gi_G_6 {q : Nat} (h : q ≠ 344) : gi_G 6 q = gi_G 5 q := ga_up_fn h
theorem gi_G_7 {q : Nat} (h : q ≠ 345) : gi_G 7 q = gi_G 6 q := ga_up_fn h
theorem gi_G_z1 {q : Nat} (h : 55 ≤ q) : gi_G 1 q = fun _ => 0 := gi_G_1 (by omega)
theorem gi_G_z2 {q : Nat} (h : 327 ≤ q) : gi_G 2 q = fun _ => 0 := (gi_G_2 (by omega)).trans (gi_G_z1 (by omega))
theorem gi_G_z3 {q : Nat} (h : 329 ≤ q) : gi_G 3 q = fun _ => 0 := (gi_G_3 (by omega)).trans (gi_G_z2 (by omega))
theorem gi_G_z4 {q : Nat} (h : 340 ≤ q) : gi_G 4 q = fun _ => 0 := (gi_G_4 (by omega)).trans (gi_G_z3 (by omega))
theorem gi_G_z5 {q : Nat} (h : 340 ≤ q) : gi_G 5 q = fun _ => 0 := gi_G_z4 h
theorem gi_G_z6 {q : Nat} (h : 345 ≤ q) : gi_G 6 q = fun _ => 0 := (gi_G_6 (by omega)).trans (gi_G_z5 (by omega))
theorem gi_G_z7 {q : Nat} (h : 346 ≤ q) : gi_G 7 q = fun _ => 0 := (gi_G_7 (by omega)).trans (gi_G_z6 (by omega))
theorem gc_dHi : ∀ j, j < 3 → defaultValue (y_History j) = vp_V [.int 0, .int 0, .null] j := fun j hj => by
  rcases (show j = 0 ∨ j = 1 ∨ j = 2 by omega) with rfl | rfl | rfl <;> rfl
theorem gc_dX : ∀ j, j < 4 → defaultValue (y_Text j) = vp_V [.int 0, .int 0, .int 0, .null] j := fun j hj => by
  rcases (show j = 0 ∨ j = 1 ∨ j = 2 ∨ j = 3 by omega) with rfl | rfl | rfl | rfl <;> rfl
theorem gc_dB : ∀ j, j < 4 → defaultValue (y_Borders j) = vp_V [.int 0, .null, .null, .null] j := fun j hj => by
  rcases (show j = 0 ∨ j = 1 ∨ j = 2 ∨ j = 3 by omega) with rfl | rfl | rfl | rfl <;> rfl
theorem gc_dL : ∀ j, j < 4 → defaultValue (y_Blend j) = vp_V [.int 0, .int 0, .int 0, .int 0] j := fun j hj => by
  rcases (show j = 0 ∨ j = 1 ∨ j = 2 ∨ j = 3 by omega) with rfl | rfl | rfl | rfl <;> rfl
theorem gc_dG : ∀ j, j < 9 → defaultValue (y_GT j) = vp_V [.null, .null, .null, .null, .null, .null, .null, .null, .null] j := fun j hj => by
  rcases (show j = 0 ∨ j = 1 ∨ j = 2 ∨ j = 3 ∨ j = 4 ∨ j = 5 ∨ j = 6 ∨ j = 7 ∨ j = 8 by omega) with rfl | rfl | rfl | rfl | rfl | rfl | rfl | rfl | rfl <;> rfl
section MK7
variable {G : ga_G} {d : Nat} {E : (Nat → va_E) → Nat → Prop} {X0 : Nat → va_E}
theorem c_GT_0 (K : gc_W G (d + 5) mt_GT_init 15 (ga_en 1 [.inr 0]) [] (gc_X G X0 0 (.inr (7, [.ref (ga_ad G 1), .null, .null, .null, .null, .null, .null, .null, .null])) (gi_G 1)) 55 293 6322 E) : gc_W G (d + 5) mt_GT_init 4 (ga_en 1 [.inr 0]) [] (gc_X G X0 0 (.inr (7, [.null, .null, .null, .null, .null, .null, .null, .null, .null])) (gi_G 0)) 1 347 7496 E := by
  exact gc_fObj (N := 15) (rc2 := 53) (rs2 := 1159) (rc := 293) (rs := 6322) (sz := 54) (n := 1) (I' := gi_G 1) y_State 15 d_GT_init_4 rfl d_GT_init_5 d_GT_init_8 d_GT_init_9 d_GT_init_12 (ci2 := 4) rfl in_State ty_State lc_GT_9 ic_State (fs2 := [.null, .null, .null, .null, .null, .null, .null, .int 0, .null, .int 0, .int 0, .null, .null, .null, .null]) gc_dS li_GT_11 (Nat.le_of_ble_eq_true rfl) rfl fc_GT_12 rfl (fun a => ⟨rfl, rfl⟩) (Nat.le_of_ble_eq_true rfl) (by omega) (by omega) (by omega) (fun q hq => gi_G_1 (by omega)) rfl (fun X1 E' h' => c_State ga_s1 (fun q hq => rfl) h') K
theorem c_GT_1 (K : gc_W G (d + 5) mt_GT_init 26 (ga_en 1 [.inr 0]) [] (gc_X G X0 0 (.inr (7, [.ref (ga_ad G 1), .ref (ga_ad G 55), .null, .null, .null, .null, .null, .null, .null])) (gi_G 2)) 327 21 444 E) : gc_W G (d + 5) mt_GT_init 15 (ga_en 1 [.inr 0]) [] (gc_X G X0 0 (.inr (7, [.ref (ga_ad G 1), .null, .null, .null, .null, .null, .null, .null, .null])) (gi_G 1)) 55 293 6322 E := by
  exact gc_fObj (N := 3) (rc2 := 271) (rs2 := 5875) (rc := 21) (rs := 444) (sz := 272) (n := 55) (I' := gi_G 2) y_History 26 d_GT_init_15 rfl d_GT_init_16 d_GT_init_19 d_GT_init_20 d_GT_init_23 (ci2 := 2) rfl in_History ty_History lc_GT_16 ic_History (fs2 := [.int 0, .int 0, .null]) gc_dHi li_GT_18 (Nat.le_of_ble_eq_true rfl) rfl fc_GT_19 rfl (fun a => ⟨rfl, rfl⟩) (Nat.le_of_ble_eq_true rfl) (by omega) (by omega) (by omega) (fun q hq => gi_G_2 (by omega)) rfl (fun X1 E' h' => c_History (fun q hq => gi_G_z1 hq) h') K
theorem c_GT_2 (K : gc_W G (d + 5) mt_GT_init 37 (ga_en 1 [.inr 0]) [] (gc_X G X0 0 (.inr (7, [.ref (ga_ad G 1), .ref (ga_ad G 55), .ref (ga_ad G 327), .null, .null, .null, .null, .null, .null])) (gi_G 3)) 329 19 280 E) : gc_W G (d + 5) mt_GT_init 26 (ga_en 1 [.inr 0]) [] (gc_X G X0 0 (.inr (7, [.ref (ga_ad G 1), .ref (ga_ad G 55), .null, .null, .null, .null, .null, .null, .null])) (gi_G 2)) 327 21 444 E := by
  exact gc_fObj (N := 4) (rc2 := 1) (rs2 := 160) (rc := 19) (rs := 280) (sz := 2) (n := 327) (I' := gi_G 3) y_Text 37 d_GT_init_26 rfl d_GT_init_27 d_GT_init_30 d_GT_init_31 d_GT_init_34 (ci2 := 6) rfl in_Text ty_Text lc_GT_23 ic_Text (fs2 := [.int 0, .int 0, .int 0, .null]) gc_dX li_GT_25 (Nat.le_of_ble_eq_true rfl) rfl fc_GT_26 rfl (fun a => ⟨rfl, rfl⟩) (Nat.le_of_ble_eq_true rfl) (by omega) (by omega) (by omega) (fun q hq => gi_G_3 (by omega)) rfl (fun X1 E' h' => c_Text ga_oX ga_aX (fun q hq => gi_G_z2 hq) h') K
theorem c_GT_3 (K : gc_W G (d + 5) mt_GT_init 48 (ga_en 1 [.inr 0]) [] (gc_X G X0 0 (.inr (7, [.ref (ga_ad G 1), .ref (ga_ad G 55), .ref (ga_ad G 327), .ref (ga_ad G 329), .null, .null, .null, .null, .null])) (gi_G 4)) 340 8 36 E) : gc_W G (d + 5) mt_GT_init 37 (ga_en 1 [.inr 0]) [] (gc_X G X0 0 (.inr (7, [.ref (ga_ad G 1), .ref (ga_ad G 55), .ref (ga_ad G 327), .null, .null, .null, .null, .null, .null])) (gi_G 3)) 329 19 280 E := by
  exact gc_fObj (N := 4) (rc2 := 10) (rs2 := 240) (rc := 8) (rs := 36) (sz := 11) (n := 329) (I' := gi_G 4) y_Table 48 d_GT_init_37 rfl d_GT_init_38 d_GT_init_41 d_GT_init_42 d_GT_init_45 (ci2 := 5) rfl in_Table ty_Table lc_GT_30 ic_Table (fs2 := [.null, .null, .null, .null]) gc_dT li_GT_32 (Nat.le_of_ble_eq_true rfl) rfl fc_GT_33 rfl (fun a => ⟨rfl, rfl⟩) (Nat.le_of_ble_eq_true rfl) (by omega) (by omega) (by omega) (fun q hq => gi_G_4 (by omega)) rfl (fun X1 E' h' => c_Table ga_t329 (fun q hq => gi_G_z3 hq) h') K
theorem c_GT_4 (K : gc_W G (d + 5) mt_GT_init 59 (ga_en 1 [.inr 0]) [] (gc_X G X0 0 (.inr (7, [.ref (ga_ad G 1), .ref (ga_ad G 55), .ref (ga_ad G 327), .ref (ga_ad G 329), .ref (ga_ad G 340), .null, .null, .null, .null])) (gi_G 5)) 344 4 14 E) : gc_W G (d + 5) mt_GT_init 48 (ga_en 1 [.inr 0]) [] (gc_X G X0 0 (.inr (7, [.ref (ga_ad G 1), .ref (ga_ad G 55), .ref (ga_ad G 327), .ref (ga_ad G 329), .null, .null, .null, .null, .null])) (gi_G 4)) 340 8 36 E := by
  exact gc_fObj (N := 4) (rc2 := 3) (rs2 := 18) (rc := 4) (rs := 14) (sz := 4) (n := 340) (I' := gi_G 5) y_Borders 59 d_GT_init_48 rfl d_GT_init_49 d_GT_init_52 d_GT_init_53 d_GT_init_56 (ci2 := 1) rfl in_Borders ty_Borders lc_GT_37 ic_Borders (fs2 := [.int 0, .null, .null, .null]) gc_dB li_GT_39 (Nat.le_of_ble_eq_true rfl) rfl fc_GT_40 rfl (fun a => ⟨rfl, rfl⟩) (Nat.le_of_ble_eq_true rfl) (by omega) (by omega) (by omega) (fun q hq => gi_G_5) rfl (fun X1 E' h' => c_Borders ga_b340 (fun q hq => gi_G_z4 hq) h') K
theorem c_GT_5 (K : gc_W G (d + 5) mt_GT_init 70 (ga_en 1 [.inr 0]) [] (gc_X G X0 0 (.inr (7, [.ref (ga_ad G 1), .ref (ga_ad G 55), .ref (ga_ad G 327), .ref (ga_ad G 329), .ref (ga_ad G 340), .ref (ga_ad G 344), .null, .null, .null])) (gi_G 6)) 345 3 10 E) : gc_W G (d + 5) mt_GT_init 59 (ga_en 1 [.inr 0]) [] (gc_X G X0 0 (.inr (7, [.ref (ga_ad G 1), .ref (ga_ad G 55), .ref (ga_ad G 327), .ref (ga_ad G 329), .ref (ga_ad G 340), .null, .null, .null, .null])) (gi_G 5)) 344 4 14 E := by
  exact gc_fObj (N := 4) (rc2 := 0) (rs2 := 0) (rc := 3) (rs := 10) (sz := 1) (n := 344) (I' := gi_G 6) y_Blend 70 d_GT_init_59 rfl d_GT_init_60 d_GT_init_63 d_GT_init_64 d_GT_init_67 (ci2 := 0) rfl in_Blend ty_Blend lc_GT_44 ic_Blend (fs2 := [.int 0, .int 0, .int 0, .int 0]) gc_dL li_GT_46 (Nat.le_of_ble_eq_true rfl) rfl fc_GT_47 rfl (fun a => ⟨rfl, rfl⟩) (Nat.le_of_ble_eq_true rfl) (by omega) (by omega) (by omega) (fun q hq => gi_G_6 (by omega)) rfl (fun X1 E' h' => c_Blend ga_l344 (fun q hq => gi_G_z5 (by omega)) h') K
theorem c_GT_6 (K : gc_W G (d + 5) mt_GT_init 81 (ga_en 1 [.inr 0]) [] (gc_X G X0 0 (.inr (7, [.ref (ga_ad G 1), .ref (ga_ad G 55), .ref (ga_ad G 327), .ref (ga_ad G 329), .ref (ga_ad G 340), .ref (ga_ad G 344), .ref (ga_ad G 345), .null, .null])) (gi_G 7)) 346 2 6 E) : gc_W G (d + 5) mt_GT_init 70 (ga_en 1 [.inr 0]) [] (gc_X G X0 0 (.inr (7, [.ref (ga_ad G 1), .ref (ga_ad G 55), .ref (ga_ad G 327), .ref (ga_ad G 329), .ref (ga_ad G 340), .ref (ga_ad G 344), .null, .null, .null])) (gi_G 6)) 345 3 10 E := by
  exact gc_fObj (N := 4) (rc2 := 0) (rs2 := 0) (rc := 2) (rs := 6) (sz := 1) (n := 345) (I' := gi_G 7) y_Blend 81 d_GT_init_70 rfl d_GT_init_71 d_GT_init_74 d_GT_init_75 d_GT_init_78 (ci2 := 0) rfl in_Blend ty_Blend lc_GT_44 ic_Blend (fs2 := [.int 0, .int 0, .int 0, .int 0]) gc_dL li_GT_46 (Nat.le_of_ble_eq_true rfl) rfl fc_GT_51 rfl (fun a => ⟨rfl, rfl⟩) (Nat.le_of_ble_eq_true rfl) (by omega) (by omega) (by omega) (fun q hq => gi_G_7 (by omega)) rfl (fun X1 E' h' => c_Blend ga_l345 (fun q hq => gi_G_z6 hq) h') K
theorem c_GT (h : E (gc_X G X0 0 (ga_ce G (gi_G 7) 0 (ga_sh 0)) (gi_G 7)) 348) : gc_W G (d + 5) mt_GT_init 0 (ga_en 1 [.inr 0]) [] (gc_X G X0 0 (.inr (7, [.null, .null, .null, .null, .null, .null, .null, .null, .null])) (gi_G 0)) 1 347 7496 E := by
  refine gc_head d_GT_init_0 d_GT_init_1 lo_GT_3 (by omega) rfl (c_GT_0 (c_GT_1 (c_GT_2 (c_GT_3 (c_GT_4 (c_GT_5 (c_GT_6 ?_)))))))
  refine gc_fArr (rc := 1) (rs := 3) (w := 1) (len := 3) (n := 346) 88 d_GT_init_81 rfl (fun _ _ _ _ K => gc_iconst d_GT_init_82 K) d_GT_init_83 (gc_ATi G) d_GT_init_85 fc_GT_54 rfl (fun a => ⟨rfl, rfl⟩) (Nat.le_of_ble_eq_true rfl) ga_a346 (by omega) (by omega) (gi_G_z7 (by omega)) rfl ?_
  refine gc_fArr (rc := 0) (rs := 0) (w := 1) (len := 3) (n := 347) 95 d_GT_init_88 rfl (fun _ _ _ _ K => gc_iconst d_GT_init_89 K) d_GT_init_90 (gc_ATi G) d_GT_init_92 fc_GT_58 rfl (fun a => ⟨rfl, rfl⟩) (Nat.le_of_ble_eq_true rfl) ga_a347 (by omega) (by omega) (gi_G_z7 (by omega)) rfl ?_
  have e : ga_ce G (gi_G 7) 0 (ga_sh 0) = .inr (7, [.ref (ga_ad G 1), .ref (ga_ad G 55), .ref (ga_ad G 327), .ref (ga_ad G 329), .ref (ga_ad G 340), .ref (ga_ad G 344), .ref (ga_ad G 345), .ref (ga_ad G 346), .ref (ga_ad G 347)]) := by
    rw [ga_oG.2]; simp [ga_ce, ga_fv, ga_f1]
  rw [e] at h
  exact gc_return d_GT_init_95 rfl h
end MK7
