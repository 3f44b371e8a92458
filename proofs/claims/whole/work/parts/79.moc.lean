/-! the constructor of the reference -/
/-- the row at the beginning -/
def ns_0 : Nat → Int := fun j => if 38 ≤ j ∧ j < 234 then (if (j - 38) % 4 = 3 then -1 else 0) else if j = 234 ∨ j = 235 then 500 else if j = 241 ∨ j = 244 ∨ j = 247 then 100 else if j = 242 ∨ j = 245 ∨ j = 248 then 1000 else 0
theorem gc_dM : ∀ j, j < 14 → defaultValue (y_Mo j) = vp_V [.int 0, .null, .null, .null, .int 0, .null, .int 0, .null, .null, .null, .null, .null, .int 0, .int 0] j := fun j hj => by
  rcases (show j = 0 ∨ j = 1 ∨ j = 2 ∨ j = 3 ∨ j = 4 ∨ j = 5 ∨ j = 6 ∨ j = 7 ∨ j = 8 ∨ j = 9 ∨ j = 10 ∨ j = 11 ∨ j = 12 ∨ j = 13 by omega) with rfl | rfl | rfl | rfl | rfl | rfl | rfl | rfl | rfl | rfl | rfl | rfl | rfl | rfl <;> rfl
section MK8
variable {G : ga_G} {d : Nat} {mt : ga_M} {pc : Nat} {lst : List (Option ga_V)} {st : List ga_V} {rc rs : Nat} {E : (Nat → va_E) → Nat → Prop} {X X0 : Nat → va_E} {I : ga_I}
/-- all cells are made: on in the other calculus -/
theorem gc_toW {E' : Option ga_V → ga_I → Prop} (hX : ∀ q, q < 358 → X q = ga_ce G I q (ga_sh q)) (hI : ga_RG I) (hE : ∀ v I', E' v I' → ga_RG I' → (v = none ∨ v = some (.inl 1)) ∧ E (fun q => ga_ce G I' q (ga_sh q)) 358) (K : ga_W G d mt pc lst st I E') : gc_W G d mt pc lst st X 358 rc rs E := by
  intro p e R s m args below meth c MC MS Q C hr H locs ls cells slots hc hs hP hS hL
  obtain ⟨hx, hb, hml, hm, hts, hK, hXs, hbl, hok, hroom, hMC, hMS, hNx⟩ := C.1
  have hP' : ga_Wd G I H := by
    have := hP.1
    rw [gc_ws_cong G hX] at this
    exact this
  refine K p e R s m args below meth c cells slots Q ⟨hx, hb, hml, hm, hts, hK, hXs, hbl, hok, hroom, by omega, by omega, hNx⟩ ?_ hI H locs ls hP' hS hL
  intro pc1 ls1 H1 locs1 I1 v ins hd hfit hE1 hI1 hP1 hS1
  obtain ⟨hv, hE2⟩ := hE v I1 hE1 hI1
  exact hr pc1 ls1 H1 locs1 _ 358 cells slots v ins hd hfit hv hE2 ⟨hP1, fun h => absurd h (by omega), Nat.le_refl _⟩ hS1 (by omega) (by omega)
/-- behind the fields -/
theorem c_Mo_75 {E' : Option ga_V → ga_I → Prop} (hJ : ∀ q, 348 ≤ q → I q = fun _ => 0) (h : ∀ J', J' 349 = ns_0 → (∀ a, a ≠ 349 → J' a = I a) → E' none J') : ga_W G (d + 1) mt_Mo_init 75 [some (.inr 348), none] [] I E' := by
  refine k_Mo_init_75 (fun _ => k_Mo_init_104 ⟨by omega, by omega⟩ (fun _ => ⟨fun q => absurd q (by omega), fun _ => ⟨by omega, by omega, by omega, by omega, ?_⟩⟩))
  refine k_Mo_init_104 ⟨by omega, by omega⟩ (fun _ => ⟨fun q => absurd q (by omega), fun _ => ⟨by omega, by omega, by omega, by omega, ?_⟩⟩)
  refine k_Mo_init_104 ⟨by omega, by omega⟩ (fun _ => ⟨fun q => absurd q (by omega), fun _ => ⟨by omega, by omega, by omega, by omega, ?_⟩⟩)
  refine k_Mo_init_104 ⟨by omega, by omega⟩ (fun _ => ⟨fun _ => ?_, fun q => absurd q (by omega)⟩)
  refine h _ ?_ (fun a ha => ?_)
  · rw [ga_uc_at]
    funext j
    unfold ns_cl ns_0 ns_c3
    have z : I 349 j = 0 := by rw [hJ 349 (by omega)]
    by_cases q1 : 38 ≤ j ∧ j < 234
    · rw [if_pos (by omega), if_pos q1]
    · rw [if_neg (by omega), if_neg q1]
      unfold ga_up
      show (if 349 = 349 ∧ j = 248 then (1000 : Int) else if 349 = 349 ∧ j = 247 then 100 else if 349 = 349 ∧ j = 245 then 1000 else if 349 = 349 ∧ j = 244 then 100 else if 349 = 349 ∧ j = 242 then 1000 else if 349 = 349 ∧ j = 241 then 100 else if 349 = 349 ∧ j = 235 then 500 else if 349 = 349 ∧ j = 234 then 500 else if 349 = 348 ∧ j = 0 then 0 else I 349 j) = _
      rw [z]
      by_cases q2 : j = 234 ∨ j = 235
      · rw [if_pos q2]
        rcases q2 with e | e <;> subst e <;> rfl
      · rw [if_neg q2]
        by_cases q3 : j = 241 ∨ j = 244 ∨ j = 247
        · rw [if_pos q3]
          rcases q3 with e | e | e <;> subst e <;> rfl
        · rw [if_neg q3]
          by_cases q4 : j = 242 ∨ j = 245 ∨ j = 248
          · rw [if_pos q4]
            rcases q4 with e | e | e <;> subst e <;> rfl
          · rw [if_neg q4, if_neg (by omega), if_neg (by omega), if_neg (by omega), if_neg (by omega), if_neg (by omega), if_neg (by omega), if_neg (by omega), if_neg (by omega), if_neg (by omega)]
  · rw [ga_uc_ne ha, ga_up_fn ha, ga_up_fn ha, ga_up_fn ha, ga_up_fn ha, ga_up_fn ha, ga_up_fn ha, ga_up_fn ha, ga_up_fn ha]
    by_cases q : a = 348
    · subst q
      funext j
      unfold ga_up
      by_cases w : 348 = 348 ∧ j = 0
      · rw [if_pos w, hJ 348 (by omega)]
      · rw [if_neg w]
    · exact ga_up_fn q
theorem c_Mo (hJ : ∀ q, 348 ≤ q → I q = fun _ => 0) (hX : ∀ q, q < 348 → X0 q = ga_ce G I q (ga_sh q)) (hI : ga_RG I) (h : ∀ J', J' 349 = ns_0 → (∀ a, a ≠ 349 → J' a = I a) → ga_RG J' → E (fun q => ga_ce G J' q (ga_sh q)) 358) : gc_W G (d + 1) mt_Mo_init 0 (ga_en 2 [.inr 348]) [] (gc_X G X0 348 (.inr (8, [.int 0, .null, .null, .null, .int 0, .null, .int 0, .null, .null, .null, .null, .null, .int 0, .int 0])) I) 349 9 8011 E := by
  refine gc_head d_Mo_init_0 d_Mo_init_1 lo_Mo_1 (by omega) rfl ?_
  refine gc_fArr (rc := 8) (rs := 6891) (w := 3) (len := 1120) (n := 349) 13 d_Mo_init_4 rfl (fun _ _ _ _ K => gc_sipush d_Mo_init_5 (by decide +kernel) K) d_Mo_init_8 (gc_ATi G) d_Mo_init_10 fc_Mo_7 rfl (fun a => ⟨rfl, rfl⟩) (Nat.le_of_ble_eq_true rfl) ga_aM1 (by omega) (by omega) (hJ _ (by omega)) rfl ?_
  refine gc_fArr (rc := 7) (rs := 5771) (w := 3) (len := 1120) (n := 350) 22 d_Mo_init_13 rfl (fun _ _ _ _ K => gc_sipush d_Mo_init_14 (by decide +kernel) K) d_Mo_init_17 (gc_ATi G) d_Mo_init_19 fc_Mo_13 rfl (fun a => ⟨rfl, rfl⟩) (Nat.le_of_ble_eq_true rfl) ga_aM2 (by omega) (by omega) (hJ _ (by omega)) rfl ?_
  refine gc_fArr (rc := 6) (rs := 171) (w := 3) (len := 5600) (n := 351) 31 d_Mo_init_22 rfl (fun _ _ _ _ K => gc_sipush d_Mo_init_23 (by decide +kernel) K) d_Mo_init_26 (gc_ATi G) d_Mo_init_28 fc_Mo_16 rfl (fun a => ⟨rfl, rfl⟩) (Nat.le_of_ble_eq_true rfl) ga_aM3 (by omega) (by omega) (hJ _ (by omega)) rfl ?_
  refine gc_fArr (rc := 5) (rs := 11) (w := 3) (len := 160) (n := 352) 40 d_Mo_init_31 rfl (fun _ _ _ _ K => gc_sipush d_Mo_init_32 (by decide +kernel) K) d_Mo_init_35 (gc_ATi G) d_Mo_init_37 fc_Mo_19 rfl (fun a => ⟨rfl, rfl⟩) (Nat.le_of_ble_eq_true rfl) ga_aM4 (by omega) (by omega) (hJ _ (by omega)) rfl ?_
  refine gc_fArr (rc := 4) (rs := 9) (w := 1) (len := 2) (n := 353) 47 d_Mo_init_40 rfl (fun _ _ _ _ K => gc_iconst d_Mo_init_41 K) d_Mo_init_42 (gc_ATi G) d_Mo_init_44 fc_Mo_22 rfl (fun a => ⟨rfl, rfl⟩) (Nat.le_of_ble_eq_true rfl) ga_aM5 (by omega) (by omega) (hJ _ (by omega)) rfl ?_
  refine gc_fArr (rc := 3) (rs := 7) (w := 1) (len := 2) (n := 354) 54 d_Mo_init_47 rfl (fun _ _ _ _ K => gc_iconst d_Mo_init_48 K) d_Mo_init_49 (gc_ATi G) d_Mo_init_51 fc_Mo_25 rfl (fun a => ⟨rfl, rfl⟩) (Nat.le_of_ble_eq_true rfl) ga_aM6 (by omega) (by omega) (hJ _ (by omega)) rfl ?_
  refine gc_fArr (rc := 2) (rs := 5) (w := 1) (len := 2) (n := 355) 61 d_Mo_init_54 rfl (fun _ _ _ _ K => gc_iconst d_Mo_init_55 K) d_Mo_init_56 (gc_ATi G) d_Mo_init_58 fc_Mo_28 rfl (fun a => ⟨rfl, rfl⟩) (Nat.le_of_ble_eq_true rfl) ga_aM7 (by omega) (by omega) (hJ _ (by omega)) rfl ?_
  refine gc_fArr (rc := 1) (rs := 3) (w := 1) (len := 2) (n := 356) 68 d_Mo_init_61 rfl (fun _ _ _ _ K => gc_iconst d_Mo_init_62 K) d_Mo_init_63 (gc_ATi G) d_Mo_init_65 fc_Mo_31 rfl (fun a => ⟨rfl, rfl⟩) (Nat.le_of_ble_eq_true rfl) ga_aM8 (by omega) (by omega) (hJ _ (by omega)) rfl ?_
  refine gc_fArr (rc := 0) (rs := 0) (w := 1) (len := 3) (n := 357) 75 d_Mo_init_68 rfl (fun _ _ _ _ K => gc_iconst d_Mo_init_69 K) d_Mo_init_70 (gc_ATi G) d_Mo_init_72 fc_Mo_34 rfl (fun a => ⟨rfl, rfl⟩) (Nat.le_of_ble_eq_true rfl) ga_aM9 (by omega) (by omega) (hJ _ (by omega)) rfl ?_
  refine gc_toW (fun q hq => ?_) hI (fun v I' hE hR => ⟨Or.inl hE.1, h I' hE.2.1 hE.2.2 hR⟩) (c_Mo_75 (E' := fun v J => v = none ∧ J 349 = ns_0 ∧ ∀ a, a ≠ 349 → J a = I a) hJ (fun J' h1 h2 => ⟨rfl, h1, h2⟩))
  by_cases e1 : q < 348
  · rw [gc_X_lt e1]; exact hX q e1
  · by_cases e2 : q = 348
    · subst e2
      rw [gc_X_at, ga_oM.2]
      simp [ga_ce, ga_fv, ga_f1, hJ 348 (Nat.le_refl 348)]
    · exact gc_X_gt (by omega)
end MK8
