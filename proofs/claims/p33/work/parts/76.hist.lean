/-! the constructors of the history and of the class -/
def gi_H (I : ga_I) : Nat → ga_I
  | 0 => I
  | i + 1 => gi_S (gi_H I i) (57 + 54 * i)
theorem gi_H_o {I : ga_I} {a : Nat} : ∀ {i : Nat}, a < 57 ∨ 57 + 54 * i ≤ a → gi_H I i a = I a
  | 0, _ => rfl
  | i + 1, h => by
    show gi_S (gi_H I i) (57 + 54 * i) a = I a
    rw [gi_S_o (by omega)]
    exact gi_H_o (by omega)
def gc_H (G : ga_G) (X0 : Nat → va_E) (i : Nat) (I : ga_I) : Nat → va_E := fun q => if q = 56 then .inl (ga_cy G 3, 5, .inr (.inr (.inr (.inr (fun j => if j < i then some (ga_ad G (57 + 54 * j)) else none))))) else gc_X G X0 55 (.inr (2, [.int 0, .int 0, .ref (ga_ad G 56)])) I q
theorem gc_dS : ∀ j, j < 15 → defaultValue (y_State j) = vp_V [.null, .null, .null, .null, .null, .null, .null, .int 0, .null, .int 0, .int 0, .null, .null, .null, .null] j := fun j hj => by
  rcases (show j = 0 ∨ j = 1 ∨ j = 2 ∨ j = 3 ∨ j = 4 ∨ j = 5 ∨ j = 6 ∨ j = 7 ∨ j = 8 ∨ j = 9 ∨ j = 10 ∨ j = 11 ∨ j = 12 ∨ j = 13 ∨ j = 14 by omega) with rfl | rfl | rfl | rfl | rfl | rfl | rfl | rfl | rfl | rfl | rfl | rfl | rfl | rfl | rfl <;> rfl
section MK6
variable {G : ga_G} {d : Nat} {mt : ga_M} {pc : Nat} {lst : List (Option ga_V)} {st : List ga_V} {X : Nat → va_E} {n rc rs : Nat} {E : (Nat → va_E) → Nat → Prop} {X0 : Nat → va_E} {I : ga_I}
theorem gc_congP {X' : Nat → va_E} (h : ∀ q, q < n → ∀ H : Heap, va_at (ga_D G) ga_cl (ga_ad G q, X q) H → va_at (ga_D G) ga_cl (ga_ad G q, X' q) H) (K : gc_W G d mt pc lst st X' n rc rs E) : gc_W G d mt pc lst st X n rc rs E := by
  intro p e R s m args below meth c MC MS Q C hr H locs ls cells slots hc hs hP hS hL
  refine K p e R s m args below meth c MC MS Q C hr H locs ls cells slots hc hs ⟨fun k q hk => ?_, hP.2⟩ hS hL
  by_cases hq : k < n
  · rw [gc_ws_at G X' hq] at hk
    cases hk
    exact h k hq H (hP.1 k _ (gc_ws_at G X hq))
  · rw [gc_ws_ge G X' hq] at hk; cases hk
theorem l_History (hI : ∀ q, 55 ≤ q → I q = fun _ => 0) (h : E (gc_X G X0 55 (ga_ce G (gi_H I 5) 55 (ga_sh 55)) (gi_H I 5)) 327) : ∀ (m i : Nat), i + m = 5 →
    gc_W G (d + 4) mt_History_init 14 [some (.inr 55), some (.inl (i : Int))] [] (gc_H G X0 i (gi_H I i)) (57 + 54 * i) (54 * m) (1174 * m) E := by
  intro m
  induction m with
  | zero =>
    intro i hi
    have e5 : i = 5 := by omega
    subst e5
    refine gc_iload_n 1 d_History_init_14 rfl rfl (gc_iconst d_History_init_15 (gc_icmp_ge 38 d_History_init_16 (by decide) ⟨by omega, by omega⟩ ⟨by omega, by omega⟩ (fun _ => ?_) (fun q => by exfalso; omega)))
    refine gc_congP (X' := gc_X G X0 55 (ga_ce G (gi_H I 5) 55 (ga_sh 55)) (gi_H I 5)) (fun q hq H hat => ?_) (gc_return d_History_init_38 rfl h)
    by_cases e1 : q = 56
    · subst e1
      rw [gc_X_gt (by omega), ga_rH.2]
      unfold gc_H at hat
      rw [if_pos rfl] at hat
      change H[ga_ad G 56]? = some (vp_cell _ _) at hat
      show H[ga_ad G 56]? = some (vp_cell _ _)
      rw [hat, vp_cell_q, vp_cell_q]
      show some (arrV (ga_cy G 3) 5 _) = some (arrV (ga_cy G 3) 5 _)
      unfold arrV
      congr 3
      funext j
      have hj := j.isLt
      show va_rf (if j.val < 5 then some (ga_ad G (57 + 54 * j.val)) else none) = va_rf (some (ga_ad G (List.getD [57, 111, 165, 219, 273] j.val 0)))
      rw [if_pos hj]
      generalize j.val = w at hj
      rcases (show w = 0 ∨ w = 1 ∨ w = 2 ∨ w = 3 ∨ w = 4 by omega) with u | u | u | u | u <;> subst u <;> rfl
    · unfold gc_H at hat
      rw [if_neg e1] at hat
      by_cases e2 : q = 55
      · subst e2
        rw [gc_X_at] at hat ⊢
        have e : ga_ce G (gi_H I 5) 55 (ga_sh 55) = .inr (2, [.int 0, .int 0, .ref (ga_ad G 56)]) := by
          rw [ga_oH.2]; simp [ga_ce, ga_fv, ga_f1, gi_H_o (I := I) (a := 55) (i := 5) (by omega), hI 55 (by omega)]
        rw [e]; exact hat
      · by_cases e3 : q < 55
        · rw [gc_X_lt e3] at hat ⊢; exact hat
        · rw [gc_X_gt (by omega)] at hat ⊢; exact hat
  | succ m ih =>
    intro i hi
    have hS := ga_sH i (by omega)
    have hk : 57 + 54 * i < 348 := hS.1.1
    have hn1 : 57 + 54 * (i + 1) = 57 + 54 * i + 54 := by omega
    have hz : ∀ q, 57 + 54 * i ≤ q → gi_H I i q = fun _ => 0 := fun q hq => by rw [gi_H_o (by omega)]; exact hI q (by omega)
    refine gc_room (rc' := 53 + 54 * m + 1) (rs' := 1159 + 1174 * m + 15) (by omega) (by omega) ?_
    refine gc_iload_n 1 d_History_init_14 rfl rfl (gc_iconst d_History_init_15 (gc_icmp_ge 38 d_History_init_16 (by decide) ⟨by omega, by omega⟩ ⟨by omega, by omega⟩ (fun q => by exfalso; omega) (fun _ => ?_)))
    have x55 : gc_H G X0 i (gi_H I i) 55 = .inr (2, [.int 0, .int 0, .ref (ga_ad G 56)]) := by
      unfold gc_H; rw [if_neg (by omega)]; exact gc_X_at
    have x56 : gc_H G X0 i (gi_H I i) 56 = .inl (ga_cy G 3, 5, .inr (.inr (.inr (.inr (fun j => if j < i then some (ga_ad G (57 + 54 * j)) else none))))) := by
      unfold gc_H; rw [if_pos rfl]
    refine gc_aload_n 0 d_History_init_19 rfl rfl (gc_get (v := .inr 56) d_History_init_20 fc_History_11 x55 (by omega) rfl (gc_iload_n 1 d_History_init_23 rfl rfl ?_))
    refine gc_new (N := 15) (ci := 4) (fs := [.null, .null, .null, .null, .null, .null, .null, .int 0, .null, .int 0, .int 0, .null, .null, .null, .null]) y_State d_History_init_24 rfl in_State ty_State lc_History_9 ic_State.1 ic_State.2 gc_dS hk (gc_dup d_History_init_27 ?_)
    refine gc_invI (d' := d + 3) (rc2 := 53) (rs2 := 1159) d_History_init_28 li_History_17 (Nat.le_of_ble_eq_true rfl) (by show 3 ≤ 8; omega) rfl ?_
    refine gc_cong (X' := gc_X G (gc_H G X0 i (gi_H I i)) (57 + 54 * i) (.inr (4, [.null, .null, .null, .null, .null, .null, .null, .int 0, .null, .int 0, .int 0, .null, .null, .null, .null])) (gi_H I i)) (fun q hq => ?_) (c_State hS hz ?_)
    · by_cases e1 : q = 57 + 54 * i
      · rw [if_pos e1, e1]; exact gc_X_at.symm
      · rw [if_neg e1, gc_X_lt (by omega)]
    · refine gc_aast (k := 56) (v := 57 + 54 * i) (len := 5) (f := fun j => if j < i then some (ga_ad G (57 + 54 * j)) else none) (vs := ga_fv G (gi_S (gi_H I i) (57 + 54 * i)) (57 + 54 * i) _) d_History_init_31 ?_ (gc_X_at.trans (by rw [hS.1.2]; rfl)) (by omega) (by omega) (by omega) (by omega) ?_
      · rw [gc_X_lt (by omega)]; exact x56
      · refine gc_iinc 1 d_History_init_32 rfl rfl (gc_goto 14 d_History_init_35 (by decide) ?_)
        have K := ih (i + 1) (by omega)
        rw [hn1] at K
        refine gc_cong (fun q hq => ?_) K
        by_cases e1 : q = 56
        · rw [if_pos e1]
          unfold gc_H
          rw [if_pos e1]
          congr 7
          funext j
          unfold va_up
          by_cases e2 : j = i
          · rw [if_pos e2, if_pos (by omega), e2]
          · rw [if_neg e2]
            show (if j < i then some (ga_ad G (57 + 54 * j)) else none) = if j < i + 1 then some (ga_ad G (57 + 54 * j)) else none
            by_cases e3 : j < i
            · rw [if_pos e3, if_pos (by omega)]
            · rw [if_neg e3, if_neg (by omega)]
        · rw [if_neg e1]
          by_cases e2 : q < 57 + 54 * i
          · rw [gc_X_lt e2]
            unfold gc_H
            rw [if_neg e1, if_neg e1]
            by_cases e3 : q < 55
            · rw [gc_X_lt e3, gc_X_lt e3]
            · by_cases e4 : q = 55
              · rw [e4, gc_X_at, gc_X_at]
              · rw [gc_X_gt (by omega), gc_X_gt (by omega)]
                exact (ga_ce_other _ (fun j => by
                  show gi_S (gi_H I i) (57 + 54 * i) q j = _
                  rw [gi_S_o (by omega)])).symm
          · unfold gc_H
            rw [if_neg e1, gc_X_gt (q := q) (k := 55) (by omega)]
            by_cases e3 : q = 57 + 54 * i
            · rw [e3]; exact gc_X_at
            · exact gc_X_gt (by omega)
theorem c_History (hI : ∀ q, 55 ≤ q → I q = fun _ => 0) (h : E (gc_X G X0 55 (ga_ce G (gi_H I 5) 55 (ga_sh 55)) (gi_H I 5)) (55 + 272)) : gc_W G (d + 4) mt_History_init 0 (ga_en 2 [.inr 55]) [] (gc_X G X0 55 (.inr (2, [.int 0, .int 0, .null])) I) (55 + 1) 271 5875 E := by
  refine gc_head d_History_init_0 d_History_init_1 lo_History_3 (by omega) rfl ?_
  refine gc_aload_n 0 d_History_init_4 rfl rfl (gc_iconst d_History_init_5 (gc_anew (rc := 270) (rs := 5870) (len := 5) d_History_init_6 lc_History_9 (by omega) (by omega) (gc_putF (v := .inr 56) (k := 55) (fs := [.int 0, .int 0, .null]) d_History_init_9 fc_History_11 rfl ?_ (by omega) (Nat.le_of_ble_eq_true rfl) ⟨rfl, rfl⟩ ?_)))
  · rw [if_neg (by omega)]; exact gc_X_at
  · refine gc_iconst d_History_init_12 (gc_istore_n 1 d_History_init_13 rfl (Nat.le_of_ble_eq_true rfl) rfl ?_)
    refine gc_cong (fun q hq => ?_) (l_History hI h 5 0 (by omega))
    unfold gc_H
    by_cases e1 : q = 55
    · subst e1
      rw [if_pos rfl, if_neg (by omega)]; exact gc_X_at.symm
    · rw [if_neg e1]
      by_cases e2 : q = 56
      · rw [if_pos e2, if_pos e2]
        congr 6
      · rw [if_neg e2, if_neg e2]
        have e3 : q < 55 := by omega
        rw [gc_X_lt e3, gc_X_lt e3]
end MK6
