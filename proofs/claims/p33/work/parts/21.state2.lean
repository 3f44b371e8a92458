/-! State: specs -/
section LQ
variable {G : ga_G} {d : Nat} {I : ga_I} {E : Option ga_V → ga_I → Prop} {k : Nat}
theorem s_State_snapshotAt (hk : ga_isS k) {a : Int} (ha : ga_rg a) (h : E (some (.inr (ga_sn k a))) I) : ga_W G d mt_State_snapshotAt 0 (ga_en 2 [.inr k, .inl a]) [] I E := by
  refine k_State_snapshotAt_0 hk ha (fun hI => ⟨fun h1 => ⟨fun h2 => ?_, fun h2 => ?_⟩, fun h1 => ?_⟩) <;> unfold ga_sn at h
  · rwa [if_neg h1, if_neg h2] at h
  · rwa [if_neg h1, if_pos h2] at h
  · rwa [if_pos h1] at h
theorem l_State_placesTaken (hk : ga_isS k) (h : E (some (.inl (gp_ct (fun j => decide (¬ I (k + 45) j = 0)) 3))) I) : ∀ (m j : Nat), j + m = 3 → ga_W G d mt_State_placesTaken 4 [some (.inr k), some (.inl (gp_ct (fun j => decide (¬ I (k + 45) j = 0)) j)), some (.inl (j : Int))] [] I E := by
  intro m
  induction m with
  | zero =>
    intro j hj
    refine k_State_placesTaken_4 hk ⟨by omega, by omega⟩ (fun hI => ⟨fun h1 => ?_, fun h1 => by exfalso; omega⟩)
    rwa [show j = 3 by omega]
  | succ m ih =>
    intro j hj
    have e := ih (j + 1) (by omega)
    refine k_State_placesTaken_4 hk ⟨by omega, by omega⟩ (fun hI => ⟨fun h1 => by exfalso; omega, fun h1 => ⟨by omega, by omega, fun h2 => ?_, fun h2 => ?_⟩⟩) <;> rw [Int.toNat_natCast] at h2
    · refine gw_eq e ?_ rfl
      rw [gp_ct_F (decide_eq_false (fun q => q h2))]; rfl
    · refine gw_eq e ?_ rfl
      rw [gp_ct_T (decide_eq_true h2)]; rfl
theorem s_State_placesTaken (hk : ga_isS k) (h : E (some (.inl (gp_ct (fun j => decide (¬ I (k + 45) j = 0)) 3))) I) : ga_W G d mt_State_placesTaken 0 (ga_en 3 [.inr k]) [] I E :=
  k_State_placesTaken_0 (fun _ => l_State_placesTaken hk h 3 0 rfl)
theorem s_State_sumOfAccounts (hk : ga_isS k) (h : E (some (.inl (0 + I (k + 53) 0 + I (k + 53) 1 + I (k + 53) 2 + I (k + 53) 3))) I) : ga_W G d mt_State_sumOfAccounts 0 (ga_en 3 [.inr k]) [] I E := by
  refine k_State_sumOfAccounts_0 (fun _ => ?_)
  refine k_State_sumOfAccounts_4 hk ⟨by omega, by omega⟩ (fun hI => ⟨fun h1 => by exfalso; omega, fun h1 => ⟨by omega, by omega, ?_⟩⟩)
  refine k_State_sumOfAccounts_4 hk ⟨by omega, by omega⟩ (fun hI => ⟨fun h1 => by exfalso; omega, fun h1 => ⟨by omega, by omega, ?_⟩⟩)
  refine k_State_sumOfAccounts_4 hk ⟨by omega, by omega⟩ (fun hI => ⟨fun h1 => by exfalso; omega, fun h1 => ⟨by omega, by omega, ?_⟩⟩)
  refine k_State_sumOfAccounts_4 hk ⟨by omega, by omega⟩ (fun hI => ⟨fun h1 => by exfalso; omega, fun h1 => ⟨by omega, by omega, ?_⟩⟩)
  exact k_State_sumOfAccounts_4 hk ⟨by omega, by omega⟩ (fun hI => ⟨fun h1 => h, fun h1 => by exfalso; omega⟩)
theorem gp_zo_bd (p q : Nat → Int) (c : Int) (n : Nat) : 0 ≤ gp_zo p q c n ∧ gp_zo p q c n ≤ n := gp_ct_le _ n
theorem gp_st_bd (p : Nat → Int) (c : Int) (n : Nat) : 0 ≤ gp_st p c n ∧ gp_st p c n ≤ n := gp_ct_le _ n
/-- the zones found anew -/
def gx_fz (I : ga_I) (k : Nat) : ga_I := ga_up (ga_up I (k + 47) 0 (gp_zo (I (k + 3)) (I (k + 4)) (I (k + 46) 0) (I (k + 2) 0).toNat)) (k + 47) 1 (gp_zo (I (k + 7)) (I (k + 8)) (I (k + 46) 1) (I (k + 6) 0).toNat)
theorem s_State_findZones (hk : ga_isS k) (h1 : gb_ok I (k + 2)) (h2 : gb_ok I (k + 6)) (h : E none (gx_fz I k)) : ga_W G (d + 1) mt_State_findZones 0 (ga_en 1 [.inr k]) [] I E := by
  refine k_State_findZones_0 hk (fun hI => ⟨h1, fun z1 hz1 I1 hI1 => ⟨?_, fun z2 hz2 I2 hI2 => ?_⟩⟩)
  · subst hI1
    show gp_ok _ _ _ _
    rw [ga_up_fn (by omega), ga_up_fn (by omega), ga_up_fn (by omega), ga_up_fn (by omega)]
    exact h2
  · subst hI2
    subst hI1
    rw [ga_up_fn (a := k + 6 + 1) (by omega), ga_up_fn (a := k + 6 + 2) (by omega), ga_up_fn (a := k + 46) (by omega), ga_up_fn (a := k + 6) (by omega)] at hz2
    have b1 := gp_zo_bd (I (k + 2 + 1)) (I (k + 2 + 2)) (I (k + 46) 0) (I (k + 2) 0).toNat
    have b2 := gp_zo_bd (I (k + 6 + 1)) (I (k + 6 + 2)) (I (k + 46) 1) (I (k + 6) 0).toNat
    rw [← hz1] at b1
    rw [← hz2] at b2
    have c1 := h1.2.1
    have c2 := h2.2.1
    rw [ga_wr_eq (z := z1) ⟨by omega, by omega⟩, ga_wr_eq (z := z2) ⟨by omega, by omega⟩, hz1, hz2]
    exact h
/-- the point lies on the axes, the margin is in its range -/
def gr_pt (I : ga_I) (k : Nat) : Prop := (0 ≤ I (k + 46) 0 ∧ I (k + 46) 0 ≤ 1000) ∧ (0 ≤ I (k + 46) 1 ∧ I (k + 46) 1 ≤ 1000)
theorem s_State_ignores (hk : ga_isS k) (hp : gr_pt I k) {x y : Int} (hx : 0 ≤ x ∧ x ≤ 1000) (hy : 0 ≤ y ∧ y ≤ 1000) (h : E (some (.inl (ga_bb (decide (((x - I (k + 46) 0).natAbs : Int) < I k 7 ∧ ((y - I (k + 46) 1).natAbs : Int) < I k 7))))) I) : ga_W G (d + 1) mt_State_ignores 0 (ga_en 3 [.inr k, .inl x, .inl y]) [] I E := by
  obtain ⟨p1, p2⟩ := hp
  refine k_State_ignores_0 hk (fun hI => ⟨⟨by omega, by omega⟩, ⟨by omega, by omega⟩, fun h1 => ?_, fun h1 => ⟨⟨by omega, by omega⟩, ⟨by omega, by omega⟩, fun h2 => ?_, fun h2 => ?_⟩⟩)
  · exact ga_bF (decide_eq_false (by omega)) h
  · exact ga_bF (decide_eq_false (by omega)) h
  · exact ga_bT (decide_eq_true (by omega)) h
/-- the reason against an edit -/
def gp_ra (lock g step budget op z : Int) : Int := if lock ≠ -2000000009 ∧ lock ≠ op then 1 else if step < ((z - g).natAbs : Int) then 2 else if budget < ((z - g).natAbs : Int) then 3 else 0
/-- the gains of a table are in their range -/
def gr_gn (I : ga_I) (k : Nat) : Prop := ∀ j, j < 147 → 0 ≤ I (k + 9) j ∧ I (k + 9) j ≤ 9999
theorem s_State_reasonAgainst (hk : ga_isS k) {op g i z : Int} (h1 : 0 ≤ op ∧ op < 3) (h2 : 0 ≤ g ∧ g < 49) (h3 : 0 ≤ i ∧ i < 3) (h4 : 0 ≤ z ∧ z ≤ 9999) (hg : gr_gn I (k + 1)) (h : E (some (.inl (gp_ra (I (k + 11) g.toNat) (I (k + 10) (g * 3 + i).toNat) (I (k + 50) op.toNat) (I (k + 51) op.toNat) op z))) I) : ga_W G (d + 1) mt_State_reasonAgainst 0 (ga_en 7 [.inr k, .inl op, .inl g, .inl i, .inl z]) [] I E := by
  have hv := hg (g * 3 + i).toNat (by omega)
  unfold gp_ra at h
  refine k_State_reasonAgainst_0 hk ⟨by omega, by omega⟩ (fun hI => ⟨h2, fun q1 => ⟨by omega, ⟨by omega, by omega⟩, by omega, by omega, ⟨by omega, by omega⟩, fun q2 => ⟨fun q3 => ?_, fun q3 => ?_⟩, fun q2 => ?_⟩, fun q1 => ⟨fun q0 => ⟨by omega, ⟨by omega, by omega⟩, by omega, by omega, ⟨by omega, by omega⟩, fun q2 => ⟨fun q3 => ?_, fun q3 => ?_⟩, fun q2 => ?_⟩, fun q0 => ?_⟩⟩)
  · rwa [if_neg (fun q => q.1 q1), if_neg (Int.not_lt.mpr q2), if_neg (Int.not_lt.mpr q3)] at h
  · rwa [if_neg (fun q => q.1 q1), if_neg (Int.not_lt.mpr q2), if_pos (Int.not_le.mp q3)] at h
  · rwa [if_neg (fun q => q.1 q1), if_pos (Int.not_le.mp q2)] at h
  · rwa [if_neg (fun q => q.2 q0), if_neg (Int.not_lt.mpr q2), if_neg (Int.not_lt.mpr q3)] at h
  · rwa [if_neg (fun q => q.2 q0), if_neg (Int.not_lt.mpr q2), if_pos (Int.not_le.mp q3)] at h
  · rwa [if_neg (fun q => q.2 q0), if_pos (Int.not_le.mp q2)] at h
  · rwa [if_pos ⟨q1, q0⟩] at h
/-- an edit -/
def gx_ed (I : ga_I) (k op j : Nat) (z : Int) : ga_I := ga_up (ga_up (ga_up (ga_up I (k + 10) j z) (k + 51) op (ga_wr (I (k + 51) op - ((z - I (k + 10) j).natAbs : Int)))) (k + 53) op (ga_wr (I (k + 53) op + (z - I (k + 10) j)))) (k + 52) op (ga_wr (I (k + 52) op + 1))
theorem s_State_carryOutEdit (hk : ga_isS k) {op g i z : Int} (h1 : 0 ≤ op ∧ op < 3) (h2 : 0 ≤ g ∧ g < 49) (h3 : 0 ≤ i ∧ i < 3) (h4 : 0 ≤ z ∧ z ≤ 9999) (hg : gr_gn I (k + 1)) (h : E none (gx_ed I k op.toNat (g * 3 + i).toNat z)) : ga_W G (d + 1) mt_State_carryOutEdit 0 (ga_en 6 [.inr k, .inl op, .inl g, .inl i, .inl z]) [] I E := by
  have hv := hg (g * 3 + i).toNat (by omega)
  refine k_State_carryOutEdit_0 hk ⟨by omega, by omega⟩ (fun hI => ⟨by omega, fun z1 hz1 I1 q1 => ⟨by omega, by omega, ⟨by rw [hz1]; show _ ≤ z - I (k + 1 + 9) _; omega, by rw [hz1]; show z - I (k + 1 + 9) _ < _; omega⟩, fun I2 q2 => ⟨by omega, fun I3 q3 I4 q4 => ?_⟩⟩⟩)
  subst q4 q3 q2 q1 hz1
  rw [ga_up_ne (a := k + 52) (by omega), ga_up_ne (a := k + 52) (by omega), ga_up_ne (a := k + 52) (by omega), ga_up_ne (a := k + 53) (by omega), ga_up_ne (a := k + 53) (by omega), ga_up_ne (a := k + 51) (by omega)]
  exact h
def gx_pp (I : ga_I) (k : Nat) (x y : Int) : ga_I := ga_up (ga_up (ga_up (ga_up I (k + 46) 0 x) (k + 46) 1 y) (k + 47) 0 (gp_za (I (k + 3)) (I (k + 4)) (I (k + 5)) (I (k + 2) 0).toNat (I (k + 47) 0) x)) (k + 47) 1 (gp_za (I (k + 7)) (I (k + 8)) (I (k + 9)) (I (k + 6) 0).toNat (I (k + 47) 1) y)
theorem gp_za_bd (p q r : Nat → Int) (n : Nat) (z c : Int) : z - n ≤ gp_za p q r n z c ∧ gp_za p q r n z c ≤ z + n := by
  have h1 := gp_up_bd p q r z c n
  have h3 := gp_dn_bd p q r n (gp_up p q r z c n) c n
  unfold gp_za
  omega
theorem s_State_putPoint (hk : ga_isS k) (h1 : gb_ok I (k + 2)) (h2 : gb_ok I (k + 6)) (hz1 : -10 ≤ I (k + 47) 0 ∧ I (k + 47) 0 ≤ 10) (hz2 : -10 ≤ I (k + 47) 1 ∧ I (k + 47) 1 ≤ 10) {x y : Int} (hx : ga_rg x) (hy : ga_rg y) (h : E none (gx_pp I k x y)) : ga_W G (d + 1) mt_State_putPoint 0 (ga_en 3 [.inr k, .inl x, .inl y]) [] I E := by
  have c1 := h1.2.1
  have c2 := h2.2.1
  refine k_State_putPoint_0 hk hx hy (fun hI I1 q1 I2 q2 => ?_)
  rw [ga_wr_eq hx] at q1
  rw [ga_wr_eq hy] at q2
  subst q1
  have f : ∀ a, a ≠ k + 46 → I2 a = I a := fun a ha => by rw [q2, ga_up_fn ha, ga_up_fn ha]
  refine ⟨?_, ?_, fun z1 hz I3 q3 => ⟨?_, ?_, fun z2 hzz I4 q4 => ?_⟩⟩
  · show gp_ok _ _ _ _
    rw [f _ (by omega), f _ (by omega), f _ (by omega), f _ (by omega)]; exact h1
  · rw [f _ (by omega)]; exact hz1
  · show gp_ok _ _ _ _
    rw [q3, ga_up_fn (by omega), ga_up_fn (by omega), ga_up_fn (by omega), ga_up_fn (by omega), f _ (by omega), f _ (by omega), f _ (by omega), f _ (by omega)]; exact h2
  · rw [q3, ga_up_nj (by omega), f _ (by omega)]; exact hz2
  · rw [f _ (by omega), f _ (by omega), f _ (by omega), f _ (by omega), f _ (by omega)] at hz
    rw [q3, ga_up_fn (a := k + 6 + 1) (by omega), ga_up_fn (a := k + 6 + 2) (by omega), ga_up_fn (a := k + 6 + 3) (by omega), ga_up_fn (a := k + 6) (by omega), ga_up_nj (a := k + 47) (b := 1) (by omega), f _ (by omega), f _ (by omega), f _ (by omega), f _ (by omega), f _ (by omega)] at hzz
    have b1 := gp_za_bd (I (k + 2 + 1)) (I (k + 2 + 2)) (I (k + 2 + 3)) (I (k + 2) 0).toNat (I (k + 47) 0) x
    have b2 := gp_za_bd (I (k + 6 + 1)) (I (k + 6 + 2)) (I (k + 6 + 3)) (I (k + 6) 0).toNat (I (k + 47) 1) y
    rw [← hz] at b1
    rw [← hzz] at b2
    rw [q4, q3, q2, ga_wr_eq (z := z1) ⟨by omega, by omega⟩, ga_wr_eq (z := z2) ⟨by omega, by omega⟩, hz, hzz]
    exact h
end LQ
theorem k_State_noteEntry_0 {G : ga_G} {d : Nat} {I : ga_I} {E : Option ga_V → ga_I → Prop} {k : Nat} {o1 : Nat} {v2 : Int} (hk : ga_isS k)
    (h : ga_RG I → (gr_P I (k + 48)) ∧ ((∀ I1 : ga_I, I1 = (gx_pn I (k + 48)) → (gr_P I1 (k + 48)) ∧ ((0 ≤ (0 : Int) ∧ (0 : Int) < 8) ∧ ((∀ I2 : ga_I, I2 = (ga_up I1 ((k + 48) + 1) ((I1 (k + 48) 1) * 8 + (0 : Int)).toNat (ga_wr (I1 (k + 46) 0))) → (gr_P I2 (k + 48)) ∧ ((0 ≤ (1 : Int) ∧ (1 : Int) < 8) ∧ ((∀ I3 : ga_I, I3 = (ga_up I2 ((k + 48) + 1) ((I2 (k + 48) 1) * 8 + (1 : Int)).toNat (ga_wr (I2 (k + 46) 1))) → (gr_P I3 (k + 48)) ∧ ((0 ≤ (2 : Int) ∧ (2 : Int) < 8) ∧ ((∀ I4 : ga_I, I4 = (ga_up I3 ((k + 48) + 1) ((I3 (k + 48) 1) * 8 + (2 : Int)).toNat (ga_wr (I3 (k + 47) 0))) → (gr_P I4 (k + 48)) ∧ ((0 ≤ (3 : Int) ∧ (3 : Int) < 8) ∧ ((∀ I5 : ga_I, I5 = (ga_up I4 ((k + 48) + 1) ((I4 (k + 48) 1) * 8 + (3 : Int)).toNat (ga_wr (I4 (k + 47) 1))) → ga_W G (d + 2) mt_State_noteEntry 65 [some (.inr k), some (.inr o1), some (.inl v2), some (.inl 0)] [] I5 E))))))))))))))) :
    ga_W G (d + 2) mt_State_noteEntry 0 (ga_en 4 [.inr k, .inr o1, .inl v2]) [] I E := by
  show ga_W G (d + 2) mt_State_noteEntry 0 [some (.inr k), some (.inr o1), some (.inl v2), none] [] I E
  refine gw_RG (fun hI1 => ?_)
  have h := h hI1
  refine gw_aload_n 0 d_State_noteEntry_0 rfl rfl ?_
  refine gw_getR d_State_noteEntry_1 fl_State_41 (hk.1) rfl ?_
  obtain ⟨g1, h⟩ := h
  refine gw_invV (as := []) (k := k + 48) (rest := []) (d' := (d + 1)) d_State_noteEntry_4 lk_State_119 (ga_rcv (hk.2.2.2.2.2.2.2.2.1.1) rfl rfl) rfl (Nat.le_of_ble_eq_true rfl) (Nat.le_of_ble_eq_true rfl) rfl rfl (s_Path_startEntry hk.2.2.2.2.2.2.2.2.1 g1 ?_)
  show ga_W G (d + 2) mt_State_noteEntry 7 [some (.inr k), some (.inr o1), some (.inl v2), none] [] (gx_pn I (k + 48)) E
  refine gw_nm (fun I1 q1 => ?_)
  have h := h I1 q1
  refine gw_RG (fun hI2 => ?_)
  refine gw_aload_n 0 d_State_noteEntry_7 rfl rfl ?_
  refine gw_getR d_State_noteEntry_8 fl_State_41 (hk.1) rfl ?_
  refine gw_iconst d_State_noteEntry_11 ?_
  refine gw_aload_n 0 d_State_noteEntry_12 rfl rfl ?_
  refine gw_getR d_State_noteEntry_13 fl_State_31 (hk.1) rfl ?_
  refine gw_iconst d_State_noteEntry_16 ?_
  refine gw_iald d_State_noteEntry_17 (hk.2.2.2.2.2.2.1) (by decide) (by decide) ?_
  obtain ⟨g2, h⟩ := h
  obtain ⟨g3, h⟩ := h
  refine gw_invV (as := [.inl 0, .inl (I1 (k + 46) 0)]) (k := k + 48) (rest := []) (d' := (d + 1)) d_State_noteEntry_18 lk_State_122 (ga_rcv (hk.2.2.2.2.2.2.2.2.1.1) rfl rfl) rfl (Nat.le_of_ble_eq_true rfl) (Nat.le_of_ble_eq_true rfl) rfl rfl (s_Path_putPart hk.2.2.2.2.2.2.2.2.1 g2 g3 ?_)
  show ga_W G (d + 2) mt_State_noteEntry 21 [some (.inr k), some (.inr o1), some (.inl v2), none] [] (ga_up I1 ((k + 48) + 1) ((I1 (k + 48) 1) * 8 + (0 : Int)).toNat (ga_wr (I1 (k + 46) 0))) E
  refine gw_nm (fun I2 q2 => ?_)
  have h := h I2 q2
  refine gw_RG (fun hI3 => ?_)
  refine gw_aload_n 0 d_State_noteEntry_21 rfl rfl ?_
  refine gw_getR d_State_noteEntry_22 fl_State_41 (hk.1) rfl ?_
  refine gw_iconst d_State_noteEntry_25 ?_
  refine gw_aload_n 0 d_State_noteEntry_26 rfl rfl ?_
  refine gw_getR d_State_noteEntry_27 fl_State_31 (hk.1) rfl ?_
  refine gw_iconst d_State_noteEntry_30 ?_
  refine gw_iald d_State_noteEntry_31 (hk.2.2.2.2.2.2.1) (by decide) (by decide) ?_
  obtain ⟨g4, h⟩ := h
  obtain ⟨g5, h⟩ := h
  refine gw_invV (as := [.inl 1, .inl (I2 (k + 46) 1)]) (k := k + 48) (rest := []) (d' := (d + 1)) d_State_noteEntry_32 lk_State_122 (ga_rcv (hk.2.2.2.2.2.2.2.2.1.1) rfl rfl) rfl (Nat.le_of_ble_eq_true rfl) (Nat.le_of_ble_eq_true rfl) rfl rfl (s_Path_putPart hk.2.2.2.2.2.2.2.2.1 g4 g5 ?_)
  show ga_W G (d + 2) mt_State_noteEntry 35 [some (.inr k), some (.inr o1), some (.inl v2), none] [] (ga_up I2 ((k + 48) + 1) ((I2 (k + 48) 1) * 8 + (1 : Int)).toNat (ga_wr (I2 (k + 46) 1))) E
  refine gw_nm (fun I3 q3 => ?_)
  have h := h I3 q3
  refine gw_RG (fun hI4 => ?_)
  refine gw_aload_n 0 d_State_noteEntry_35 rfl rfl ?_
  refine gw_getR d_State_noteEntry_36 fl_State_41 (hk.1) rfl ?_
  refine gw_iconst d_State_noteEntry_39 ?_
  refine gw_aload_n 0 d_State_noteEntry_40 rfl rfl ?_
  refine gw_getR d_State_noteEntry_41 fl_State_35 (hk.1) rfl ?_
  refine gw_iconst d_State_noteEntry_44 ?_
  refine gw_iald d_State_noteEntry_45 (hk.2.2.2.2.2.2.2.1) (by decide) (by decide) ?_
  obtain ⟨g6, h⟩ := h
  obtain ⟨g7, h⟩ := h
  refine gw_invV (as := [.inl 2, .inl (I3 (k + 47) 0)]) (k := k + 48) (rest := []) (d' := (d + 1)) d_State_noteEntry_46 lk_State_122 (ga_rcv (hk.2.2.2.2.2.2.2.2.1.1) rfl rfl) rfl (Nat.le_of_ble_eq_true rfl) (Nat.le_of_ble_eq_true rfl) rfl rfl (s_Path_putPart hk.2.2.2.2.2.2.2.2.1 g6 g7 ?_)
  show ga_W G (d + 2) mt_State_noteEntry 49 [some (.inr k), some (.inr o1), some (.inl v2), none] [] (ga_up I3 ((k + 48) + 1) ((I3 (k + 48) 1) * 8 + (2 : Int)).toNat (ga_wr (I3 (k + 47) 0))) E
  refine gw_nm (fun I4 q4 => ?_)
  have h := h I4 q4
  refine gw_RG (fun hI5 => ?_)
  refine gw_aload_n 0 d_State_noteEntry_49 rfl rfl ?_
  refine gw_getR d_State_noteEntry_50 fl_State_41 (hk.1) rfl ?_
  refine gw_iconst d_State_noteEntry_53 ?_
  refine gw_aload_n 0 d_State_noteEntry_54 rfl rfl ?_
  refine gw_getR d_State_noteEntry_55 fl_State_35 (hk.1) rfl ?_
  refine gw_iconst d_State_noteEntry_58 ?_
  refine gw_iald d_State_noteEntry_59 (hk.2.2.2.2.2.2.2.1) (by decide) (by decide) ?_
  obtain ⟨g8, h⟩ := h
  obtain ⟨g9, h⟩ := h
  refine gw_invV (as := [.inl 3, .inl (I4 (k + 47) 1)]) (k := k + 48) (rest := []) (d' := (d + 1)) d_State_noteEntry_60 lk_State_122 (ga_rcv (hk.2.2.2.2.2.2.2.2.1.1) rfl rfl) rfl (Nat.le_of_ble_eq_true rfl) (Nat.le_of_ble_eq_true rfl) rfl rfl (s_Path_putPart hk.2.2.2.2.2.2.2.2.1 g8 g9 ?_)
  show ga_W G (d + 2) mt_State_noteEntry 63 [some (.inr k), some (.inr o1), some (.inl v2), none] [] (ga_up I4 ((k + 48) + 1) ((I4 (k + 48) 1) * 8 + (3 : Int)).toNat (ga_wr (I4 (k + 47) 1))) E
  refine gw_nm (fun I5 q5 => ?_)
  have h := h I5 q5
  refine gw_RG (fun hI6 => ?_)
  refine gw_iconst d_State_noteEntry_63 ?_
  refine gw_istore_n 3 d_State_noteEntry_64 rfl (Nat.le_of_ble_eq_true rfl) rfl ?_
  exact gw_le h (by exact ⟨rfl, ⟨rfl, ⟨rfl, ⟨rfl, trivial⟩⟩⟩⟩)
theorem k_State_noteEntry_65 {G : ga_G} {d : Nat} {I : ga_I} {E : Option ga_V → ga_I → Prop} {k : Nat} {o1 : Nat} {v2 : Int} {v3 : Int} (hk : ga_isS k) (ho1 : ga_arr o1 0 3) (r3 : ga_rg v3)
    (h : ga_RG I → ((3 ≤ v3) → (gr_P I (k + 48)) ∧ ((0 ≤ (7 : Int) ∧ (7 : Int) < 8) ∧ ((∀ I1 : ga_I, I1 = (ga_up I ((k + 48) + 1) ((I (k + 48) 1) * 8 + (7 : Int)).toNat (ga_wr v2)) → E none I1)))) ∧ ((¬ (3 ≤ v3)) → (0 ≤ v3) ∧ ((v3 < 3) ∧ ((gr_P I (k + 48)) ∧ ((0 ≤ (4 + v3) ∧ (4 + v3) < 8) ∧ ((∀ I2 : ga_I, I2 = (ga_up I ((k + 48) + 1) ((I (k + 48) 1) * 8 + (4 + v3)).toNat (ga_wr (I o1 v3.toNat))) → ga_W G (d + 2) mt_State_noteEntry 65 [some (.inr k), some (.inr o1), some (.inl v2), some (.inl (v3 + 1))] [] I2 E))))))) :
    ga_W G (d + 2) mt_State_noteEntry 65 [some (.inr k), some (.inr o1), some (.inl v2), some (.inl v3)] [] I E := by
  refine gw_RG (fun hI1 => ?_)
  have h := h hI1
  refine gw_iload_n 3 d_State_noteEntry_65 rfl rfl ?_
  refine gw_aload_n 1 d_State_noteEntry_66 rfl rfl ?_
  refine gw_alenZ (z := 3) d_State_noteEntry_67 (ho1) (by decide) rfl ?_
  refine gw_icmp_ge 90 d_State_noteEntry_68 (by decide) r3 ⟨by decide, by decide⟩ (fun hc => ?_) (fun hc => ?_)
  · have h := h.1 hc
    refine gw_aload_n 0 d_State_noteEntry_90 rfl rfl ?_
    refine gw_getR d_State_noteEntry_91 fl_State_41 (hk.1) rfl ?_
    refine gw_bipush d_State_noteEntry_94 (by decide +kernel) ?_
    refine gw_iload_n 2 d_State_noteEntry_96 rfl rfl ?_
    obtain ⟨g1, h⟩ := h
    obtain ⟨g2, h⟩ := h
    refine gw_invV (as := [.inl 7, .inl v2]) (k := k + 48) (rest := []) (d' := (d + 1)) d_State_noteEntry_97 lk_State_122 (ga_rcv (hk.2.2.2.2.2.2.2.2.1.1) rfl rfl) rfl (Nat.le_of_ble_eq_true rfl) (Nat.le_of_ble_eq_true rfl) rfl rfl (s_Path_putPart hk.2.2.2.2.2.2.2.2.1 g1 g2 ?_)
    show ga_W G (d + 2) mt_State_noteEntry 100 [some (.inr k), some (.inr o1), some (.inl v2), some (.inl v3)] [] (ga_up I ((k + 48) + 1) ((I (k + 48) 1) * 8 + (7 : Int)).toNat (ga_wr v2)) E
    refine gw_nm (fun I1 q1 => ?_)
    have h := h I1 q1
    refine gw_RG (fun hI2 => ?_)
    exact gw_return d_State_noteEntry_100 rfl h
  · have h := h.2 hc
    refine gw_aload_n 0 d_State_noteEntry_71 rfl rfl ?_
    refine gw_getR d_State_noteEntry_72 fl_State_41 (hk.1) rfl ?_
    refine gw_iconst d_State_noteEntry_75 ?_
    refine gw_iload_n 3 d_State_noteEntry_76 rfl rfl ?_
    refine gw_iadd d_State_noteEntry_77 ?_
    refine gw_aload_n 1 d_State_noteEntry_78 rfl rfl ?_
    refine gw_iload_n 3 d_State_noteEntry_79 rfl rfl ?_
    obtain ⟨g3, h⟩ := h
    obtain ⟨g4, h⟩ := h
    refine gw_iald d_State_noteEntry_80 (ho1) g3 g4 ?_
    obtain ⟨g5, h⟩ := h
    obtain ⟨g6, h⟩ := h
    refine gw_invV (as := [.inl (4 + v3), .inl (I o1 v3.toNat)]) (k := k + 48) (rest := []) (d' := (d + 1)) d_State_noteEntry_81 lk_State_122 (ga_rcv (hk.2.2.2.2.2.2.2.2.1.1) rfl rfl) rfl (Nat.le_of_ble_eq_true rfl) (Nat.le_of_ble_eq_true rfl) rfl rfl (s_Path_putPart hk.2.2.2.2.2.2.2.2.1 g5 g6 ?_)
    show ga_W G (d + 2) mt_State_noteEntry 84 [some (.inr k), some (.inr o1), some (.inl v2), some (.inl v3)] [] (ga_up I ((k + 48) + 1) ((I (k + 48) 1) * 8 + (4 + v3)).toNat (ga_wr (I o1 v3.toNat))) E
    refine gw_nm (fun I2 q2 => ?_)
    have h := h I2 q2
    refine gw_RG (fun hI3 => ?_)
    refine gw_iinc 3 d_State_noteEntry_84 rfl rfl ?_
    refine gw_goto 65 d_State_noteEntry_87 (by decide) ?_
    exact gw_le h (by exact ⟨rfl, ⟨rfl, ⟨rfl, ⟨rfl, trivial⟩⟩⟩⟩)

theorem k_State_settleTable_0 {G : ga_G} {d : Nat} {I : ga_I} {E : Option ga_V → ga_I → Prop} {k : Nat} {v1 : Int} (hk : ga_isS k)
    (h : ga_RG I → (gt_n I (k + 1)) ∧ ((∀ z1 : Int, z1 = gp_tt (gp_g3 (I ((k + 1) + 9))) ((I ((k + 1) + 1) 0).toNat + 1) ((I ((k + 1) + 5) 0).toNat + 1) → (∀ I1 : ga_I, I1 = (ga_up I (k + 53) 3 (ga_wr ((I (k + 53) 3) + (z1 - v1)))) → (gb_ok I1 (k + 2)) ∧ ((gb_ok I1 (k + 6)) ∧ ((∀ I2 : ga_I, I2 = (gx_fz I1 k) → E none I2))))))) :
    ga_W G (d + 2) mt_State_settleTable 0 (ga_en 2 [.inr k, .inl v1]) [] I E := by
  show ga_W G (d + 2) mt_State_settleTable 0 [some (.inr k), some (.inl v1)] [] I E
  refine gw_RG (fun hI1 => ?_)
  have h := h hI1
  refine gw_aload_n 0 d_State_settleTable_0 rfl rfl ?_
  refine gw_getR d_State_settleTable_1 fl_State_54 (hk.1) rfl ?_
  refine gw_iconst d_State_settleTable_4 ?_
  refine gw_dup2 d_State_settleTable_5 ?_
  refine gw_iald d_State_settleTable_6 (hk.2.2.2.2.2.2.2.2.2.2.2.2) (by decide) (by decide) ?_
  refine gw_aload_n 0 d_State_settleTable_7 rfl rfl ?_
  refine gw_getR d_State_settleTable_8 fl_State_12 (hk.1) rfl ?_
  obtain ⟨g1, h⟩ := h
  refine gw_invV (as := []) (k := k + 1) (rest := [.inl (I (k + 53) 3), .inl 3, .inr (k + 53)]) (d' := (d + 1)) d_State_settleTable_11 lk_State_99 (ga_rcv (hk.2.1.1) rfl rfl) rfl (Nat.le_of_ble_eq_true rfl) (Nat.le_of_ble_eq_true rfl) rfl rfl (s_Table_sumOfGains hk.2.1 g1 ?_)
  show ga_W G (d + 2) mt_State_settleTable 14 [some (.inr k), some (.inl v1)] [.inl (gp_tt (gp_g3 (I ((k + 1) + 9))) ((I ((k + 1) + 1) 0).toNat + 1) ((I ((k + 1) + 5) 0).toNat + 1)), .inl (I (k + 53) 3), .inl 3, .inr (k + 53)] I E
  refine gw_nz (z := gp_tt (gp_g3 (I ((k + 1) + 9))) ((I ((k + 1) + 1) 0).toNat + 1) ((I ((k + 1) + 5) 0).toNat + 1)) (fun z1 q1 => ?_)
  have h := h z1 q1
  refine gw_iload_n 1 d_State_settleTable_14 rfl rfl ?_
  refine gw_isub d_State_settleTable_15 ?_
  refine gw_iadd d_State_settleTable_16 ?_
  refine gw_iast d_State_settleTable_17 (hk.2.2.2.2.2.2.2.2.2.2.2.2) (by decide) (by decide) ?_
  refine gw_nm (J := (ga_up I (k + 53) 3 (ga_wr ((I (k + 53) 3) + (z1 - v1))))) (fun I1 q2 => ?_)
  have h := h I1 q2
  refine gw_RG (fun hI2 => ?_)
  refine gw_aload_n 0 d_State_settleTable_18 rfl rfl ?_
  obtain ⟨g2, h⟩ := h
  obtain ⟨g3, h⟩ := h
  refine gw_invV (as := []) (k := k) (rest := []) (d' := (d + 1)) d_State_settleTable_19 lk_State_103 (ga_rcv (hk.1) rfl rfl) rfl (Nat.le_of_ble_eq_true rfl) (Nat.le_of_ble_eq_true rfl) rfl rfl (s_State_findZones hk g2 g3 ?_)
  show ga_W G (d + 2) mt_State_settleTable 22 [some (.inr k), some (.inl v1)] [] (gx_fz I1 k) E
  refine gw_nm (fun I2 q3 => ?_)
  have h := h I2 q3
  refine gw_RG (fun hI3 => ?_)
  exact gw_return d_State_settleTable_22 rfl h

section LR
variable {G : ga_G} {d : Nat} {I : ga_I} {E : Option ga_V → ga_I → Prop} {k o : Nat}
def gp_pa (I : ga_I) (k o : Nat) (z : Int) : Nat → Int := fun w => if w = 0 then I (k + 46) 0 else if w = 1 then I (k + 46) 1 else if w = 2 then I (k + 47) 0 else if w = 3 then I (k + 47) 1 else if w = 4 then I o 0 else if w = 5 then I o 1 else if w = 6 then I o 2 else z
/-- the first w parts of the new entry are there -/
def gr_n1 (I I' : ga_I) (k : Nat) (pa : Nat → Int) (w : Nat) : Prop := I' (k + 48) 0 = min (I (k + 48) 0 + 1) 20 ∧ I' (k + 48) 1 = (I (k + 48) 1 + 1) % 20 ∧ (∀ j, j < 160 → I' (k + 49) j = if (j / 8 : Nat) = ((I (k + 48) 1 + 1) % 20).toNat ∧ j % 8 < w then pa (j % 8) else I (k + 49) j) ∧ ∀ a, a ≠ k + 48 → a ≠ k + 49 → I' a = I a
def gr_ne (I I' : ga_I) (k o : Nat) (z : Int) : Prop := gr_n1 I I' k (gp_pa I k o z) 8
theorem gr_n1_0 (I : ga_I) (k : Nat) (pa : Nat → Int) : gr_n1 I (gx_pn I (k + 48)) k pa 0 := by
  refine ⟨ga_up_at, ?_, fun j hj => ?_, fun a h1 h2 => ?_⟩
  · unfold gx_pn; rw [ga_up_nj (by omega), ga_up_at]
  · rw [if_neg (by omega)]; unfold gx_pn; rw [ga_up_ne (by omega), ga_up_ne (by omega)]
  · unfold gx_pn; rw [ga_up_fn h1, ga_up_fn h1]
theorem gr_n1_P {I H : ga_I} {pa : Nat → Int} {w : Nat} (hp : gr_P I (k + 48)) (h : gr_n1 I H k pa w) : gr_P H (k + 48) := by
  obtain ⟨p1, p2⟩ := hp
  refine ⟨?_, ?_⟩
  · rw [h.1]; omega
  · rw [h.2.1]; omega
theorem gr_n1_s {I H : ga_I} {pa : Nat → Int} {w : Nat} (hp : gr_P I (k + 48)) (h : gr_n1 I H k pa w) (hw : w < 8) {z : Int} (hz : z = pa w) (hr : ga_rg z) : gr_n1 I (ga_up H (k + 48 + 1) (H (k + 48) 1 * 8 + (w : Int)).toNat (ga_wr z)) k pa (w + 1) := by
  obtain ⟨p1, p2⟩ := hp
  obtain ⟨h1, h2, h3, h4⟩ := h
  rw [ga_wr_eq hr, hz]
  refine ⟨by rw [ga_up_ne (by omega)]; exact h1, by rw [ga_up_ne (by omega)]; exact h2, fun j hj => ?_, fun a q1 q2 => by rw [ga_up_fn (by omega)]; exact h4 a q1 q2⟩
  have hL : 0 ≤ (I (k + 48) 1 + 1) % 20 ∧ (I (k + 48) 1 + 1) % 20 < 20 := by omega
  rw [h2]
  by_cases e : j = ((I (k + 48) 1 + 1) % 20 * 8 + (w : Int)).toNat
  · rw [e]
    show ga_up H (k + 49) _ (pa w) (k + 49) _ = _
    rw [ga_up_at, if_pos (by omega)]
    congr 1
    omega
  · rw [ga_up_nj e, h3 j hj]
    by_cases e2 : (j / 8 : Nat) = ((I (k + 48) 1 + 1) % 20).toNat ∧ j % 8 < w
    · rw [if_pos e2, if_pos (by omega)]
    · rw [if_neg e2, if_neg (by omega)]
theorem s_State_noteEntry (hk : ga_isS k) (ho : ga_arr o 0 3) (hp : gr_P I (k + 48)) (hd : o < k ∨ k + 54 ≤ o) {z : Int} (hz : ga_rg z) (h : ∀ I', gr_ne I I' k o z → E none I') : ga_W G (d + 2) mt_State_noteEntry 0 (ga_en 4 [.inr k, .inr o, .inl z]) [] I E := by
  refine k_State_noteEntry_0 hk (fun hI => ⟨hp, fun I1 e1 => ?_⟩)
  have r0 := gr_n1_0 I k (gp_pa I k o z)
  rw [← e1] at r0
  refine ⟨gr_n1_P hp r0, by omega, fun I2 e2 => ?_⟩
  have r1 := gr_n1_s hp r0 (by omega) (z := I1 (k + 46) 0) (by rw [r0.2.2.2 _ (by omega) (by omega)]; rfl) (by rw [r0.2.2.2 _ (by omega) (by omega)]; exact hI _ _)
  rw [show ((0 : Nat) : Int) = 0 from rfl, ← e2] at r1
  refine ⟨gr_n1_P hp r1, by omega, fun I3 e3 => ?_⟩
  have r2 := gr_n1_s hp r1 (by omega) (z := I2 (k + 46) 1) (by rw [r1.2.2.2 _ (by omega) (by omega)]; rfl) (by rw [r1.2.2.2 _ (by omega) (by omega)]; exact hI _ _)
  rw [show ((0 + 1 : Nat) : Int) = 1 from rfl, ← e3] at r2
  refine ⟨gr_n1_P hp r2, by omega, fun I4 e4 => ?_⟩
  have r3 := gr_n1_s hp r2 (by omega) (z := I3 (k + 47) 0) (by rw [r2.2.2.2 _ (by omega) (by omega)]; rfl) (by rw [r2.2.2.2 _ (by omega) (by omega)]; exact hI _ _)
  rw [show ((0 + 1 + 1 : Nat) : Int) = 2 from rfl, ← e4] at r3
  refine ⟨gr_n1_P hp r3, by omega, fun I5 e5 => ?_⟩
  have r4 := gr_n1_s hp r3 (by omega) (z := I4 (k + 47) 1) (by rw [r3.2.2.2 _ (by omega) (by omega)]; rfl) (by rw [r3.2.2.2 _ (by omega) (by omega)]; exact hI _ _)
  rw [show ((0 + 1 + 1 + 1 : Nat) : Int) = 3 from rfl, ← e5] at r4
  refine k_State_noteEntry_65 hk ho ⟨by omega, by omega⟩ (fun _ => ⟨fun h1 => by exfalso; omega, fun h1 => ⟨by omega, by omega, gr_n1_P hp r4, by omega, fun I6 e6 => ?_⟩⟩)
  have r5 := gr_n1_s hp r4 (by omega) (z := I5 o 0) (by rw [r4.2.2.2 _ (by omega) (by omega)]; rfl) (by rw [r4.2.2.2 _ (by omega) (by omega)]; exact hI _ _)
  have e6' : I6 = ga_up I5 (k + 48 + 1) (I5 (k + 48) 1 * 8 + ((4 : Nat) : Int)).toNat (ga_wr (I5 o 0)) := e6
  rw [← e6'] at r5
  refine k_State_noteEntry_65 hk ho ⟨by omega, by omega⟩ (fun _ => ⟨fun h1 => by exfalso; omega, fun h1 => ⟨by omega, by omega, gr_n1_P hp r5, by omega, fun I7 e7 => ?_⟩⟩)
  have r6 := gr_n1_s hp r5 (by omega) (z := I6 o 1) (by rw [r5.2.2.2 _ (by omega) (by omega)]; rfl) (by rw [r5.2.2.2 _ (by omega) (by omega)]; exact hI _ _)
  have e7' : I7 = ga_up I6 (k + 48 + 1) (I6 (k + 48) 1 * 8 + ((5 : Nat) : Int)).toNat (ga_wr (I6 o 1)) := e7
  rw [← e7'] at r6
  refine k_State_noteEntry_65 hk ho ⟨by omega, by omega⟩ (fun _ => ⟨fun h1 => by exfalso; omega, fun h1 => ⟨by omega, by omega, gr_n1_P hp r6, by omega, fun I8 e8 => ?_⟩⟩)
  have r7 := gr_n1_s hp r6 (by omega) (z := I7 o 2) (by rw [r6.2.2.2 _ (by omega) (by omega)]; rfl) (by rw [r6.2.2.2 _ (by omega) (by omega)]; exact hI _ _)
  have e8' : I8 = ga_up I7 (k + 48 + 1) (I7 (k + 48) 1 * 8 + ((6 : Nat) : Int)).toNat (ga_wr (I7 o 2)) := e8
  rw [← e8'] at r7
  refine k_State_noteEntry_65 hk ho ⟨by omega, by omega⟩ (fun _ => ⟨fun h1 => ⟨gr_n1_P hp r7, by omega, fun I9 e9 => ?_⟩, fun h1 => by exfalso; omega⟩)
  have r8 := gr_n1_s hp r7 (by omega) (z := z) rfl hz
  have e9' : I9 = ga_up I8 (k + 48 + 1) (I8 (k + 48) 1 * 8 + ((7 : Nat) : Int)).toNat (ga_wr z) := e9
  rw [← e9'] at r8
  exact h I9 r8
def gx_st (I : ga_I) (k : Nat) (z : Int) : ga_I := gx_fz (ga_up I (k + 53) 3 (ga_wr (I (k + 53) 3 + (gp_tt (gp_g3 (I (k + 10))) ((I (k + 2) 0).toNat + 1) ((I (k + 6) 0).toNat + 1) - z)))) k
theorem s_State_settleTable (hk : ga_isS k) (h1 : gb_ok I (k + 2)) (h2 : gb_ok I (k + 6)) {z : Int} (h : E none (gx_st I k z)) : ga_W G (d + 2) mt_State_settleTable 0 (ga_en 2 [.inr k, .inl z]) [] I E := by
  refine k_State_settleTable_0 hk (fun hI => ⟨⟨⟨h1.1, h1.2.1⟩, h2.1, h2.2.1⟩, fun z1 hz1 I1 e1 => ⟨?_, ?_, fun I2 e2 => ?_⟩⟩)
  · subst e1
    show gp_ok _ _ _ _
    rw [ga_up_fn (by omega), ga_up_fn (by omega), ga_up_fn (by omega), ga_up_fn (by omega)]
    exact h1
  · subst e1
    show gp_ok _ _ _ _
    rw [ga_up_fn (by omega), ga_up_fn (by omega), ga_up_fn (by omega), ga_up_fn (by omega)]
    exact h2
  · subst e2 e1 hz1
    exact h
end LR
theorem k_State_replaceTable_0 {G : ga_G} {d : Nat} {I : ga_I} {E : Option ga_V → ga_I → Prop} {k : Nat} {o1 : Nat} (hk : ga_isS k) (ho1 : ga_isT o1)
    (h : ga_RG I → (gt_n I (k + 1)) ∧ ((∀ z1 : Int, z1 = gp_tt (gp_g3 (I ((k + 1) + 9))) ((I ((k + 1) + 1) 0).toNat + 1) ((I ((k + 1) + 5) 0).toNat + 1) → (o1 + 11 ≤ (k + 1) ∨ (k + 1) + 11 ≤ o1 ∨ o1 = (k + 1)) ∧ ((∀ I1 : ga_I, gr_cpT I I1 (k + 1) o1 → (gb_ok I1 (k + 2)) ∧ ((gb_ok I1 (k + 6)) ∧ ((∀ I2 : ga_I, I2 = (gx_st I1 k z1) → E none I2)))))))) :
    ga_W G (d + 3) mt_State_replaceTable 0 (ga_en 3 [.inr k, .inr o1]) [] I E := by
  show ga_W G (d + 3) mt_State_replaceTable 0 [some (.inr k), some (.inr o1), none] [] I E
  refine gw_RG (fun hI1 => ?_)
  have h := h hI1
  refine gw_aload_n 0 d_State_replaceTable_0 rfl rfl ?_
  refine gw_getR d_State_replaceTable_1 fl_State_12 (hk.1) rfl ?_
  obtain ⟨g1, h⟩ := h
  refine gw_invV (as := []) (k := k + 1) (rest := []) (d' := (d + 2)) d_State_replaceTable_4 lk_State_99 (ga_rcv (hk.2.1.1) rfl rfl) rfl (Nat.le_of_ble_eq_true rfl) (Nat.le_of_ble_eq_true rfl) rfl rfl (s_Table_sumOfGains hk.2.1 g1 ?_)
  show ga_W G (d + 3) mt_State_replaceTable 7 [some (.inr k), some (.inr o1), none] [.inl (gp_tt (gp_g3 (I ((k + 1) + 9))) ((I ((k + 1) + 1) 0).toNat + 1) ((I ((k + 1) + 5) 0).toNat + 1))] I E
  refine gw_nz (z := gp_tt (gp_g3 (I ((k + 1) + 9))) ((I ((k + 1) + 1) 0).toNat + 1) ((I ((k + 1) + 5) 0).toNat + 1)) (fun z1 q1 => ?_)
  have h := h z1 q1
  refine gw_istore_n 2 d_State_replaceTable_7 rfl (Nat.le_of_ble_eq_true rfl) rfl ?_
  refine gw_aload_n 0 d_State_replaceTable_8 rfl rfl ?_
  refine gw_getR d_State_replaceTable_9 fl_State_12 (hk.1) rfl ?_
  refine gw_aload_n 1 d_State_replaceTable_12 rfl rfl ?_
  obtain ⟨g2, h⟩ := h
  refine gw_invV (as := [.inr o1]) (k := k + 1) (rest := []) (d' := (d + 2)) d_State_replaceTable_13 lk_State_63 (ga_rcv (hk.2.1.1) rfl rfl) rfl (Nat.le_of_ble_eq_true rfl) (Nat.le_of_ble_eq_true rfl) rfl rfl (s_Table_copyFrom hk.2.1 ho1 g2 (fun I1 q2 => ?_))
  have h := h I1 q2
  show ga_W G (d + 3) mt_State_replaceTable 16 [some (.inr k), some (.inr o1), some (.inl z1)] [] I1 E
  refine gw_RG (fun hI2 => ?_)
  refine gw_aload_n 0 d_State_replaceTable_16 rfl rfl ?_
  refine gw_iload_n 2 d_State_replaceTable_17 rfl rfl ?_
  obtain ⟨g3, h⟩ := h
  obtain ⟨g4, h⟩ := h
  refine gw_invV (as := [.inl z1]) (k := k) (rest := []) (d' := (d + 2)) d_State_replaceTable_18 lk_State_106 (ga_rcv (hk.1) rfl rfl) rfl (Nat.le_of_ble_eq_true rfl) (Nat.le_of_ble_eq_true rfl) rfl rfl (s_State_settleTable hk g3 g4 ?_)
  show ga_W G (d + 3) mt_State_replaceTable 21 [some (.inr k), some (.inr o1), some (.inl z1)] [] (gx_st I1 k z1) E
  refine gw_nm (fun I2 q3 => ?_)
  have h := h I2 q3
  refine gw_RG (fun hI3 => ?_)
  exact gw_return d_State_replaceTable_21 rfl h

theorem k_State_copyFrom_0 {G : ga_G} {d : Nat} {I : ga_I} {E : Option ga_V → ga_I → Prop} {k : Nat} {o1 : Nat} (hk : ga_isS k) (ho1 : ga_isS o1)
    (h : ga_RG I → ((o1 + 1) + 11 ≤ (k + 1) ∨ (k + 1) + 11 ≤ (o1 + 1) ∨ (o1 + 1) = (k + 1)) ∧ ((∀ I1 : ga_I, gr_cpT I I1 (k + 1) (o1 + 1) → ((o1 + 12) + 11 ≤ (k + 12) ∨ (k + 12) + 11 ≤ (o1 + 12) ∨ (o1 + 12) = (k + 12)) ∧ ((∀ I2 : ga_I, gr_cpT I1 I2 (k + 12) (o1 + 12) → ((o1 + 23) + 11 ≤ (k + 23) ∨ (k + 23) + 11 ≤ (o1 + 23) ∨ (o1 + 23) = (k + 23)) ∧ ((∀ I3 : ga_I, gr_cpT I2 I3 (k + 23) (o1 + 23) → ((o1 + 34) + 11 ≤ (k + 34) ∨ (k + 34) + 11 ≤ (o1 + 34) ∨ (o1 + 34) = (k + 34)) ∧ ((∀ I4 : ga_I, gr_cpT I3 I4 (k + 34) (o1 + 34) → ga_W G (d + 3) mt_State_copyFrom 46 [some (.inr k), some (.inr o1), some (.inl 0)] [] I4 E))))))))) :
    ga_W G (d + 3) mt_State_copyFrom 0 (ga_en 3 [.inr k, .inr o1]) [] I E := by
  show ga_W G (d + 3) mt_State_copyFrom 0 [some (.inr k), some (.inr o1), none] [] I E
  refine gw_RG (fun hI1 => ?_)
  have h := h hI1
  refine gw_aload_n 0 d_State_copyFrom_0 rfl rfl ?_
  refine gw_getR d_State_copyFrom_1 fl_State_12 (hk.1) rfl ?_
  refine gw_aload_n 1 d_State_copyFrom_4 rfl rfl ?_
  refine gw_getR d_State_copyFrom_5 fl_State_12 (ho1.1) rfl ?_
  obtain ⟨g1, h⟩ := h
  refine gw_invV (as := [.inr (o1 + 1)]) (k := k + 1) (rest := []) (d' := (d + 2)) d_State_copyFrom_8 lk_State_63 (ga_rcv (hk.2.1.1) rfl rfl) rfl (Nat.le_of_ble_eq_true rfl) (Nat.le_of_ble_eq_true rfl) rfl rfl (s_Table_copyFrom hk.2.1 ho1.2.1 g1 (fun I1 q1 => ?_))
  have h := h I1 q1
  show ga_W G (d + 3) mt_State_copyFrom 11 [some (.inr k), some (.inr o1), none] [] I1 E
  refine gw_RG (fun hI2 => ?_)
  refine gw_aload_n 0 d_State_copyFrom_11 rfl rfl ?_
  refine gw_getR d_State_copyFrom_12 fl_State_18 (hk.1) rfl ?_
  refine gw_aload_n 1 d_State_copyFrom_15 rfl rfl ?_
  refine gw_getR d_State_copyFrom_16 fl_State_18 (ho1.1) rfl ?_
  obtain ⟨g2, h⟩ := h
  refine gw_invV (as := [.inr (o1 + 12)]) (k := k + 12) (rest := []) (d' := (d + 2)) d_State_copyFrom_19 lk_State_63 (ga_rcv (hk.2.2.1.1) rfl rfl) rfl (Nat.le_of_ble_eq_true rfl) (Nat.le_of_ble_eq_true rfl) rfl rfl (s_Table_copyFrom hk.2.2.1 ho1.2.2.1 g2 (fun I2 q2 => ?_))
  have h := h I2 q2
  show ga_W G (d + 3) mt_State_copyFrom 22 [some (.inr k), some (.inr o1), none] [] I2 E
  refine gw_RG (fun hI3 => ?_)
  refine gw_aload_n 0 d_State_copyFrom_22 rfl rfl ?_
  refine gw_getR d_State_copyFrom_23 fl_State_21 (hk.1) rfl ?_
  refine gw_aload_n 1 d_State_copyFrom_26 rfl rfl ?_
  refine gw_getR d_State_copyFrom_27 fl_State_21 (ho1.1) rfl ?_
  obtain ⟨g3, h⟩ := h
  refine gw_invV (as := [.inr (o1 + 23)]) (k := k + 23) (rest := []) (d' := (d + 2)) d_State_copyFrom_30 lk_State_63 (ga_rcv (hk.2.2.2.1.1) rfl rfl) rfl (Nat.le_of_ble_eq_true rfl) (Nat.le_of_ble_eq_true rfl) rfl rfl (s_Table_copyFrom hk.2.2.2.1 ho1.2.2.2.1 g3 (fun I3 q3 => ?_))
  have h := h I3 q3
  show ga_W G (d + 3) mt_State_copyFrom 33 [some (.inr k), some (.inr o1), none] [] I3 E
  refine gw_RG (fun hI4 => ?_)
  refine gw_aload_n 0 d_State_copyFrom_33 rfl rfl ?_
  refine gw_getR d_State_copyFrom_34 fl_State_24 (hk.1) rfl ?_
  refine gw_aload_n 1 d_State_copyFrom_37 rfl rfl ?_
  refine gw_getR d_State_copyFrom_38 fl_State_24 (ho1.1) rfl ?_
  obtain ⟨g4, h⟩ := h
  refine gw_invV (as := [.inr (o1 + 34)]) (k := k + 34) (rest := []) (d' := (d + 2)) d_State_copyFrom_41 lk_State_63 (ga_rcv (hk.2.2.2.2.1.1) rfl rfl) rfl (Nat.le_of_ble_eq_true rfl) (Nat.le_of_ble_eq_true rfl) rfl rfl (s_Table_copyFrom hk.2.2.2.2.1 ho1.2.2.2.2.1 g4 (fun I4 q4 => ?_))
  have h := h I4 q4
  show ga_W G (d + 3) mt_State_copyFrom 44 [some (.inr k), some (.inr o1), none] [] I4 E
  refine gw_RG (fun hI5 => ?_)
  refine gw_iconst d_State_copyFrom_44 ?_
  refine gw_istore_n 2 d_State_copyFrom_45 rfl (Nat.le_of_ble_eq_true rfl) rfl ?_
  exact gw_le h (by exact ⟨rfl, ⟨rfl, ⟨rfl, trivial⟩⟩⟩)
theorem k_State_copyFrom_46 {G : ga_G} {d : Nat} {I : ga_I} {E : Option ga_V → ga_I → Prop} {k : Nat} {o1 : Nat} {v2 : Int} (hk : ga_isS k) (ho1 : ga_isS o1) (r2 : ga_rg v2)
    (h : ga_RG I → ((3 ≤ v2) → (∀ I1 : ga_I, I1 = (ga_cp I (o1 + 46) (k + 46) 0 0 2) → (∀ I2 : ga_I, I2 = (ga_cp I1 (o1 + 47) (k + 47) 0 0 2) → (∀ I3 : ga_I, I3 = (ga_up I2 k 7 (I2 o1 7)) → ((o1 + 48) + 2 ≤ (k + 48) ∨ (k + 48) + 2 ≤ (o1 + 48) ∨ (o1 + 48) = (k + 48)) ∧ ((∀ I4 : ga_I, gr_cpP I3 I4 (k + 48) (o1 + 48) → (∀ I5 : ga_I, I5 = (ga_up I4 k 9 (I4 o1 9)) → (∀ I6 : ga_I, I6 = (ga_up I5 k 10 (I5 o1 10)) → (∀ I7 : ga_I, I7 = (ga_cp I6 (o1 + 50) (k + 50) 0 0 3) → (∀ I8 : ga_I, I8 = (ga_cp I7 (o1 + 51) (k + 51) 0 0 3) → (∀ I9 : ga_I, I9 = (ga_cp I8 (o1 + 52) (k + 52) 0 0 3) → (∀ I10 : ga_I, I10 = (ga_cp I9 (o1 + 53) (k + 53) 0 0 4) → E none I10)))))))))))) ∧ ((¬ (3 ≤ v2)) → (0 ≤ v2) ∧ ((v2 < 3) ∧ ((I (o1 + 45) v2.toNat = 0 ∨ I (o1 + 45) v2.toNat = 1) ∧ ((∀ I11 : ga_I, I11 = (ga_up I (k + 45) v2.toNat (I (o1 + 45) v2.toNat)) → ga_W G (d + 3) mt_State_copyFrom 46 [some (.inr k), some (.inr o1), some (.inl (v2 + 1))] [] I11 E)))))) :
    ga_W G (d + 3) mt_State_copyFrom 46 [some (.inr k), some (.inr o1), some (.inl v2)] [] I E := by
  refine gw_RG (fun hI1 => ?_)
  have h := h hI1
  refine gw_iload_n 2 d_State_copyFrom_46 rfl rfl ?_
  refine gw_iconst d_State_copyFrom_47 ?_
  refine gw_icmp_ge 69 d_State_copyFrom_48 (by decide) r2 ⟨by decide, by decide⟩ (fun hc => ?_) (fun hc => ?_)
  · have h := h.1 hc
    refine gw_aload_n 1 d_State_copyFrom_69 rfl rfl ?_
    refine gw_getR d_State_copyFrom_70 fl_State_31 (ho1.1) rfl ?_
    refine gw_iconst d_State_copyFrom_73 ?_
    refine gw_aload_n 0 d_State_copyFrom_74 rfl rfl ?_
    refine gw_getR d_State_copyFrom_75 fl_State_31 (hk.1) rfl ?_
    refine gw_iconst d_State_copyFrom_78 ?_
    refine gw_aload_n 0 d_State_copyFrom_79 rfl rfl ?_
    refine gw_getR d_State_copyFrom_80 fl_State_31 (hk.1) rfl ?_
    refine gw_alenZ (z := 2) d_State_copyFrom_83 (hk.2.2.2.2.2.2.1) (by decide) rfl ?_
    refine gw_copy d_State_copyFrom_84 lk_State_67 (ho1.2.2.2.2.2.2.1) (hk.2.2.2.2.2.2.1) (by decide) (by decide) (by decide) (by decide) (by decide) (by omega) (Nat.le_of_ble_eq_true rfl) ?_
    refine gw_nm (J := (ga_cp I (o1 + 46) (k + 46) 0 0 2)) (fun I1 q1 => ?_)
    have h := h I1 q1
    refine gw_RG (fun hI2 => ?_)
    refine gw_aload_n 1 d_State_copyFrom_87 rfl rfl ?_
    refine gw_getR d_State_copyFrom_88 fl_State_35 (ho1.1) rfl ?_
    refine gw_iconst d_State_copyFrom_91 ?_
    refine gw_aload_n 0 d_State_copyFrom_92 rfl rfl ?_
    refine gw_getR d_State_copyFrom_93 fl_State_35 (hk.1) rfl ?_
    refine gw_iconst d_State_copyFrom_96 ?_
    refine gw_aload_n 0 d_State_copyFrom_97 rfl rfl ?_
    refine gw_getR d_State_copyFrom_98 fl_State_35 (hk.1) rfl ?_
    refine gw_alenZ (z := 2) d_State_copyFrom_101 (hk.2.2.2.2.2.2.2.1) (by decide) rfl ?_
    refine gw_copy d_State_copyFrom_102 lk_State_67 (ho1.2.2.2.2.2.2.2.1) (hk.2.2.2.2.2.2.2.1) (by decide) (by decide) (by decide) (by decide) (by decide) (by omega) (Nat.le_of_ble_eq_true rfl) ?_
    refine gw_nm (J := (ga_cp I1 (o1 + 47) (k + 47) 0 0 2)) (fun I2 q2 => ?_)
    have h := h I2 q2
    refine gw_RG (fun hI3 => ?_)
    refine gw_aload_n 0 d_State_copyFrom_105 rfl rfl ?_
    refine gw_aload_n 1 d_State_copyFrom_106 rfl rfl ?_
    refine gw_getI d_State_copyFrom_107 fl_State_73 (ho1.1) rfl ?_
    refine gw_putI d_State_copyFrom_110 fp_State_73 (hk.1) rfl ?_
    rw [ga_wr_eq (z := (I2 o1 7)) (hI3 _ _)]
    refine gw_nm (J := (ga_up I2 k 7 (I2 o1 7))) (fun I3 q3 => ?_)
    have h := h I3 q3
    refine gw_RG (fun hI4 => ?_)
    refine gw_aload_n 0 d_State_copyFrom_113 rfl rfl ?_
    refine gw_getR d_State_copyFrom_114 fl_State_41 (hk.1) rfl ?_
    refine gw_aload_n 1 d_State_copyFrom_117 rfl rfl ?_
    refine gw_getR d_State_copyFrom_118 fl_State_41 (ho1.1) rfl ?_
    obtain ⟨g1, h⟩ := h
    refine gw_invV (as := [.inr (o1 + 48)]) (k := k + 48) (rest := []) (d' := (d + 2)) d_State_copyFrom_121 lk_State_77 (ga_rcv (hk.2.2.2.2.2.2.2.2.1.1) rfl rfl) rfl (Nat.le_of_ble_eq_true rfl) (Nat.le_of_ble_eq_true rfl) rfl rfl (s_Path_copyFrom hk.2.2.2.2.2.2.2.2.1 ho1.2.2.2.2.2.2.2.2.1 g1 (fun I4 q4 => ?_))
    have h := h I4 q4
    show ga_W G (d + 3) mt_State_copyFrom 124 [some (.inr k), some (.inr o1), some (.inl v2)] [] I4 E
    refine gw_RG (fun hI5 => ?_)
    refine gw_aload_n 0 d_State_copyFrom_124 rfl rfl ?_
    refine gw_aload_n 1 d_State_copyFrom_125 rfl rfl ?_
    refine gw_getI d_State_copyFrom_126 fl_State_80 (ho1.1) rfl ?_
    refine gw_putI d_State_copyFrom_129 fp_State_80 (hk.1) rfl ?_
    rw [ga_wr_eq (z := (I4 o1 9)) (hI5 _ _)]
    refine gw_nm (J := (ga_up I4 k 9 (I4 o1 9))) (fun I5 q5 => ?_)
    have h := h I5 q5
    refine gw_RG (fun hI6 => ?_)
    refine gw_aload_n 0 d_State_copyFrom_132 rfl rfl ?_
    refine gw_aload_n 1 d_State_copyFrom_133 rfl rfl ?_
    refine gw_getI d_State_copyFrom_134 fl_State_83 (ho1.1) rfl ?_
    refine gw_putI d_State_copyFrom_137 fp_State_83 (hk.1) rfl ?_
    rw [ga_wr_eq (z := (I5 o1 10)) (hI6 _ _)]
    refine gw_nm (J := (ga_up I5 k 10 (I5 o1 10))) (fun I6 q6 => ?_)
    have h := h I6 q6
    refine gw_RG (fun hI7 => ?_)
    refine gw_aload_n 1 d_State_copyFrom_140 rfl rfl ?_
    refine gw_getR d_State_copyFrom_141 fl_State_45 (ho1.1) rfl ?_
    refine gw_iconst d_State_copyFrom_144 ?_
    refine gw_aload_n 0 d_State_copyFrom_145 rfl rfl ?_
    refine gw_getR d_State_copyFrom_146 fl_State_45 (hk.1) rfl ?_
    refine gw_iconst d_State_copyFrom_149 ?_
    refine gw_iconst d_State_copyFrom_150 ?_
    refine gw_copy d_State_copyFrom_151 lk_State_67 (ho1.2.2.2.2.2.2.2.2.2.1) (hk.2.2.2.2.2.2.2.2.2.1) (by decide) (by decide) (by decide) (by decide) (by decide) (by omega) (Nat.le_of_ble_eq_true rfl) ?_
    refine gw_nm (J := (ga_cp I6 (o1 + 50) (k + 50) 0 0 3)) (fun I7 q7 => ?_)
    have h := h I7 q7
    refine gw_RG (fun hI8 => ?_)
    refine gw_aload_n 1 d_State_copyFrom_154 rfl rfl ?_
    refine gw_getR d_State_copyFrom_155 fl_State_48 (ho1.1) rfl ?_
    refine gw_iconst d_State_copyFrom_158 ?_
    refine gw_aload_n 0 d_State_copyFrom_159 rfl rfl ?_
    refine gw_getR d_State_copyFrom_160 fl_State_48 (hk.1) rfl ?_
    refine gw_iconst d_State_copyFrom_163 ?_
    refine gw_iconst d_State_copyFrom_164 ?_
    refine gw_copy d_State_copyFrom_165 lk_State_67 (ho1.2.2.2.2.2.2.2.2.2.2.1) (hk.2.2.2.2.2.2.2.2.2.2.1) (by decide) (by decide) (by decide) (by decide) (by decide) (by omega) (Nat.le_of_ble_eq_true rfl) ?_
    refine gw_nm (J := (ga_cp I7 (o1 + 51) (k + 51) 0 0 3)) (fun I8 q8 => ?_)
    have h := h I8 q8
    refine gw_RG (fun hI9 => ?_)
    refine gw_aload_n 1 d_State_copyFrom_168 rfl rfl ?_
    refine gw_getR d_State_copyFrom_169 fl_State_51 (ho1.1) rfl ?_
    refine gw_iconst d_State_copyFrom_172 ?_
    refine gw_aload_n 0 d_State_copyFrom_173 rfl rfl ?_
    refine gw_getR d_State_copyFrom_174 fl_State_51 (hk.1) rfl ?_
    refine gw_iconst d_State_copyFrom_177 ?_
    refine gw_iconst d_State_copyFrom_178 ?_
    refine gw_copy d_State_copyFrom_179 lk_State_67 (ho1.2.2.2.2.2.2.2.2.2.2.2.1) (hk.2.2.2.2.2.2.2.2.2.2.2.1) (by decide) (by decide) (by decide) (by decide) (by decide) (by omega) (Nat.le_of_ble_eq_true rfl) ?_
    refine gw_nm (J := (ga_cp I8 (o1 + 52) (k + 52) 0 0 3)) (fun I9 q9 => ?_)
    have h := h I9 q9
    refine gw_RG (fun hI10 => ?_)
    refine gw_aload_n 1 d_State_copyFrom_182 rfl rfl ?_
    refine gw_getR d_State_copyFrom_183 fl_State_54 (ho1.1) rfl ?_
    refine gw_iconst d_State_copyFrom_186 ?_
    refine gw_aload_n 0 d_State_copyFrom_187 rfl rfl ?_
    refine gw_getR d_State_copyFrom_188 fl_State_54 (hk.1) rfl ?_
    refine gw_iconst d_State_copyFrom_191 ?_
    refine gw_aload_n 0 d_State_copyFrom_192 rfl rfl ?_
    refine gw_getR d_State_copyFrom_193 fl_State_54 (hk.1) rfl ?_
    refine gw_alenZ (z := 4) d_State_copyFrom_196 (hk.2.2.2.2.2.2.2.2.2.2.2.2) (by decide) rfl ?_
    refine gw_copy d_State_copyFrom_197 lk_State_67 (ho1.2.2.2.2.2.2.2.2.2.2.2.2) (hk.2.2.2.2.2.2.2.2.2.2.2.2) (by decide) (by decide) (by decide) (by decide) (by decide) (by omega) (Nat.le_of_ble_eq_true rfl) ?_
    refine gw_nm (J := (ga_cp I9 (o1 + 53) (k + 53) 0 0 4)) (fun I10 q10 => ?_)
    have h := h I10 q10
    refine gw_RG (fun hI11 => ?_)
    exact gw_return d_State_copyFrom_200 rfl h
  · have h := h.2 hc
    refine gw_aload_n 0 d_State_copyFrom_51 rfl rfl ?_
    refine gw_getR d_State_copyFrom_52 fl_State_27 (hk.1) rfl ?_
    refine gw_iload_n 2 d_State_copyFrom_55 rfl rfl ?_
    refine gw_aload_n 1 d_State_copyFrom_56 rfl rfl ?_
    refine gw_getR d_State_copyFrom_57 fl_State_27 (ho1.1) rfl ?_
    refine gw_iload_n 2 d_State_copyFrom_60 rfl rfl ?_
    obtain ⟨g2, h⟩ := h
    obtain ⟨g3, h⟩ := h
    refine gw_zald d_State_copyFrom_61 (ho1.2.2.2.2.2.1) g2 g3 ?_
    obtain ⟨g4, h⟩ := h
    refine gw_zast d_State_copyFrom_62 (hk.2.2.2.2.2.1) g2 g3 g4 ?_
    rw [ga_wr_eq (z := (I (o1 + 45) v2.toNat)) (hI1 _ _)]
    refine gw_nm (J := (ga_up I (k + 45) v2.toNat (I (o1 + 45) v2.toNat))) (fun I11 q11 => ?_)
    have h := h I11 q11
    refine gw_RG (fun hI12 => ?_)
    refine gw_iinc 2 d_State_copyFrom_63 rfl rfl ?_
    refine gw_goto 46 d_State_copyFrom_66 (by decide) ?_
    exact gw_le h (by exact ⟨rfl, ⟨rfl, ⟨rfl, trivial⟩⟩⟩)

