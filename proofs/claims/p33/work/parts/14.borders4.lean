/-! Borders: what its actions do -/
theorem k_Borders_copyBorder_0 {G : ga_G} {d : Nat} {I : ga_I} {E : Option ga_V → ga_I → Prop} {k : Nat} {v1 : Int} {v2 : Int} (hk : ga_isB k)
    (h : ga_RG I → (0 ≤ v1) ∧ ((v1 < 6) ∧ ((0 ≤ v2) ∧ ((v2 < 6) ∧ (E none (ga_up (ga_up (ga_up I (k + 1) v2.toNat (I (k + 1) v1.toNat)) (k + 2) v2.toNat ((ga_up I (k + 1) v2.toNat (I (k + 1) v1.toNat)) (k + 2) v1.toNat)) (k + 3) v2.toNat ((ga_up (ga_up I (k + 1) v2.toNat (I (k + 1) v1.toNat)) (k + 2) v2.toNat ((ga_up I (k + 1) v2.toNat (I (k + 1) v1.toNat)) (k + 2) v1.toNat)) (k + 3) v1.toNat))))))) :
    ga_W G d mt_Borders_copyBorder 0 (ga_en 3 [.inr k, .inl v1, .inl v2]) [] I E := by
  show ga_W G d mt_Borders_copyBorder 0 [some (.inr k), some (.inl v1), some (.inl v2)] [] I E
  refine gw_RG (fun hI1 => ?_)
  have h := h hI1
  refine gw_aload_n 0 d_Borders_copyBorder_0 rfl rfl ?_
  refine gw_getR d_Borders_copyBorder_1 fl_Borders_9 (hk.1) rfl ?_
  refine gw_iload_n 2 d_Borders_copyBorder_4 rfl rfl ?_
  refine gw_aload_n 0 d_Borders_copyBorder_5 rfl rfl ?_
  refine gw_getR d_Borders_copyBorder_6 fl_Borders_9 (hk.1) rfl ?_
  refine gw_iload_n 1 d_Borders_copyBorder_9 rfl rfl ?_
  obtain ⟨g1, h⟩ := h
  obtain ⟨g2, h⟩ := h
  refine gw_iald d_Borders_copyBorder_10 (hk.2.1) g1 g2 ?_
  obtain ⟨g3, h⟩ := h
  obtain ⟨g4, h⟩ := h
  refine gw_iast d_Borders_copyBorder_11 (hk.2.1) g3 g4 ?_
  rw [ga_wr_eq (z := (I (k + 1) v1.toNat)) (hI1 _ _)]
  refine gw_RG (fun hI2 => ?_)
  refine gw_aload_n 0 d_Borders_copyBorder_12 rfl rfl ?_
  refine gw_getR d_Borders_copyBorder_13 fl_Borders_15 (hk.1) rfl ?_
  refine gw_iload_n 2 d_Borders_copyBorder_16 rfl rfl ?_
  refine gw_aload_n 0 d_Borders_copyBorder_17 rfl rfl ?_
  refine gw_getR d_Borders_copyBorder_18 fl_Borders_15 (hk.1) rfl ?_
  refine gw_iload_n 1 d_Borders_copyBorder_21 rfl rfl ?_
  refine gw_iald d_Borders_copyBorder_22 (hk.2.2.1) g1 g2 ?_
  refine gw_iast d_Borders_copyBorder_23 (hk.2.2.1) g3 g4 ?_
  rw [ga_wr_eq (z := ((ga_up I (k + 1) v2.toNat (I (k + 1) v1.toNat)) (k + 2) v1.toNat)) (hI2 _ _)]
  refine gw_RG (fun hI3 => ?_)
  refine gw_aload_n 0 d_Borders_copyBorder_24 rfl rfl ?_
  refine gw_getR d_Borders_copyBorder_25 fl_Borders_18 (hk.1) rfl ?_
  refine gw_iload_n 2 d_Borders_copyBorder_28 rfl rfl ?_
  refine gw_aload_n 0 d_Borders_copyBorder_29 rfl rfl ?_
  refine gw_getR d_Borders_copyBorder_30 fl_Borders_18 (hk.1) rfl ?_
  refine gw_iload_n 1 d_Borders_copyBorder_33 rfl rfl ?_
  refine gw_iald d_Borders_copyBorder_34 (hk.2.2.2) g1 g2 ?_
  refine gw_iast d_Borders_copyBorder_35 (hk.2.2.2) g3 g4 ?_
  rw [ga_wr_eq (z := ((ga_up (ga_up I (k + 1) v2.toNat (I (k + 1) v1.toNat)) (k + 2) v2.toNat ((ga_up I (k + 1) v2.toNat (I (k + 1) v1.toNat)) (k + 2) v1.toNat)) (k + 3) v1.toNat)) (hI3 _ _)]
  refine gw_RG (fun hI4 => ?_)
  exact gw_return d_Borders_copyBorder_36 rfl h

theorem k_Borders_copyFrom_0 {G : ga_G} {d : Nat} {I : ga_I} {E : Option ga_V → ga_I → Prop} {k : Nat} {o1 : Nat} (hk : ga_isB k) (ho1 : ga_isB o1)
    (h : ga_RG I → E none (ga_cp (ga_cp (ga_cp (ga_up I k 0 (I o1 0)) (o1 + 1) (k + 1) 0 0 6) (o1 + 2) (k + 2) 0 0 6) (o1 + 3) (k + 3) 0 0 6)) :
    ga_W G (d + 1) mt_Borders_copyFrom 0 (ga_en 2 [.inr k, .inr o1]) [] I E := by
  show ga_W G (d + 1) mt_Borders_copyFrom 0 [some (.inr k), some (.inr o1)] [] I E
  refine gw_RG (fun hI1 => ?_)
  have h := h hI1
  refine gw_aload_n 0 d_Borders_copyFrom_0 rfl rfl ?_
  refine gw_aload_n 1 d_Borders_copyFrom_1 rfl rfl ?_
  refine gw_getI d_Borders_copyFrom_2 fl_Borders_21 (ho1.1) rfl ?_
  refine gw_putI d_Borders_copyFrom_5 fp_Borders_21 (hk.1) rfl ?_
  rw [ga_wr_eq (z := (I o1 0)) (hI1 _ _)]
  refine gw_RG (fun hI2 => ?_)
  refine gw_aload_n 1 d_Borders_copyFrom_8 rfl rfl ?_
  refine gw_getR d_Borders_copyFrom_9 fl_Borders_9 (ho1.1) rfl ?_
  refine gw_iconst d_Borders_copyFrom_12 ?_
  refine gw_aload_n 0 d_Borders_copyFrom_13 rfl rfl ?_
  refine gw_getR d_Borders_copyFrom_14 fl_Borders_9 (hk.1) rfl ?_
  refine gw_iconst d_Borders_copyFrom_17 ?_
  refine gw_bipush d_Borders_copyFrom_18 (by decide +kernel) ?_
  refine gw_copy d_Borders_copyFrom_20 lk_Borders_25 (ho1.2.1) (hk.2.1) (by decide) (by decide) (by decide) (by decide) (by decide) (by omega) (Nat.le_of_ble_eq_true rfl) ?_
  refine gw_RG (fun hI3 => ?_)
  refine gw_aload_n 1 d_Borders_copyFrom_23 rfl rfl ?_
  refine gw_getR d_Borders_copyFrom_24 fl_Borders_15 (ho1.1) rfl ?_
  refine gw_iconst d_Borders_copyFrom_27 ?_
  refine gw_aload_n 0 d_Borders_copyFrom_28 rfl rfl ?_
  refine gw_getR d_Borders_copyFrom_29 fl_Borders_15 (hk.1) rfl ?_
  refine gw_iconst d_Borders_copyFrom_32 ?_
  refine gw_bipush d_Borders_copyFrom_33 (by decide +kernel) ?_
  refine gw_copy d_Borders_copyFrom_35 lk_Borders_25 (ho1.2.2.1) (hk.2.2.1) (by decide) (by decide) (by decide) (by decide) (by decide) (by omega) (Nat.le_of_ble_eq_true rfl) ?_
  refine gw_RG (fun hI4 => ?_)
  refine gw_aload_n 1 d_Borders_copyFrom_38 rfl rfl ?_
  refine gw_getR d_Borders_copyFrom_39 fl_Borders_18 (ho1.1) rfl ?_
  refine gw_iconst d_Borders_copyFrom_42 ?_
  refine gw_aload_n 0 d_Borders_copyFrom_43 rfl rfl ?_
  refine gw_getR d_Borders_copyFrom_44 fl_Borders_18 (hk.1) rfl ?_
  refine gw_iconst d_Borders_copyFrom_47 ?_
  refine gw_bipush d_Borders_copyFrom_48 (by decide +kernel) ?_
  refine gw_copy d_Borders_copyFrom_50 lk_Borders_25 (ho1.2.2.2) (hk.2.2.2) (by decide) (by decide) (by decide) (by decide) (by decide) (by omega) (Nat.le_of_ble_eq_true rfl) ?_
  refine gw_RG (fun hI5 => ?_)
  exact gw_return d_Borders_copyFrom_53 rfl h

section LF
variable {G : ga_G} {d : Nat} {I : ga_I} {E : Option ga_V → ga_I → Prop} {k o : Nat}
theorem ga_up_ne {I : ga_I} {k j a b : Nat} {z : Int} (h : a ≠ k) : ga_up I k j z a b = I a b := if_neg (fun q => h q.1)
theorem ga_up_nj {I : ga_I} {k j a b : Nat} {z : Int} (h : b ≠ j) : ga_up I k j z a b = I a b := if_neg (fun q => h q.2)
theorem ga_up_at {I : ga_I} {k j : Nat} {z : Int} : ga_up I k j z k j = z := if_pos ⟨rfl, rfl⟩
theorem ga_cp_ne {I : ga_I} {ks kd sp dp n a b : Nat} (h : a ≠ kd) : ga_cp I ks kd sp dp n a b = I a b := if_neg (fun q => h q.1)
theorem ga_cp_in {I : ga_I} {ks kd n b : Nat} (h : b < n) : ga_cp I ks kd 0 0 n kd b = I ks b := by
  unfold ga_cp
  rw [if_pos ⟨rfl, Nat.zero_le _, by omega⟩, show 0 + (b - 0) = b by omega]
def gx_cb (I : ga_I) (k : Nat) (f t : Int) : ga_I := ga_up (ga_up (ga_up I (k + 1) t.toNat (I (k + 1) f.toNat)) (k + 2) t.toNat (I (k + 2) f.toNat)) (k + 3) t.toNat (I (k + 3) f.toNat)
theorem s_Borders_copyBorder (hk : ga_isB k) {f t : Int} (hf : 0 ≤ f ∧ f < 6) (ht : 0 ≤ t ∧ t < 6) (h : E none (gx_cb I k f t)) : ga_W G d mt_Borders_copyBorder 0 (ga_en 3 [.inr k, .inl f, .inl t]) [] I E := by
  refine k_Borders_copyBorder_0 hk (fun hI => ?_)
  refine ⟨by omega, by omega, by omega, by omega, ?_⟩
  rw [ga_up_ne (a := k + 2) (by omega), ga_up_ne (a := k + 3) (by omega), ga_up_ne (a := k + 3) (by omega)]
  exact h
/-- the borders at k are those of o -/
def gr_cpB (I I' : ga_I) (k o : Nat) : Prop := I' k 0 = I o 0 ∧ (∀ j, j < 6 → I' (k + 1) j = I (o + 1) j ∧ I' (k + 2) j = I (o + 2) j ∧ I' (k + 3) j = I (o + 3) j) ∧ ∀ a, (a < k ∨ k + 4 ≤ a) → I' a = I a
theorem s_Borders_copyFrom (hk : ga_isB k) (ho : ga_isB o) (hd : o + 4 ≤ k ∨ k + 4 ≤ o ∨ o = k) (h : ∀ I', gr_cpB I I' k o → E none I') : ga_W G (d + 1) mt_Borders_copyFrom 0 (ga_en 2 [.inr k, .inr o]) [] I E := by
  refine k_Borders_copyFrom_0 hk ho (fun hI => ?_)
  apply h
  refine ⟨?_, fun j hj => ⟨?_, ?_, ?_⟩, fun a ha => ?_⟩
  · rw [ga_cp_ne (by omega), ga_cp_ne (by omega), ga_cp_ne (by omega), ga_up_at]
  · rw [ga_cp_ne (by omega), ga_cp_ne (by omega), ga_cp_in hj, ga_up_ne (by omega)]
  · rw [ga_cp_ne (by omega), ga_cp_in hj]
    by_cases e : o + 2 = k + 1
    · exfalso; omega
    · rw [ga_cp_ne e, ga_up_ne (by omega)]
  · rw [ga_cp_in hj, ga_cp_ne (by omega), ga_cp_ne (by omega), ga_up_ne (by omega)]
  · funext j
    rw [ga_cp_ne (by omega), ga_cp_ne (by omega), ga_cp_ne (by omega), ga_up_ne (by omega)]
theorem s_Borders_putReach (hk : ga_isB k) (hok : gb_ok I k) {b r : Int} (hb : 0 ≤ b ∧ b < I k 0) (hr : ga_rg r) (h : E none (ga_up I (k + 3) b.toNat r)) : ga_W G (d + 1) mt_Borders_putReach 0 (ga_en 3 [.inr k, .inl b, .inl r]) [] I E := by
  have h6 := hok.2.1
  refine k_Borders_putReach_0 hk ⟨by omega, by omega⟩ (fun hI => ⟨fun h1 => absurd hb h1, fun h1 => ⟨by omega, by omega, ?_⟩⟩)
  rw [ga_wr_eq hr]
  exact h
/-- a row with one more at a place -/
def gx_in (f : Nat → Int) (c n : Nat) (z : Int) : Nat → Int := fun j => if j < c then f j else if j = c then z else if j ≤ n then f (j - 1) else f j
/-- a row with one less -/
def gx_de (f : Nat → Int) (c n : Nat) : Nat → Int := fun j => if c ≤ j ∧ j + 1 < n then f (j + 1) else f j
def gr_in (I I' : ga_I) (k c n : Nat) (x q r : Int) : Prop := I' k 0 = I k 0 + 1 ∧ I' (k + 1) = gx_in (I (k + 1)) c n x ∧ I' (k + 2) = gx_in (I (k + 2)) c n q ∧ I' (k + 3) = gx_in (I (k + 3)) c n r ∧ ∀ a, (a < k ∨ k + 4 ≤ a) → I' a = I a
def gr_de (I I' : ga_I) (k c n : Nat) : Prop := I' k 0 = I k 0 - 1 ∧ I' (k + 1) = gx_de (I (k + 1)) c n ∧ I' (k + 2) = gx_de (I (k + 2)) c n ∧ I' (k + 3) = gx_de (I (k + 3)) c n ∧ ∀ a, (a < k ∨ k + 4 ≤ a) → I' a = I a
/-- the rows of borders moved up by one, above lo up to hi -/
def gx_sh (I : ga_I) (k lo hi : Nat) : ga_I := fun a j => if (a = k + 1 ∨ a = k + 2 ∨ a = k + 3) ∧ lo < j ∧ j ≤ hi then I a (j - 1) else I a j
theorem gx_sh_0 (I : ga_I) (k n : Nat) : gx_sh I k n n = I := by
  funext a j
  unfold gx_sh
  rw [if_neg (by omega)]
theorem gx_sh_step (I : ga_I) (k b n : Nat) (hb : b < n) : gx_cb (gx_sh I k (b + 1) n) k (b : Int) ((b : Int) + 1) = gx_sh I k b n := by
  have e1 : ((b : Int)).toNat = b := by omega
  have e2 : ((b : Int) + 1).toNat = b + 1 := by omega
  funext a j
  unfold gx_cb
  rw [e1, e2]
  by_cases ha : a = k + 1 ∨ a = k + 2 ∨ a = k + 3
  · by_cases hj : j = b + 1
    · have r : gx_sh I k b n a j = I a b := by
        unfold gx_sh
        rw [if_pos ⟨ha, by omega, by omega⟩, hj]; rfl
      have r2 : ∀ a2, gx_sh I k (b + 1) n a2 b = I a2 b := fun a2 => by
        unfold gx_sh
        rw [if_neg (by omega)]
      rw [r, hj]
      rcases ha with rfl | rfl | rfl
      · rw [ga_up_ne (by omega), ga_up_ne (by omega), ga_up_at, r2]
      · rw [ga_up_ne (by omega), ga_up_at, r2]
      · rw [ga_up_at, r2]
    · rw [ga_up_nj hj, ga_up_nj hj, ga_up_nj hj]
      unfold gx_sh
      by_cases q : b < j ∧ j ≤ n
      · rw [if_pos ⟨ha, by omega, q.2⟩, if_pos ⟨ha, q.1, q.2⟩]
      · rw [if_neg (by omega), if_neg (by omega)]
  · rw [ga_up_ne (by omega), ga_up_ne (by omega), ga_up_ne (by omega)]
    unfold gx_sh
    rw [if_neg (fun h => ha h.1), if_neg (fun h => ha h.1)]
/-- moved down by one, from lo on below hi -/
def gx_sd (I : ga_I) (k lo hi : Nat) : ga_I := fun a j => if (a = k + 1 ∨ a = k + 2 ∨ a = k + 3) ∧ lo ≤ j ∧ j < hi then I a (j + 1) else I a j
theorem gx_sd_0 (I : ga_I) (k n : Nat) : gx_sd I k n n = I := by
  funext a j
  unfold gx_sd
  rw [if_neg (by omega)]
theorem gx_sd_step (I : ga_I) (k c b : Nat) (hb : c ≤ b) : gx_cb (gx_sd I k c b) k ((b : Int) + 1) ((b : Int) + 1 - 1) = gx_sd I k c (b + 1) := by
  have e1 : ((b : Int) + 1 - 1).toNat = b := by omega
  have e2 : ((b : Int) + 1).toNat = b + 1 := by omega
  funext a j
  unfold gx_cb
  rw [e1, e2]
  by_cases ha : a = k + 1 ∨ a = k + 2 ∨ a = k + 3
  · by_cases hj : j = b
    · have r : gx_sd I k c (b + 1) a j = I a (b + 1) := by
        unfold gx_sd
        rw [if_pos ⟨ha, by omega, by omega⟩, hj]
      have r2 : ∀ a2, gx_sd I k c b a2 (b + 1) = I a2 (b + 1) := fun a2 => by
        unfold gx_sd
        rw [if_neg (by omega)]
      rw [r, hj]
      rcases ha with rfl | rfl | rfl
      · rw [ga_up_ne (by omega), ga_up_ne (by omega), ga_up_at, r2]
      · rw [ga_up_ne (by omega), ga_up_at, r2]
      · rw [ga_up_at, r2]
    · rw [ga_up_nj hj, ga_up_nj hj, ga_up_nj hj]
      unfold gx_sd
      by_cases q : c ≤ j ∧ j < b
      · rw [if_pos ⟨ha, q.1, q.2⟩, if_pos ⟨ha, q.1, by omega⟩]
      · rw [if_neg (by omega), if_neg (by omega)]
  · rw [ga_up_ne (by omega), ga_up_ne (by omega), ga_up_ne (by omega)]
    unfold gx_sd
    rw [if_neg (fun h => ha h.1), if_neg (fun h => ha h.1)]
end LF
theorem k_Borders_insert_0 {G : ga_G} {d : Nat} {I : ga_I} {E : Option ga_V → ga_I → Prop} {k : Nat} {v1 : Int} {v2 : Int} {v3 : Int} (hk : ga_isB k) (r1 : ga_rg v1)
    (h : ga_RG I → (gb_ok I k) ∧ (((¬ (6 ≤ I k 0)) → ga_W G (d + 1) mt_Borders_insert 23 [some (.inr k), some (.inl v1), some (.inl v2), some (.inl v3), some (.inl (gp_st (I (k + 1)) v1 (I k 0).toNat)), some (.inl (I k 0))] [] I E) ∧ ((6 ≤ I k 0) → E (some (.inl (gp_st (I (k + 1)) v1 (I k 0).toNat))) I))) :
    ga_W G (d + 1) mt_Borders_insert 0 (ga_en 6 [.inr k, .inl v1, .inl v2, .inl v3]) [] I E := by
  show ga_W G (d + 1) mt_Borders_insert 0 [some (.inr k), some (.inl v1), some (.inl v2), some (.inl v3), none, none] [] I E
  refine gw_RG (fun hI1 => ?_)
  have h := h hI1
  refine gw_aload_n 0 d_Borders_insert_0 rfl rfl ?_
  refine gw_iload_n 1 d_Borders_insert_1 rfl rfl ?_
  obtain ⟨g1, h⟩ := h
  refine gw_invV (as := [.inl v1]) (k := k) (rest := []) (d' := d) d_Borders_insert_2 lk_Borders_51 (ga_rcv (hk.1) rfl rfl) rfl (Nat.le_of_ble_eq_true rfl) (Nat.le_of_ble_eq_true rfl) rfl rfl (s_Borders_stripOf hk g1 r1 ?_)
  show ga_W G (d + 1) mt_Borders_insert 5 [some (.inr k), some (.inl v1), some (.inl v2), some (.inl v3), none, none] [.inl (gp_st (I (k + 1)) v1 (I k 0).toNat)] I E
  refine gw_istore 4 d_Borders_insert_5 (Nat.le_of_ble_eq_true rfl) rfl ?_
  refine gw_aload_n 0 d_Borders_insert_7 rfl rfl ?_
  refine gw_invV (as := []) (k := k) (rest := []) (d' := d) d_Borders_insert_8 lk_Borders_54 (ga_rcv (hk.1) rfl rfl) rfl (Nat.le_of_ble_eq_true rfl) (Nat.le_of_ble_eq_true rfl) rfl rfl (s_Borders_isFull hk ?_)
  show ga_W G (d + 1) mt_Borders_insert 11 [some (.inr k), some (.inl v1), some (.inl v2), some (.inl v3), some (.inl (gp_st (I (k + 1)) v1 (I k 0).toNat)), none] [.inl (ga_bb (decide (6 ≤ I k 0)))] I E
  refine gw_ifb_eq 17 d_Borders_insert_11 (by decide) (fun hc => ?_) (fun hc => ?_)
  · have h := h.1 (of_decide_eq_false hc)
    refine gw_aload_n 0 d_Borders_insert_17 rfl rfl ?_
    refine gw_getI d_Borders_insert_18 fl_Borders_21 (hk.1) rfl ?_
    refine gw_istore 5 d_Borders_insert_21 (Nat.le_of_ble_eq_true rfl) rfl ?_
    exact gw_le h (by exact ⟨rfl, ⟨rfl, ⟨rfl, ⟨rfl, ⟨rfl, ⟨rfl, trivial⟩⟩⟩⟩⟩⟩)
  · have h := h.2 (of_decide_eq_true hc)
    refine gw_iload 4 d_Borders_insert_14 rfl ?_
    exact gw_ireturn d_Borders_insert_16 rfl h
theorem k_Borders_insert_23 {G : ga_G} {d : Nat} {I : ga_I} {E : Option ga_V → ga_I → Prop} {k : Nat} {v1 : Int} {v2 : Int} {v3 : Int} {v4 : Int} {v5 : Int} (hk : ga_isB k) (r4 : ga_rg v4) (r5 : ga_rg v5)
    (h : ga_RG I → ((v5 ≤ v4) → (0 ≤ v4) ∧ ((v4 < 6) ∧ (E (some (.inl v4)) (ga_up (ga_up (ga_up (ga_up I (k + 1) v4.toNat (ga_wr v1)) (k + 2) v4.toNat (ga_wr v2)) (k + 3) v4.toNat (ga_wr v3)) k 0 (ga_wr (((ga_up (ga_up (ga_up I (k + 1) v4.toNat (ga_wr v1)) (k + 2) v4.toNat (ga_wr v2)) (k + 3) v4.toNat (ga_wr v3)) k 0) + 1)))))) ∧ ((¬ (v5 ≤ v4)) → (0 ≤ (v5 - 1) ∧ (v5 - 1) < 6) ∧ ((0 ≤ v5 ∧ v5 < 6) ∧ (ga_W G (d + 1) mt_Borders_insert 23 [some (.inr k), some (.inl v1), some (.inl v2), some (.inl v3), some (.inl v4), some (.inl (v5 + (-1)))] [] (gx_cb I k (v5 - 1) v5) E)))) :
    ga_W G (d + 1) mt_Borders_insert 23 [some (.inr k), some (.inl v1), some (.inl v2), some (.inl v3), some (.inl v4), some (.inl v5)] [] I E := by
  refine gw_RG (fun hI1 => ?_)
  have h := h hI1
  refine gw_iload 5 d_Borders_insert_23 rfl ?_
  refine gw_iload 4 d_Borders_insert_25 rfl ?_
  refine gw_icmp_le 46 d_Borders_insert_27 (by decide) r5 r4 (fun hc => ?_) (fun hc => ?_)
  · have h := h.1 hc
    refine gw_aload_n 0 d_Borders_insert_46 rfl rfl ?_
    refine gw_getR d_Borders_insert_47 fl_Borders_9 (hk.1) rfl ?_
    refine gw_iload 4 d_Borders_insert_50 rfl ?_
    refine gw_iload_n 1 d_Borders_insert_52 rfl rfl ?_
    obtain ⟨g1, h⟩ := h
    obtain ⟨g2, h⟩ := h
    refine gw_iast d_Borders_insert_53 (hk.2.1) g1 g2 ?_
    refine gw_RG (fun hI2 => ?_)
    refine gw_aload_n 0 d_Borders_insert_54 rfl rfl ?_
    refine gw_getR d_Borders_insert_55 fl_Borders_15 (hk.1) rfl ?_
    refine gw_iload 4 d_Borders_insert_58 rfl ?_
    refine gw_iload_n 2 d_Borders_insert_60 rfl rfl ?_
    refine gw_iast d_Borders_insert_61 (hk.2.2.1) g1 g2 ?_
    refine gw_RG (fun hI3 => ?_)
    refine gw_aload_n 0 d_Borders_insert_62 rfl rfl ?_
    refine gw_getR d_Borders_insert_63 fl_Borders_18 (hk.1) rfl ?_
    refine gw_iload 4 d_Borders_insert_66 rfl ?_
    refine gw_iload_n 3 d_Borders_insert_68 rfl rfl ?_
    refine gw_iast d_Borders_insert_69 (hk.2.2.2) g1 g2 ?_
    refine gw_RG (fun hI4 => ?_)
    refine gw_aload_n 0 d_Borders_insert_70 rfl rfl ?_
    refine gw_dup d_Borders_insert_71 ?_
    refine gw_getI d_Borders_insert_72 fl_Borders_21 (hk.1) rfl ?_
    refine gw_iconst d_Borders_insert_75 ?_
    refine gw_iadd d_Borders_insert_76 ?_
    refine gw_putI d_Borders_insert_77 fp_Borders_21 (hk.1) rfl ?_
    refine gw_RG (fun hI5 => ?_)
    refine gw_iload 4 d_Borders_insert_80 rfl ?_
    exact gw_ireturn d_Borders_insert_82 rfl h
  · have h := h.2 hc
    refine gw_aload_n 0 d_Borders_insert_30 rfl rfl ?_
    refine gw_iload 5 d_Borders_insert_31 rfl ?_
    refine gw_iconst d_Borders_insert_33 ?_
    refine gw_isub d_Borders_insert_34 ?_
    refine gw_iload 5 d_Borders_insert_35 rfl ?_
    obtain ⟨g3, h⟩ := h
    obtain ⟨g4, h⟩ := h
    refine gw_invV (as := [.inl (v5 - 1), .inl v5]) (k := k) (rest := []) (d' := d) d_Borders_insert_37 lk_Borders_58 (ga_rcv (hk.1) rfl rfl) rfl (Nat.le_of_ble_eq_true rfl) (Nat.le_of_ble_eq_true rfl) rfl rfl (s_Borders_copyBorder hk g3 g4 ?_)
    show ga_W G (d + 1) mt_Borders_insert 40 [some (.inr k), some (.inl v1), some (.inl v2), some (.inl v3), some (.inl v4), some (.inl v5)] [] (gx_cb I k (v5 - 1) v5) E
    refine gw_RG (fun hI6 => ?_)
    refine gw_iinc 5 d_Borders_insert_40 rfl rfl ?_
    refine gw_goto 23 d_Borders_insert_43 (by decide) ?_
    exact gw_le h (by exact ⟨rfl, ⟨rfl, ⟨rfl, ⟨rfl, ⟨rfl, ⟨rfl, trivial⟩⟩⟩⟩⟩⟩)

theorem k_Borders_delete_0 {G : ga_G} {d : Nat} {I : ga_I} {E : Option ga_V → ga_I → Prop} {k : Nat} {v1 : Int} (hk : ga_isB k) (r1 : ga_rg v1)
    (h : ga_RG I → ((0 ≤ v1 ∧ v1 < I k 0) → ga_W G (d + 1) mt_Borders_delete 13 [some (.inr k), none, some (.inl (v1 + 1))] [] I E) ∧ ((¬ (0 ≤ v1 ∧ v1 < I k 0)) → E none I)) :
    ga_W G (d + 1) mt_Borders_delete 0 (ga_en 3 [.inr k, .inl v1]) [] I E := by
  show ga_W G (d + 1) mt_Borders_delete 0 [some (.inr k), some (.inl v1), none] [] I E
  refine gw_RG (fun hI1 => ?_)
  have h := h hI1
  refine gw_aload_n 0 d_Borders_delete_0 rfl rfl ?_
  refine gw_iload_n 1 d_Borders_delete_1 rfl rfl ?_
  refine gw_invV (as := [.inl v1]) (k := k) (rest := []) (d' := d) d_Borders_delete_2 lk_Borders_31 (ga_rcv (hk.1) rfl rfl) rfl (Nat.le_of_ble_eq_true rfl) (Nat.le_of_ble_eq_true rfl) rfl rfl (s_Borders_has hk r1 ?_)
  show ga_W G (d + 1) mt_Borders_delete 5 [some (.inr k), some (.inl v1), none] [.inl (ga_bb (decide (0 ≤ v1 ∧ v1 < I k 0)))] I E
  refine gw_ifb_ne 9 d_Borders_delete_5 (by decide) (fun hc => ?_) (fun hc => ?_)
  · have h := h.1 (of_decide_eq_true hc)
    refine gw_iload_n 1 d_Borders_delete_9 rfl rfl ?_
    refine gw_iconst d_Borders_delete_10 ?_
    refine gw_iadd d_Borders_delete_11 ?_
    refine gw_istore_n 2 d_Borders_delete_12 rfl (Nat.le_of_ble_eq_true rfl) rfl ?_
    exact gw_le h (by exact ⟨rfl, ⟨rfl, trivial⟩⟩)
  · have h := h.2 (of_decide_eq_false hc)
    exact gw_return d_Borders_delete_8 rfl h
theorem k_Borders_delete_13 {G : ga_G} {d : Nat} {I : ga_I} {E : Option ga_V → ga_I → Prop} {k : Nat} {v2 : Int} (hk : ga_isB k) (r2 : ga_rg v2)
    (h : ga_RG I → (((I k 0) ≤ v2) → E none (ga_up I k 0 (ga_wr ((I k 0) - 1)))) ∧ ((¬ ((I k 0) ≤ v2)) → (0 ≤ v2 ∧ v2 < 6) ∧ ((0 ≤ (v2 - 1) ∧ (v2 - 1) < 6) ∧ (ga_W G (d + 1) mt_Borders_delete 13 [some (.inr k), none, some (.inl (v2 + 1))] [] (gx_cb I k v2 (v2 - 1)) E)))) :
    ga_W G (d + 1) mt_Borders_delete 13 [some (.inr k), none, some (.inl v2)] [] I E := by
  refine gw_RG (fun hI1 => ?_)
  have h := h hI1
  refine gw_iload_n 2 d_Borders_delete_13 rfl rfl ?_
  refine gw_aload_n 0 d_Borders_delete_14 rfl rfl ?_
  refine gw_getI d_Borders_delete_15 fl_Borders_21 (hk.1) rfl ?_
  refine gw_icmp_ge 35 d_Borders_delete_18 (by decide) r2 (hI1 _ _) (fun hc => ?_) (fun hc => ?_)
  · have h := h.1 hc
    refine gw_aload_n 0 d_Borders_delete_35 rfl rfl ?_
    refine gw_dup d_Borders_delete_36 ?_
    refine gw_getI d_Borders_delete_37 fl_Borders_21 (hk.1) rfl ?_
    refine gw_iconst d_Borders_delete_40 ?_
    refine gw_isub d_Borders_delete_41 ?_
    refine gw_putI d_Borders_delete_42 fp_Borders_21 (hk.1) rfl ?_
    refine gw_RG (fun hI2 => ?_)
    exact gw_return d_Borders_delete_45 rfl h
  · have h := h.2 hc
    refine gw_aload_n 0 d_Borders_delete_21 rfl rfl ?_
    refine gw_iload_n 2 d_Borders_delete_22 rfl rfl ?_
    refine gw_iload_n 2 d_Borders_delete_23 rfl rfl ?_
    refine gw_iconst d_Borders_delete_24 ?_
    refine gw_isub d_Borders_delete_25 ?_
    obtain ⟨g1, h⟩ := h
    obtain ⟨g2, h⟩ := h
    refine gw_invV (as := [.inl v2, .inl (v2 - 1)]) (k := k) (rest := []) (d' := d) d_Borders_delete_26 lk_Borders_58 (ga_rcv (hk.1) rfl rfl) rfl (Nat.le_of_ble_eq_true rfl) (Nat.le_of_ble_eq_true rfl) rfl rfl (s_Borders_copyBorder hk g1 g2 ?_)
    show ga_W G (d + 1) mt_Borders_delete 29 [some (.inr k), none, some (.inl v2)] [] (gx_cb I k v2 (v2 - 1)) E
    refine gw_RG (fun hI3 => ?_)
    refine gw_iinc 2 d_Borders_delete_29 rfl rfl ?_
    refine gw_goto 13 d_Borders_delete_32 (by decide) ?_
    exact gw_le h (by exact ⟨rfl, ⟨rfl, trivial⟩⟩)

section LG
variable {G : ga_G} {d : Nat} {E : Option ga_V → ga_I → Prop} {k : Nat}
theorem gx_sh_k {I : ga_I} {k lo hi : Nat} {a : Nat} (h : a < k + 1 ∨ k + 4 ≤ a) : gx_sh I k lo hi a = I a := by
  funext j
  unfold gx_sh
  rw [if_neg (by omega)]
theorem gx_sd_k {I : ga_I} {k lo hi : Nat} {a : Nat} (h : a < k + 1 ∨ k + 4 ≤ a) : gx_sd I k lo hi a = I a := by
  funext j
  unfold gx_sd
  rw [if_neg (by omega)]
theorem l_Borders_insert (hk : ga_isB k) (I : ga_I) (n c : Nat) (hn : (n : Int) = I k 0) (hn6 : n < 6) (hc : c ≤ n) {x q r : Int} (hx : ga_rg x) (hq : ga_rg q) (hr : ga_rg r) (h : ∀ I', gr_in I I' k c n x q r → E (some (.inl (c : Int))) I') : ∀ (m b : Nat), c + m = b → b ≤ n → ga_W G (d + 1) mt_Borders_insert 23 [some (.inr k), some (.inl x), some (.inl q), some (.inl r), some (.inl (c : Int)), some (.inl (b : Int))] [] (gx_sh I k b n) E := by
  intro m
  induction m with
  | zero =>
    intro b hb hbn
    refine k_Borders_insert_23 hk ⟨by omega, by omega⟩ ⟨by omega, by omega⟩ (fun hI => ⟨fun h1 => ⟨by omega, by omega, ?_⟩, fun h1 => by exfalso; omega⟩)
    rw [ga_wr_eq hx, ga_wr_eq hq, ga_wr_eq hr, ga_up_ne (a := k) (by omega), ga_up_ne (a := k) (by omega), ga_up_ne (a := k) (by omega), gx_sh_k (a := k) (by omega), ga_wr_eq ⟨by omega, by omega⟩, Int.toNat_natCast]
    have hbc : b = c := by omega
    subst hbc
    apply h
    refine ⟨ga_up_at, ?_, ?_, ?_, fun a ha => ?_⟩
    · funext j
      rw [ga_up_ne (by omega), ga_up_ne (by omega), ga_up_ne (by omega)]
      unfold ga_up gx_sh gx_in
      by_cases e1 : j < b
      · rw [if_neg (by omega), if_neg (by omega), if_pos e1]
      · by_cases e2 : j = b
        · rw [if_pos ⟨rfl, e2⟩, if_neg e1, if_pos e2]
        · by_cases e3 : j ≤ n
          · rw [if_neg (by omega), if_pos ⟨Or.inl rfl, by omega, e3⟩, if_neg e1, if_neg e2, if_pos e3]
          · rw [if_neg (by omega), if_neg (by omega), if_neg e1, if_neg e2, if_neg e3]
    · funext j
      rw [ga_up_ne (by omega), ga_up_ne (by omega)]
      unfold ga_up gx_sh gx_in
      by_cases e1 : j < b
      · rw [if_neg (by omega), if_neg (by omega), if_neg (by omega), if_pos e1]
      · by_cases e2 : j = b
        · rw [if_pos ⟨rfl, e2⟩, if_neg e1, if_pos e2]
        · by_cases e3 : j ≤ n
          · rw [if_neg (by omega), if_neg (by omega), if_pos ⟨Or.inr (Or.inl rfl), by omega, e3⟩, if_neg e1, if_neg e2, if_pos e3]
          · rw [if_neg (by omega), if_neg (by omega), if_neg (by omega), if_neg e1, if_neg e2, if_neg e3]
    · funext j
      rw [ga_up_ne (by omega)]
      unfold ga_up gx_sh gx_in
      by_cases e1 : j < b
      · rw [if_neg (by omega), if_neg (by omega), if_neg (by omega), if_neg (by omega), if_pos e1]
      · by_cases e2 : j = b
        · rw [if_pos ⟨rfl, e2⟩, if_neg e1, if_pos e2]
        · by_cases e3 : j ≤ n
          · rw [if_neg (by omega), if_neg (by omega), if_neg (by omega), if_pos ⟨Or.inr (Or.inr rfl), by omega, e3⟩, if_neg e1, if_neg e2, if_pos e3]
          · rw [if_neg (by omega), if_neg (by omega), if_neg (by omega), if_neg (by omega), if_neg e1, if_neg e2, if_neg e3]
    · funext j
      rw [ga_up_ne (by omega), ga_up_ne (by omega), ga_up_ne (by omega), ga_up_ne (by omega), gx_sh_k (by omega)]
  | succ m ih =>
    intro b hb hbn
    obtain ⟨b', rfl⟩ : ∃ b', b = b' + 1 := ⟨b - 1, by omega⟩
    have e := ih b' (by omega) (by omega)
    refine k_Borders_insert_23 hk ⟨by omega, by omega⟩ ⟨by omega, by omega⟩ (fun hI => ⟨fun h1 => by exfalso; omega, fun h1 => ⟨by omega, by omega, ?_⟩⟩)
    refine gw_eq e ?_ ?_
    · rw [show ((b' + 1 : Nat) : Int) + (-1) = (b' : Int) by omega]
    · rw [show ((b' + 1 : Nat) : Int) - 1 = (b' : Int) by omega]
      exact (gx_sh_step I k b' n (by omega)).symm
theorem s_Borders_insert {I : ga_I} (hk : ga_isB k) (hok : gb_ok I k) (hn6 : I k 0 < 6) {x q r : Int} (hx : ga_rg x) (hq : ga_rg q) (hr : ga_rg r) (h : ∀ I', gr_in I I' k (gp_st (I (k + 1)) x (I k 0).toNat).toNat (I k 0).toNat x q r → E (some (.inl (gp_st (I (k + 1)) x (I k 0).toNat))) I') : ga_W G (d + 1) mt_Borders_insert 0 (ga_en 6 [.inr k, .inl x, .inl q, .inl r]) [] I E := by
  have h0 := hok.1
  have hs := gp_ct_le (fun b => decide (I (k + 1) b ≤ x)) (I k 0).toNat
  refine k_Borders_insert_0 hk hx (fun hI => ⟨hok, fun h1 => ?_, fun h1 => by exfalso; omega⟩)
  have e := l_Borders_insert (G := G) (d := d) hk I (I k 0).toNat (gp_st (I (k + 1)) x (I k 0).toNat).toNat (by omega) (by omega) (by unfold gp_st; omega) hx hq hr (by
    rw [show (((gp_st (I (k + 1)) x (I k 0).toNat).toNat : Nat) : Int) = gp_st (I (k + 1)) x (I k 0).toNat by unfold gp_st; omega]
    exact h) ((I k 0).toNat - (gp_st (I (k + 1)) x (I k 0).toNat).toNat) (I k 0).toNat (by unfold gp_st; omega) (Nat.le_refl _)
  refine gw_eq e ?_ (gx_sh_0 I k _)
  rw [show (((gp_st (I (k + 1)) x (I k 0).toNat).toNat : Nat) : Int) = gp_st (I (k + 1)) x (I k 0).toNat by unfold gp_st; omega, show (((I k 0).toNat : Nat) : Int) = I k 0 by omega]
theorem l_Borders_delete (hk : ga_isB k) (I : ga_I) (n c : Nat) (hn : (n : Int) = I k 0) (hn6 : n ≤ 6) (hc : c < n) (h : ∀ I', gr_de I I' k c n → E none I') : ∀ (m b : Nat), b + m + 1 = n → c ≤ b → ga_W G (d + 1) mt_Borders_delete 13 [some (.inr k), none, some (.inl ((b : Int) + 1))] [] (gx_sd I k c b) E := by
  intro m
  induction m with
  | zero =>
    intro b hb hbn
    refine k_Borders_delete_13 hk ⟨by omega, by omega⟩ (fun hI => ⟨fun h1 => ?_, fun h1 => ?_⟩)
    · rw [gx_sd_k (a := k) (by omega), ga_wr_eq ⟨by omega, by omega⟩]
      apply h
      refine ⟨ga_up_at, ?_, ?_, ?_, fun a ha => ?_⟩
      · funext j
        rw [ga_up_ne (by omega)]
        unfold gx_sd gx_de
        by_cases e : c ≤ j ∧ j < b
        · rw [if_pos ⟨Or.inl rfl, e.1, e.2⟩, if_pos ⟨e.1, by omega⟩]
        · rw [if_neg (by omega), if_neg (by omega)]
      · funext j
        rw [ga_up_ne (by omega)]
        unfold gx_sd gx_de
        by_cases e : c ≤ j ∧ j < b
        · rw [if_pos ⟨Or.inr (Or.inl rfl), e.1, e.2⟩, if_pos ⟨e.1, by omega⟩]
        · rw [if_neg (by omega), if_neg (by omega)]
      · funext j
        rw [ga_up_ne (by omega)]
        unfold gx_sd gx_de
        by_cases e : c ≤ j ∧ j < b
        · rw [if_pos ⟨Or.inr (Or.inr rfl), e.1, e.2⟩, if_pos ⟨e.1, by omega⟩]
        · rw [if_neg (by omega), if_neg (by omega)]
      · funext j
        rw [ga_up_ne (by omega), gx_sd_k (by omega)]
    · rw [gx_sd_k (a := k) (by omega)] at h1
      exfalso; omega
  | succ m ih =>
    intro b hb hbn
    have e := ih (b + 1) (by omega) (by omega)
    refine k_Borders_delete_13 hk ⟨by omega, by omega⟩ (fun hI => ⟨fun h1 => ?_, fun h1 => ⟨by omega, by omega, ?_⟩⟩)
    · rw [gx_sd_k (a := k) (by omega)] at h1
      exfalso; omega
    · refine gw_eq e rfl ?_
      exact (gx_sd_step I k c b hbn).symm
theorem s_Borders_delete {I : ga_I} (hk : ga_isB k) (hok : gb_ok I k) {b : Int} (hb : 0 ≤ b ∧ b < I k 0) (h : ∀ I', gr_de I I' k b.toNat (I k 0).toNat → E none I') : ga_W G (d + 1) mt_Borders_delete 0 (ga_en 3 [.inr k, .inl b]) [] I E := by
  have h6 := hok.2.1
  refine k_Borders_delete_0 hk ⟨by omega, by omega⟩ (fun hI => ⟨fun h1 => ?_, fun h1 => absurd hb h1⟩)
  have e := l_Borders_delete (G := G) (d := d) hk I (I k 0).toNat b.toNat (by omega) (by omega) (by omega) h ((I k 0).toNat - b.toNat - 1) b.toNat (by omega) (Nat.le_refl _)
  refine gw_eq e ?_ (gx_sd_0 I k _)
  rw [show ((b.toNat : Nat) : Int) = b by omega]
end LG
