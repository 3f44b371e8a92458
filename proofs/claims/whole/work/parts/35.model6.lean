/-! the reference: moves' parts, edits -/
section MG
variable {G : ga_G} {d : Nat} {I : ga_I} {E : Option ga_V → ga_I → Prop}
/-- the value of a gain at a place in zones -/
def mp_va (s : Nat → Int) (g z0 c0 z1 c1 : Int) : Int := gp_va (mp_f s 0 z0 c0) (mp_f s 1 z1 c1) (fun c r => s (38 + 4 * (7 * c + r) + g).toNat)
def mp_pv (s : Nat → Int) (g : Int) : Int := mp_va s g (s 236) (s 234) (s 237) (s 235)
theorem mx_lp_s {a : Nat} (h : a < 353 ∨ 357 ≤ a) : mx_lp I a = I a := by
  unfold mx_lp
  rw [mx_lo_s _ _ _ h, mx_lo_s _ _ _ h]
theorem mx_lp_0 : mo_v (mx_lp I) 0 = mp_f (I 349) 0 (I 349 236) (I 349 234) := by
  have u : ∀ (J : ga_I) (v : Int × Int × Int × Int), mo_v (mx_lo J 1 v) 0 = mo_v J 0 := fun J v => by
    unfold mo_v mx_lo
    rw [ga_up_nj (a := 353) (by decide), ga_up_nj (a := 353) (by decide), ga_up_nj (a := 353) (by decide), ga_up_nj (a := 353) (by decide), ga_up_nj (a := 354) (by decide), ga_up_nj (a := 354) (by decide), ga_up_nj (a := 354) (by decide), ga_up_nj (a := 354) (by decide), ga_up_nj (a := 355) (by decide), ga_up_nj (a := 355) (by decide), ga_up_nj (a := 355) (by decide), ga_up_nj (a := 355) (by decide), ga_up_nj (a := 356) (by decide), ga_up_nj (a := 356) (by decide), ga_up_nj (a := 356) (by decide), ga_up_nj (a := 356) (by decide)]
  unfold mx_lp
  rw [u]
  rfl
theorem mx_lp_1 : mo_v (mx_lp I) 1 = mp_f (I 349) 1 (I 349 237) (I 349 235) := rfl
theorem mp_f_k {ax z c : Int} (h : mo_ok I ax) (hc : 0 ≤ c ∧ c ≤ 1000) : gp_vk (mp_f (I 349) ax z c) := gp_fi_k h hc
theorem mp_va_bd {g z0 c0 z1 c1 : Int} (h0 : mo_ok I 0) (h1 : mo_ok I 1) (hc0 : 0 ≤ c0 ∧ c0 ≤ 1000) (hc1 : 0 ≤ c1 ∧ c1 ≤ 1000) (hg : 0 ≤ g ∧ g ≤ 2) (hm : mo_g I) : 0 ≤ mp_va (I 349) g z0 c0 z1 c1 ∧ mp_va (I 349) g z0 c0 z1 c1 ≤ 9999 := gp_va_bd (mp_f_k h0 hc0) (mp_f_k h1 hc1) (mo_g_f hg hm)
theorem mp_pv_bd {g : Int} (h0 : mo_ok I 0) (h1 : mo_ok I 1) (hz : mo_pz I) (hg : 0 ≤ g ∧ g ≤ 2) (hm : mo_g I) : 0 ≤ mp_pv (I 349) g ∧ mp_pv (I 349) g ≤ 9999 := mp_va_bd h0 h1 hz.1 hz.2.1 hg hm
def mx_nv (I : ga_I) : ga_I := ga_up (ga_up (ga_up (mx_lp I) 357 0 (mp_pv (I 349) 0)) 357 1 (mp_pv (I 349) 1)) 357 2 (mp_pv (I 349) 2)
theorem s_Mo_noteValues (h0 : mo_ok I 0) (h1 : mo_ok I 1) (hz : mo_pz I) (hm : mo_g I) (h : E none (mx_nv I)) : ga_W G (d + 4) mt_Mo_noteValues 0 (ga_en 2 [.inr 348]) [] I E := by
  have step : ∀ (J : ga_I) (g : Int), 0 ≤ g → g ≤ 2 → (∀ a, a ≠ 357 → J a = mx_lp I a) → ga_W G (d + 4) mt_Mo_noteValues 6 [some (.inr 348), some (.inl (g + 1))] [] (ga_up J 357 g.toNat (mp_pv (I 349) g)) E → ga_W G (d + 4) mt_Mo_noteValues 6 [some (.inr 348), some (.inl g)] [] J E := fun J g g0 g2 hJ K => by
    have hs : J 349 = I 349 := by rw [hJ 349 (by decide), mx_lp_s (by omega)]
    have ev0 : mo_v J 0 = mp_f (I 349) 0 (I 349 236) (I 349 234) := by rw [← mx_lp_0]; unfold mo_v; rw [hJ _ (by decide), hJ _ (by decide), hJ _ (by decide), hJ _ (by decide)]
    have ev1 : mo_v J 1 = mp_f (I 349) 1 (I 349 237) (I 349 235) := by rw [← mx_lp_1]; unfold mo_v; rw [hJ _ (by decide), hJ _ (by decide), hJ _ (by decide), hJ _ (by decide)]
    have hb := mp_pv_bd (g := g) h0 h1 hz ⟨g0, g2⟩ hm
    refine k_Mo_noteValues_6 ⟨by omega, by omega⟩ (fun hI => ⟨fun q => by exfalso; omega, fun q => ⟨?_, ?_, by omega, ?_, fun z1 hz1 => ⟨by omega, by omega, fun J2 e2 => ?_⟩⟩⟩)
    · rw [ev0]; exact mp_f_k h0 hz.1
    · rw [ev1]; exact mp_f_k h1 hz.2.1
    · unfold mo_g; rw [hs]; exact hm
    · rw [ev0, ev1, hs] at hz1
      change z1 = mp_pv (I 349) g at hz1
      rw [hz1, ga_wr_eq ⟨by omega, by omega⟩] at e2
      rw [e2]; exact K
  refine k_Mo_noteValues_0 (fun hI => ⟨h0, h1, hz, fun I1 e1 => ?_⟩)
  subst e1
  refine step _ 0 (by omega) (by omega) (fun _ _ => rfl) ?_
  refine step _ (0 + 1) (by omega) (by omega) (fun a ha => by rw [ga_up_fn ha]) ?_
  refine step _ (0 + 1 + 1) (by omega) (by omega) (fun a ha => by rw [ga_up_fn ha, ga_up_fn ha]) ?_
  exact k_Mo_noteValues_6 ⟨by omega, by omega⟩ (fun hI => ⟨fun q => h, fun q => by exfalso; omega⟩)
def gp_j3 (a b c : Int) : Int := max (max (max 0 a) b) c
theorem s_Mo_jump (h0 : mo_ok I 0) (h1 : mo_ok I 1) (hz : mo_pz I) (hm : mo_g I) (ha : mo_ah I) (h : E (some (.inl (gp_j3 ((mp_pv (I 349) 0 - I 357 0).natAbs : Int) ((mp_pv (I 349) 1 - I 357 1).natAbs : Int) ((mp_pv (I 349) 2 - I 357 2).natAbs : Int)))) (mx_lp I)) : ga_W G (d + 4) mt_Mo_jump 0 (ga_en 4 [.inr 348]) [] I E := by
  have hs : mx_lp I 349 = I 349 := mx_lp_s (by omega)
  have hA : mx_lp I 357 = I 357 := mx_lp_s (by omega)
  have step : ∀ (w g : Int), 0 ≤ g → g ≤ 2 → (0 ≤ w ∧ w ≤ 9999) → ga_W G (d + 4) mt_Mo_jump 8 [some (.inr 348), some (.inl (max w ((mp_pv (I 349) g - I 357 g.toNat).natAbs : Int))), some (.inl (g + 1)), none] [] (mx_lp I) E → ga_W G (d + 4) mt_Mo_jump 8 [some (.inr 348), some (.inl w), some (.inl g), none] [] (mx_lp I) E := fun w g g0 g2 hw K => by
    have hb := mp_pv_bd (g := g) h0 h1 hz ⟨g0, g2⟩ hm
    have hah := ha g.toNat (by omega)
    refine k_Mo_jump_8 ⟨by omega, by omega⟩ ⟨by omega, by omega⟩ (fun hI => ⟨fun q => by exfalso; omega, fun q => ⟨?_, ?_, by omega, ?_, fun z1 hz1 => ⟨by omega, by omega, ?_, fun z2 hz2 => ?_⟩⟩⟩)
    · rw [mx_lp_0]; exact mp_f_k h0 hz.1
    · rw [mx_lp_1]; exact mp_f_k h1 hz.2.1
    · unfold mo_g; rw [hs]; exact hm
    · rw [mx_lp_0, mx_lp_1, hs] at hz1
      change z1 = mp_pv (I 349) g at hz1
      constructor <;> omega
    · rw [mx_lp_0, mx_lp_1, hs] at hz1
      change z1 = mp_pv (I 349) g at hz1
      rw [hA, hz1] at hz2
      refine ⟨⟨by omega, by omega⟩, fun h2 => ?_, fun h2 => ?_⟩
      · refine gw_eq K ?_ rfl
        rw [show max w ((mp_pv (I 349) g - I 357 g.toNat).natAbs : Int) = w by omega]
      · refine gw_eq K ?_ rfl
        rw [show max w ((mp_pv (I 349) g - I 357 g.toNat).natAbs : Int) = z2 by omega]
  have b0 := mp_pv_bd (g := 0) h0 h1 hz (by omega) hm
  have b1 := mp_pv_bd (g := 1) h0 h1 hz (by omega) hm
  have b2 := mp_pv_bd (g := 2) h0 h1 hz (by omega) hm
  have a0 := ha 0 (by omega)
  have a1 := ha 1 (by omega)
  have a2 := ha 2 (by omega)
  unfold gp_j3 at h
  refine k_Mo_jump_0 (fun hI => ⟨h0, h1, hz, fun I1 e1 => ?_⟩)
  subst e1
  refine step 0 0 (by omega) (by omega) (by omega) ?_
  refine step _ (0 + 1) (by omega) (by omega) (by show 0 ≤ max 0 ((mp_pv (I 349) 0 - I 357 0).natAbs : Int) ∧ max 0 ((mp_pv (I 349) 0 - I 357 0).natAbs : Int) ≤ 9999; omega) ?_
  refine step _ (0 + 1 + 1) (by omega) (by omega) (by show 0 ≤ max (max 0 ((mp_pv (I 349) 0 - I 357 0).natAbs : Int)) ((mp_pv (I 349) 1 - I 357 1).natAbs : Int) ∧ max (max 0 ((mp_pv (I 349) 0 - I 357 0).natAbs : Int)) ((mp_pv (I 349) 1 - I 357 1).natAbs : Int) ≤ 9999; omega) ?_
  refine k_Mo_jump_8 ?_ ⟨by omega, by omega⟩ (fun hI => ⟨fun q => h, fun q => by exfalso; omega⟩)
  show ga_rg (max (max (max 0 ((mp_pv (I 349) 0 - I 357 0).natAbs : Int)) ((mp_pv (I 349) 1 - I 357 1).natAbs : Int)) ((mp_pv (I 349) 2 - I 357 2).natAbs : Int))
  constructor <;> omega
theorem s_Mo_isIgnored {x y : Int} (hx : 0 ≤ x ∧ x ≤ 1000) (hy : 0 ≤ y ∧ y ≤ 1000) (hz : mo_pz I) (h : E (some (.inl (ga_bb (decide (((x - I 349 234).natAbs : Int) < I 349 238 ∧ ((y - I 349 235).natAbs : Int) < I 349 238))))) I) : ga_W G (d + 1) mt_Mo_isIgnored 0 (ga_en 3 [.inr 348, .inl x, .inl y]) [] I E := by
  obtain ⟨p1, p2, -, -⟩ := hz
  refine k_Mo_isIgnored_0 ⟨by omega, by omega⟩ ⟨by omega, by omega⟩ (fun hI => ⟨⟨by omega, by omega⟩, fun h1 => ?_, fun h1 => ⟨⟨by omega, by omega⟩, fun h2 => ?_, fun h2 => ?_⟩⟩)
  · exact ga_bF (decide_eq_false (by omega)) h
  · exact ga_bF (decide_eq_false (by omega)) h
  · exact ga_bT (decide_eq_true (by omega)) h
def mx_sh (I : ga_I) (m : Nat) : ga_I := fun a j => if a = 349 ∧ 255 ≤ j ∧ j < m then I 349 (j + 8) else I a j
def mx_ne (I : ga_I) : ga_I := if I 349 254 = 20 then mx_sh I 407 else ga_up I 349 254 (I 349 254 + 1)
theorem l_Mo_newEntry (I : ga_I) (hn : I 349 254 = 20) (h : E (some (.inl (255 + 8 * (min (I 349 254 + 1) 20 - 1)))) (mx_sh I 407)) : ∀ (j m : Nat), m + j = 407 → 255 ≤ m → ga_W G d mt_Mo_newEntry 17 [some (.inr 348), some (.inl (m : Int))] [] (mx_sh I m) E := by
  intro j
  induction j with
  | zero =>
    intro m hm hm2
    have e0 : mx_sh I m 349 254 = 20 := by unfold mx_sh; rw [if_neg (by omega)]; exact hn
    refine k_Mo_newEntry_17 ⟨by omega, by omega⟩ (fun hI => ⟨fun h1 I1 e1 I2 e2 => ?_, fun h1 => by exfalso; omega⟩)
    rw [e0, ga_wr_eq ⟨by omega, by omega⟩] at e1
    have e3 : I1 349 254 = 20 - 1 := by rw [e1, ga_up_at]
    rw [e3, ga_wr_eq ⟨by omega, by omega⟩] at e2
    have e4 : I2 = mx_sh I 407 := by
      rw [e2, e1]
      funext a b
      by_cases q : a = 349 ∧ b = 254
      · rw [q.1, q.2, ga_up_at, ← show m = 407 by omega, e0]; rfl
      · rw [show ga_up (ga_up (mx_sh I m) 349 254 (20 - 1)) 349 254 (20 - 1 + 1) a b = mx_sh I m a b from (if_neg q).trans (if_neg q), show m = 407 by omega]
    have e5 : mx_sh I 407 349 254 = 20 := by rw [← show m = 407 by omega]; exact e0
    rw [e4, e5]
    rw [hn] at h
    exact h
  | succ j ih =>
    intro m hm hm2
    have e := ih (m + 1) (by omega) (by omega)
    refine k_Mo_newEntry_17 ⟨by omega, by omega⟩ (fun hI => ⟨fun h1 => by exfalso; omega, fun h1 => ⟨by omega, by omega, by omega, by omega, fun I1 e1 => ?_⟩⟩)
    refine gw_eq e rfl ?_
    rw [e1, Int.toNat_natCast, show ((m : Int) + 8).toNat = m + 8 by omega]
    funext a b
    by_cases q : a = 349 ∧ b = m
    · rw [q.1, q.2, ga_up_at]
      unfold mx_sh
      rw [if_pos (by omega), if_neg (by omega)]
    · rw [show ga_up (mx_sh I m) 349 m (mx_sh I m 349 (m + 8)) a b = mx_sh I m a b from if_neg q]
      unfold mx_sh
      by_cases w : a = 349 ∧ 255 ≤ b ∧ b < m
      · rw [if_pos w, if_pos (by omega)]
      · rw [if_neg w, if_neg (by omega)]
theorem s_Mo_newEntry (hn : 0 ≤ I 349 254 ∧ I 349 254 ≤ 20) (h : E (some (.inl (255 + 8 * (min (I 349 254 + 1) 20 - 1)))) (mx_ne I)) : ga_W G d mt_Mo_newEntry 0 (ga_en 2 [.inr 348]) [] I E := by
  refine k_Mo_newEntry_0 (fun hI => ⟨fun h1 I1 e1 => ?_, fun h1 => ?_⟩) <;> unfold mx_ne at h
  · rw [if_neg h1] at h
    rw [ga_wr_eq ⟨by omega, by omega⟩] at e1
    rw [e1, ga_up_at]
    rw [show min (I 349 254 + 1) 20 = I 349 254 + 1 by omega] at h
    exact h
  · rw [if_pos h1] at h
    have e := l_Mo_newEntry (G := G) (d := d) (E := E) I h1 h 152 255 (by omega) (by omega)
    refine gw_eq e rfl ?_
    funext a b
    unfold mx_sh
    rw [if_neg (by omega)]
def mp_ra (lock g step budget op z : Int) : Int := if lock ≠ -1 ∧ lock ≠ op then 1 else if step < ((g - z).natAbs : Int) then 2 else if budget < ((g - z).natAbs : Int) then 3 else 0
theorem s_Mo_refusalOf {op c r i z : Int} (h1 : 0 ≤ op ∧ op ≤ 2) (h2 : 0 ≤ c ∧ c ≤ 6) (h3 : 0 ≤ r ∧ r ≤ 6) (h4 : 0 ≤ i ∧ i ≤ 2) (h5 : 0 ≤ z ∧ z ≤ 9999) (hm : mo_g I) (h : E (some (.inl (mp_ra (I 349 (38 + 4 * (7 * c + r) + 3).toNat) (I 349 (38 + 4 * (7 * c + r) + i).toNat) (I 349 (241 + 3 * op).toNat) (I 349 (241 + 3 * op + 1).toNat) op z))) I) : ga_W G (d + 1) mt_Mo_refusalOf 0 (ga_en 8 [.inr 348, .inl op, .inl c, .inl r, .inl i, .inl z]) [] I E := by
  have hv := mo_g_f h4 hm c r h2.1 h2.2 h3.1 h3.2
  unfold mp_ra at h
  refine k_Mo_refusalOf_0 ⟨by omega, by omega⟩ ⟨by omega, by omega⟩ (fun hI => ⟨by omega, by omega, by omega, by omega, fun q1 => ⟨by omega, by omega, ⟨by omega, by omega⟩, fun q2 => ⟨by omega, by omega, fun q3 => ?_, fun q3 => ?_⟩, fun q2 => ?_⟩, fun q1 => ⟨fun q0 => ⟨by omega, by omega, ⟨by omega, by omega⟩, fun q2 => ⟨by omega, by omega, fun q3 => ?_, fun q3 => ?_⟩, fun q2 => ?_⟩, fun q0 => ?_⟩⟩) <;> rw [← Int.add_zero (241 + 3 * op)] at h
  · rwa [if_neg (fun q => q.1 q1), if_neg (Int.not_lt.mpr q2), if_neg (by rw [Int.add_zero]; exact Int.not_lt.mpr q3)] at h
  · rwa [if_neg (fun q => q.1 q1), if_neg (Int.not_lt.mpr q2), if_pos (by rw [Int.add_zero]; exact Int.not_le.mp q3)] at h
  · rwa [if_neg (fun q => q.1 q1), if_pos (Int.not_le.mp q2)] at h
  · rwa [if_neg (fun q => q.2 q0), if_neg (Int.not_lt.mpr q2), if_neg (by rw [Int.add_zero]; exact Int.not_lt.mpr q3)] at h
  · rwa [if_neg (fun q => q.2 q0), if_neg (Int.not_lt.mpr q2), if_pos (by rw [Int.add_zero]; exact Int.not_le.mp q3)] at h
  · rwa [if_neg (fun q => q.2 q0), if_pos (Int.not_le.mp q2)] at h
  · rwa [if_pos ⟨q1, q0⟩] at h
def mx_ch (I : ga_I) (op : Int) (j : Nat) (z : Int) : ga_I := ga_up (ga_up (ga_up (ga_up I 349 (241 + 3 * op + 1).toNat (ga_wr (I 349 (241 + 3 * op + 1).toNat - ((I 349 j - z).natAbs : Int)))) 349 (241 + 3 * op + 2).toNat (ga_wr (I 349 (241 + 3 * op + 2).toNat + 1))) 349 (250 + op).toNat (ga_wr (I 349 (250 + op).toNat + (z - I 349 j)))) 349 j z
theorem s_Mo_change {op c r i z : Int} (h1 : 0 ≤ op ∧ op ≤ 2) (h2 : 0 ≤ c ∧ c ≤ 6) (h3 : 0 ≤ r ∧ r ≤ 6) (h4 : 0 ≤ i ∧ i ≤ 2) (h5 : 0 ≤ z ∧ z ≤ 9999) (hm : mo_g I) (h : E none (mx_ch I op (38 + 4 * (7 * c + r) + i).toNat z)) : ga_W G (d + 1) mt_Mo_change 0 (ga_en 7 [.inr 348, .inl op, .inl c, .inl r, .inl i, .inl z]) [] I E := by
  refine k_Mo_change_0 ⟨by omega, by omega⟩ (fun hI => ⟨by omega, by omega, by omega, by omega, fun z1 hz1 I1 e1 => ⟨by omega, by omega, fun I2 e2 => ⟨by omega, by omega, fun I3 e3 I4 e4 => ?_⟩⟩⟩)
  subst e4 e3 e2 e1 hz1
  rw [ga_up_nj (b := (250 + op).toNat) (by omega), ga_up_nj (b := (250 + op).toNat) (by omega), ga_up_nj (b := (241 + 3 * op + 2).toNat) (by omega)]
  exact h
end MG
theorem k_Mo_goTo_0 {G : ga_G} {d : Nat} {I : ga_I} {E : Option ga_V → ga_I → Prop} {v1 : Int} {v2 : Int} (r1 : ga_rg v1) (r2 : ga_rg v2)
    (h : ga_RG I → (∀ I1 : ga_I, I1 = (ga_up I 349 234 (ga_wr v1)) → (∀ I2 : ga_I, I2 = (ga_up I1 349 235 (ga_wr v2)) → (mo_ok I2 (0 : Int)) ∧ ((mo_n I2) ∧ ((0 ≤ (0 : Int) ∧ (0 : Int) ≤ 1) ∧ ((0 ≤ (I2 349 236) ∧ (I2 349 236) ≤ gp_ct (gp_sk (ms_q (I2 349) (0 : Int))) (ms_n (I2 349) (0 : Int)).toNat) ∧ ((∀ z1 : Int, z1 = gp_za (ms_p (I2 349) (0 : Int)) (ms_q (I2 349) (0 : Int)) (ms_r (I2 349) (0 : Int)) (ms_n (I2 349) (0 : Int)).toNat (I2 349 236) v1 → (∀ I3 : ga_I, I3 = (ga_up I2 349 236 (ga_wr z1)) → (mo_ok I3 (1 : Int)) ∧ ((mo_n I3) ∧ ((0 ≤ (1 : Int) ∧ (1 : Int) ≤ 1) ∧ ((0 ≤ (I3 349 237) ∧ (I3 349 237) ≤ gp_ct (gp_sk (ms_q (I3 349) (1 : Int))) (ms_n (I3 349) (1 : Int)).toNat) ∧ ((∀ z2 : Int, z2 = gp_za (ms_p (I3 349) (1 : Int)) (ms_q (I3 349) (1 : Int)) (ms_r (I3 349) (1 : Int)) (ms_n (I3 349) (1 : Int)).toNat (I3 349 237) v2 → (∀ I4 : ga_I, I4 = (ga_up I3 349 237 (ga_wr z2)) → E none I4))))))))))))))) :
    ga_W G (d + 3) mt_Mo_goTo 0 (ga_en 3 [.inr 348, .inl v1, .inl v2]) [] I E := by
  show ga_W G (d + 3) mt_Mo_goTo 0 [some (.inr 348), some (.inl v1), some (.inl v2)] [] I E
  refine gw_RG (fun hI1 => ?_)
  have h := h hI1
  refine gw_aload_n 0 d_Mo_goTo_0 rfl rfl ?_
  refine gw_getR d_Mo_goTo_1 fl_Mo_7 (ga_oM) rfl ?_
  refine gw_sipush d_Mo_goTo_4 (by decide +kernel) ?_
  refine gw_iload_n 1 d_Mo_goTo_7 rfl rfl ?_
  refine gw_iast d_Mo_goTo_8 (ga_aM1) (by decide) (by decide) ?_
  refine gw_nm (J := (ga_up I 349 234 (ga_wr v1))) (fun I1 q1 => ?_)
  have h := h I1 q1
  refine gw_RG (fun hI2 => ?_)
  refine gw_aload_n 0 d_Mo_goTo_9 rfl rfl ?_
  refine gw_getR d_Mo_goTo_10 fl_Mo_7 (ga_oM) rfl ?_
  refine gw_sipush d_Mo_goTo_13 (by decide +kernel) ?_
  refine gw_iload_n 2 d_Mo_goTo_16 rfl rfl ?_
  refine gw_iast d_Mo_goTo_17 (ga_aM1) (by decide) (by decide) ?_
  refine gw_nm (J := (ga_up I1 349 235 (ga_wr v2))) (fun I2 q2 => ?_)
  have h := h I2 q2
  refine gw_RG (fun hI3 => ?_)
  refine gw_aload_n 0 d_Mo_goTo_18 rfl rfl ?_
  refine gw_getR d_Mo_goTo_19 fl_Mo_7 (ga_oM) rfl ?_
  refine gw_sipush d_Mo_goTo_22 (by decide +kernel) ?_
  refine gw_aload_n 0 d_Mo_goTo_25 rfl rfl ?_
  refine gw_iconst d_Mo_goTo_26 ?_
  refine gw_aload_n 0 d_Mo_goTo_27 rfl rfl ?_
  refine gw_getR d_Mo_goTo_28 fl_Mo_7 (ga_oM) rfl ?_
  refine gw_sipush d_Mo_goTo_31 (by decide +kernel) ?_
  refine gw_iald d_Mo_goTo_34 (ga_aM1) (by decide) (by decide) ?_
  refine gw_iload_n 1 d_Mo_goTo_35 rfl rfl ?_
  obtain ⟨g1, h⟩ := h
  obtain ⟨g2, h⟩ := h
  obtain ⟨g3, h⟩ := h
  obtain ⟨g4, h⟩ := h
  refine gw_invV (as := [.inl 0, .inl (I2 349 236), .inl v1]) (k := 348) (rest := [.inl 236, .inr 349]) (d' := (d + 2)) d_Mo_goTo_36 lk_Mo_160 (ga_rcv (ga_oM) rfl rfl) rfl (Nat.le_of_ble_eq_true rfl) (Nat.le_of_ble_eq_true rfl) rfl rfl (s_Mo_zoneBehind g1 g2 g3 g4 r1 ?_)
  show ga_W G (d + 3) mt_Mo_goTo 39 [some (.inr 348), some (.inl v1), some (.inl v2)] [.inl (gp_za (ms_p (I2 349) (0 : Int)) (ms_q (I2 349) (0 : Int)) (ms_r (I2 349) (0 : Int)) (ms_n (I2 349) (0 : Int)).toNat (I2 349 236) v1), .inl 236, .inr 349] I2 E
  refine gw_nz (z := gp_za (ms_p (I2 349) (0 : Int)) (ms_q (I2 349) (0 : Int)) (ms_r (I2 349) (0 : Int)) (ms_n (I2 349) (0 : Int)).toNat (I2 349 236) v1) (fun z1 q3 => ?_)
  have h := h z1 q3
  refine gw_iast d_Mo_goTo_39 (ga_aM1) (by decide) (by decide) ?_
  refine gw_nm (J := (ga_up I2 349 236 (ga_wr z1))) (fun I3 q4 => ?_)
  have h := h I3 q4
  refine gw_RG (fun hI4 => ?_)
  refine gw_aload_n 0 d_Mo_goTo_40 rfl rfl ?_
  refine gw_getR d_Mo_goTo_41 fl_Mo_7 (ga_oM) rfl ?_
  refine gw_sipush d_Mo_goTo_44 (by decide +kernel) ?_
  refine gw_aload_n 0 d_Mo_goTo_47 rfl rfl ?_
  refine gw_iconst d_Mo_goTo_48 ?_
  refine gw_aload_n 0 d_Mo_goTo_49 rfl rfl ?_
  refine gw_getR d_Mo_goTo_50 fl_Mo_7 (ga_oM) rfl ?_
  refine gw_sipush d_Mo_goTo_53 (by decide +kernel) ?_
  refine gw_iald d_Mo_goTo_56 (ga_aM1) (by decide) (by decide) ?_
  refine gw_iload_n 2 d_Mo_goTo_57 rfl rfl ?_
  obtain ⟨g5, h⟩ := h
  obtain ⟨g6, h⟩ := h
  obtain ⟨g7, h⟩ := h
  obtain ⟨g8, h⟩ := h
  refine gw_invV (as := [.inl 1, .inl (I3 349 237), .inl v2]) (k := 348) (rest := [.inl 237, .inr 349]) (d' := (d + 2)) d_Mo_goTo_58 lk_Mo_160 (ga_rcv (ga_oM) rfl rfl) rfl (Nat.le_of_ble_eq_true rfl) (Nat.le_of_ble_eq_true rfl) rfl rfl (s_Mo_zoneBehind g5 g6 g7 g8 r2 ?_)
  show ga_W G (d + 3) mt_Mo_goTo 61 [some (.inr 348), some (.inl v1), some (.inl v2)] [.inl (gp_za (ms_p (I3 349) (1 : Int)) (ms_q (I3 349) (1 : Int)) (ms_r (I3 349) (1 : Int)) (ms_n (I3 349) (1 : Int)).toNat (I3 349 237) v2), .inl 237, .inr 349] I3 E
  refine gw_nz (z := gp_za (ms_p (I3 349) (1 : Int)) (ms_q (I3 349) (1 : Int)) (ms_r (I3 349) (1 : Int)) (ms_n (I3 349) (1 : Int)).toNat (I3 349 237) v2) (fun z2 q5 => ?_)
  have h := h z2 q5
  refine gw_iast d_Mo_goTo_61 (ga_aM1) (by decide) (by decide) ?_
  refine gw_nm (J := (ga_up I3 349 237 (ga_wr z2))) (fun I4 q6 => ?_)
  have h := h I4 q6
  refine gw_RG (fun hI5 => ?_)
  exact gw_return d_Mo_goTo_62 rfl h

section MH
variable {G : ga_G} {d : Nat} {I : ga_I} {E : Option ga_V → ga_I → Prop}
/-- the zones are zones -/
def mo_zn (I : ga_I) : Prop := (0 ≤ I 349 236 ∧ I 349 236 ≤ gp_ct (gp_sk (ms_q (I 349) 0)) (ms_n (I 349) 0).toNat) ∧ (0 ≤ I 349 237 ∧ I 349 237 ≤ gp_ct (gp_sk (ms_q (I 349) 1)) (ms_n (I 349) 1).toNat)
def mp_zb (s : Nat → Int) (ax z c : Int) : Int := gp_za (ms_p s ax) (ms_q s ax) (ms_r s ax) (ms_n s ax).toNat z c
def mx_go (I : ga_I) (x y : Int) : ga_I := ga_up (ga_up (ga_up (ga_up I 349 234 x) 349 235 y) 349 236 (mp_zb (I 349) 0 (I 349 236) x)) 349 237 (mp_zb (I 349) 1 (I 349 237) y)
theorem gp_up_cong {p q r p' q' r' : Nat → Int} {z c : Int} : ∀ {n : Nat}, (∀ b, b < n → p' b = p b ∧ q' b = q b ∧ r' b = r b) → gp_up p' q' r' z c n = gp_up p q r z c n
  | 0, _ => rfl
  | n + 1, h => by
    obtain ⟨h1, h2, h3⟩ := h n (by omega)
    have e : gp_ct (gp_sk q') n = gp_ct (gp_sk q) n := gp_ct_cong (fun b hb => by unfold gp_sk; rw [(h b (by omega)).2.1])
    unfold gp_up
    rw [h1, h2, h3, e, gp_up_cong (n := n) (fun b hb => h b (by omega))]
theorem gp_dn_cong {p q r p' q' r' : Nat → Int} {n : Nat} {a c : Int} (h : ∀ b, b < n → p' b = p b ∧ q' b = q b ∧ r' b = r b) : ∀ {j : Nat}, j ≤ n → gp_dn p' q' r' n a c j = gp_dn p q r n a c j
  | 0, _ => rfl
  | j + 1, hj => by
    obtain ⟨h1, h2, h3⟩ := h (n - 1 - j) (by omega)
    have e : gp_ct (gp_sk q') (n - j) = gp_ct (gp_sk q) (n - j) := gp_ct_cong (fun b hb => by unfold gp_sk; rw [(h b (by omega)).2.1])
    unfold gp_dn
    rw [h1, h2, h3, e, gp_dn_cong h (j := j) (by omega)]
theorem gp_za_cong {p q r p' q' r' : Nat → Int} {n : Nat} {z c : Int} (h : ∀ b, b < n → p' b = p b ∧ q' b = q b ∧ r' b = r b) : gp_za p' q' r' n z c = gp_za p q r n z c := by
  unfold gp_za
  rw [gp_up_cong h, gp_dn_cong h (Nat.le_refl n)]
theorem ms_up4 {I J : ga_I} (hJ : ∀ j, j < 38 → J 349 j = I 349 j) {ax : Int} (ha : 0 ≤ ax ∧ ax ≤ 1) : ms_n (J 349) ax = ms_n (I 349) ax ∧ ∀ b, b < 6 → ms_p (J 349) ax b = ms_p (I 349) ax b ∧ ms_q (J 349) ax b = ms_q (I 349) ax b ∧ ms_r (J 349) ax b = ms_r (I 349) ax b :=
  ⟨hJ _ (by omega), fun b hb => ⟨hJ _ (by omega), hJ _ (by omega), hJ _ (by omega)⟩⟩
theorem mo_ok_of {I J : ga_I} (hJ : ∀ j, j < 38 → J 349 j = I 349 j) {ax : Int} (ha : 0 ≤ ax ∧ ax ≤ 1) (h : mo_ok I ax) : mo_ok J ax := gp_ok_of h (ms_up4 hJ ha).1 (ms_up4 hJ ha).2
theorem mp_zb_of {I J : ga_I} (hJ : ∀ j, j < 38 → J 349 j = I 349 j) {ax z c : Int} (ha : 0 ≤ ax ∧ ax ≤ 1) (h : mo_ok I ax) : mp_zb (J 349) ax z c = mp_zb (I 349) ax z c := by
  have u := ms_up4 hJ ha
  have h6 := h.2.1
  unfold mp_zb
  rw [u.1]
  exact gp_za_cong (fun b hb => u.2 b (by omega))
theorem gp_sk_cong {q q' : Nat → Int} {n : Nat} (h : ∀ b, b < n → q' b = q b) : gp_ct (gp_sk q') n = gp_ct (gp_sk q) n := gp_ct_cong (fun b hb => by unfold gp_sk; rw [h b hb])
theorem mo_ct_of {I J : ga_I} (hJ : ∀ j, j < 38 → J 349 j = I 349 j) {ax : Int} (ha : 0 ≤ ax ∧ ax ≤ 1) (h : mo_ok I ax) : gp_ct (gp_sk (ms_q (J 349) ax)) (ms_n (J 349) ax).toNat = gp_ct (gp_sk (ms_q (I 349) ax)) (ms_n (I 349) ax).toNat := by
  have u := ms_up4 hJ ha
  have h6 := h.2.1
  rw [u.1]
  exact gp_sk_cong (fun b hb => (u.2 b (by omega)).2.1)
theorem s_Mo_goTo (h0 : mo_ok I 0) (h1 : mo_ok I 1) (hz : mo_zn I) {x y : Int} (hx : ga_rg x) (hy : ga_rg y) (h : E none (mx_go I x y)) : ga_W G (d + 3) mt_Mo_goTo 0 (ga_en 3 [.inr 348, .inl x, .inl y]) [] I E := by
  refine k_Mo_goTo_0 hx hy (fun hI I1 e1 I2 e2 => ?_)
  rw [ga_wr_eq hx] at e1
  rw [ga_wr_eq hy] at e2
  have c2 : ∀ j, j < 38 → I2 349 j = I 349 j := fun j hj => by rw [e2, ga_up_nj (by omega), e1, ga_up_nj (by omega)]
  have z0 : I2 349 236 = I 349 236 := by rw [e2, ga_up_nj (by omega), e1, ga_up_nj (by omega)]
  have z1 : I2 349 237 = I 349 237 := by rw [e2, ga_up_nj (by omega), e1, ga_up_nj (by omega)]
  have n0 := gp_ct_le (gp_sk (ms_q (I 349) 0)) (ms_n (I 349) 0).toNat
  have n1 := gp_ct_le (gp_sk (ms_q (I 349) 1)) (ms_n (I 349) 1).toNat
  have o0 := h0.2.1
  have o1 := h1.2.1
  have r0 := gp_za_zn (ms_p (I 349) 0) (ms_q (I 349) 0) (ms_r (I 349) 0) (ms_n (I 349) 0).toNat (I 349 236) x hz.1
  have r1 := gp_za_zn (ms_p (I 349) 1) (ms_q (I 349) 1) (ms_r (I 349) 1) (ms_n (I 349) 1).toNat (I 349 237) y hz.2
  refine ⟨mo_ok_of c2 (by omega) h0, mo_n_of (mo_ok_of c2 (by omega) h0) (mo_ok_of c2 (by omega) h1), by omega, ?_, fun w1 hw1 I3 e3 => ⟨?_, ?_, by omega, ?_, fun w2 hw2 I4 e4 => ?_⟩⟩
  · rw [mo_ct_of c2 (by omega) h0, z0]; exact hz.1
  · exact mo_ok_of (I := I) (fun j hj => by rw [e3, ga_up_nj (by omega)]; exact c2 j hj) (by omega) h1
  · exact mo_n_of (mo_ok_of (I := I) (fun j hj => by rw [e3, ga_up_nj (by omega)]; exact c2 j hj) (by omega) h0) (mo_ok_of (I := I) (fun j hj => by rw [e3, ga_up_nj (by omega)]; exact c2 j hj) (by omega) h1)
  · rw [mo_ct_of (I := I) (fun j hj => by rw [e3, ga_up_nj (by omega)]; exact c2 j hj) (by omega) h1, e3, ga_up_nj (by omega), z1]; exact hz.2
  · have q1 : w1 = mp_zb (I 349) 0 (I 349 236) x := by
      rw [hw1, z0]; exact mp_zb_of c2 (by omega) h0
    have q2 : w2 = mp_zb (I 349) 1 (I 349 237) y := by
      have t : I3 349 237 = I 349 237 := by rw [e3, ga_up_nj (by omega)]; exact z1
      rw [hw2, t]; exact mp_zb_of (fun j hj => by rw [e3, ga_up_nj (by omega)]; exact c2 j hj) (by omega) h1
    have b1 : 0 ≤ w1 ∧ w1 ≤ 6 := by rw [q1]; unfold mp_zb; omega
    have b2 : 0 ≤ w2 ∧ w2 ≤ 6 := by rw [q2]; unfold mp_zb; omega
    rw [ga_wr_eq ⟨by omega, by omega⟩] at e3
    rw [ga_wr_eq ⟨by omega, by omega⟩] at e4
    rw [e4, e3, e2, e1, q1, q2]
    exact h
end MH
