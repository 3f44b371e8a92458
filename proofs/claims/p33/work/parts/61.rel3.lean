/-! the class's world and the rows: what calls change -/
section RC
theorem rt_mg {I J : ga_I} {t : Nat} {s : Nat → Int} {ax b : Int} (hs : ni_t s) (h : rt I t s) (ha : 0 ≤ ax ∧ ax ≤ 1) (hb : 0 ≤ b ∧ b < ms_n s ax)
    (c : gr_mg I J t ax b.toNat (I (ga_bo t ax) 0).toNat) : rt J t (ns_de s ax b.toNat (ms_n s ax).toNat) ∧ ∀ a, a < t ∨ t + 11 ≤ a → J a = I a := by
  have hat := rt_at h ha
  rw [hat.1] at c
  have n0 := ni_n hs ha
  obtain ⟨k0, k1, k2, k3, kf⟩ := c
  have hbo : ga_bo t ax = t + 1 ∧ ax = 0 ∨ ga_bo t ax = t + 5 ∧ ax = 1 := by
    unfold ga_bo
    rcases (show ax = 0 ∨ ax = 1 by omega) with e | e <;> subst e
    · exact Or.inl ⟨rfl, rfl⟩
    · exact Or.inr ⟨rfl, rfl⟩
  have fK : ∀ a, a ≠ t + 9 → a ≠ t + 10 → gx_re I t (gp_upr ax (b.toNat + 2) ((ms_n s ax).toNat - b.toNat - 1)) a = I a := fun a h1 h2 => by
    unfold gx_re; funext j; rw [if_neg (fun w => h1 w.1), if_neg (fun w => h2 w.1)]
  have B1 : rt_b J (ga_bo t ax) (ns_de s ax b.toNat (ms_n s ax).toNat) ax := by
    have en : ms_n (ns_de s ax b.toNat (ms_n s ax).toNat) ax = ms_n s ax - 1 := by
      show ns_de s ax b.toNat (ms_n s ax).toNat (19 * ax).toNat = ms_n s ax - 1
      unfold ns_de; rw [if_pos rfl]; rfl
    refine ⟨?_, fun j hj => ?_⟩
    · rw [k0, fK _ (by omega) (by omega), hat.1, en]
    · rw [en] at hj
      obtain ⟨i1, i2, i3⟩ := ns_de_b (s := s) (ax := ax) (c := b.toNat) (n := (ms_n s ax).toNat) ha (by omega) (b := j) (by omega)
      rw [i1, i2, i3, k1, k2, k3, fK _ (by omega) (by omega), fK _ (by omega) (by omega), fK _ (by omega) (by omega)]
      have cg : ∀ f f' : Nat → Int, (∀ i : Nat, (i : Int) < ms_n s ax → f i = f' i) → gx_de f b.toNat (ms_n s ax).toNat j = gx_de f' b.toNat (ms_n s ax).toNat j := fun f f' hff => by
        unfold gx_de
        by_cases u1 : b.toNat ≤ j ∧ j + 1 < (ms_n s ax).toNat
        · rw [if_pos u1, if_pos u1]; exact hff (j + 1) (by omega)
        · rw [if_neg u1, if_neg u1]; exact hff j (by omega)
      exact ⟨cg _ _ (fun i hi => (hat.2 i hi).1), cg _ _ (fun i hi => (hat.2 i hi).2.1), cg _ _ (fun i hi => (hat.2 i hi).2.2)⟩
  have B2 : ∀ a, 0 ≤ a ∧ a ≤ 1 → a ≠ ax → rt_b J (ga_bo t a) (ns_de s ax b.toNat (ms_n s ax).toNat) a := fun a h2 hne => by
    have hbo2 : ga_bo t a = t + 1 ∧ a = 0 ∨ ga_bo t a = t + 5 ∧ a = 1 := by
      unfold ga_bo
      rcases (show a = 0 ∨ a = 1 by omega) with e | e <;> subst e
      · exact Or.inl ⟨rfl, rfl⟩
      · exact Or.inr ⟨rfl, rfl⟩
    have h3 := rt_at h h2
    have nn := ni_n hs h2
    have o : ∀ j, (19 * a).toNat ≤ j → j < (19 * a).toNat + 19 → ns_de s ax b.toNat (ms_n s ax).toNat j = s j := fun j w1 w2 => ns_de_o ha h2 hne (by omega) ⟨w1, w2⟩
    have e0 : ms_n (ns_de s ax b.toNat (ms_n s ax).toNat) a = ms_n s a := o _ (by omega) (by omega)
    have fI : ∀ i, i < 4 → J (ga_bo t a + i) = I (ga_bo t a + i) := fun i hi => by rw [kf _ (by omega), fK _ (by omega) (by omega)]
    refine ⟨by rw [e0, ← h3.1]; exact congrFun (fI 0 (by omega)) 0, fun j hj => ?_⟩
    rw [e0] at hj
    obtain ⟨g1, g2, g3⟩ := h3.2 j hj
    rw [fI 1 (by omega), fI 2 (by omega), fI 3 (by omega), g1, g2, g3]
    exact ⟨(o _ (by omega) (by omega)).symm, (o _ (by omega) (by omega)).symm, (o _ (by omega) (by omega)).symm⟩
  have B3 : ∀ a, 0 ≤ a ∧ a ≤ 1 → rt_b J (ga_bo t a) (ns_de s ax b.toNat (ms_n s ax).toNat) a := fun a h2 => by
    by_cases e : a = ax
    · rw [e]; exact B1
    · exact B2 a h2 e
  refine ⟨⟨B3 0 (by omega), B3 1 (by omega), fun g i hg hi => ?_, fun g hg => ?_⟩, fun a ha2 => ?_⟩
  · rw [kf _ (by omega)]
    unfold gx_re
    rw [if_pos ⟨rfl, by omega⟩, ns_de_g ha (by omega) hg (by omega), show (g * 3 + i) / 3 = g by omega, show (g * 3 + i) % 3 = i by omega]
    exact h.2.2.1 _ i (gp_upr_lt _ g (by omega) hg) hi
  · rw [kf _ (by omega)]
    unfold gx_re
    rw [if_neg (by omega), if_pos ⟨rfl, hg⟩, ns_de_g ha (by omega) hg (by omega)]
    exact h.2.2.2 _ (gp_upr_lt _ g (by omega) hg)
  · rw [kf a (by omega), fK a (by omega) (by omega)]
/-- the present state with another table, zones, margin, operators, accounts -/
theorem rs_gen {I J : ga_I} {s s' : Nat → Int} (hs : ni_s s) (h : rs I 1 s) (T : rt J 2 s') (Z : J 48 0 = s' 236 ∧ J 48 1 = s' 237) (M : J 1 7 = s' 238)
    (O : ∀ op : Nat, op < 3 → J 51 op = s' (241 + 3 * op) ∧ J 52 op = s' (241 + 3 * op + 1) ∧ J 53 op = s' (241 + 3 * op + 2)) (Ac : ∀ a : Nat, a < 4 → J 54 a = s' (250 + a))
    (e1 : ∀ a, (13 ≤ a ∧ a < 48) ∨ a = 49 ∨ a = 50 → J a = I a) (e2 : J 1 9 = I 1 9 ∧ J 1 10 = I 1 10) (e3 : ∀ j, (234 ≤ j ∧ j < 236) ∨ j = 239 ∨ j = 240 ∨ 254 ≤ j → s' j = s j) : rs J 1 s' := by
  obtain ⟨h1, h2, h3, h4, h5, h6, h7, h8, h9, h10⟩ := h
  have hn := hs.2.2.2.1
  refine ⟨T, fun p hp => ⟨by rw [e1 (1 + 45) (by omega), e3 _ (by omega)]; exact (h2 p hp).1, fun q => ?_⟩, by rw [e1 (1 + 46) (by omega), e3 _ (by omega), e3 _ (by omega)]; exact h3, Z, M, ?_, by rw [e2.1, e3 _ (by omega)]; exact h7, by rw [e2.2, e3 _ (by omega)]; exact h8, O, Ac⟩
  · rw [e3 _ (by omega)] at q
    exact rt_row ((hs.2.2.2.2 p hp).2 q) (fun j hj => e3 _ (by omega)) (rt_of (fun a w1 w2 => e1 a (by omega)) ((h2 p hp).2 q))
  · unfold rs_p
    rw [e1 (1 + 48) (by omega), e1 (1 + 48 + 1) (by omega), e3 254 (by omega)]
    exact ⟨h6.1, h6.2.1, fun b w hb hw => by rw [e3 _ (by omega)]; exact h6.2.2 b w hb hw⟩
/-- zones found anew behind another table -/
theorem rs_fz {I K : ga_I} {s s' : Nat → Int} (hs : ni_s s) (h : rs I 1 s) (T : rt K 2 s') (ht : ni_t s') (e : ∀ j, 234 ≤ j → j ≠ 253 → s' j = s j) (f : ∀ a, (a < 2 ∨ 13 ≤ a) → a ≠ 54 → K a = I a) (a3 : ∀ a : Nat, a < 4 → K 54 a = s' (250 + a)) : rs (gx_fz K 1) 1 (ns_fz s') ∧ ∀ a, a ≠ 48 → gx_fz K 1 a = K a := by
  have oz : ∀ a, a ≠ 48 → gx_fz K 1 a = K a := fun a ha => by unfold gx_fz; rw [ga_up_fn ha, ga_up_fn ha]
  have on : ∀ j, j ≠ 236 → j ≠ 237 → ns_fz s' j = s' j := fun j h1 h2 => by unfold ns_fz; rw [ns_up_ne h2, ns_up_ne h1]
  have hr := h
  obtain ⟨h1, h2, h3, h4, h5, h6, h7, h8, h9, h10⟩ := hr
  have z0 := rt_zo T.1 (K 47 0)
  have z1 := rt_zo T.2.1 (K 47 1)
  have p0 : K 47 0 = s' 234 ∧ K 47 1 = s' 235 := by rw [f 47 (by omega) (by omega), e _ (by omega) (by omega), e _ (by omega) (by omega)]; exact h3
  refine ⟨rs_gen hs h (rt_row ht (fun j hj => on j (by omega) (by omega)) (rt_of (fun a w1 w2 => oz a (by omega)) T)) ?_ ?_ (fun op ho => ?_) (fun a ha => ?_) (fun a ha => ?_) ?_ (fun j hj => ?_), oz⟩
  · unfold gx_fz ns_fz
    refine ⟨?_, ?_⟩
    · rw [ga_up_nj (by omega), ns_up_ne (by omega), ns_up_at, ← p0.1, ← z0]; exact ga_up_at
    · rw [ns_up_at, ← p0.2, ← z1]; exact ga_up_at
  · rw [oz _ (by omega), f 1 (by omega) (by omega), on _ (by omega) (by omega), e _ (by omega) (by omega)]; exact h5
  · rw [oz _ (by omega), oz _ (by omega), oz _ (by omega), f 51 (by omega) (by omega), f 52 (by omega) (by omega), f 53 (by omega) (by omega), on _ (by omega) (by omega), on _ (by omega) (by omega), on _ (by omega) (by omega), e _ (by omega) (by omega), e _ (by omega) (by omega), e _ (by omega) (by omega)]; exact h9 op ho
  · rw [oz _ (by omega), on _ (by omega) (by omega)]; exact a3 a ha
  · rw [oz _ (by omega), f a (by omega) (by omega)]
  · rw [oz _ (by omega), f 1 (by omega) (by omega)]; exact ⟨rfl, rfl⟩
  · rw [on _ (by omega) (by omega), e _ (by omega) (by omega)]
theorem rs_st {I K : ga_I} {s s' : Nat → Int} {z : Int} (hs : ni_s s) (h : rs I 1 s) (T : rt K 2 s') (ht : ni_t s') (e : ∀ j, 234 ≤ j → s' j = s j) (f : ∀ a, (a < 2 ∨ 13 ≤ a) → K a = I a) : rs (gx_st K 1 z) 1 (ns_st s' z) ∧ ∀ a, a ≠ 48 → a ≠ 54 → gx_st K 1 z a = K a := by
  have hg := rt_g3 ht T
  have h10 := h.2.2.2.2.2.2.2.2.2
  have w : ga_up K (1 + 53) 3 (ga_wr (K (1 + 53) 3 + (gp_tt (gp_g3 (K (1 + 10))) ((K (1 + 2) 0).toNat + 1) ((K (1 + 6) 0).toNat + 1) - z))) = ga_up K 54 3 (ga_wr (s' 253 + (ns_tt s' - z))) := by
    have e1 : K (1 + 53) 3 = s' 253 := by rw [f (1 + 53) (by omega), e _ (by omega)]; exact h10 3 (by omega)
    rw [e1]
    rw [show (1 + 53 : Nat) = 54 from rfl]
    congr 3
    congr 1
  unfold gx_st ns_st
  rw [w]
  obtain ⟨u1, u2⟩ := rs_fz (K := ga_up K 54 3 (ga_wr (s' 253 + (ns_tt s' - z)))) (s' := ns_up s' 253 (ga_wr (s' 253 + (ns_tt s' - z)))) hs h (rt_row ht (fun j hj => ns_up_ne (by omega)) (rt_of (fun a w1 w2 => ga_up_fn (by omega)) T)) (ni_t_of (fun j hj => ns_up_ne (by omega)) ht) (fun j h1 h2 => by rw [ns_up_ne h2, e j h1]) (fun a h1 h2 => by rw [ga_up_fn h2, f a h1]) (fun a ha => by
    by_cases q : a = 3
    · rw [q, ga_up_at, ns_up_at]
    · rw [ga_up_nj q, ns_up_ne (by omega), f 54 (by omega), e _ (by omega)]; exact h10 a ha)
  exact ⟨u1, fun a h1 h2 => by rw [u2 a h1, ga_up_fn h2]⟩
theorem rs_ra {I : ga_I} {s : Nat → Int} {op c r i z : Int} (hs : ni_s s) (h : rs I 1 s) (ho : 0 ≤ op ∧ op ≤ 2) (hc : 0 ≤ c ∧ c ≤ 6) (hr : 0 ≤ r ∧ r ≤ 6) (hi : 0 ≤ i ∧ i ≤ 2) :
    gp_ra (I 12 (c * 7 + r).toNat) (I 11 ((c * 7 + r) * 3 + i).toNat) (I 51 op.toNat) (I 52 op.toNat) op z = ns_ra s op c r i z := by
  obtain ⟨h1, h2, h3, h4, h5, h6, h7, h8, h9, h10⟩ := h
  have a1 := h1.2.2.1 (c * 7 + r).toNat i.toNat (by omega) (by omega)
  have a2 := h1.2.2.2 (c * 7 + r).toNat (by omega)
  obtain ⟨a3, a4, -⟩ := h9 op.toNat (by omega)
  have hl := hs.1.2.2.2 (c * 7 + r).toNat (by omega)
  rw [show (c * 7 + r).toNat * 3 + i.toNat = ((c * 7 + r) * 3 + i).toNat by omega, show 38 + 4 * (c * 7 + r).toNat + i.toNat = (38 + 4 * (7 * c + r) + i).toNat by omega] at a1
  rw [show 38 + 4 * (c * 7 + r).toNat + 3 = (38 + 4 * (7 * c + r) + 3).toNat by omega] at a2 hl
  rw [show 241 + 3 * op.toNat = (241 + 3 * op).toNat by omega] at a3 a4
  rw [show (241 + 3 * op).toNat + 1 = (241 + 3 * op + 1).toNat by omega] at a4
  change I 11 _ = _ at a1
  change I 12 _ = _ at a2
  change I 51 _ = _ at a3
  change I 52 _ = _ at a4
  rw [a1, a2, a3, a4]
  unfold gp_ra ns_ra mp_ra rt_l
  by_cases q : s (38 + 4 * (7 * c + r) + 3).toNat = -1
  · have c1 : ¬ ((-2000000009 : Int) ≠ -2000000009 ∧ (-2000000009 : Int) ≠ op) := fun w => w.1 rfl
    have c2 : ¬ ((-1 : Int) ≠ -1 ∧ (-1 : Int) ≠ op) := fun w => w.1 rfl
    rw [q, if_pos rfl, if_neg c1, if_neg c2]
    rw [show ((z - s (38 + 4 * (7 * c + r) + i).toNat).natAbs : Int) = ((s (38 + 4 * (7 * c + r) + i).toNat - z).natAbs : Int) by omega]
  · rw [if_neg q]
    rw [show ((z - s (38 + 4 * (7 * c + r) + i).toNat).natAbs : Int) = ((s (38 + 4 * (7 * c + r) + i).toNat - z).natAbs : Int) by omega]
    by_cases w : s (38 + 4 * (7 * c + r) + 3).toNat = op
    · have c1 : ¬ (s (38 + 4 * (7 * c + r) + 3).toNat ≠ -2000000009 ∧ s (38 + 4 * (7 * c + r) + 3).toNat ≠ op) := fun u => u.2 w
      have c2 : ¬ (s (38 + 4 * (7 * c + r) + 3).toNat ≠ -1 ∧ s (38 + 4 * (7 * c + r) + 3).toNat ≠ op) := fun u => u.2 w
      rw [if_neg c1, if_neg c2]
    · rw [if_pos ⟨by omega, w⟩, if_pos ⟨q, w⟩]
theorem rs_ed {I : ga_I} {s : Nat → Int} {op c r i z : Int} (hs : ni_s s) (h : rs I 1 s) (ho : 0 ≤ op ∧ op ≤ 2) (hc : 0 ≤ c ∧ c ≤ 6) (hr : 0 ≤ r ∧ r ≤ 6) (hi : 0 ≤ i ∧ i ≤ 2) :
    rs (gx_ed I 1 op.toNat ((c * 7 + r) * 3 + i).toNat z) 1 (ns_ch s op (38 + 4 * (7 * c + r) + i).toNat z) ∧ ∀ a, a < 2 ∨ 55 ≤ a → gx_ed I 1 op.toNat ((c * 7 + r) * 3 + i).toNat z a = I a := by
  have h' := h
  obtain ⟨h1, h2, h3, h4, h5, h6, h7, h8, h9, h10⟩ := h'
  have n0 := ni_n hs.1 (ax := 0) (by omega)
  have n1 := ni_n hs.1 (ax := 1) (by omega)
  have a1 := h1.2.2.1 (c * 7 + r).toNat i.toNat (by omega) (by omega)
  rw [show (c * 7 + r).toNat * 3 + i.toNat = ((c * 7 + r) * 3 + i).toNat by omega, show 38 + 4 * (c * 7 + r).toNat + i.toNat = (38 + 4 * (7 * c + r) + i).toNat by omega] at a1
  obtain ⟨o1, o2, o3⟩ := h9 op.toNat (by omega)
  have o4 := h10 op.toNat (by omega)
  rw [show 241 + 3 * op.toNat + 1 = (241 + 3 * op + 1).toNat by omega] at o2
  rw [show 241 + 3 * op.toNat + 2 = (241 + 3 * op + 2).toNat by omega] at o3
  rw [show 250 + op.toNat = (250 + op).toNat by omega] at o4
  change I 11 _ = _ at a1
  have of : ∀ a, a ≠ 11 → a ≠ 52 → a ≠ 53 → a ≠ 54 → gx_ed I 1 op.toNat ((c * 7 + r) * 3 + i).toNat z a = I a := fun a w1 w2 w3 w4 => by
    unfold gx_ed; rw [ga_up_fn w3, ga_up_fn w4, ga_up_fn w2, ga_up_fn w1]
  have lo : ∀ j, (j < 38 ∨ (234 ≤ j ∧ j < 241) ∨ 253 ≤ j) → ns_ch s op (38 + 4 * (7 * c + r) + i).toNat z j = s j := fun j hj => ns_ch_o ho (by omega) (by omega)
  have g11 : gx_ed I 1 op.toNat ((c * 7 + r) * 3 + i).toNat z 11 = ga_up I 11 ((c * 7 + r) * 3 + i).toNat z 11 := by
    unfold gx_ed; rw [ga_up_fn (by omega), ga_up_fn (by omega), ga_up_fn (by omega)]
  have v : I (1 + 10) ((c * 7 + r) * 3 + i).toNat = s (38 + 4 * (7 * c + r) + i).toNat := a1
  have ab : ((z - s (38 + 4 * (7 * c + r) + i).toNat).natAbs : Int) = ((s (38 + 4 * (7 * c + r) + i).toNat - z).natAbs : Int) := by omega
  have g52 : ∀ k : Nat, k < 3 → gx_ed I 1 op.toNat ((c * 7 + r) * 3 + i).toNat z 52 k = ns_ch s op (38 + 4 * (7 * c + r) + i).toNat z (241 + 3 * k + 1) := fun k hk => by
    unfold gx_ed ns_ch
    rw [ga_up_fn (by omega), ga_up_fn (by omega)]
    by_cases q : k = op.toNat
    · rw [q, show 241 + 3 * op.toNat + 1 = (241 + 3 * op + 1).toNat by omega, ns_up_ne (by omega), ns_up_ne (by omega), ns_up_ne (by omega), ns_up_at, v, ab, ← o2]; exact ga_up_at
    · rw [ns_up_ne (by omega), ns_up_ne (by omega), ns_up_ne (by omega), ns_up_ne (by omega)]
      have := (h9 k hk).2.1
      rw [← this, show ga_up (ga_up I (1 + 10) ((c * 7 + r) * 3 + i).toNat z) (1 + 51) op.toNat _ 52 k = ga_up I (1 + 10) ((c * 7 + r) * 3 + i).toNat z 52 k from ga_up_nj q, ga_up_fn (by omega)]
  have g53 : ∀ k : Nat, k < 3 → gx_ed I 1 op.toNat ((c * 7 + r) * 3 + i).toNat z 53 k = ns_ch s op (38 + 4 * (7 * c + r) + i).toNat z (241 + 3 * k + 2) := fun k hk => by
    unfold gx_ed ns_ch
    by_cases q : k = op.toNat
    · rw [q, show 241 + 3 * op.toNat + 2 = (241 + 3 * op + 2).toNat by omega, ns_up_ne (by omega), ns_up_ne (by omega), ns_up_at, ← o3]; exact ga_up_at
    · rw [ns_up_ne (by omega), ns_up_ne (by omega), ns_up_ne (by omega), ns_up_ne (by omega)]
      have := (h9 k hk).2.2
      rw [← this]
      exact (ga_up_nj q).trans (by rw [show (53 : Nat) = 1 + 52 from rfl, ga_up_fn (by omega), ga_up_fn (by omega), ga_up_fn (by omega)])
  have g54 : ∀ k : Nat, k < 4 → gx_ed I 1 op.toNat ((c * 7 + r) * 3 + i).toNat z 54 k = ns_ch s op (38 + 4 * (7 * c + r) + i).toNat z (250 + k) := fun k hk => by
    unfold gx_ed ns_ch
    rw [ga_up_fn (by omega)]
    by_cases q : k = op.toNat
    · rw [q, show 250 + op.toNat = (250 + op).toNat by omega, ns_up_ne (by omega), ns_up_at, v, ← o4]; exact ga_up_at
    · rw [ns_up_ne (by omega), ns_up_ne (by omega), ns_up_ne (by omega), ns_up_ne (by omega)]
      have := h10 k hk
      rw [← this]
      exact (ga_up_nj q).trans (by rw [show (54 : Nat) = 1 + 53 from rfl, ga_up_fn (by omega), ga_up_fn (by omega)])
  refine ⟨rs_gen hs h ⟨?_, ?_, fun g k hg hk => ?_, fun g hg => ?_⟩ ?_ ?_ (fun k hk => ⟨?_, g52 k hk, g53 k hk⟩) g54 (fun a ha => of a (by omega) (by omega) (by omega) (by omega)) ?_ (fun j hj => lo j (by omega)), fun a ha => of a (by omega) (by omega) (by omega) (by omega)⟩
  · exact rt_b_row (by omega) n0.2 (fun j hj => lo j (by omega)) (rt_b_of (fun a w1 w2 => of a (by omega) (by omega) (by omega) (by omega)) h1.1)
  · exact rt_b_row (by omega) n1.2 (fun j hj => lo j (by omega)) (rt_b_of (fun a w1 w2 => of a (by omega) (by omega) (by omega) (by omega)) h1.2.1)
  · rw [show (2 + 9 : Nat) = 11 from rfl, g11]
    by_cases w : g * 3 + k = ((c * 7 + r) * 3 + i).toNat
    · rw [w, ga_up_at, show 38 + 4 * g + k = (38 + 4 * (7 * c + r) + i).toNat by omega]
      unfold ns_ch
      rw [ns_up_at]
    · rw [ga_up_nj w, ns_ch_o ho (by omega) (by omega)]; exact h1.2.2.1 g k hg hk
  · rw [of _ (by omega) (by omega) (by omega) (by omega), ns_ch_o ho (by omega) (by omega)]; exact h1.2.2.2 g hg
  · rw [of 48 (by omega) (by omega) (by omega) (by omega), lo _ (by omega), lo _ (by omega)]; exact h4
  · rw [of 1 (by omega) (by omega) (by omega) (by omega), lo _ (by omega)]; exact h5
  · rw [of 51 (by omega) (by omega) (by omega) (by omega)]
    unfold ns_ch
    rw [ns_up_ne (by omega), ns_up_ne (by omega), ns_up_ne (by omega), ns_up_ne (by omega)]
    exact (h9 k hk).1
  · rw [of 1 (by omega) (by omega) (by omega) (by omega)]; exact ⟨rfl, rfl⟩
end RC
