/-! the class's world and the rows -/
section RA
theorem gp_ok_n {n n' : Int} {p p' q q' r r' : Nat → Int} (h : gp_ok n p q r) (hn : n' = n) (hp : ∀ j : Nat, (j : Int) < n → p' j = p j ∧ q' j = q j ∧ r' j = r j) : gp_ok n' p' q' r' := by
  subst hn
  refine ⟨h.1, h.2.1, fun b hb => ?_, fun b hb => ?_⟩
  · obtain ⟨e1, e2, e3⟩ := hp b hb
    rw [e1, e2, e3]; exact h.2.2.1 b hb
  · obtain ⟨e1, e2, e3⟩ := hp b (by omega)
    obtain ⟨f1, f2, f3⟩ := hp (b + 1) (by omega)
    rw [e1, e3, f1, f3]; exact h.2.2.2 b hb
theorem gp_fr_neg {p r : Nat → Int} {x y e e' : Int} {n : Nat} (h : e < 0) (h' : e' < 0) : gp_fr p r x y e n = gp_fr p r x y e' n := by
  unfold gp_fr
  refine gp_al_cong (fun b hb => ?_)
  by_cases q : ¬ (x - y ≤ p b + r b ∧ p b - r b ≤ x + y)
  · rw [decide_eq_true (Or.inr q), decide_eq_true (Or.inr q)]
  · rw [decide_eq_false (fun w => w.elim (fun u => by omega) q), decide_eq_false (fun w => w.elim (fun u => by omega) q)]
theorem gp_st_cong {p p' : Nat → Int} {x : Int} {n : Nat} (h : ∀ b, b < n → p' b = p b) : gp_st p' x n = gp_st p x n := gp_ct_cong (fun b hb => by rw [h b hb])
theorem gp_hd_cong {p q p' q' : Nat → Int} {z c : Int} : ∀ {n : Nat}, (∀ b, b < n → p' b = p b ∧ q' b = q b) → gp_hd p' q' z c n = gp_hd p q z c n
  | 0, _ => rfl
  | n + 1, h => by
    have e := gp_hd_cong (z := z) (c := c) (n := n) (fun b hb => h b (by omega))
    have s : gp_ct (gp_sk q') n = gp_ct (gp_sk q) n := gp_sk_cong (fun b hb => (h b (by omega)).2)
    obtain ⟨h1, h2⟩ := h n (by omega)
    unfold gp_hd
    rw [e, s, h1, h2]
theorem gp_bl_cong {p q r p' q' r' : Nat → Int} {c : Int} {n : Nat} (h : ∀ b, b < n → p' b = p b ∧ q' b = q b ∧ r' b = r b) : gp_bl p' q' r' c n = gp_bl p q r c n :=
  gp_ff_cong (fun b hb => by rw [(h b hb).1, (h b hb).2.1, (h b hb).2.2])
theorem gp_fi_cong {p q r p' q' r' : Nat → Int} {n : Nat} {z c : Int} (h : ∀ b, b < n → p' b = p b ∧ q' b = q b ∧ r' b = r b) : gp_fi p' q' r' n z c = gp_fi p q r n z c := by
  unfold gp_fi
  rw [gp_hd_cong (fun b hb => ⟨(h b hb).1, (h b hb).2.1⟩), gp_bl_cong h, gp_st_cong (fun b hb => (h b hb).1)]
  by_cases e : gp_bl p q r (gp_hd p q z c n) n = -1
  · rw [if_pos e, if_pos e]
  · rw [if_neg e, if_neg e]
    have hb := gp_ff_bd (fun b => decide (q b = 1 ∧ p b - r b ≤ gp_hd p q z c n ∧ gp_hd p q z c n ≤ p b + r b)) n
    change gp_bl p q r (gp_hd p q z c n) n = -1 ∨ (0 ≤ gp_bl p q r (gp_hd p q z c n) n ∧ gp_bl p q r (gp_hd p q z c n) n < n ∧ _) at hb
    rcases hb with w | w
    · exact absurd w e
    · obtain ⟨h1, h2, h3⟩ := h (gp_bl p q r (gp_hd p q z c n) n).toNat (by omega)
      rw [h1, h3]
theorem gp_zc_cong {p q r p' q' r' : Nat → Int} {n : Nat} {z x y : Int} (h : ∀ b, b < n → p' b = p b ∧ q' b = q b ∧ r' b = r b) : ∀ t : Nat, gp_zc p' q' r' n z x y t = gp_zc p q r n z x y t
  | 0 => rfl
  | t + 1 => by
    unfold gp_zc
    rw [gp_zc_cong h t, gp_za_cong h]
def rt_b (I : ga_I) (k : Nat) (s : Nat → Int) (ax : Int) : Prop := I k 0 = ms_n s ax ∧ ∀ b : Nat, (b : Int) < ms_n s ax → I (k + 1) b = ms_p s ax b ∧ I (k + 2) b = ms_q s ax b ∧ I (k + 3) b = ms_r s ax b
def rt_l (z : Int) : Int := if z = -1 then -2000000009 else z
def rt (I : ga_I) (t : Nat) (s : Nat → Int) : Prop := rt_b I (t + 1) s 0 ∧ rt_b I (t + 5) s 1 ∧ (∀ g i : Nat, g < 49 → i < 3 → I (t + 9) (g * 3 + i) = s (38 + 4 * g + i)) ∧ ∀ g : Nat, g < 49 → I (t + 10) g = rt_l (s (38 + 4 * g + 3))
theorem rt_at {I : ga_I} {t : Nat} {s : Nat → Int} {ax : Int} (h : rt I t s) (ha : 0 ≤ ax ∧ ax ≤ 1) : rt_b I (ga_bo t ax) s ax := by
  unfold ga_bo
  rcases (show ax = 0 ∨ ax = 1 by omega) with e | e <;> subst e
  · exact h.1
  · exact h.2.1
theorem rt_b_ok {I : ga_I} {k : Nat} {s : Nat → Int} {ax : Int} (h : rt_b I k s ax) (hok : ni_ok s ax) : gb_ok I k := gp_ok_n hok h.1 (fun j hj => h.2 j hj)
theorem rt_fr {I : ga_I} {k : Nat} {s : Nat → Int} {ax : Int} (h : rt_b I k s ax) (x y ex : Int) : gp_fr (I (k + 1)) (I (k + 3)) x y ex (I k 0).toNat = gp_fr (ms_p s ax) (ms_r s ax) x y ex (ms_n s ax).toNat := by
  rw [h.1]; exact gp_fr_cong (fun b hb _ => ⟨(h.2 b (by omega)).1, (h.2 b (by omega)).2.2⟩)
theorem rt_st {I : ga_I} {k : Nat} {s : Nat → Int} {ax : Int} (h : rt_b I k s ax) (x : Int) : gp_st (I (k + 1)) x (I k 0).toNat = gp_st (ms_p s ax) x (ms_n s ax).toNat := by
  rw [h.1]; exact gp_st_cong (fun b hb => (h.2 b (by omega)).1)
theorem rt_zo {I : ga_I} {k : Nat} {s : Nat → Int} {ax : Int} (h : rt_b I k s ax) (x : Int) : gp_zo (I (k + 1)) (I (k + 2)) x (I k 0).toNat = ns_zo s ax x := by
  rw [h.1]; exact gp_zo_cong (fun b hb => ⟨(h.2 b (by omega)).1, (h.2 b (by omega)).2.1⟩)
theorem rt_za {I : ga_I} {k : Nat} {s : Nat → Int} {ax : Int} (h : rt_b I k s ax) (z c : Int) : gp_za (I (k + 1)) (I (k + 2)) (I (k + 3)) (I k 0).toNat z c = mp_zb s ax z c := by
  rw [h.1]; exact gp_za_cong (fun b hb => h.2 b (by omega))
theorem rt_fi {I : ga_I} {k : Nat} {s : Nat → Int} {ax : Int} (h : rt_b I k s ax) (z c : Int) : gp_fi (I (k + 1)) (I (k + 2)) (I (k + 3)) (I k 0).toNat z c = mp_f s ax z c := by
  rw [h.1]; exact gp_fi_cong (fun b hb => h.2 b (by omega))
theorem rt_zc {I : ga_I} {k : Nat} {s : Nat → Int} {ax : Int} (h : rt_b I k s ax) (z x y : Int) (t : Nat) : gp_zc (I (k + 1)) (I (k + 2)) (I (k + 3)) (I k 0).toNat z x y t = gp_zc (ms_p s ax) (ms_q s ax) (ms_r s ax) (ms_n s ax).toNat z x y t := by
  rw [h.1]; exact gp_zc_cong (fun b hb => h.2 b (by omega)) t
theorem rt_sk {I : ga_I} {k : Nat} {s : Nat → Int} {ax : Int} (h : rt_b I k s ax) : gp_ct (gp_sk (I (k + 2))) (I k 0).toNat = gp_ct (gp_sk (ms_q s ax)) (ms_n s ax).toNat := by
  rw [h.1]; exact gp_sk_cong (fun b hb => (h.2 b (by omega)).2.1)
theorem rt_b_of {I J : ga_I} {k : Nat} {s : Nat → Int} {ax : Int} (e : ∀ a, k ≤ a → a < k + 4 → J a = I a) (h : rt_b I k s ax) : rt_b J k s ax := by
  unfold rt_b
  rw [e k (by omega) (by omega), e (k + 1) (by omega) (by omega), e (k + 2) (by omega) (by omega), e (k + 3) (by omega) (by omega)]
  exact h
theorem rt_of {I J : ga_I} {t : Nat} {s : Nat → Int} (e : ∀ a, t < a → a < t + 11 → J a = I a) (h : rt I t s) : rt J t s := by
  refine ⟨rt_b_of (fun a h1 h2 => e a (by omega) (by omega)) h.1, rt_b_of (fun a h1 h2 => e a (by omega) (by omega)) h.2.1, ?_, ?_⟩
  · rw [e (t + 9) (by omega) (by omega)]; exact h.2.2.1
  · rw [e (t + 10) (by omega) (by omega)]; exact h.2.2.2
/-- another row with the same borders of an axis -/
theorem rt_b_row {I : ga_I} {k : Nat} {s s' : Nat → Int} {ax : Int} (ha : 0 ≤ ax ∧ ax ≤ 1) (hn : ms_n s ax ≤ 6) (e : ∀ j, j < 38 → s' j = s j) (h : rt_b I k s ax) : rt_b I k s' ax := by
  have e0 : ms_n s' ax = ms_n s ax := e _ (by omega)
  refine ⟨by rw [e0]; exact h.1, fun b hb => ?_⟩
  rw [e0] at hb
  obtain ⟨h1, h2, h3⟩ := h.2 b hb
  exact ⟨h1.trans (e _ (by omega)).symm, h2.trans (e _ (by omega)).symm, h3.trans (e _ (by omega)).symm⟩
theorem rt_row {I : ga_I} {t : Nat} {s s' : Nat → Int} (hs : ni_t s) (e : ∀ j, j < 234 → s' j = s j) (h : rt I t s) : rt I t s' := by
  have n0 := ni_n hs (ax := 0) (by omega)
  have n1 := ni_n hs (ax := 1) (by omega)
  refine ⟨rt_b_row (by omega) n0.2 (fun j hj => e j (by omega)) h.1, rt_b_row (by omega) n1.2 (fun j hj => e j (by omega)) h.2.1, fun g i hg hi => ?_, fun g hg => ?_⟩
  · rw [e _ (by omega)]; exact h.2.2.1 g i hg hi
  · rw [e _ (by omega)]; exact h.2.2.2 g hg
/-- the borders of an axis taken over from another place -/
theorem rt_b_cp {I J : ga_I} {k o : Nat} {s : Nat → Int} {ax : Int} (hn : ms_n s ax ≤ 6) (e0 : J k 0 = I o 0) (e : ∀ j, j < 6 → J (k + 1) j = I (o + 1) j ∧ J (k + 2) j = I (o + 2) j ∧ J (k + 3) j = I (o + 3) j) (h : rt_b I o s ax) : rt_b J k s ax := by
  refine ⟨e0.trans h.1, fun b hb => ?_⟩
  obtain ⟨a1, a2, a3⟩ := e b (by omega)
  obtain ⟨h1, h2, h3⟩ := h.2 b hb
  exact ⟨a1.trans h1, a2.trans h2, a3.trans h3⟩
theorem rt_cp {I J : ga_I} {k o : Nat} {s : Nat → Int} (hs : ni_t s) (c : gq_T J k I o) (h : rt I o s) : rt J k s := by
  have n0 := ni_n hs (ax := 0) (by omega)
  have n1 := ni_n hs (ax := 1) (by omega)
  obtain ⟨c1, c2, c3, c4⟩ := c
  refine ⟨rt_b_cp n0.2 c1.1 c1.2 h.1, rt_b_cp n1.2 c2.1 c2.2 h.2.1, fun g i hg hi => ?_, fun g hg => ?_⟩
  · rw [c3 _ (by omega)]; exact h.2.2.1 g i hg hi
  · rw [c4 _ hg]; exact h.2.2.2 g hg
theorem rt_g3 {I : ga_I} {t : Nat} {s : Nat → Int} (hs : ni_t s) (h : rt I t s) : gp_tt (gp_g3 (I (t + 9))) ((I (t + 1) 0).toNat + 1) ((I (t + 5) 0).toNat + 1) = ns_tt s := by
  have n0 := ni_n hs (ax := 0) (by omega)
  have n1 := ni_n hs (ax := 1) (by omega)
  rw [h.1.1, h.2.1.1]
  unfold ns_tt
  refine gp_tt_cong (by omega) (by omega) (fun g hg => ?_)
  unfold gp_g3 mp_g3
  have a0 : I (t + 9) (g * 3) = s (38 + 4 * g) := h.2.2.1 g 0 hg (by omega)
  have a1 := h.2.2.1 g 1 hg (by omega)
  have a2 := h.2.2.1 g 2 hg (by omega)
  rw [a0, a1, a2]
theorem rt_lk {I : ga_I} {t : Nat} {s : Nat → Int} {op : Int} (hs : ni_t s) (ho : 0 ≤ op ∧ op ≤ 2) (h : rt I t s) : gp_tt (gp_lk (I (t + 10)) op) ((I (t + 1) 0).toNat + 1) ((I (t + 5) 0).toNat + 1) = ns_lo s op := by
  have n0 := ni_n hs (ax := 0) (by omega)
  have n1 := ni_n hs (ax := 1) (by omega)
  rw [h.1.1, h.2.1.1]
  unfold ns_lo
  refine gp_tt_cong (by omega) (by omega) (fun g hg => ?_)
  unfold gp_lk mp_lk
  rw [h.2.2.2 g hg]
  have hl := hs.2.2.2 g hg
  unfold rt_l
  by_cases q : s (38 + 4 * g + 3) = -1
  · rw [if_pos q, if_neg (by omega), if_neg (by omega)]
  · rw [if_neg q]
/-- a border put in -/
theorem rt_sp {I J : ga_I} {t : Nat} {s : Nat → Int} {ax x k r : Int} (hs : ni_t s) (h : rt I t s) (ha : 0 ≤ ax ∧ ax ≤ 1) (hn : ms_n s ax < 6)
    (c : gr_sp I J t ax (gp_st (I (ga_bo t ax + 1)) x (I (ga_bo t ax) 0).toNat).toNat (I (ga_bo t ax) 0).toNat x k r) : rt J t (gp_bi s ax x r k) ∧ ∀ a, a < t ∨ t + 11 ≤ a → J a = I a := by
  have hat := rt_at h ha
  rw [rt_st hat, hat.1] at c
  have hb := gp_st_bd (ms_p s ax) x (ms_n s ax).toNat
  have n0 := ni_n hs ha
  obtain ⟨K, ⟨k0, k1, k2, k3, kf⟩, eJ⟩ := c
  have hbo : ga_bo t ax = t + 1 ∧ ax = 0 ∨ ga_bo t ax = t + 5 ∧ ax = 1 := by
    unfold ga_bo
    rcases (show ax = 0 ∨ ax = 1 by omega) with e | e <;> subst e
    · exact Or.inl ⟨rfl, rfl⟩
    · exact Or.inr ⟨rfl, rfl⟩
  have fJ : ∀ a, a ≠ t + 9 → a ≠ t + 10 → J a = K a := fun a h1 h2 => by
    rw [eJ]; unfold gx_re; funext j; rw [if_neg (fun w => h1 w.1), if_neg (fun w => h2 w.1)]
  have B1 : rt_b J (ga_bo t ax) (gp_bi s ax x r k) ax := by
    unfold gp_bi
    refine ⟨?_, fun b hbn => ?_⟩
    · rw [fJ _ (by omega) (by omega), k0, hat.1, ns_in_n ha ha (by omega) (by omega), if_pos rfl]
    · rw [ns_in_n ha ha (by omega) (by omega), if_pos rfl] at hbn
      obtain ⟨i1, i2, i3⟩ := ns_in_b (s := s) (ax := ax) (c := (gp_st (ms_p s ax) x (ms_n s ax).toNat).toNat) (n := (ms_n s ax).toNat) (x := x) (q := k) (r := r) ha (by omega) (by omega) (b := b) (by omega)
      rw [i1, i2, i3, fJ (ga_bo t ax + 1) (by omega) (by omega), fJ (ga_bo t ax + 2) (by omega) (by omega), fJ (ga_bo t ax + 3) (by omega) (by omega), k1, k2, k3]
      have cg : ∀ (f f' : Nat → Int) (z : Int), (∀ j : Nat, (j : Int) < ms_n s ax → f j = f' j) → gx_in f (gp_st (ms_p s ax) x (ms_n s ax).toNat).toNat (ms_n s ax).toNat z b = gx_in f' (gp_st (ms_p s ax) x (ms_n s ax).toNat).toNat (ms_n s ax).toNat z b := fun f f' z hff => by
        unfold gx_in
        by_cases u1 : b < (gp_st (ms_p s ax) x (ms_n s ax).toNat).toNat
        · rw [if_pos u1, if_pos u1]; exact hff b (by omega)
        · rw [if_neg u1, if_neg u1]
          by_cases u2 : b = (gp_st (ms_p s ax) x (ms_n s ax).toNat).toNat
          · rw [if_pos u2, if_pos u2]
          · rw [if_neg u2, if_neg u2, if_pos (by omega), if_pos (by omega)]; exact hff (b - 1) (by omega)
      exact ⟨cg _ _ _ (fun j hj => (hat.2 j hj).1), cg _ _ _ (fun j hj => (hat.2 j hj).2.1), cg _ _ _ (fun j hj => (hat.2 j hj).2.2)⟩
  have B2 : ∀ a, 0 ≤ a ∧ a ≤ 1 → a ≠ ax → rt_b J (ga_bo t a) (gp_bi s ax x r k) a := fun a h2 hne => by
    have hbo2 : ga_bo t a = t + 1 ∧ a = 0 ∨ ga_bo t a = t + 5 ∧ a = 1 := by
      unfold ga_bo
      rcases (show a = 0 ∨ a = 1 by omega) with e | e <;> subst e
      · exact Or.inl ⟨rfl, rfl⟩
      · exact Or.inr ⟨rfl, rfl⟩
    have h3 := rt_at h h2
    have nn := ni_n hs h2
    have o : ∀ j, (19 * a).toNat ≤ j → j < (19 * a).toNat + 19 → gp_bi s ax x r k j = s j := fun j w1 w2 => ns_in_o ha h2 hne (by omega) (by omega) ⟨w1, w2⟩
    have e0 : ms_n (gp_bi s ax x r k) a = ms_n s a := o _ (by omega) (by omega)
    have fK : ∀ i, i < 4 → J (ga_bo t a + i) = I (ga_bo t a + i) := fun i hi => by rw [fJ _ (by omega) (by omega), kf _ (by omega)]
    refine ⟨by rw [e0, ← h3.1]; exact congrFun (fK 0 (by omega)) 0, fun b hb2 => ?_⟩
    rw [e0] at hb2
    obtain ⟨g1, g2, g3⟩ := h3.2 b hb2
    rw [fK 1 (by omega), fK 2 (by omega), fK 3 (by omega), g1, g2, g3]
    exact ⟨(o _ (by omega) (by omega)).symm, (o _ (by omega) (by omega)).symm, (o _ (by omega) (by omega)).symm⟩
  have B3 : ∀ a, 0 ≤ a ∧ a ≤ 1 → rt_b J (ga_bo t a) (gp_bi s ax x r k) a := fun a h2 => by
    by_cases e : a = ax
    · rw [e]; exact B1
    · exact B2 a h2 e
  have k9 : K (t + 9) = I (t + 9) := kf _ (by omega)
  have k10 : K (t + 10) = I (t + 10) := kf _ (by omega)
  refine ⟨⟨B3 0 (by omega), B3 1 (by omega), fun g i hg hi => ?_, fun g hg => ?_⟩, fun a ha2 => ?_⟩
  · rw [eJ]
    unfold gx_re gp_bi
    rw [if_pos ⟨rfl, by omega⟩, ns_in_g ha (by omega) (by omega) hg (by omega), k9, show (g * 3 + i) / 3 = g by omega, show (g * 3 + i) % 3 = i by omega]
    exact h.2.2.1 _ i (gp_dnr_lt (by omega) _ g (by omega) hg) hi
  · rw [eJ]
    unfold gx_re gp_bi
    rw [if_neg (by omega), if_pos ⟨rfl, hg⟩, ns_in_g ha (by omega) (by omega) hg (by omega), k10]
    exact h.2.2.2 _ (gp_dnr_lt (by omega) _ g (by omega) hg)
  · rw [fJ a (by omega) (by omega), kf a (by omega)]
end RA
