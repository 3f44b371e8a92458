/-! the reference: insert, settle, moves, as functions of its row -/
section MJ
variable {G : ga_G} {d : Nat} {I : ga_I} {E : Option ga_V → ga_I → Prop}
/-- a cell whose numbers are all given anew -/
def ga_uc (I : ga_I) (k : Nat) (f : Nat → Int) : ga_I := fun a => if a = k then f else I a
theorem ga_uc_at {I : ga_I} {k : Nat} {f : Nat → Int} : ga_uc I k f k = f := if_pos rfl
theorem ga_uc_ne {I : ga_I} {k a : Nat} {f : Nat → Int} (h : a ≠ k) : ga_uc I k f a = I a := if_neg h
def ns_up (s : Nat → Int) (j : Nat) (z : Int) : Nat → Int := fun i => if i = j then z else s i
theorem ns_up_at {s : Nat → Int} {j : Nat} {z : Int} : ns_up s j z j = z := if_pos rfl
theorem ns_up_ne {s : Nat → Int} {i j : Nat} {z : Int} (h : i ≠ j) : ns_up s j z i = s i := if_neg h
theorem ga_up_uc (I : ga_I) (k j : Nat) (z : Int) : ga_up I k j z = ga_uc I k (ns_up (I k) j z) := by
  funext a b
  unfold ga_up ga_uc ns_up
  by_cases h : a = k
  · subst h
    rw [if_pos rfl]
    by_cases e : b = j
    · rw [if_pos ⟨rfl, e⟩, if_pos e]
    · rw [if_neg (fun q => e q.2), if_neg e]
  · rw [if_neg (fun q => h q.1), if_neg h]
theorem ga_uc_uc (I : ga_I) (k : Nat) (f g : Nat → Int) : ga_uc (ga_uc I k f) k g = ga_uc I k g := by
  funext a
  by_cases h : a = k
  · rw [h, ga_uc_at, ga_uc_at]
  · rw [ga_uc_ne h, ga_uc_ne h, ga_uc_ne h]
theorem ga_uc_id (I : ga_I) (k : Nat) : ga_uc I k (I k) = I := by
  funext a
  by_cases h : a = k
  · rw [h, ga_uc_at]
  · rw [ga_uc_ne h]
theorem gp_st_eq {p : Nat → Int} {x : Int} {a : Nat} : ∀ {n : Nat}, a ≤ n → (∀ b, b < a → p b ≤ x) → (∀ b, a ≤ b → b < n → x < p b) → gp_st p x n = a := by
  intro n
  induction n with
  | zero => intro h _ _; rw [show a = 0 by omega]; rfl
  | succ n ih =>
    intro h h1 h2
    by_cases e : a = n + 1
    · have e1 := gp_st_bd p x n
      unfold gp_st
      rw [gp_ct_T (decide_eq_true (h1 n (by omega)))]
      have : gp_ct (fun b => decide (p b ≤ x)) n = n := by
        have u : ∀ m, m ≤ n → gp_ct (fun b => decide (p b ≤ x)) m = m := by
          intro m
          induction m with
          | zero => intro _; rfl
          | succ m im => intro hm; rw [gp_ct_T (decide_eq_true (h1 m (by omega))), im (by omega)]; omega
        exact u n (Nat.le_refl n)
      rw [this, e]; omega
    · unfold gp_st
      have h3 := h2 n (by omega) (by omega)
      rw [gp_ct_F (decide_eq_false (by omega))]
      exact ih (by omega) h1 (fun b q1 q2 => h2 b q1 (by omega))
theorem gp_ok_mono {n : Int} {p q r : Nat → Int} (h : gp_ok n p q r) {a b : Nat} (hab : a ≤ b) (hb : (b : Int) < n) : p a ≤ p b := by
  by_cases e : a = b
  · rw [e]; exact Int.le_refl _
  · have h1 := gp_ok_lt h (b - a - 1) a (by omega)
    rw [show a + (b - a - 1) + 1 = b by omega] at h1
    have h2 := h.2.2.1 a (by omega)
    have h3 := h.2.2.1 b (by omega)
    rcases h2.2.2.1 with h2' | h2' <;> rcases h3.2.2.1 with h3' | h3' <;> omega
def ns_sf (s : Nat → Int) (ax : Int) (a n : Nat) : Nat → Int := fun j => if (19 * ax).toNat + 4 + 3 * a ≤ j ∧ j < (19 * ax).toNat + 4 + 3 * n then s (j - 3) else s j
def ns_re (s : Nat → Int) (f : Nat → Nat) : Nat → Int := fun j => if 38 ≤ j ∧ j < 234 then s (38 + 4 * f ((j - 38) / 4) + (j - 38) % 4) else s j
theorem mx_re_uc (I : ga_I) (f : Nat → Nat) : mx_re I f = ga_uc I 349 (ns_re (I 349) f) := by
  funext a j
  unfold mx_re ga_uc ns_re
  by_cases h : a = 349
  · subst h
    rw [if_pos rfl]
    by_cases e : 38 ≤ j ∧ j < 234
    · rw [if_pos ⟨rfl, e⟩, if_pos e]
    · rw [if_neg (fun q => e q.2), if_neg e]
  · rw [if_neg (fun q => h q.1), if_neg h]
def ns_in (s : Nat → Int) (ax : Int) (c n : Nat) (x q r : Int) : Nat → Int := fun j =>
  if j = (19 * ax).toNat then s j + 1
  else if j = (19 * ax).toNat + 1 + 3 * c then x
  else if j = (19 * ax).toNat + 1 + 3 * c + 1 then q
  else if j = (19 * ax).toNat + 1 + 3 * c + 2 then r
  else if (19 * ax).toNat + 4 + 3 * c ≤ j ∧ j < (19 * ax).toNat + 4 + 3 * n then s (j - 3)
  else if 38 ≤ j ∧ j < 234 then s (38 + 4 * gp_dnr ax (n + 1) (n + 1 - c) ((j - 38) / 4) + (j - 38) % 4) else s j
theorem mx_sb_uc (I : ga_I) (ax b p q r : Int) : mx_sb I ax b p q r = ga_uc I 349 (ns_up (ns_up (ns_up (I 349) ((19 * ax).toNat + 1 + 3 * b.toNat) p) ((19 * ax).toNat + 1 + 3 * b.toNat + 1) q) ((19 * ax).toNat + 1 + 3 * b.toNat + 2) r) := by
  unfold mx_sb
  rw [ga_up_uc, ga_up_uc, ga_up_uc]
  simp only [ga_uc_uc, ga_uc_at]
theorem l_Mo_insert2 (J : ga_I) {ax : Int} {c n : Nat} (hc : c ≤ n) (hn : n < 6) (ha : 0 ≤ ax ∧ ax ≤ 1) (h : E (some (.inl (c : Int))) (ga_up (mx_re J (gp_dnr ax (n + 1) (n + 1 - c))) 349 (19 * ax).toNat (ga_wr (J 349 (19 * ax).toNat + 1)))) :
    ∀ (j m : Nat), c + j + m = n + 1 → ga_W G (d + 3) mt_Mo_insert 88 [some (.inr 348), some (.inl ax), none, none, none, none, some (.inl (c : Int)), some (.inl ((n : Int) - m))] [] (mx_re J (gp_dnr ax (n + 1) m)) E := by
  intro j
  induction j with
  | zero =>
    intro m hm
    refine k_Mo_insert_88 ⟨by omega, by omega⟩ ⟨by omega, by omega⟩ ⟨by omega, by omega⟩ (fun hI => ⟨fun h1 => ⟨by omega, by omega, ?_⟩, fun h1 => by exfalso; omega⟩)
    rw [mx_re_o (by omega), show (0 + 19 * ax).toNat = (19 * ax).toNat by omega, show m = n + 1 - c by omega]
    exact h
  | succ j ih =>
    intro m hm
    have e := ih (m + 1) (by omega)
    refine k_Mo_insert_88 ⟨by omega, by omega⟩ ⟨by omega, by omega⟩ ⟨by omega, by omega⟩ (fun hI => ⟨fun h1 => by exfalso; omega, fun h1 => ⟨by omega, by omega, by omega, ?_⟩⟩)
    refine gw_eq e ?_ ?_
    · rw [show (n : Int) - ((m + 1 : Nat) : Int) = (n : Int) - m + -1 by omega]
    · rw [mx_re_re _ _ _ (fun g hg => gp_sr_lt (by omega) g hg)]
      rw [show ((n : Int) - m).toNat = n + 1 - m - 1 by omega, show ((n : Int) - m + 1).toNat = n + 1 - m by omega]
      rfl
theorem l_Mo_insert (I : ga_I) {ax x q r : Int} (hk : mo_ok I ax) {n : Nat} (hn : (n : Int) = ms_n (I 349) ax) (hn6 : n < 6) (ha : 0 ≤ ax ∧ ax ≤ 1) (hx : ga_rg x) (hq : ga_rg q) (hr : ga_rg r) (h : E (some (.inl (gp_st (ms_p (I 349) ax) x n))) (ga_uc I 349 (ns_in (I 349) ax (gp_st (ms_p (I 349) ax) x n).toNat n x q r))) :
    ∀ (a : Nat), a ≤ n → (∀ b, a ≤ b → b < n → x < ms_p (I 349) ax b) → ga_W G (d + 3) mt_Mo_insert 11 [some (.inr 348), some (.inl ax), some (.inl x), some (.inl q), some (.inl r), some (.inl (n : Int)), some (.inl (a : Int)), none] [] (ga_uc I 349 (ns_sf (I 349) ax a n)) E := by
  have fin : ∀ a, a ≤ n → (∀ b, b < a → ms_p (I 349) ax b ≤ x) → (∀ b, a ≤ b → b < n → x < ms_p (I 349) ax b) → ga_W G (d + 3) mt_Mo_insert 88 [some (.inr 348), some (.inl ax), none, none, none, none, some (.inl (a : Int)), some (.inl (n : Int))] [] (mx_sb (ga_uc I 349 (ns_sf (I 349) ax a n)) ax (a : Int) x q r) E := by
    intro a h1 h2 h3
    have e0 := gp_st_eq h1 h2 h3
    rw [e0, Int.toNat_natCast] at h
    have e := l_Mo_insert2 (G := G) (d := d) (E := E) (mx_sb (ga_uc I 349 (ns_sf (I 349) ax a n)) ax (a : Int) x q r) (c := a) (n := n) h1 hn6 ha ?_ (n + 1 - a) 0 (by omega)
    · refine gw_eq e ?_ ?_
      · rw [show (n : Int) - ((0 : Nat) : Int) = (n : Int) by omega]
      · exact mx_re_id _ (fun g _ => rfl)
    · have eA : mx_sb (ga_uc I 349 (ns_sf (I 349) ax a n)) ax (a : Int) x q r 349 (19 * ax).toNat = n := by
        rw [mx_sb_uc, ga_uc_at, ns_up_ne (by omega), ns_up_ne (by omega), ns_up_ne (by omega), ga_uc_at]
        unfold ns_sf
        rw [if_neg (by omega), hn]
        rfl
      rw [eA, ga_wr_eq ⟨by omega, by omega⟩, mx_sb_uc, mx_re_uc, ga_up_uc]
      simp only [ga_uc_uc, ga_uc_at]
      refine cast ?_ h
      congr 2
      funext j
      unfold ns_in ns_up ns_re
      have hA : (19 * ax).toNat = 0 ∨ (19 * ax).toNat = 19 := by omega
      have hs : I 349 (19 * ax).toNat = n := hn.symm
      by_cases q0 : j = (19 * ax).toNat
      · rw [if_pos q0, if_pos q0, q0, hs]
      · rw [if_neg q0, if_neg q0]
        by_cases q1 : 38 ≤ j ∧ j < 234
        · rw [if_neg (by omega), if_neg (by omega), if_neg (by omega), if_neg (by omega), if_pos q1, if_pos q1]
          dsimp only
          rw [Int.toNat_natCast, if_neg (by omega), if_neg (by omega), if_neg (by omega)]
          unfold ns_sf
          rw [if_neg (by omega)]
        · rw [if_neg q1, if_neg q1, Int.toNat_natCast]
          dsimp only
          by_cases q2 : j = (19 * ax).toNat + 1 + 3 * a
          · rw [if_pos q2, if_neg (by omega), if_neg (by omega), if_pos q2]
          · rw [if_neg q2]
            by_cases q3 : j = (19 * ax).toNat + 1 + 3 * a + 1
            · rw [if_pos q3, if_neg (by omega), if_pos q3]
            · rw [if_neg q3]
              by_cases q4 : j = (19 * ax).toNat + 1 + 3 * a + 2
              · rw [if_pos q4, if_pos q4]
              · rw [if_neg q4, if_neg q4, if_neg q3, if_neg q2]
                rfl
  intro a
  induction a with
  | zero =>
    intro h1 h3
    refine k_Mo_insert_11 hx hq hr ⟨by omega, by omega⟩ (fun hI => ⟨fun q1 => ⟨ha, by omega, ?_⟩, fun q1 => by exfalso; omega⟩)
    exact fin 0 h1 (fun b hb => by omega) h3
  | succ a ih =>
    intro h1 h3
    have eb : ∀ w, w ≤ 2 → ms_b (ga_uc I 349 (ns_sf (I 349) ax (a + 1) n) 349) ax (((a + 1 : Nat) : Int) - 1) (w : Nat) = I 349 ((19 * ax).toNat + 1 + 3 * a + w) := fun w hw => by
      unfold ms_b
      rw [ga_uc_at]
      unfold ns_sf
      rw [if_neg (by omega), show (((a + 1 : Nat) : Int) - 1).toNat = a by omega, Int.toNat_natCast]
    have eb0 := eb 0 (by omega)
    have eb1 := eb 1 (by omega)
    have eb2 := eb 2 (by omega)
    rw [show ((0 : Nat) : Int) = 0 from rfl] at eb0
    rw [show ((1 : Nat) : Int) = 1 from rfl] at eb1
    rw [show ((2 : Nat) : Int) = 2 from rfl] at eb2
    refine k_Mo_insert_11 hx hq hr ⟨by omega, by omega⟩ (fun hI => ⟨fun q1 => by exfalso; omega, fun q1 => ⟨ha, by omega, by omega, fun q2 => ⟨by omega, ?_⟩, fun q2 => ⟨by omega, by omega, by omega, ?_⟩⟩⟩)
    · rw [eb0] at q2
      refine fin (a + 1) h1 (fun b hb => ?_) h3
      have e1 := gp_ok_mono hk (a := b) (b := a) (by omega) (by omega)
      have e2 : ms_p (I 349) ax a ≤ x := q2
      omega
    · rw [eb0] at q2
      have e2 : x < ms_p (I 349) ax a := Int.not_le.mp q2
      have e := ih (by omega) (fun b q3 q4 => by
        by_cases e3 : b = a
        · rw [e3]; exact e2
        · exact h3 b (by omega) q4)
      refine gw_eq e ?_ ?_
      · rw [show ((a + 1 : Nat) : Int) + -1 = (a : Int) by omega]
      · rw [eb0, eb1, eb2, mx_sb_uc]
        simp only [ga_uc_uc, ga_uc_at]
        congr 1
        funext j
        unfold ns_up ns_sf
        rw [Int.toNat_natCast]
        by_cases p2 : j = (19 * ax).toNat + 1 + 3 * (a + 1) + 2
        · rw [if_pos p2, if_pos (by omega)]; congr 1; omega
        · rw [if_neg p2]
          by_cases p1 : j = (19 * ax).toNat + 1 + 3 * (a + 1) + 1
          · rw [if_pos p1, if_pos (by omega)]; congr 1; omega
          · rw [if_neg p1]
            by_cases p0 : j = (19 * ax).toNat + 1 + 3 * (a + 1)
            · rw [if_pos p0, if_pos (by omega)]; congr 1; omega
            · rw [if_neg p0]
              by_cases p : (19 * ax).toNat + 4 + 3 * (a + 1) ≤ j ∧ j < (19 * ax).toNat + 4 + 3 * n
              · rw [if_pos p, if_pos (by omega)]
              · rw [if_neg p, if_neg (by omega)]
theorem s_Mo_insert {ax x q r : Int} (hk : mo_ok I ax) (hn6 : ms_n (I 349) ax < 6) (ha : 0 ≤ ax ∧ ax ≤ 1) (hx : ga_rg x) (hq : ga_rg q) (hr : ga_rg r) (h : E (some (.inl (gp_st (ms_p (I 349) ax) x (ms_n (I 349) ax).toNat))) (ga_uc I 349 (ns_in (I 349) ax (gp_st (ms_p (I 349) ax) x (ms_n (I 349) ax).toNat).toNat (ms_n (I 349) ax).toNat x q r))) : ga_W G (d + 3) mt_Mo_insert 0 (ga_en 8 [.inr 348, .inl ax, .inl x, .inl q, .inl r]) [] I E := by
  have h0 := hk.1
  have e := l_Mo_insert (G := G) (d := d) (E := E) I hk (n := (ms_n (I 349) ax).toNat) (by omega) (by omega) ha hx hq hr h (ms_n (I 349) ax).toNat (Nat.le_refl _) (fun b q1 q2 => by omega)
  refine k_Mo_insert_0 (fun hI => ⟨ha, ?_⟩)
  refine gw_eq e ?_ ?_
  · rw [show (((ms_n (I 349) ax).toNat : Nat) : Int) = ms_n (I 349) ax by omega]
  · rw [show ns_sf (I 349) ax (ms_n (I 349) ax).toNat (ms_n (I 349) ax).toNat = I 349 from funext fun j => by unfold ns_sf; rw [if_neg (by omega)], ga_uc_id]
/-- the fourth account and the zones, settled -/
def ns_tt (s : Nat → Int) : Int := gp_tt (mp_g3 s) ((ms_n s 0).toNat + 1) ((ms_n s 1).toNat + 1)
def ns_zo (s : Nat → Int) (ax c : Int) : Int := gp_zo (ms_p s ax) (ms_q s ax) c (ms_n s ax).toNat
def ns_fz (s : Nat → Int) : Nat → Int := ns_up (ns_up s 236 (ns_zo s 0 (s 234))) 237 (ns_zo s 1 (s 235))
def ns_st (s : Nat → Int) (z : Int) : Nat → Int := ns_fz (ns_up s 253 (ga_wr (s 253 + (ns_tt s - z))))
theorem mx_fz_uc (I : ga_I) : mx_fz I = ga_uc I 349 (ns_fz (I 349)) := by
  unfold mx_fz ns_fz ns_zo
  rw [ga_up_uc, ga_up_uc]
  simp only [ga_uc_uc, ga_uc_at]
theorem s_Mo_settle {z : Int} (hn : mo_n I) (h : E none (ga_uc I 349 (ns_st (I 349) z))) : ga_W G (d + 3) mt_Mo_settle 0 (ga_en 2 [.inr 348, .inl z]) [] I E := by
  refine k_Mo_settle_0 (fun hI => ⟨hn, fun z1 q1 I1 e1 => ⟨?_, fun I2 e2 => ?_⟩⟩)
  · rw [e1, ga_up_uc]
    unfold mo_n ms_n
    rw [ga_uc_at, ns_up_ne (by omega), ns_up_ne (by omega)]
    exact hn
  · rw [e2, e1, mx_fz_uc, ga_up_uc, q1]
    simp only [ga_uc_uc, ga_uc_at]
    exact h
end MJ
