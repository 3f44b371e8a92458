/-! Table: what its sums and strips come to -/
section LK
/-- a sum -/
def gp_rw (f : Nat → Int) : Nat → Int
  | 0 => 0
  | n + 1 => gp_rw f n + f n
theorem gp_rw_cong {f g : Nat → Int} : ∀ {n : Nat}, (∀ b, b < n → f b = g b) → gp_rw f n = gp_rw g n
  | 0, _ => rfl
  | n + 1, h => by
    unfold gp_rw
    rw [h n (by omega), gp_rw_cong (n := n) (fun b hb => h b (by omega))]
/-- over the regions of m columns and n rows -/
def gp_tt (f : Nat → Int) (m n : Nat) : Int := gp_rw (fun c => gp_rw (fun r => f (c * 7 + r)) n) m
theorem gp_tt_cong {f g : Nat → Int} {m n : Nat} (hm : m ≤ 7) (hn : n ≤ 7) (h : ∀ b, b < 49 → f b = g b) : gp_tt f m n = gp_tt g m n :=
  gp_rw_cong (fun c hc => gp_rw_cong (fun r hr => h _ (by omega)))
def gp_lk (l : Nat → Int) (op : Int) : Nat → Int := fun g => if l g = op then 1 else 0
def gp_g3 (x : Nat → Int) : Nat → Int := fun g => x (g * 3) + x (g * 3 + 1) + x (g * 3 + 2)
variable {G : ga_G} {d : Nat} {I : ga_I} {E : Option ga_V → ga_I → Prop} {k : Nat}
abbrev gt_n (I : ga_I) (k : Nat) : Prop := (0 ≤ I (k + 1) 0 ∧ I (k + 1) 0 ≤ 6) ∧ (0 ≤ I (k + 5) 0 ∧ I (k + 5) 0 ≤ 6)
theorem l_Table_locksOf2 (hk : ga_isT k) (hn : gt_n I k) {op : Int} (ho : ga_rg op) {c m : Nat} (hc : (c : Int) ≤ I (k + 1) 0) {v : Int} (hm : (m : Int) = I (k + 5) 0 + 1)
    (K : ga_W G (d + 1) mt_Table_locksOf 4 [some (.inr k), some (.inl op), some (.inl (v + gp_rw (fun r => gp_lk (I (k + 10)) op (c * 7 + r)) m)), some (.inl ((c : Int) + 1)), none] [] I E) :
    ∀ (j r : Nat), r + j = m → ga_W G (d + 1) mt_Table_locksOf 18 [some (.inr k), some (.inl op), some (.inl (v + gp_rw (fun r => gp_lk (I (k + 10)) op (c * 7 + r)) r)), some (.inl (c : Int)), some (.inl (r : Int))] [] I E := by
  intro j
  induction j with
  | zero =>
    intro r hr
    refine k_Table_locksOf_18 hk ho ⟨by omega, by omega⟩ (fun hI => ⟨fun h1 => ?_, fun h1 => by exfalso; omega⟩)
    rwa [show r = m by omega]
  | succ j ih =>
    intro r hr
    have e := ih (r + 1) (by omega)
    have ix : ((c : Int) * 7 + (r : Int)).toNat = c * 7 + r := by omega
    refine k_Table_locksOf_18 hk ho ⟨by omega, by omega⟩ (fun hI => ⟨fun h1 => by exfalso; omega, fun h1 => ⟨by omega, fun h2 => ?_, fun h2 => ?_⟩⟩) <;> rw [ix] at h2
    · refine gw_eq e ?_ rfl
      have e2 : gp_lk (I (k + 10)) op (c * 7 + r) = 0 := if_neg h2
      rw [gp_rw, e2, Int.add_zero]; rfl
    · refine gw_eq e ?_ rfl
      have e2 : gp_lk (I (k + 10)) op (c * 7 + r) = 1 := if_pos h2
      rw [gp_rw, e2, ← Int.add_assoc]; rfl
theorem l_Table_locksOf (hk : ga_isT k) (hn : gt_n I k) {op : Int} (ho : ga_rg op) {m n : Nat} (hm : (m : Int) = I (k + 5) 0 + 1) (hn2 : (n : Int) = I (k + 1) 0 + 1) (h : E (some (.inl (gp_tt (gp_lk (I (k + 10)) op) n m))) I) :
    ∀ (j c : Nat), c + j = n → ga_W G (d + 1) mt_Table_locksOf 4 [some (.inr k), some (.inl op), some (.inl (gp_tt (gp_lk (I (k + 10)) op) c m)), some (.inl (c : Int)), none] [] I E := by
  intro j
  induction j with
  | zero =>
    intro c hc
    refine k_Table_locksOf_4 hk ⟨by omega, by omega⟩ (fun hI => ⟨fun h1 => ?_, fun h1 => by exfalso; omega⟩)
    rwa [show c = n by omega]
  | succ j ih =>
    intro c hc
    have e := ih (c + 1) (by omega)
    refine k_Table_locksOf_4 hk ⟨by omega, by omega⟩ (fun hI => ⟨fun h1 => by exfalso; omega, fun h1 => ?_⟩)
    have e2 := l_Table_locksOf2 (G := G) (d := d) (E := E) hk hn ho (c := c) (m := m) (by omega) (v := gp_tt (gp_lk (I (k + 10)) op) c m) hm e m 0 (by omega)
    refine gw_eq e2 ?_ rfl
    rw [show gp_rw (fun r => gp_lk (I (k + 10)) op (c * 7 + r)) 0 = 0 from rfl, Int.add_zero]; rfl
theorem s_Table_locksOf (hk : ga_isT k) (hn : gt_n I k) {op : Int} (ho : ga_rg op) (h : E (some (.inl (gp_tt (gp_lk (I (k + 10)) op) ((I (k + 1) 0).toNat + 1) ((I (k + 5) 0).toNat + 1)))) I) : ga_W G (d + 1) mt_Table_locksOf 0 (ga_en 5 [.inr k, .inl op]) [] I E :=
  k_Table_locksOf_0 (fun _ => l_Table_locksOf hk hn ho (by omega) (by omega) h ((I (k + 1) 0).toNat + 1) 0 (by omega))
theorem l_Table_sum2 (hk : ga_isT k) (hn : gt_n I k) {c m : Nat} (hc : (c : Int) ≤ I (k + 1) 0) {v : Int} (hm : (m : Int) = I (k + 5) 0 + 1)
    (K : ga_W G (d + 1) mt_Table_sumOfGains 4 [some (.inr k), some (.inl (v + gp_rw (fun r => gp_g3 (I (k + 9)) (c * 7 + r)) m)), some (.inl ((c : Int) + 1)), none, none] [] I E) :
    ∀ (j r : Nat), r + j = m → ga_W G (d + 1) mt_Table_sumOfGains 17 [some (.inr k), some (.inl (v + gp_rw (fun r => gp_g3 (I (k + 9)) (c * 7 + r)) r)), some (.inl (c : Int)), some (.inl (r : Int)), none] [] I E := by
  intro j
  induction j with
  | zero =>
    intro r hr
    refine k_Table_sumOfGains_17 hk ⟨by omega, by omega⟩ (fun hI => ⟨fun h1 => ?_, fun h1 => by exfalso; omega⟩)
    rwa [show r = m by omega]
  | succ j ih =>
    intro r hr
    have e := ih (r + 1) (by omega)
    refine k_Table_sumOfGains_17 hk ⟨by omega, by omega⟩ (fun hI => ⟨fun h1 => by exfalso; omega, fun h1 => ?_⟩)
    refine k_Table_sumOfGains_31 hk ⟨by omega, by omega⟩ (fun hI => ⟨fun h1 => by exfalso; omega, fun h1 => ⟨by omega, ?_⟩⟩)
    refine k_Table_sumOfGains_31 hk ⟨by omega, by omega⟩ (fun hI => ⟨fun h1 => by exfalso; omega, fun h1 => ⟨by omega, ?_⟩⟩)
    refine k_Table_sumOfGains_31 hk ⟨by omega, by omega⟩ (fun hI => ⟨fun h1 => by exfalso; omega, fun h1 => ⟨by omega, ?_⟩⟩)
    refine k_Table_sumOfGains_31 hk ⟨by omega, by omega⟩ (fun hI => ⟨fun h1 => ?_, fun h1 => by exfalso; omega⟩)
    refine gw_eq e ?_ rfl
    have i0 : (((c : Int) * 7 + (r : Int)) * 3 + 0).toNat = (c * 7 + r) * 3 := by omega
    have i1 : (((c : Int) * 7 + (r : Int)) * 3 + (0 + 1)).toNat = (c * 7 + r) * 3 + 1 := by omega
    have i2 : (((c : Int) * 7 + (r : Int)) * 3 + (0 + 1 + 1)).toNat = (c * 7 + r) * 3 + 2 := by omega
    rw [i0, i1, i2, gp_rw]
    simp only [gp_g3, Int.add_assoc]
    rfl
theorem l_Table_sum (hk : ga_isT k) (hn : gt_n I k) {m n : Nat} (hm : (m : Int) = I (k + 5) 0 + 1) (hn2 : (n : Int) = I (k + 1) 0 + 1) (h : E (some (.inl (gp_tt (gp_g3 (I (k + 9))) n m))) I) :
    ∀ (j c : Nat), c + j = n → ga_W G (d + 1) mt_Table_sumOfGains 4 [some (.inr k), some (.inl (gp_tt (gp_g3 (I (k + 9))) c m)), some (.inl (c : Int)), none, none] [] I E := by
  intro j
  induction j with
  | zero =>
    intro c hc
    refine k_Table_sumOfGains_4 hk ⟨by omega, by omega⟩ (fun hI => ⟨fun h1 => ?_, fun h1 => by exfalso; omega⟩)
    rwa [show c = n by omega]
  | succ j ih =>
    intro c hc
    have e := ih (c + 1) (by omega)
    refine k_Table_sumOfGains_4 hk ⟨by omega, by omega⟩ (fun hI => ⟨fun h1 => by exfalso; omega, fun h1 => ?_⟩)
    have e2 := l_Table_sum2 (G := G) (d := d) (E := E) hk hn (c := c) (m := m) (by omega) (v := gp_tt (gp_g3 (I (k + 9))) c m) hm e m 0 (by omega)
    refine gw_eq e2 ?_ rfl
    rw [show gp_rw (fun r => gp_g3 (I (k + 9)) (c * 7 + r)) 0 = 0 from rfl, Int.add_zero]; rfl
theorem s_Table_sumOfGains (hk : ga_isT k) (hn : gt_n I k) (h : E (some (.inl (gp_tt (gp_g3 (I (k + 9))) ((I (k + 1) 0).toNat + 1) ((I (k + 5) 0).toNat + 1)))) I) : ga_W G (d + 1) mt_Table_sumOfGains 0 (ga_en 5 [.inr k]) [] I E :=
  k_Table_sumOfGains_0 (fun _ => l_Table_sum hk hn (by omega) (by omega) h ((I (k + 1) 0).toNat + 1) 0 (by omega))
-- strips
/-- where a region's numbers come from when a strip is copied in its first m regions -/
def gp_sr (ax : Int) (f t m : Nat) : Nat → Nat := fun g => if ax = 0 then (if g / 7 = t ∧ g % 7 < m then f * 7 + g % 7 else g) else (if g % 7 = t ∧ g / 7 < m then g / 7 * 7 + f else g)
def gx_re (I : ga_I) (k : Nat) (s : Nat → Nat) : ga_I := fun a j => if a = k + 9 ∧ j < 147 then I (k + 9) (s (j / 3) * 3 + j % 3) else if a = k + 10 ∧ j < 49 then I (k + 10) (s j) else I a j
theorem gx_re_id (I : ga_I) (k : Nat) {s : Nat → Nat} (h : ∀ g, g < 49 → s g = g) : gx_re I k s = I := by
  funext a j
  unfold gx_re
  by_cases e : a = k + 9 ∧ j < 147
  · rw [if_pos e, h _ (by omega), show j / 3 * 3 + j % 3 = j by omega, e.1]
  · rw [if_neg e]
    by_cases e2 : a = k + 10 ∧ j < 49
    · rw [if_pos e2, h _ e2.2, e2.1]
    · rw [if_neg e2]
theorem gx_re_o {I : ga_I} {k a : Nat} {s : Nat → Nat} (h : a < k + 9 ∨ k + 11 ≤ a) : gx_re I k s a = I a := by
  funext j
  unfold gx_re
  rw [if_neg (by omega), if_neg (by omega)]
theorem gx_re_re (I : ga_I) (k : Nat) (s t : Nat → Nat) (ht : ∀ g, g < 49 → t g < 49) : gx_re (gx_re I k s) k t = gx_re I k (fun g => s (t g)) := by
  funext a j
  by_cases e : a = k + 9 ∧ j < 147
  · have h1 := ht (j / 3) (by omega)
    unfold gx_re
    rw [if_pos e, if_pos e, if_pos ⟨rfl, by omega⟩, show (t (j / 3) * 3 + j % 3) / 3 = t (j / 3) by omega, show (t (j / 3) * 3 + j % 3) % 3 = j % 3 by omega]
  · by_cases e2 : a = k + 10 ∧ j < 49
    · have h1 := ht j e2.2
      unfold gx_re
      rw [if_neg e, if_pos e2, if_neg e, if_pos e2, if_neg (by omega), if_pos ⟨rfl, h1⟩]
    · unfold gx_re
      rw [if_neg e, if_neg e2, if_neg e, if_neg e2, if_neg e, if_neg e2]
theorem gp_sr_lt {ax : Int} {f t m : Nat} (hf : f < 7) (g : Nat) (hg : g < 49) : gp_sr ax f t m g < 49 := by
  unfold gp_sr
  by_cases e : ax = 0
  · rw [if_pos e]
    by_cases q : g / 7 = t ∧ g % 7 < m
    · rw [if_pos q]; omega
    · rw [if_neg q]; exact hg
  · rw [if_neg e]
    by_cases q : g % 7 = t ∧ g / 7 < m
    · rw [if_pos q]; omega
    · rw [if_neg q]; exact hg
/-- one region copied -/
def gx_cr (H : ga_I) (k sg tg : Nat) : ga_I := ga_up (ga_up (ga_up (ga_up H (k + 9) (tg * 3) (H (k + 9) (sg * 3))) (k + 9) (tg * 3 + 1) (H (k + 9) (sg * 3 + 1))) (k + 9) (tg * 3 + 2) (H (k + 9) (sg * 3 + 2))) (k + 10) tg (H (k + 10) sg)
theorem gx_cr_gen (I : ga_I) (k : Nat) {s s' : Nat → Nat} {sg tg : Nat} (h1 : sg < 49) (h2 : tg < 49) (h3 : s sg = sg) (h4 : ∀ g, g < 49 → s' g = if g = tg then sg else s g) : gx_cr (gx_re I k s) k sg tg = gx_re I k s' := by
  have hs : ∀ i, i < 3 → gx_re I k s (k + 9) (sg * 3 + i) = I (k + 9) (sg * 3 + i) := fun i hi => by
    unfold gx_re
    rw [if_pos ⟨rfl, by omega⟩, show (sg * 3 + i) / 3 = sg by omega, h3, show (sg * 3 + i) % 3 = i by omega]
  have hs2 : gx_re I k s (k + 10) sg = I (k + 10) sg := by
    unfold gx_re
    rw [if_neg (by omega), if_pos ⟨rfl, h1⟩, h3]
  have hs0 : gx_re I k s (k + 9) (sg * 3) = I (k + 9) (sg * 3) := hs 0 (by omega)
  unfold gx_cr
  rw [hs0, hs 1 (by omega), hs 2 (by omega), hs2]
  funext a j
  by_cases q : (a = k + 9 ∧ j < 147 ∧ j / 3 = tg) ∨ (a = k + 10 ∧ j = tg)
  · rcases q with ⟨rfl, q1, q2⟩ | ⟨rfl, rfl⟩
    · have r : gx_re I k s' (k + 9) j = I (k + 9) (sg * 3 + j % 3) := by
        unfold gx_re
        rw [if_pos ⟨rfl, q1⟩, h4 _ (by omega), if_pos q2]
      rw [r, ga_up_ne (by omega)]
      rcases (show j = tg * 3 ∨ j = tg * 3 + 1 ∨ j = tg * 3 + 2 by omega) with h | h | h
      · rw [ga_up_nj (by omega), ga_up_nj (by omega), h, ga_up_at]; congr 1; omega
      · rw [ga_up_nj (by omega), h, ga_up_at]; congr 1; omega
      · rw [h, ga_up_at]; congr 1; omega
    · have r : gx_re I k s' (k + 10) j = I (k + 10) sg := by
        unfold gx_re
        rw [if_neg (by omega), if_pos ⟨rfl, h2⟩, h4 _ h2, if_pos rfl]
      rw [r, ga_up_at]
  · have u : ∀ (H : ga_I) (a2 j2 : Nat) (z : Int), (a2 = k + 9 ∧ j2 / 3 = tg) ∨ (a2 = k + 10 ∧ j2 = tg) → ga_up H a2 j2 z a j = H a j := fun H a2 j2 z w => if_neg (fun v => q (by
        obtain ⟨v1, v2⟩ := v
        subst v1; subst v2
        rcases w with w | w
        · exact Or.inl ⟨w.1, by omega, w.2⟩
        · exact Or.inr w))
    rw [u _ _ _ _ (Or.inr ⟨rfl, rfl⟩), u _ _ _ _ (Or.inl ⟨rfl, by omega⟩), u _ _ _ _ (Or.inl ⟨rfl, by omega⟩), u _ _ _ _ (Or.inl ⟨rfl, by omega⟩)]
    unfold gx_re
    by_cases w : a = k + 9 ∧ j < 147
    · rw [if_pos w, if_pos w, h4 _ (by omega), if_neg (fun v => q (Or.inl ⟨w.1, w.2, v⟩))]
    · rw [if_neg w, if_neg w]
      by_cases w2 : a = k + 10 ∧ j < 49
      · rw [if_pos w2, if_pos w2, h4 _ w2.2, if_neg (fun v => q (Or.inr ⟨w2.1, v⟩))]
      · rw [if_neg w2, if_neg w2]
theorem gp_sr_0 {ax : Int} {f t : Nat} (g : Nat) : gp_sr ax f t 0 g = g := by
  unfold gp_sr
  by_cases e : ax = 0
  · rw [if_pos e, if_neg (by omega)]
  · rw [if_neg e, if_neg (by omega)]
theorem gx_cr_step (I : ga_I) (k : Nat) {ax : Int} {f t m : Nat} (hf : f < 7) (ht : t < 7) (hft : f ≠ t) (hm : m < 7) :
    gx_cr (gx_re I k (gp_sr ax f t m)) k (if ax = 0 then f * 7 + m else m * 7 + f) (if ax = 0 then t * 7 + m else m * 7 + t) = gx_re I k (gp_sr ax f t (m + 1)) := by
  by_cases e0 : ax = 0
  · rw [if_pos e0, if_pos e0]
    refine gx_cr_gen I k (by omega) (by omega) ?_ (fun g hg => ?_)
    · unfold gp_sr
      rw [if_pos e0, if_neg (by omega)]
    · unfold gp_sr
      rw [if_pos e0, if_pos e0]
      by_cases q : g = t * 7 + m
      · rw [if_pos q, if_pos (by omega)]; omega
      · rw [if_neg q]
        by_cases q2 : g / 7 = t ∧ g % 7 < m
        · rw [if_pos q2, if_pos (by omega)]
        · rw [if_neg q2, if_neg (by omega)]
  · rw [if_neg e0, if_neg e0]
    refine gx_cr_gen I k (by omega) (by omega) ?_ (fun g hg => ?_)
    · unfold gp_sr
      rw [if_neg e0, if_neg (by omega)]
    · unfold gp_sr
      rw [if_neg e0, if_neg e0]
      by_cases q : g = m * 7 + t
      · rw [if_pos q, if_pos (by omega)]; omega
      · rw [if_neg q]
        by_cases q2 : g % 7 = t ∧ g / 7 < m
        · rw [if_pos q2, if_pos (by omega)]
        · rw [if_neg q2, if_neg (by omega)]
/-- a region copied by the class -/
theorem l_Table_region (hk : ga_isT k) {ax f t m : Int} {sg tg : Nat} (hs : sg < 49) (ht : tg < 49) (hm : ga_rg m) (K : ga_W G (d + 1) mt_Table_copyStrip 3 [some (.inr k), some (.inl ax), some (.inl f), some (.inl t), some (.inl (m + 1)), none, none, none] [] (gx_cr I k sg tg) E) (hst : sg ≠ tg) :
    ga_W G (d + 1) mt_Table_copyStrip 55 [some (.inr k), some (.inl ax), some (.inl f), some (.inl t), some (.inl m), some (.inl (sg : Int)), some (.inl (tg : Int)), some (.inl 0)] [] I E := by
  have i0 : ∀ x : Nat, ((x : Int) * 3 + 0).toNat = x * 3 := fun x => by omega
  have i1 : ∀ x : Nat, ((x : Int) * 3 + (0 + 1)).toNat = x * 3 + 1 := fun x => by omega
  have i2 : ∀ x : Nat, ((x : Int) * 3 + (0 + 1 + 1)).toNat = x * 3 + 2 := fun x => by omega
  refine k_Table_copyStrip_55 hk ⟨by omega, by omega⟩ (fun hI => ⟨fun h1 => by exfalso; omega, fun h1 => ⟨by omega, by omega, ?_⟩⟩)
  refine k_Table_copyStrip_55 hk ⟨by omega, by omega⟩ (fun hI => ⟨fun h1 => by exfalso; omega, fun h1 => ⟨by omega, by omega, ?_⟩⟩)
  refine k_Table_copyStrip_55 hk ⟨by omega, by omega⟩ (fun hI => ⟨fun h1 => by exfalso; omega, fun h1 => ⟨by omega, by omega, ?_⟩⟩)
  refine k_Table_copyStrip_55 hk ⟨by omega, by omega⟩ (fun hI => ⟨fun h1 => ⟨by omega, by omega, ?_⟩, fun h1 => by exfalso; omega⟩)
  refine gw_eq K rfl ?_
  rw [i0, i0, i1, i1, i2, i2, Int.toNat_natCast, Int.toNat_natCast]
  unfold gx_cr
  rw [ga_up_ne (a := k + 10) (by omega), ga_up_ne (a := k + 10) (by omega), ga_up_ne (a := k + 10) (by omega), ga_up_nj (b := sg * 3 + 2) (by omega), ga_up_nj (b := sg * 3 + 2) (by omega), ga_up_nj (b := sg * 3 + 1) (by omega)]
theorem l_Table_copyStrip (hk : ga_isT k) (I : ga_I) {ax : Int} {f t : Nat} (ha : ga_rg ax) (hf : f < 7) (ht : t < 7) (hft : f ≠ t) (h : E none (gx_re I k (gp_sr ax f t 7))) :
    ∀ (j m : Nat), m + j = 7 → ga_W G (d + 1) mt_Table_copyStrip 3 [some (.inr k), some (.inl ax), some (.inl (f : Int)), some (.inl (t : Int)), some (.inl (m : Int)), none, none, none] [] (gx_re I k (gp_sr ax f t m)) E := by
  intro j
  induction j with
  | zero =>
    intro m hm
    refine k_Table_copyStrip_3 ha ⟨by omega, by omega⟩ (fun hI => ⟨fun h1 => ?_, fun h1 => by exfalso; omega⟩)
    rwa [show m = 7 by omega]
  | succ j ih =>
    intro m hm
    have e := ih (m + 1) (by omega)
    rw [← gx_cr_step I k (ax := ax) hf ht hft (m := m) (by omega)] at e
    refine k_Table_copyStrip_3 ha ⟨by omega, by omega⟩ (fun hI => ⟨fun h1 => by exfalso; omega, fun h1 => ⟨fun h2 => ⟨fun h3 => ?_, fun h3 => absurd h3 h2⟩, fun h2 => ⟨fun h3 => absurd h2 h3, fun h3 => ?_⟩⟩⟩)
    · rw [if_neg h2, if_neg h2] at e
      exact l_Table_region (sg := m * 7 + f) (tg := m * 7 + t) hk (by omega) (by omega) ⟨by omega, by omega⟩ e (by omega)
    · rw [if_pos h2, if_pos h2] at e
      exact l_Table_region (sg := f * 7 + m) (tg := t * 7 + m) hk (by omega) (by omega) ⟨by omega, by omega⟩ e (by omega)
theorem s_Table_copyStrip (hk : ga_isT k) {ax f t : Int} (ha : ga_rg ax) (hf : 0 ≤ f ∧ f < 7) (ht : 0 ≤ t ∧ t < 7) (hft : f ≠ t) (h : E none (gx_re I k (gp_sr ax f.toNat t.toNat 7))) : ga_W G (d + 1) mt_Table_copyStrip 0 (ga_en 8 [.inr k, .inl ax, .inl f, .inl t]) [] I E := by
  have e := l_Table_copyStrip (G := G) (d := d) (E := E) hk I (ax := ax) (f := f.toNat) (t := t.toNat) ha (by omega) (by omega) (by omega) h 7 0 (by omega)
  rw [gx_re_id I k (fun g _ => gp_sr_0 g), show ((f.toNat : Nat) : Int) = f by omega, show ((t.toNat : Nat) : Int) = t by omega] at e
  exact k_Table_copyStrip_0 (fun _ => e)
end LK
