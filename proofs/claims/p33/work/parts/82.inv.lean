/-! p33: what holds of a row beside ni_s: steps, budgets, margin, jumps of the trail, and the accounts that are the sum of the gains (modulo 2 to the 32) -/
theorem wr_k (z : Int) : ∃ k : Int, ga_wr z = z + 4294967296 * k := by
  have e : ga_wr z = z.bmod (2 ^ 32) := ga_toI0 z
  rw [e]
  unfold Int.bmod
  have e2 : (((2 ^ 32 : Nat) : Int)) = 4294967296 := rfl
  by_cases q : z % ((2 ^ 32 : Nat) : Int) < (((2 ^ 32 : Nat) : Int) + 1) / 2
  · refine ⟨-(z / 4294967296), ?_⟩
    show (if z % ((2 ^ 32 : Nat) : Int) < (((2 ^ 32 : Nat) : Int) + 1) / 2 then z % ((2 ^ 32 : Nat) : Int) else z % ((2 ^ 32 : Nat) : Int) - ((2 ^ 32 : Nat) : Int)) = _
    rw [if_pos q, e2]
    omega
  · refine ⟨-(z / 4294967296) - 1, ?_⟩
    show (if z % ((2 ^ 32 : Nat) : Int) < (((2 ^ 32 : Nat) : Int) + 1) / 2 then z % ((2 ^ 32 : Nat) : Int) else z % ((2 ^ 32 : Nat) : Int) - ((2 ^ 32 : Nat) : Int)) = _
    rw [if_neg q, e2]
    omega
theorem rw_up {f f' : Nat → Int} {c : Nat} {δ : Int} (hd : f' c = f c + δ) (ho : ∀ k, k ≠ c → f' k = f k) : ∀ n : Nat, gp_rw f' n = gp_rw f n + (if c < n then δ else 0)
  | 0 => by simp [gp_rw]
  | n + 1 => by
    show gp_rw f' n + f' n = gp_rw f n + f n + _
    rw [rw_up hd ho n]
    by_cases e : n = c
    · subst e
      rw [hd, if_neg (by omega), if_pos (by omega)]; omega
    · rw [ho n e]
      by_cases q : c < n
      · rw [if_pos q, if_pos (by omega)]; omega
      · rw [if_neg q, if_neg (by omega)]; omega
theorem rw_add {f g : Nat → Int} : ∀ n : Nat, gp_rw (fun k => f k + g k) n = gp_rw f n + gp_rw g n
  | 0 => rfl
  | n + 1 => by
    show gp_rw (fun k => f k + g k) n + (f n + g n) = gp_rw f n + f n + (gp_rw g n + g n)
    rw [rw_add n]; omega
theorem tt_add {f g : Nat → Int} {m n : Nat} : gp_tt (fun k => f k + g k) m n = gp_tt f m n + gp_tt g m n := by
  unfold gp_tt
  rw [← rw_add]
  exact gp_rw_cong (fun c _ => rw_add n)
/-- one gain of a region that is there -/
theorem tt_up {s : Nat → Int} {m n g i : Nat} {z : Int} (hg : g < 49) (hi : i < 3) (hc : g / 7 < m) (hr : g % 7 < n) (hn : n ≤ 7) : gp_tt (mp_g3 (ns_up s (38 + 4 * g + i) z)) m n = gp_tt (mp_g3 s) m n + (z - s (38 + 4 * g + i)) := by
  have hd : mp_g3 (ns_up s (38 + 4 * g + i) z) g = mp_g3 s g + (z - s (38 + 4 * g + i)) := by
    unfold mp_g3
    rcases (show i = 0 ∨ i = 1 ∨ i = 2 by omega) with e | e | e <;> subst e
    · rw [show 38 + 4 * g + 0 = 38 + 4 * g from rfl, ns_up_at, ns_up_ne (by omega), ns_up_ne (by omega)]; omega
    · rw [ns_up_at, ns_up_ne (by omega), ns_up_ne (by omega)]; omega
    · rw [ns_up_at, ns_up_ne (by omega), ns_up_ne (by omega)]; omega
  have ho : ∀ k, k ≠ g → mp_g3 (ns_up s (38 + 4 * g + i) z) k = mp_g3 s k := fun k hk => by
    unfold mp_g3
    rw [ns_up_ne (by omega), ns_up_ne (by omega), ns_up_ne (by omega)]
  have row : ∀ c, gp_rw (fun r => mp_g3 (ns_up s (38 + 4 * g + i) z) (c * 7 + r)) n = gp_rw (fun r => mp_g3 s (c * 7 + r)) n + (if c = g / 7 then z - s (38 + 4 * g + i) else 0) := fun c => by
    by_cases e : c = g / 7
    · subst e
      rw [if_pos rfl]
      have eg : g / 7 * 7 + g % 7 = g := by omega
      rw [rw_up (c := g % 7) (δ := z - s (38 + 4 * g + i)) (f := fun r => mp_g3 s (g / 7 * 7 + r)) (by show mp_g3 _ (g / 7 * 7 + g % 7) = mp_g3 s (g / 7 * 7 + g % 7) + _; rw [eg]; exact hd) (fun k hk => ho _ (by omega)) n, if_pos hr]
    · rw [if_neg e, Int.add_zero]
      exact gp_rw_cong (fun r hrn => ho _ (by omega))
  unfold gp_tt
  rw [rw_up (c := g / 7) (δ := z - s (38 + 4 * g + i)) (f := fun c => gp_rw (fun r => mp_g3 s (c * 7 + r)) n) (by rw [row, if_pos rfl]) (fun k hk => by rw [row, if_neg hk, Int.add_zero]) m, if_pos hc]
/-- the sum of all gains looks at numbers of borders and at gains -/
theorem ns_tt_of {s s' : Nat → Int} (h : ni_t s) (e0 : s' 0 = s 0) (e19 : s' 19 = s 19) (e : ∀ g i : Nat, g < 49 → i < 3 → s' (38 + 4 * g + i) = s (38 + 4 * g + i)) : ns_tt s' = ns_tt s := by
  have n0 := ni_n h (ax := 0) (by omega)
  have n1 := ni_n h (ax := 1) (by omega)
  have f0 : ms_n s' 0 = ms_n s 0 := e0
  have f1 : ms_n s' 1 = ms_n s 1 := e19
  unfold ns_tt
  rw [f0, f1]
  refine gp_tt_cong (by omega) (by omega) (fun g hg => ?_)
  unfold mp_g3
  have e1 := e g 0 hg (by omega)
  rw [Nat.add_zero] at e1
  rw [e1, e g 1 hg (by omega), e g 2 hg (by omega)]
def np_ac (s : Nat → Int) : Prop := ∃ k : Int, s 250 + s 251 + s 252 + s 253 = ns_tt s + 4294967296 * k
def np_o (s : Nat → Int) : Prop := ∀ op : Nat, op < 3 → (1 ≤ s (241 + 3 * op) ∧ s (241 + 3 * op) ≤ 9999) ∧ (0 ≤ s (242 + 3 * op) ∧ s (242 + 3 * op) ≤ 99999)
def np_j (s : Nat → Int) : Prop := ∀ i : Nat, i < 20 → 0 ≤ s (262 + 8 * i) ∧ s (262 + 8 * i) ≤ 9999
def np_s (s : Nat → Int) : Prop := np_o s ∧ (0 ≤ s 238 ∧ s 238 ≤ 50) ∧ np_j s ∧ np_ac s
theorem np_of {s s' : Nat → Int} (h : np_s s) (e1 : s' 238 = s 238) (e2 : ∀ j, (241 ≤ j ∧ j < 254) → s' j = s j) (e3 : ∀ j, (255 ≤ j ∧ j < 415) → s' j = s j) (et : ns_tt s' = ns_tt s) : np_s s' := by
  obtain ⟨h1, h2, h3, k, h4⟩ := h
  refine ⟨fun op ho => ?_, by rw [e1]; exact h2, fun i hi => by rw [e3 _ (by omega)]; exact h3 i hi, k, ?_⟩
  · rw [e2 _ (by omega), e2 _ (by omega)]; exact h1 op ho
  · rw [e2 250 (by omega), e2 251 (by omega), e2 252 (by omega), e2 253 (by omega), et]; exact h4
theorem ns_fz_o {s : Nat → Int} {j : Nat} (h1 : j ≠ 236) (h2 : j ≠ 237) : ns_fz s j = s j := by
  unfold ns_fz; rw [ns_up_ne h2, ns_up_ne h1]
theorem ns_tt_fz {s : Nat → Int} (h : ni_t s) : ns_tt (ns_fz s) = ns_tt s :=
  ns_tt_of h (ns_fz_o (by omega) (by omega)) (ns_fz_o (by omega) (by omega)) (fun g i hg hi => ns_fz_o (by omega) (by omega))
theorem np_st {s s' : Nat → Int} (h : np_s s) (ht : ni_t s') (e : ∀ j, 238 ≤ j → j < 415 → s' j = s j) : np_s (ns_st s' (ns_tt s)) := by
  obtain ⟨h1, h2, h3, k, h4⟩ := h
  have ht2 : ni_t (ns_up s' 253 (ga_wr (s' 253 + (ns_tt s' - ns_tt s)))) := ni_t_of (fun j hj => ns_up_ne (by omega)) ht
  have o : ∀ j, 238 ≤ j → j < 415 → j ≠ 253 → ns_st s' (ns_tt s) j = s j := fun j a b c => by
    unfold ns_st
    rw [ns_fz_o (by omega) (by omega), ns_up_ne c, e j a b]
  have o2 : ns_st s' (ns_tt s) 253 = ga_wr (s 253 + (ns_tt s' - ns_tt s)) := by
    unfold ns_st
    rw [ns_fz_o (by omega) (by omega), ns_up_at, e 253 (by omega) (by omega)]
  have et : ns_tt (ns_st s' (ns_tt s)) = ns_tt s' := by
    unfold ns_st
    rw [ns_tt_fz ht2]
    exact ns_tt_of ht (ns_up_ne (by omega)) (ns_up_ne (by omega)) (fun g i hg hi => ns_up_ne (by omega))
  refine ⟨fun op ho => ?_, ?_, fun i hi => ?_, ?_⟩
  · rw [o _ (by omega) (by omega) (by omega), o _ (by omega) (by omega) (by omega)]; exact h1 op ho
  · rw [o _ (by omega) (by omega) (by omega)]; exact h2
  · rw [o _ (by omega) (by omega) (by omega)]; exact h3 i hi
  · obtain ⟨k2, e2⟩ := wr_k (s 253 + (ns_tt s' - ns_tt s))
    refine ⟨k + k2, ?_⟩
    rw [o 250 (by omega) (by omega) (by omega), o 251 (by omega) (by omega) (by omega), o 252 (by omega) (by omega) (by omega), o2, et, e2]
    omega
theorem np_up {s : Nat → Int} {j : Nat} {z : Int} (h : np_s s) (ht : ni_t s) (hj : (1 ≤ j ∧ j < 19) ∨ (20 ≤ j ∧ j < 38) ∨ (38 ≤ j ∧ j < 234 ∧ (j - 38) % 4 = 3) ∨ (234 ≤ j ∧ j < 238) ∨ (239 ≤ j ∧ j < 241) ∨ j = 254 ∨ 415 ≤ j) : np_s (ns_up s j z) :=
  np_of h (ns_up_ne (by omega)) (fun i hi => ns_up_ne (by omega)) (fun i hi => ns_up_ne (by omega)) (ns_tt_of ht (ns_up_ne (by omega)) (ns_up_ne (by omega)) (fun g i hg hi => ns_up_ne (by omega)))
theorem np_fz {s : Nat → Int} (h : np_s s) (ht : ni_t s) : np_s (ns_fz s) :=
  np_of h (ns_fz_o (by omega) (by omega)) (fun i hi => ns_fz_o (by omega) (by omega)) (fun i hi => ns_fz_o (by omega) (by omega)) (ns_tt_fz ht)
theorem np_so {s : Nat → Int} {op w z : Int} (h : np_s s) (ht : ni_t s) (ho : 0 ≤ op ∧ op ≤ 2) (hz : (w = 0 ∧ 1 ≤ z ∧ z ≤ 9999) ∨ (w = 1 ∧ 0 ≤ z ∧ z ≤ 99999)) : np_s (ns_up s (241 + 3 * op + w).toNat z) := by
  obtain ⟨h1, h2, h3, k, h4⟩ := h
  have et : ns_tt (ns_up s (241 + 3 * op + w).toNat z) = ns_tt s := ns_tt_of ht (ns_up_ne (by omega)) (ns_up_ne (by omega)) (fun g i hg hi => ns_up_ne (by omega))
  refine ⟨fun p hp => ?_, by rw [ns_up_ne (by omega)]; exact h2, fun i hi => by rw [ns_up_ne (by omega)]; exact h3 i hi, k, ?_⟩
  · refine ⟨?_, ?_⟩
    · by_cases e : 241 + 3 * p = (241 + 3 * op + w).toNat
      · rw [e, ns_up_at]; omega
      · rw [ns_up_ne e]; exact (h1 p hp).1
    · by_cases e : 242 + 3 * p = (241 + 3 * op + w).toNat
      · rw [e, ns_up_at]; omega
      · rw [ns_up_ne e]; exact (h1 p hp).2
  · rw [ns_up_ne (by omega), ns_up_ne (by omega), ns_up_ne (by omega), ns_up_ne (by omega), et]; exact h4
theorem np_mg {s : Nat → Int} {z : Int} (h : np_s s) (ht : ni_t s) (hz : 0 ≤ z ∧ z ≤ 50) : np_s (ns_up s 238 z) := by
  obtain ⟨h1, h2, h3, k, h4⟩ := h
  have et : ns_tt (ns_up s 238 z) = ns_tt s := ns_tt_of ht (ns_up_ne (by omega)) (ns_up_ne (by omega)) (fun g i hg hi => ns_up_ne (by omega))
  refine ⟨fun p hp => ?_, by rw [ns_up_at]; exact hz, fun i hi => by rw [ns_up_ne (by omega)]; exact h3 i hi, k, ?_⟩
  · rw [ns_up_ne (by omega), ns_up_ne (by omega)]; exact h1 p hp
  · rw [ns_up_ne (by omega), ns_up_ne (by omega), ns_up_ne (by omega), ns_up_ne (by omega), et]; exact h4
/-- an edit that is not refused -/
theorem np_ch {s : Nat → Int} {op c r i z : Int} (h : np_s s) (ht : ni_t s) (hw : na_ed s op c r i z) (hr : ns_ra s op c r i z = 0) : np_s (ns_ch s op (38 + 4 * (7 * c + r) + i).toNat z) := by
  obtain ⟨h1, h2, h3, k, h4⟩ := h
  obtain ⟨w1, ⟨w2, w3⟩, w4, w5⟩ := hw
  have n0 := ni_n ht (ax := 0) (by omega)
  have n1 := ni_n ht (ax := 1) (by omega)
  obtain ⟨j, hj⟩ : ∃ j : Nat, j = (38 + 4 * (7 * c + r) + i).toNat := ⟨_, rfl⟩
  rw [← hj]
  have hg : (7 * c + r).toNat < 49 := by omega
  have hi : i.toNat < 3 := by omega
  have ej : j = 38 + 4 * (7 * c + r).toNat + i.toNat := by omega
  have hb := (h1 op.toNat (by omega)).2
  have hd : ((s j - z).natAbs : Int) ≤ s (242 + 3 * op.toNat) := by
    unfold ns_ra mp_ra at hr
    by_cases a : s (38 + 4 * (7 * c + r) + 3).toNat ≠ -1 ∧ s (38 + 4 * (7 * c + r) + 3).toNat ≠ op
    · rw [if_pos a] at hr; omega
    · rw [if_neg a] at hr
      by_cases b : s (241 + 3 * op).toNat < ((s (38 + 4 * (7 * c + r) + i).toNat - z).natAbs : Int)
      · rw [if_pos b] at hr; omega
      · rw [if_neg b] at hr
        by_cases q : s (241 + 3 * op + 1).toNat < ((s (38 + 4 * (7 * c + r) + i).toNat - z).natAbs : Int)
        · rw [if_pos q] at hr; omega
        · rw [show 242 + 3 * op.toNat = (241 + 3 * op + 1).toNat by omega, hj]; omega
  have v1 : ns_ch s op j z (242 + 3 * op.toNat) = s (242 + 3 * op.toNat) - ((s j - z).natAbs : Int) := by
    unfold ns_ch
    rw [ns_up_ne (by omega), ns_up_ne (by omega), ns_up_ne (by omega), show (241 + 3 * op + 1).toNat = 242 + 3 * op.toNat by omega, ns_up_at, ga_wr_eq ⟨by omega, by omega⟩]
  have v2 : ns_ch s op j z (250 + op.toNat) = ga_wr (s (250 + op.toNat) + (z - s j)) := by
    unfold ns_ch
    rw [ns_up_ne (by omega), show (250 + op).toNat = 250 + op.toNat by omega, ns_up_at]
  have o : ∀ q, q ≠ j → q ≠ 242 + 3 * op.toNat → q ≠ 243 + 3 * op.toNat → q ≠ 250 + op.toNat → ns_ch s op j z q = s q := fun q a1 a2 a3 a4 => by
    unfold ns_ch
    rw [ns_up_ne a1, ns_up_ne (by omega), ns_up_ne (by omega), ns_up_ne (by omega)]
  have et : ns_tt (ns_ch s op j z) = ns_tt s + (z - s j) := by
    have e1 : ns_tt (ns_ch s op j z) = ns_tt (ns_up s j z) := by
      refine ns_tt_of (s := ns_up s j z) ?_ ?_ ?_ (fun g' i' hg' hi' => ?_)
      · refine ⟨gp_ok_of ht.1 (ns_up_ne (by omega)) (fun b hb => ⟨ns_up_ne (by omega), ns_up_ne (by omega), ns_up_ne (by omega)⟩), gp_ok_of ht.2.1 (ns_up_ne (by omega)) (fun b hb => ⟨ns_up_ne (by omega), ns_up_ne (by omega), ns_up_ne (by omega)⟩), fun g' i' hg' hi' => ?_, fun g' hg' => ?_⟩
        · by_cases e : 38 + 4 * g' + i' = j
          · rw [e, ns_up_at]; exact w5
          · rw [ns_up_ne e]; exact ht.2.2.1 g' i' hg' hi'
        · rw [ns_up_ne (by omega)]; exact ht.2.2.2 g' hg'
      · rw [o 0 (by omega) (by omega) (by omega) (by omega), ns_up_ne (by omega)]
      · rw [o 19 (by omega) (by omega) (by omega) (by omega), ns_up_ne (by omega)]
      · by_cases e : 38 + 4 * g' + i' = j
        · rw [e, ns_up_at]; unfold ns_ch; rw [ns_up_at]
        · rw [ns_up_ne e, o _ e (by omega) (by omega) (by omega)]
    rw [e1]
    unfold ns_tt
    have f0 : ms_n (ns_up s j z) 0 = ms_n s 0 := ns_up_ne (by omega)
    have f1 : ms_n (ns_up s j z) 1 = ms_n s 1 := ns_up_ne (by omega)
    rw [f0, f1, ej]
    exact tt_up hg hi (by omega) (by omega) (by omega)
  refine ⟨fun p hp => ?_, ?_, fun q hq => ?_, ?_⟩
  · refine ⟨?_, ?_⟩
    · rw [o _ (by omega) (by omega) (by omega) (by omega)]; exact (h1 p hp).1
    · by_cases e : p = op.toNat
      · rw [e, v1]; omega
      · rw [o _ (by omega) (by omega) (by omega) (by omega)]; exact (h1 p hp).2
  · rw [o _ (by omega) (by omega) (by omega) (by omega)]; exact h2
  · rw [o _ (by omega) (by omega) (by omega) (by omega)]; exact h3 q hq
  · obtain ⟨k2, e2⟩ := wr_k (s (250 + op.toNat) + (z - s j))
    refine ⟨k + k2, ?_⟩
    rw [et]
    rcases (show op.toNat = 0 ∨ op.toNat = 1 ∨ op.toNat = 2 by omega) with e | e | e
    · rw [e] at v2 e2
      rw [show 250 + 0 = 250 from rfl] at v2 e2
      rw [v2, e2, o 251 (by omega) (by omega) (by omega) (by omega), o 252 (by omega) (by omega) (by omega) (by omega), o 253 (by omega) (by omega) (by omega) (by omega)]; omega
    · rw [e] at v2 e2
      rw [show 250 + 1 = 251 from rfl] at v2 e2
      rw [v2, e2, o 250 (by omega) (by omega) (by omega) (by omega), o 252 (by omega) (by omega) (by omega) (by omega), o 253 (by omega) (by omega) (by omega) (by omega)]; omega
    · rw [e] at v2 e2
      rw [show 250 + 2 = 252 from rfl] at v2 e2
      rw [v2, e2, o 250 (by omega) (by omega) (by omega) (by omega), o 251 (by omega) (by omega) (by omega) (by omega), o 253 (by omega) (by omega) (by omega) (by omega)]; omega
def sp_ok (s0 s : Nat → Int) : Prop := sc_ok s0 s ∧ np_s s
theorem sp_s1 {s0 : Nat → Int} {op i pc c r : Int} {X : (Nat → Int) × Int} (h : sp_ok s0 X.1) (ho : 0 ≤ op ∧ op ≤ 2) (hi : 0 ≤ i ∧ i ≤ 2) (hp : 0 ≤ pc ∧ pc ≤ 1000) (hc : 0 ≤ c ∧ c ≤ ms_n s0 0) (hr : 0 ≤ r ∧ r ≤ ms_n s0 1) : sp_ok s0 (ns_s1 op i pc X c r).1 ∧ (ns_s1 op i pc X c r).2 - X.2 ≤ 1 ∧ X.2 ≤ (ns_s1 op i pc X c r).2 := by
  have n0 := ni_n h.1.1.1 (ax := 0) (by omega)
  have n1 := ni_n h.1.1.1 (ax := 1) (by omega)
  have m0 := h.1.2.1
  have m1 := h.1.2.2
  refine ⟨⟨sc_s1 h.1 ho hi hp (by omega) (by omega), ?_⟩, ?_, ?_⟩
  · unfold ns_s1
    by_cases q : ns_ra X.1 op c r i (ns_sv X.1 c r i pc) = 0
    · rw [if_pos q]
      have hb := ns_sv_bd h.1.1 (c := c) (r := r) (i := i) (by omega) (by omega) hi hp
      refine np_ch h.2 h.1.1.1 ⟨ho, ⟨by omega, by omega⟩, hi, ?_⟩ q
      unfold ns_sv
      omega
    · rw [if_neg q]; exact h.2
  · unfold ns_s1
    by_cases q : ns_ra X.1 op c r i (ns_sv X.1 c r i pc) = 0
    · rw [if_pos q]; show X.2 + 1 - X.2 ≤ 1; omega
    · rw [if_neg q]; omega
  · unfold ns_s1
    by_cases q : ns_ra X.1 op c r i (ns_sv X.1 c r i pc) = 0
    · rw [if_pos q]; show X.2 ≤ X.2 + 1; omega
    · rw [if_neg q]; exact Int.le_refl _
theorem sp_s2 {s0 : Nat → Int} {op i pc c : Int} {X : (Nat → Int) × Int} (h : sp_ok s0 X.1) (ho : 0 ≤ op ∧ op ≤ 2) (hi : 0 ≤ i ∧ i ≤ 2) (hp : 0 ≤ pc ∧ pc ≤ 1000) (hc : 0 ≤ c ∧ c ≤ ms_n s0 0) : ∀ m : Nat, (m : Int) ≤ ms_n s0 1 + 1 → sp_ok s0 (ns_s2 op i pc X c m).1 ∧ (ns_s2 op i pc X c m).2 - X.2 ≤ m ∧ X.2 ≤ (ns_s2 op i pc X c m).2
  | 0, _ => ⟨h, by show X.2 - X.2 ≤ ((0 : Nat) : Int); omega, Int.le_refl _⟩
  | m + 1, hm => by
    obtain ⟨a, b, c2⟩ := sp_s2 h ho hi hp hc m (by omega)
    obtain ⟨a1, b1, c1⟩ := sp_s1 (r := (m : Int)) a ho hi hp hc ⟨by omega, by omega⟩
    refine ⟨a1, ?_, ?_⟩
    · show (ns_s1 op i pc (ns_s2 op i pc X c m) c (m : Int)).2 - X.2 ≤ ((m + 1 : Nat) : Int); omega
    · show X.2 ≤ (ns_s1 op i pc (ns_s2 op i pc X c m) c (m : Int)).2; omega
theorem sp_s3 {s0 : Nat → Int} {op i pc : Int} {m : Nat} {X : (Nat → Int) × Int} (h : sp_ok s0 X.1) (ho : 0 ≤ op ∧ op ≤ 2) (hi : 0 ≤ i ∧ i ≤ 2) (hp : 0 ≤ pc ∧ pc ≤ 1000) (hm : (m : Int) ≤ ms_n s0 1 + 1) (h7 : m ≤ 7) : ∀ n : Nat, (n : Int) ≤ ms_n s0 0 + 1 → sp_ok s0 (ns_s3 op i pc X m n).1 ∧ (ns_s3 op i pc X m n).2 - X.2 ≤ 7 * n ∧ X.2 ≤ (ns_s3 op i pc X m n).2
  | 0, _ => ⟨h, by show X.2 - X.2 ≤ 7 * ((0 : Nat) : Int); omega, Int.le_refl _⟩
  | n + 1, hn => by
    obtain ⟨a, b, c2⟩ := sp_s3 h ho hi hp hm h7 n (by omega)
    obtain ⟨a1, b1, c1⟩ := sp_s2 (c := (n : Int)) a ho hi hp ⟨by omega, by omega⟩ m hm
    refine ⟨a1, ?_, ?_⟩
    · show (ns_s2 op i pc (ns_s3 op i pc X m n) (n : Int) m).2 - X.2 ≤ 7 * ((n + 1 : Nat) : Int); omega
    · show X.2 ≤ (ns_s2 op i pc (ns_s3 op i pc X m n) (n : Int) m).2; omega
theorem np_mv {s : Nat → Int} {x y : Int} (h : np_s s) (hs : ni_s s) (hx : 0 ≤ x ∧ x ≤ 1000) (hy : 0 ≤ y ∧ y ≤ 1000) : np_s (ns_mm s x y) := by
  unfold ns_mm
  by_cases q : na_ig s x y
  · rw [if_pos q]; exact np_up h hs.1 (by omega)
  · rw [if_neg q]
    have hn := hs.2.2.2.1
    have o1 : ∀ j, j < 234 ∨ (240 < j) ∨ j = 238 → ns_t1 s x y j = s j := fun j hj => by rw [ns_t1_o (by omega), ns_go_o (by omega)]
    have t254 : ns_t1 s x y 254 = s 254 := o1 254 (by omega)
    have hE : ns_e (ns_t1 s x y) = 255 + 8 * (min (s 254) 19).toNat := by unfold ns_e; rw [t254]
    have o2 : ∀ j, j < 234 ∨ (240 < j ∧ j < 254) ∨ j = 238 → ns_mv s x y j = s j := fun j hj => by
      unfold ns_mv
      rw [ns_wk_o (by rw [hE]; omega)]
      unfold ns_ne
      by_cases w : ns_t1 s x y 254 = 20
      · rw [if_pos w]; show (if 255 ≤ j ∧ j < 407 then _ else ns_t1 s x y j) = _; rw [if_neg (by omega), o1 j (by omega)]
      · rw [if_neg w, ns_up_ne (by omega), o1 j (by omega)]
    have et : ns_tt (ns_mv s x y) = ns_tt s := ns_tt_of hs.1 (o2 _ (by omega)) (o2 _ (by omega)) (fun g i hg hi => o2 _ (by omega))
    obtain ⟨h1, h2, h3, k, h4⟩ := h
    have hs2 := ni_t1 hs hx hy
    have hby := ns_by_bd hs hs2
    refine ⟨fun op ho => ?_, by rw [o2 _ (by omega)]; exact h2, fun i hi => ?_, k, ?_⟩
    · rw [o2 _ (by omega), o2 _ (by omega)]; exact h1 op ho
    · by_cases a : ns_e (ns_t1 s x y) ≤ 262 + 8 * i ∧ 262 + 8 * i < ns_e (ns_t1 s x y) + 8
      · unfold ns_mv ns_wk
        rw [if_pos a]
        rw [show 262 + 8 * i - ns_e (ns_t1 s x y) = 7 by rw [hE] at a ⊢; omega]
        exact hby
      · unfold ns_mv
        rw [ns_wk_o (by omega)]
        unfold ns_ne
        by_cases w : ns_t1 s x y 254 = 20
        · rw [if_pos w]
          show 0 ≤ (if 255 ≤ 262 + 8 * i ∧ 262 + 8 * i < 407 then ns_t1 s x y (262 + 8 * i + 8) else ns_t1 s x y (262 + 8 * i)) ∧ (if 255 ≤ 262 + 8 * i ∧ 262 + 8 * i < 407 then ns_t1 s x y (262 + 8 * i + 8) else ns_t1 s x y (262 + 8 * i)) ≤ 9999
          by_cases u : 255 ≤ 262 + 8 * i ∧ 262 + 8 * i < 407
          · rw [if_pos u, o1 _ (by omega)]
            have := h3 (i + 1) (by omega)
            rw [show 262 + 8 * (i + 1) = 262 + 8 * i + 8 by omega] at this
            exact this
          · rw [if_neg u, o1 _ (by omega)]; exact h3 i hi
        · rw [if_neg w, ns_up_ne (by omega), o1 _ (by omega)]; exact h3 i hi
    · rw [o2 250 (by omega), o2 251 (by omega), o2 252 (by omega), o2 253 (by omega), et]; exact h4
theorem np_mw {s : Nat → Int} {ax c : Int} (h : np_s s) (hs : ni_s s) (hc : 0 ≤ c ∧ c ≤ 1000) : np_s (ns_mw s ax c) := by
  have hp := hs.2.1
  unfold ns_mw
  by_cases q : ax = 0
  · rw [if_pos q]; exact np_mv h hs hc hp.2
  · rw [if_neg q]; exact np_mv h hs hp.1 hc
theorem np_sw {ax to step : Int} (ht : 0 ≤ to ∧ to ≤ 1000) (hst : 1 ≤ step) : ∀ (f : Nat) (s : Nat → Int) (c ch : Int), np_s s → ni_s s → 0 ≤ c ∧ c ≤ 1000 → np_s (ns_sw ax to step f s c ch).1 ∧ ch ≤ (ns_sw ax to step f s c ch).2 ∧ (ns_sw ax to step f s c ch).2 ≤ ch + f
  | 0, s, c, ch, h, _, _ => ⟨h, Int.le_refl _, by show ch ≤ ch + ((0 : Nat) : Int); omega⟩
  | f + 1, s, c, ch, h, hs, hc => by
    have hb := ns_tw_bd hc ht (step := step) hst
    unfold ns_sw
    by_cases q : c = to
    · rw [if_pos q]; exact ⟨h, Int.le_refl _, by show ch ≤ ch + ((f + 1 : Nat) : Int); omega⟩
    · rw [if_neg q]
      by_cases w : ns_mw s ax (ns_tw c to step) (236 + ax).toNat = s (236 + ax).toNat
      · rw [if_pos w]
        obtain ⟨a, b, d⟩ := np_sw ht hst f (ns_mw s ax (ns_tw c to step)) (ns_tw c to step) ch (np_mw h hs hb) (ni_mw hs hb) hb
        exact ⟨a, b, by omega⟩
      · rw [if_neg w]
        obtain ⟨a, b, d⟩ := np_sw ht hst f (ns_mw s ax (ns_tw c to step)) (ns_tw c to step) (ch + 1) (np_mw h hs hb) (ni_mw hs hb) hb
        exact ⟨a, by omega, by omega⟩
theorem np_tk {s : Nat → Int} {p : Nat} (h : np_s s) (ht : ni_t s) : np_s (ns_tk s p) := by
  have lo : ∀ j, j < 415 → ns_tk s p j = s j := fun j hj => by unfold ns_tk; rw [if_neg (by omega), if_neg (by omega)]
  exact np_of h (lo _ (by omega)) (fun j hj => lo j (by omega)) (fun j hj => lo j (by omega)) (ns_tt_of ht (lo _ (by omega)) (lo _ (by omega)) (fun g i hg hi => lo _ (by omega)))
