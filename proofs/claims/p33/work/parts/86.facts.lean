/-! p33: what isRight looks at -/
theorem fi_f {p q r : Nat → Int} {n : Int} (h : gp_ok n p q r) {z c : Int} (hc : 0 ≤ c ∧ c ≤ 1000) :
    (0 ≤ (gp_fi p q r n.toNat z c).1 ∧ (gp_fi p q r n.toNat z c).1 ≤ (gp_fi p q r n.toNat z c).2.1 ∧ (gp_fi p q r n.toNat z c).2.1 ≤ n ∧ (gp_fi p q r n.toNat z c).2.1 ≤ (gp_fi p q r n.toNat z c).1 + 1) ∧
    ((gp_fi p q r n.toNat z c).2.1 = (gp_fi p q r n.toNat z c).1 ↔ (gp_fi p q r n.toNat z c).2.2.2 = 1) := by
  have h0 := h.1
  unfold gp_fi
  by_cases e : gp_bl p q r (gp_hd p q z c n.toNat) n.toNat = -1
  · rw [if_pos e]
    have hb := gp_st_bd p (gp_hd p q z c n.toNat) n.toNat
    exact ⟨⟨hb.1, Int.le_refl _, by show gp_st p (gp_hd p q z c n.toNat) n.toNat ≤ n; omega, by show gp_st p (gp_hd p q z c n.toNat) n.toNat ≤ gp_st p (gp_hd p q z c n.toNat) n.toNat + 1; omega⟩, fun _ => rfl, fun _ => rfl⟩
  · rw [if_neg e]
    obtain ⟨b, hb⟩ : ∃ b, b = gp_bl p q r (gp_hd p q z c n.toNat) n.toNat := ⟨_, rfl⟩
    have w : gp_bl p q r (gp_hd p q z c n.toNat) n.toNat = -1 ∨ (0 ≤ gp_bl p q r (gp_hd p q z c n.toNat) n.toNat ∧ gp_bl p q r (gp_hd p q z c n.toNat) n.toNat < n.toNat ∧ decide (q (gp_bl p q r (gp_hd p q z c n.toNat) n.toNat).toNat = 1 ∧ p (gp_bl p q r (gp_hd p q z c n.toNat) n.toNat).toNat - r (gp_bl p q r (gp_hd p q z c n.toNat) n.toNat).toNat ≤ gp_hd p q z c n.toNat ∧ gp_hd p q z c n.toNat ≤ p (gp_bl p q r (gp_hd p q z c n.toNat) n.toNat).toNat + r (gp_bl p q r (gp_hd p q z c n.toNat) n.toNat).toNat) = true) := gp_ff_bd (fun b => decide (q b = 1 ∧ p b - r b ≤ gp_hd p q z c n.toNat ∧ gp_hd p q z c n.toNat ≤ p b + r b)) n.toNat
    rw [← hb] at w e ⊢
    rcases w with w | ⟨w1, w2, w3⟩
    · exact absurd w e
    · have w4 := of_decide_eq_true w3
      have ok := h.2.2.1 b.toNat (by omega)
      refine ⟨⟨w1, by show b ≤ b + 1; omega, by show b + 1 ≤ n; omega, by show b + 1 ≤ b + 1; omega⟩, fun u => ?_, fun u => ?_⟩
      · change b + 1 = b at u; omega
      · change 2 * r b.toNat = 1 at u; omega
/-- the strips and the weight at the point -/
theorem na_f_f {s : Nat → Int} (h : ni_s s) {ax : Int} (ha : 0 ≤ ax ∧ ax ≤ 1) :
    ((0 ≤ (na_f s ax).1 ∧ (na_f s ax).1 ≤ (na_f s ax).2.1 ∧ (na_f s ax).2.1 ≤ ms_n s ax ∧ (na_f s ax).2.1 ≤ (na_f s ax).1 + 1) ∧ ((na_f s ax).2.1 = (na_f s ax).1 ↔ (na_f s ax).2.2.2 = 1)) ∧ gp_vk (na_f s ax) := by
  have hc : 0 ≤ s (234 + ax).toNat ∧ s (234 + ax).toNat ≤ 1000 := by
    rcases (show ax = 0 ∨ ax = 1 by omega) with e | e <;> subst e
    · exact h.2.1.1
    · exact h.2.1.2
  exact ⟨fi_f (ni_axs h.1 ha) hc, gp_fi_k (ni_axs h.1 ha) hc⟩
theorem axv {A : na_A} {ax : Int} (h : 0 ≤ ax ∧ ax ≤ 1) : na_axis A ax 1 = gp_ct (gp_sk (ms_q A.1 ax)) (ms_n A.1 ax).toNat + 1 ∧ na_axis A ax 2 = (na_f A.1 ax).1 ∧ na_axis A ax 3 = (na_f A.1 ax).2.1 ∧ na_axis A ax 4 = (na_f A.1 ax).2.2.1 ∧ na_axis A ax 5 = (na_f A.1 ax).2.2.2 := by
  unfold na_axis
  refine ⟨?_, ?_, ?_, ?_, ?_⟩
  · rw [if_neg (by omega), if_neg (by omega), if_pos rfl]
  · rw [if_neg (by omega), if_neg (by omega), if_neg (by omega), if_pos rfl]
  · rw [if_neg (by omega), if_neg (by omega), if_neg (by omega), if_neg (by omega), if_pos rfl]
  · rw [if_neg (by omega), if_neg (by omega), if_neg (by omega), if_neg (by omega), if_neg (by omega), if_pos rfl]
  · rw [if_neg (by omega), if_neg (by omega), if_neg (by omega), if_neg (by omega), if_neg (by omega), if_neg (by omega)]
theorem bdv {A : na_A} {ax : Int} {k : Nat} (h : 0 ≤ ax ∧ ax ≤ 1) (hk : (k : Int) < ms_n A.1 ax) : na_border A ax (k : Int) 0 = ms_p A.1 ax k ∧ na_border A ax (k : Int) 1 = ms_q A.1 ax k ∧ na_border A ax (k : Int) 2 = ms_r A.1 ax k := by
  unfold na_border
  refine ⟨?_, ?_, ?_⟩
  · rw [if_neg (by omega), if_pos hk]; rfl
  · rw [if_neg (by omega), if_pos hk]; rfl
  · rw [if_neg (by omega), if_pos hk]; rfl
def lk3 (s : Nat → Int) : Nat → Int := fun g => if s (38 + 4 * g + 3) = -1 then 0 else 1
def rgl (s : Nat → Int) (g : Nat) : Int := if s (38 + 4 * g + 3) = -1 then -2000000009 else s (38 + 4 * g + 3)
theorem rgv {A : na_A} {c r : Nat} (hc : (c : Int) ≤ ms_n A.1 0) (hr : (r : Int) ≤ ms_n A.1 1) : na_region A (c : Int) (r : Int) 0 = A.1 (38 + 4 * (c * 7 + r)) ∧ na_region A (c : Int) (r : Int) 1 = A.1 (38 + 4 * (c * 7 + r) + 1) ∧ na_region A (c : Int) (r : Int) 2 = A.1 (38 + 4 * (c * 7 + r) + 2) ∧ na_region A (c : Int) (r : Int) 3 = rgl A.1 (c * 7 + r) := by
  unfold na_region
  have e : ∀ w : Nat, (38 + 4 * (7 * (c : Int) + (r : Int)) + (w : Int)).toNat = 38 + 4 * (c * 7 + r) + w := fun w => by omega
  have e0 := e 0
  have e1 := e 1
  have e2 := e 2
  have e3 := e 3
  refine ⟨?_, ?_, ?_, ?_⟩
  · rw [if_neg (by omega), if_neg (by omega)]; exact congrArg A.1 e0
  · rw [if_neg (by omega), if_neg (by omega)]; exact congrArg A.1 e1
  · rw [if_neg (by omega), if_neg (by omega)]; exact congrArg A.1 e2
  · rw [if_neg (by omega)]
    have e4 : (38 + 4 * (7 * (c : Int) + (r : Int)) + 3).toNat = 38 + 4 * (c * 7 + r) + 3 := e3
    rw [e4]
    unfold rgl
    by_cases q : A.1 (38 + 4 * (c * 7 + r) + 3) = -1
    · rw [if_pos ⟨rfl, q⟩, if_pos q]
    · rw [if_neg (fun w => q w.2), if_neg q]
/-- a corner's gain -/
def rv (s : Nat → Int) (c r g : Int) : Int := s (38 + 4 * (7 * c + r) + g).toNat
theorem rvv {A : na_A} {c r g : Int} (hc : 0 ≤ c ∧ c ≤ ms_n A.1 0) (hr : 0 ≤ r ∧ r ≤ ms_n A.1 1) (hg : 0 ≤ g ∧ g ≤ 2) : na_region A c r g = rv A.1 c r g := by
  unfold na_region
  rw [if_neg (by omega), if_neg (by omega)]
  rfl
theorem rv_bd {s : Nat → Int} (h : ni_t s) {c r g : Int} (hc : 0 ≤ c ∧ c ≤ 6) (hr : 0 ≤ r ∧ r ≤ 6) (hg : 0 ≤ g ∧ g ≤ 2) : 0 ≤ rv s c r g ∧ rv s c r g ≤ 9999 := by
  have hv := h.2.2.1 (7 * c + r).toNat g.toNat (by omega) (by omega)
  rw [show 38 + 4 * (7 * c + r).toNat + g.toNat = (38 + 4 * (7 * c + r) + g).toNat by omega] at hv
  exact hv
theorem rgl_lt {s : Nat → Int} (h : ni_t s) {g : Nat} (hg : g < 49) : (rgl s g < 0 → lk3 s g = 0) ∧ (¬ rgl s g < 0 → lk3 s g = 1) ∧ ga_rg (rgl s g) := by
  have hv := h.2.2.2 g hg
  unfold rgl lk3
  by_cases q : s (38 + 4 * g + 3) = -1
  · rw [if_pos q, if_pos q]; exact ⟨fun _ => rfl, fun w => absurd (by omega) w, ⟨by omega, by omega⟩⟩
  · rw [if_neg q, if_neg q]; exact ⟨fun w => absurd w (by omega), fun _ => rfl, ⟨by omega, by omega⟩⟩
theorem lk_sum {s : Nat → Int} (h : ni_t s) {m n : Nat} (hm : m ≤ 7) (hn : n ≤ 7) : gp_tt (lk3 s) m n = gp_tt (mp_lk s 0) m n + gp_tt (mp_lk s 1) m n + gp_tt (mp_lk s 2) m n := by
  rw [← tt_add, ← tt_add]
  refine gp_tt_cong hm hn (fun g hg => ?_)
  have hv := h.2.2.2 g hg
  unfold lk3 mp_lk
  rcases (show s (38 + 4 * g + 3) = -1 ∨ s (38 + 4 * g + 3) = 0 ∨ s (38 + 4 * g + 3) = 1 ∨ s (38 + 4 * g + 3) = 2 by omega) with e | e | e | e <;> rw [e] <;> rfl
theorem opv {A : na_A} {op : Int} (h : 0 ≤ op ∧ op ≤ 2) : na_operator A op 2 = ns_lo A.1 op := by
  unfold na_operator
  rw [if_neg (by omega), if_pos rfl]
theorem acv {A : na_A} : na_account A 0 = A.1 250 ∧ na_account A 1 = A.1 251 ∧ na_account A 2 = A.1 252 ∧ na_account A 3 = A.1 253 ∧ na_account A 4 = A.1 250 + A.1 251 + A.1 252 + A.1 253 := by
  unfold na_account
  refine ⟨?_, ?_, ?_, ?_, ?_⟩
  · rw [if_neg (by omega), if_neg (by omega)]; rfl
  · rw [if_neg (by omega), if_neg (by omega)]; rfl
  · rw [if_neg (by omega), if_neg (by omega)]; rfl
  · rw [if_neg (by omega), if_neg (by omega)]; rfl
  · rw [if_neg (by omega), if_pos rfl]
theorem gnv {A : na_A} {g : Int} (h : 0 ≤ g ∧ g ≤ 2) : na_gain A g 0 = mp_pv A.1 g ∧ na_gain A g 1 = na_nu A.1 g ∧ na_gain A g 2 = (na_f A.1 0).2.2.2 * (na_f A.1 1).2.2.2 := by
  unfold na_gain
  refine ⟨?_, ?_, ?_⟩
  · rw [if_neg (by omega), if_pos rfl]
  · rw [if_neg (by omega), if_neg (by omega), if_pos rfl]
  · rw [if_neg (by omega), if_neg (by omega), if_neg (by omega)]
theorem pv_nu {s : Nat → Int} {g : Int} : mp_pv s g = Int.tdiv (na_nu s g) ((na_f s 0).2.2.2 * (na_f s 1).2.2.2) := rfl
/-- a mean lies between what it is the mean of -/
theorem nu_mean {v w : Int × Int × Int × Int} {g : Int → Int → Int} {lo hi : Int} (hv : gp_vk v) (hw : gp_vk w)
    (h0 : lo ≤ g v.1 w.1 ∧ g v.1 w.1 ≤ hi) (h1 : lo ≤ g v.2.1 w.1 ∧ g v.2.1 w.1 ≤ hi) (h2 : lo ≤ g v.1 w.2.1 ∧ g v.1 w.2.1 ≤ hi) (h3 : lo ≤ g v.2.1 w.2.1 ∧ g v.2.1 w.2.1 ≤ hi) :
    lo * (v.2.2.2 * w.2.2.2) ≤ gp_nu v w g ∧ gp_nu v w g ≤ hi * (v.2.2.2 * w.2.2.2) := by
  obtain ⟨-, -, ⟨a1, a2⟩, a3, a4⟩ := hv
  obtain ⟨-, -, ⟨b1, b2⟩, b3, b4⟩ := hw
  unfold gp_nu
  obtain ⟨d, hd⟩ : ∃ d, d = v.2.2.2 := ⟨_, rfl⟩
  obtain ⟨n, hn⟩ : ∃ n, n = v.2.2.1 := ⟨_, rfl⟩
  obtain ⟨e, he⟩ : ∃ e, e = w.2.2.2 := ⟨_, rfl⟩
  obtain ⟨m, hm⟩ : ∃ m, m = w.2.2.1 := ⟨_, rfl⟩
  rw [← hd, ← hn, ← he, ← hm]
  rw [← hd, ← hn] at a2
  rw [← hn] at a1
  rw [← he, ← hm] at b2
  rw [← hm] at b1
  obtain ⟨p0, hp0⟩ : ∃ p, p = (d - n) * (e - m) := ⟨_, rfl⟩
  obtain ⟨p1, hp1⟩ : ∃ p, p = n * (e - m) := ⟨_, rfl⟩
  obtain ⟨p2, hp2⟩ : ∃ p, p = (d - n) * m := ⟨_, rfl⟩
  obtain ⟨p3, hp3⟩ : ∃ p, p = n * m := ⟨_, rfl⟩
  have q0 : 0 ≤ p0 := by rw [hp0]; exact Int.mul_nonneg (by omega) (by omega)
  have q1 : 0 ≤ p1 := by rw [hp1]; exact Int.mul_nonneg (by omega) (by omega)
  have q2 : 0 ≤ p2 := by rw [hp2]; exact Int.mul_nonneg (by omega) (by omega)
  have q3 : 0 ≤ p3 := by rw [hp3]; exact Int.mul_nonneg (by omega) (by omega)
  have sum : d * e = p0 + p1 + p2 + p3 := by
    rw [hp0, hp1, hp2, hp3]
    rw [Int.sub_mul, Int.sub_mul, Int.mul_sub, Int.mul_sub]
    omega
  rw [← hp0, ← hp1, ← hp2, ← hp3, sum]
  have lower : ∀ p x : Int, 0 ≤ p → lo ≤ x → lo * p ≤ p * x := fun p x hp hx => by
    rw [Int.mul_comm lo p]; exact Int.mul_le_mul_of_nonneg_left hx hp
  have upper : ∀ p x : Int, 0 ≤ p → x ≤ hi → p * x ≤ hi * p := fun p x hp hx => by
    rw [Int.mul_comm hi p]; exact Int.mul_le_mul_of_nonneg_left hx hp
  have l0 := lower p0 _ q0 h0.1
  have l1 := lower p1 _ q1 h1.1
  have l2 := lower p2 _ q2 h2.1
  have l3 := lower p3 _ q3 h3.1
  have u0 := upper p0 _ q0 h0.2
  have u1 := upper p1 _ q1 h1.2
  have u2 := upper p2 _ q2 h2.2
  have u3 := upper p3 _ q3 h3.2
  rw [Int.mul_add, Int.mul_add, Int.mul_add, Int.mul_add, Int.mul_add, Int.mul_add]
  constructor <;> omega
theorem td_mean {x D lo hi : Int} (hD : 1 ≤ D) (hx : 0 ≤ x) (h : lo * D ≤ x ∧ x ≤ hi * D) : lo ≤ Int.tdiv x D ∧ Int.tdiv x D ≤ hi := by
  rw [Int.tdiv_eq_ediv_of_nonneg hx]
  refine ⟨Int.le_ediv_of_mul_le (by omega) h.1, ?_⟩
  exact Int.ediv_le_of_le_mul (by omega) h.2
theorem pv_mean {s : Nat → Int} (h : ni_s s) {g lo hi : Int} (hg : 0 ≤ g ∧ g ≤ 2)
    (h0 : lo ≤ rv s (na_f s 0).1 (na_f s 1).1 g ∧ rv s (na_f s 0).1 (na_f s 1).1 g ≤ hi) (h1 : lo ≤ rv s (na_f s 0).2.1 (na_f s 1).1 g ∧ rv s (na_f s 0).2.1 (na_f s 1).1 g ≤ hi) (h2 : lo ≤ rv s (na_f s 0).1 (na_f s 1).2.1 g ∧ rv s (na_f s 0).1 (na_f s 1).2.1 g ≤ hi) (h3 : lo ≤ rv s (na_f s 0).2.1 (na_f s 1).2.1 g ∧ rv s (na_f s 0).2.1 (na_f s 1).2.1 g ≤ hi) :
    (lo ≤ mp_pv s g ∧ mp_pv s g ≤ hi) ∧ (0 ≤ na_nu s g ∧ na_nu s g ≤ 399960000) ∧ (1 ≤ (na_f s 0).2.2.2 * (na_f s 1).2.2.2 ∧ (na_f s 0).2.2.2 * (na_f s 1).2.2.2 ≤ 40000) := by
  have v0 := (na_f_f h (ax := 0) (by omega)).2
  have v1 := (na_f_f h (ax := 1) (by omega)).2
  have hb := gp_nu_bd (g := fun c r => rv s c r g) v0 v1 (fun a b a1 a2 a3 a4 => rv_bd h.1 ⟨a1, a2⟩ ⟨a3, a4⟩ hg)
  have hm := nu_mean (g := fun c r => rv s c r g) v0 v1 h0 h1 h2 h3
  have e : na_nu s g = gp_nu (na_f s 0) (na_f s 1) (fun c r => rv s c r g) := rfl
  rw [pv_nu, e]
  refine ⟨td_mean hb.2.2.1 hb.1 hm, ⟨hb.1, ?_⟩, hb.2.2⟩
  have := hb.2.1
  have := hb.2.2.2
  omega
theorem of_k {x y k : Int} (h : x = y + 4294967296 * k) : Int32.ofInt x = Int32.ofInt y := by
  have hx := wr_k x
  have hy := wr_k y
  obtain ⟨a, ha⟩ := hx
  obtain ⟨b, hb⟩ := hy
  have r1 := ga_rg_wr x
  have r2 := ga_rg_wr y
  have e : ga_wr x = ga_wr y := by omega
  rw [← ga_of_wr x, ← ga_of_wr y, e]
theorem trv {A : na_A} (h : 0 < A.1 254) : na_trail A 0 7 = A.1 (262 + 8 * (A.1 254 - 1).toNat) := by
  unfold na_trail
  rw [if_neg (by omega), if_pos h]
  exact congrArg A.1 (by omega)
theorem cnv {A : na_A} : na_count A 0 = ns_rg A.1 ∧ na_count A 4 = A.1 236 ∧ na_count A 5 = A.1 237 ∧ na_count A 6 = A.1 254 ∧ na_count A 7 = A.1 239 ∧ na_count A 2 = A.1 234 ∧ na_count A 3 = A.1 235 := by
  unfold na_count
  refine ⟨rfl, rfl, rfl, rfl, rfl, rfl, rfl⟩
