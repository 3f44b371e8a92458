/-! the reference: moves, as a function of its row -/
section MK
variable {G : ga_G} {d : Nat} {I : ga_I} {E : Option ga_V → ga_I → Prop}
theorem gp_nu_cong {v w : Int × Int × Int × Int} {g g' : Int → Int → Int} (hv : gp_vk v) (hw : gp_vk w) (h : ∀ a b, 0 ≤ a → a ≤ 6 → 0 ≤ b → b ≤ 6 → g' a b = g a b) : gp_nu v w g' = gp_nu v w g := by
  obtain ⟨v1, v2, -, -⟩ := hv
  obtain ⟨w1, w2, -, -⟩ := hw
  unfold gp_nu
  rw [h _ _ v1.1 v1.2 w1.1 w1.2, h _ _ v2.1 v2.2 w1.1 w1.2, h _ _ v1.1 v1.2 w2.1 w2.2, h _ _ v2.1 v2.2 w2.1 w2.2]
theorem gp_va_cong {v w : Int × Int × Int × Int} {g g' : Int → Int → Int} (hv : gp_vk v) (hw : gp_vk w) (h : ∀ a b, 0 ≤ a → a ≤ 6 → 0 ≤ b → b ≤ 6 → g' a b = g a b) : gp_va v w g' = gp_va v w g := by
  unfold gp_va
  rw [gp_nu_cong hv hw h]
def ns_go (s : Nat → Int) (x y : Int) : Nat → Int := ns_up (ns_up (ns_up (ns_up s 234 x) 235 y) 236 (mp_zb s 0 (s 236) x)) 237 (mp_zb s 1 (s 237) y)
def ns_t1 (s : Nat → Int) (x y : Int) : Nat → Int := ns_up (ns_go s x y) 240 (ga_wr (ns_go s x y 240 + 1))
def ns_ne (t : Nat → Int) : Nat → Int := if t 254 = 20 then (fun j => if 255 ≤ j ∧ j < 407 then t (j + 8) else t j) else ns_up t 254 (t 254 + 1)
def ns_e (t : Nat → Int) : Nat := 255 + 8 * (min (t 254) 19).toNat
def ns_by (s t : Nat → Int) : Int := gp_j3 ((mp_pv t 0 - mp_pv s 0).natAbs : Int) ((mp_pv t 1 - mp_pv s 1).natAbs : Int) ((mp_pv t 2 - mp_pv s 2).natAbs : Int)
def ns_wk (r : Nat → Int) (e : Nat) (P : Nat → Int) (k : Nat) : Nat → Int := fun j => if e ≤ j ∧ j < e + k then P (j - e) else r j
def ns_pt (s t : Nat → Int) (x y : Int) : Nat → Int
  | 0 => x
  | 1 => y
  | 2 => t 236
  | 3 => t 237
  | 4 => mp_pv t 0
  | 5 => mp_pv t 1
  | 6 => mp_pv t 2
  | _ => ns_by s t
def ns_mv (s : Nat → Int) (x y : Int) : Nat → Int := ns_wk (ns_ne (ns_t1 s x y)) (ns_e (ns_t1 s x y)) (ns_pt s (ns_t1 s x y) x y) 8
abbrev na_ig (s : Nat → Int) (x y : Int) : Prop := ((x - s 234).natAbs : Int) < s 238 ∧ ((y - s 235).natAbs : Int) < s 238
def ns_mm (s : Nat → Int) (x y : Int) : Nat → Int := if na_ig s x y then ns_up s 239 (ga_wr (s 239 + 1)) else ns_mv s x y
def na_mm (s : Nat → Int) (x y : Int) : Int := if na_ig s x y then -2000000009 else ns_by s (ns_t1 s x y)
theorem ns_wk_o {r : Nat → Int} {e k j : Nat} {P : Nat → Int} (h : j < e ∨ e + k ≤ j) : ns_wk r e P k j = r j := by
  unfold ns_wk; rw [if_neg (by omega)]
theorem ns_go_o {s : Nat → Int} {x y : Int} {j : Nat} (h : j < 234 ∨ 237 < j) : ns_go s x y j = s j := by
  unfold ns_go
  rw [ns_up_ne (by omega), ns_up_ne (by omega), ns_up_ne (by omega), ns_up_ne (by omega)]
theorem ns_go_v {s : Nat → Int} {x y : Int} : ns_go s x y 234 = x ∧ ns_go s x y 235 = y ∧ ns_go s x y 236 = mp_zb s 0 (s 236) x ∧ ns_go s x y 237 = mp_zb s 1 (s 237) y := by
  unfold ns_go
  refine ⟨?_, ?_, ?_, ?_⟩
  · rw [ns_up_ne (by omega), ns_up_ne (by omega), ns_up_ne (by omega), ns_up_at]
  · rw [ns_up_ne (by omega), ns_up_ne (by omega), ns_up_at]
  · rw [ns_up_ne (by omega), ns_up_at]
  · rw [ns_up_at]
theorem ns_t1_o {s : Nat → Int} {x y : Int} {j : Nat} (h : j ≠ 240) : ns_t1 s x y j = ns_go s x y j := ns_up_ne h
/-- where a move ends, the zones are zones -/
theorem ns_go_zn (h0 : mo_ok I 0) (h1 : mo_ok I 1) (hz : mo_zn I) (x y : Int) : (0 ≤ ns_go (I 349) x y 236 ∧ ns_go (I 349) x y 236 ≤ gp_ct (gp_sk (ms_q (I 349) 0)) (ms_n (I 349) 0).toNat) ∧ (0 ≤ ns_go (I 349) x y 237 ∧ ns_go (I 349) x y 237 ≤ gp_ct (gp_sk (ms_q (I 349) 1)) (ms_n (I 349) 1).toNat) := by
  rw [ns_go_v.2.2.1, ns_go_v.2.2.2]
  exact ⟨gp_za_zn (ms_p (I 349) 0) (ms_q (I 349) 0) (ms_r (I 349) 0) (ms_n (I 349) 0).toNat (I 349 236) x hz.1, gp_za_zn (ms_p (I 349) 1) (ms_q (I 349) 1) (ms_r (I 349) 1) (ms_n (I 349) 1).toNat (I 349 237) y hz.2⟩
theorem mo_zn_10 (h0 : mo_ok I 0) (h1 : mo_ok I 1) {a b : Int} (hz : (0 ≤ a ∧ a ≤ gp_ct (gp_sk (ms_q (I 349) 0)) (ms_n (I 349) 0).toNat) ∧ (0 ≤ b ∧ b ≤ gp_ct (gp_sk (ms_q (I 349) 1)) (ms_n (I 349) 1).toNat)) : (0 ≤ a ∧ a ≤ 6) ∧ (0 ≤ b ∧ b ≤ 6) := by
  have n0 := gp_ct_le (gp_sk (ms_q (I 349) 0)) (ms_n (I 349) 0).toNat
  have n1 := gp_ct_le (gp_sk (ms_q (I 349) 1)) (ms_n (I 349) 1).toNat
  have o0 := h0.2.1
  have o1 := h1.2.1
  omega
end MK
