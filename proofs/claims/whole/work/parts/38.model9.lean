/-! the reference: moves, as a function of its row -/
section MK
variable {G : ga_G} {d : Nat} {I : ga_I} {E : Option ga_V → ga_I → Prop}
theorem gp_nu_cong {v w : Int × Int × Int × Int} {g g' : Int → Int → Int} (hv : gp_vk v) (hw : gp_vk w) (h : ∀ a b, 0 ≤ a → a ≤ 6 → 0 ≤ b → b ≤ 6 → g' a b = g a b) : gp_nu v w g' = gp_nu v w g := by
  obtain ⟨v1, v2, -, -⟩ := hv
  obtain ⟨w1, w2, -, -⟩ := hw
  unfold gp_nu
  rw [h _ _ v1.1 v1.2 w1.1 w1.2, h _ _ v2.1 v2.2 w1.1 w1.2, h _ _ v1.1 v1.2 w2.1 w2.2, h _ _ v2.1 v2.2 w2.1 w2.2]
theorem gp_va_cong {v w : Int × Int × Int × Int} {g g' : Int → Int → Int} (hv : gp_vk v) (hw : gp_vk w) (h : ∀ a b, 0 ≤ a → a ≤ 6 → 0 ≤ b → b ≤ 6 → g' a b = g a b) : gp_va v w g' = gp_va v w g := by
  unfold gp_va
  rw [gp_nu_cong hv hw h]
def ns_go (s : Nat → Int) (x y : Int) : Nat → Int := ns_up (ns_up (ns_up (ns_up s 234 x) 235 y) 236 (mp_zb s 0 (s 236) x)) 237 (mp_zb s 1 (s 237) y)
def ns_t1 (s : Nat → Int) (x y : Int) : Nat → Int := ns_up (ns_go s x y) 240 (ga_wr (ns_go s x y 240 + 1))
def ns_ne (t : Nat → Int) : Nat → Int := if t 254 = 20 then (fun j => if 255 ≤ j ∧ j < 407 then t (j + 8) else t j) else ns_up t 254 (t 254 + 1)
def ns_e (t : Nat → Int) : Nat := 255 + 8 * (min (t 254) 19).toNat
def ns_by (s t : Nat → Int) : Int := gp_j3 ((mp_pv t 0 - mp_pv s 0).natAbs : Int) ((mp_pv t 1 - mp_pv s 1).natAbs : Int) ((mp_pv t 2 - mp_pv s 2).natAbs : Int)
def ns_wk (r : Nat → Int) (e : Nat) (P : Nat → Int) (k : Nat) : Nat → Int := fun j => if e ≤ j ∧ j < e + k then P (j - e) else r j
def ns_pt (s t : Nat → Int) (x y : Int) : Nat → Int
  | 0 => x
  | 1 => y
  | 2 => t 236
  | 3 => t 237
  | 4 => mp_pv t 0
  | 5 => mp_pv t 1
  | 6 => mp_pv t 2
  | _ => ns_by s t
def ns_mv (s : Nat → Int) (x y : Int) : Nat → Int := ns_wk (ns_ne (ns_t1 s x y)) (ns_e (ns_t1 s x y)) (ns_pt s (ns_t1 s x y) x y) 8
abbrev na_ig (s : Nat → Int) (x y : Int) : Prop := ((x - s 234).natAbs : Int) < s 238 ∧ ((y - s 235).natAbs : Int) < s 238
def ns_mm (s : Nat → Int) (x y : Int) : Nat → Int := if na_ig s x y then ns_up s 239 (ga_wr (s 239 + 1)) else ns_mv s x y
def na_mm (s : Nat → Int) (x y : Int) : Int := if na_ig s x y then -2000000009 else ns_by s (ns_t1 s x y)
theorem ns_wk_0 (r : Nat → Int) (e : Nat) (P : Nat → Int) : ns_wk r e P 0 = r := funext fun j => by unfold ns_wk; rw [if_neg (by omega)]
theorem ns_wk_s {r : Nat → Int} {e k j : Nat} {P : Nat → Int} {z : Int} (hz : z = P k) (hj : j = e + k) : ns_up (ns_wk r e P k) j z = ns_wk r e P (k + 1) := by
  subst hj hz
  funext i
  unfold ns_up ns_wk
  by_cases h : i = e + k
  · rw [if_pos h, if_pos (by omega)]; congr 1; omega
  · rw [if_neg h]
    by_cases q : e ≤ i ∧ i < e + k
    · rw [if_pos q, if_pos (by omega)]
    · rw [if_neg q, if_neg (by omega)]
theorem ns_wk_o {r : Nat → Int} {e k j : Nat} {P : Nat → Int} (h : j < e ∨ e + k ≤ j) : ns_wk r e P k j = r j := by
  unfold ns_wk; rw [if_neg (by omega)]
theorem ns_ne_o {t : Nat → Int} {j : Nat} (h : j < 254) : ns_ne t j = t j := by
  unfold ns_ne
  by_cases q : t 254 = 20
  · rw [if_pos q, if_neg (by omega)]
  · rw [if_neg q, ns_up_ne (by omega)]
theorem mx_go_uc (I : ga_I) (x y : Int) : mx_go I x y = ga_uc I 349 (ns_go (I 349) x y) := by
  unfold mx_go ns_go
  rw [ga_up_uc, ga_up_uc, ga_up_uc, ga_up_uc]
  simp only [ga_uc_uc, ga_uc_at]
theorem mx_ne_uc (I : ga_I) : mx_ne I = ga_uc I 349 (ns_ne (I 349)) := by
  unfold mx_ne ns_ne
  by_cases q : I 349 254 = 20
  · rw [if_pos q, if_pos q]
    funext a j
    unfold mx_sh ga_uc
    by_cases e : a = 349
    · subst e
      rw [if_pos rfl]
      by_cases w : 255 ≤ j ∧ j < 407
      · rw [if_pos ⟨rfl, w⟩, if_pos w]
      · rw [if_neg (fun q => w q.2), if_neg w]
    · rw [if_neg (fun q => e q.1), if_neg e]
  · rw [if_neg q, if_neg q, ga_up_uc]
theorem mx_nv_s (I : ga_I) {a : Nat} (h : a < 353 ∨ 357 < a) : mx_nv I a = I a := by
  unfold mx_nv
  rw [ga_up_fn (by omega), ga_up_fn (by omega), ga_up_fn (by omega)]
  exact mx_lp_s (by omega)
theorem mx_nv_a (I : ga_I) : mx_nv I 357 0 = mp_pv (I 349) 0 ∧ mx_nv I 357 1 = mp_pv (I 349) 1 ∧ mx_nv I 357 2 = mp_pv (I 349) 2 := by
  unfold mx_nv
  refine ⟨?_, ?_, ?_⟩
  · rw [ga_up_nj (by omega), ga_up_nj (by omega), ga_up_at]
  · rw [ga_up_nj (by omega), ga_up_at]
  · rw [ga_up_at]
theorem ns_go_o {s : Nat → Int} {x y : Int} {j : Nat} (h : j < 234 ∨ 237 < j) : ns_go s x y j = s j := by
  unfold ns_go
  rw [ns_up_ne (by omega), ns_up_ne (by omega), ns_up_ne (by omega), ns_up_ne (by omega)]
theorem ns_go_v {s : Nat → Int} {x y : Int} : ns_go s x y 234 = x ∧ ns_go s x y 235 = y ∧ ns_go s x y 236 = mp_zb s 0 (s 236) x ∧ ns_go s x y 237 = mp_zb s 1 (s 237) y := by
  unfold ns_go
  refine ⟨?_, ?_, ?_, ?_⟩
  · rw [ns_up_ne (by omega), ns_up_ne (by omega), ns_up_ne (by omega), ns_up_at]
  · rw [ns_up_ne (by omega), ns_up_ne (by omega), ns_up_at]
  · rw [ns_up_ne (by omega), ns_up_at]
  · rw [ns_up_at]
theorem ns_t1_o {s : Nat → Int} {x y : Int} {j : Nat} (h : j ≠ 240) : ns_t1 s x y j = ns_go s x y j := ns_up_ne h
theorem mo_g_of {I J : ga_I} (hJ : ∀ j, 38 ≤ j → j < 234 → J 349 j = I 349 j) (h : mo_g I) : mo_g J := fun g i hg hi => by
  rw [hJ _ (by omega) (by omega)]; exact h g i hg hi
/-- where a move ends, the zones are zones -/
theorem ns_go_zn (h0 : mo_ok I 0) (h1 : mo_ok I 1) (hz : mo_zn I) (x y : Int) : (0 ≤ ns_go (I 349) x y 236 ∧ ns_go (I 349) x y 236 ≤ gp_ct (gp_sk (ms_q (I 349) 0)) (ms_n (I 349) 0).toNat) ∧ (0 ≤ ns_go (I 349) x y 237 ∧ ns_go (I 349) x y 237 ≤ gp_ct (gp_sk (ms_q (I 349) 1)) (ms_n (I 349) 1).toNat) := by
  rw [ns_go_v.2.2.1, ns_go_v.2.2.2]
  exact ⟨gp_za_zn (ms_p (I 349) 0) (ms_q (I 349) 0) (ms_r (I 349) 0) (ms_n (I 349) 0).toNat (I 349 236) x hz.1, gp_za_zn (ms_p (I 349) 1) (ms_q (I 349) 1) (ms_r (I 349) 1) (ms_n (I 349) 1).toNat (I 349 237) y hz.2⟩
theorem mo_zn_10 (h0 : mo_ok I 0) (h1 : mo_ok I 1) {a b : Int} (hz : (0 ≤ a ∧ a ≤ gp_ct (gp_sk (ms_q (I 349) 0)) (ms_n (I 349) 0).toNat) ∧ (0 ≤ b ∧ b ≤ gp_ct (gp_sk (ms_q (I 349) 1)) (ms_n (I 349) 1).toNat)) : (0 ≤ a ∧ a ≤ 6) ∧ (0 ≤ b ∧ b ≤ 6) := by
  have n0 := gp_ct_le (gp_sk (ms_q (I 349) 0)) (ms_n (I 349) 0).toNat
  have n1 := gp_ct_le (gp_sk (ms_q (I 349) 1)) (ms_n (I 349) 1).toNat
  have o0 := h0.2.1
  have o1 := h1.2.1
  omega
def gr_mm (I J : ga_I) (x y : Int) : Prop := J 349 = ns_mm (I 349) x y ∧ ∀ a, a ≠ 349 → a < 353 ∨ 357 < a → J a = I a
theorem s_Mo_moves {x y : Int} (h0 : mo_ok I 0) (h1 : mo_ok I 1) (hp : mo_pz I) (hz : mo_zn I) (hg : mo_g I) (hn : 0 ≤ I 349 254 ∧ I 349 254 ≤ 20) (hx : 0 ≤ x ∧ x ≤ 1000) (hy : 0 ≤ y ∧ y ≤ 1000)
    (h : ∀ J : ga_I, gr_mm I J x y → E (some (.inl (na_mm (I 349) x y))) J) : ga_W G (d + 5) mt_Mo_moves 0 (ga_en 5 [.inr 348, .inl x, .inl y]) [] I E := by
  refine k_Mo_moves_0 ⟨by omega, by omega⟩ ⟨by omega, by omega⟩ (fun hI => ⟨hx, hy, hp, fun hig => ⟨h0, h1, hg, fun I1 e1 => ?_⟩, fun hig I14 e14 => ?_⟩)
  · have s1 : I1 349 = I 349 := by rw [e1]; exact mx_nv_s I (by omega)
    have f1 : ∀ a, a < 353 ∨ 357 < a → I1 a = I a := fun a ha => by rw [e1]; exact mx_nv_s I ha
    have v1 := mx_nv_a I
    rw [← e1] at v1
    have ok1 : ∀ J : ga_I, (∀ j, j < 38 → J 349 j = I 349 j) → mo_ok J 0 ∧ mo_ok J 1 := fun J hJ => ⟨mo_ok_of hJ (by omega) h0, mo_ok_of hJ (by omega) h1⟩
    obtain ⟨o10, o11⟩ := ok1 I1 (fun j _ => by rw [s1])
    refine ⟨o10, o11, by unfold mo_zn at hz ⊢; rw [s1]; exact hz, fun I2 e2 I3 e3 => ?_⟩
    rw [mx_go_uc] at e2
    have s2 : I2 349 = ns_go (I 349) x y := by rw [e2, ga_uc_at, s1]
    rw [ga_up_uc] at e3
    have s3 : I3 349 = ns_t1 (I 349) x y := by rw [e3, ga_uc_at, s2]; rfl
    have f3 : ∀ a, a ≠ 349 → I3 a = I1 a := fun a ha => by rw [e3, ga_uc_ne ha, e2, ga_uc_ne ha]
    have l3 : ∀ j, j < 234 → ns_t1 (I 349) x y j = I 349 j := fun j hj => by rw [ns_t1_o (by omega), ns_go_o (by omega)]
    obtain ⟨o30, o31⟩ := ok1 I3 (fun j hj => by rw [s3, l3 j (by omega)])
    have hzt := ns_go_zn h0 h1 hz x y
    have hz10 := mo_zn_10 h0 h1 hzt
    have hp3 : mo_pz I3 := by
      unfold mo_pz
      rw [s3, ns_t1_o (by omega), ns_t1_o (by omega), ns_t1_o (by omega), ns_t1_o (by omega), ns_go_v.1, ns_go_v.2.1]
      exact ⟨hx, hy, by omega, by omega⟩
    have hg3 : mo_g I3 := mo_g_of (fun j h1 h2 => by rw [s3, l3 j h2]) hg
    have v3 : I3 357 0 = mp_pv (I 349) 0 ∧ I3 357 1 = mp_pv (I 349) 1 ∧ I3 357 2 = mp_pv (I 349) 2 := by rw [f3 357 (by omega)]; exact v1
    have ah3 : mo_ah I3 := fun i hi => by
      rcases (show i = 0 ∨ i = 1 ∨ i = 2 by omega) with q | q | q <;> subst q
      · rw [v3.1]; exact mp_pv_bd h0 h1 hp (by omega) hg
      · rw [v3.2.1]; exact mp_pv_bd h0 h1 hp (by omega) hg
      · rw [v3.2.2]; exact mp_pv_bd h0 h1 hp (by omega) hg
    refine ⟨o30, o31, hp3, hg3, ah3, fun I4 e4 => ?_⟩
    have s4 : I4 349 = ns_t1 (I 349) x y := by rw [e4, mx_lp_s (by omega), s3]
    have c254 : ns_t1 (I 349) x y 254 = I 349 254 := by rw [ns_t1_o (by omega), ns_go_o (by omega)]
    have w0 : mo_v I4 0 = mp_f (ns_t1 (I 349) x y) 0 (ns_t1 (I 349) x y 236) (ns_t1 (I 349) x y 234) := by rw [e4, mx_lp_0, s3]
    have w1 : mo_v I4 1 = mp_f (ns_t1 (I 349) x y) 1 (ns_t1 (I 349) x y 237) (ns_t1 (I 349) x y 235) := by rw [e4, mx_lp_1, s3]
    have kk0 : gp_vk (mo_v I4 0) := by rw [w0, ← s3]; exact mp_f_k o30 hp3.1
    have kk1 : gp_vk (mo_v I4 1) := by rw [w1, ← s3]; exact mp_f_k o31 hp3.2.1
    have f4 : ∀ a, a < 353 ∨ 357 < a → I4 a = I3 a := fun a ha => by rw [e4, mx_lp_s (by omega)]
    have he : (255 + 8 * (min (I4 349 254 + 1) 20 - 1) : Int) = (ns_e (ns_t1 (I 349) x y) : Nat) := by
      rw [s4]; unfold ns_e; rw [c254]; omega
    rw [he]
    have heb : 255 ≤ ns_e (ns_t1 (I 349) x y) ∧ ns_e (ns_t1 (I 349) x y) ≤ 407 := by unfold ns_e; rw [c254]; omega
    rw [v3.1, v3.2.1, v3.2.2, s3]
    change _ ∧ ∀ I5 : ga_I, I5 = mx_ne I4 → _
    generalize hT : ns_t1 (I 349) x y = t at *
    generalize hE : ns_e t = e at *
    have bv : ∀ g : Int, 0 ≤ g ∧ g ≤ 2 → 0 ≤ mp_pv t g ∧ mp_pv t g ≤ 9999 := fun g hgg => by rw [← s3]; exact mp_pv_bd o30 o31 hp3 hgg hg3
    have bs : ∀ g : Int, 0 ≤ g ∧ g ≤ 2 → 0 ≤ mp_pv (I 349) g ∧ mp_pv (I 349) g ≤ 9999 := fun g hgg => mp_pv_bd h0 h1 hp hgg hg
    have vv : ∀ (J : ga_I) (g : Int), (∀ a, a ≠ 349 → J a = I4 a) → (∀ j, j < 234 → J 349 j = t j) → 0 ≤ g ∧ g ≤ 2 → gp_va (mo_v J 0) (mo_v J 1) (fun c r => J 349 (38 + 4 * (7 * c + r) + g).toNat) = mp_pv t g := fun J g u1 u2 hgg => by
      have e0 : mo_v J 0 = mo_v I4 0 := by unfold mo_v; rw [u1 353 (by omega), u1 354 (by omega), u1 355 (by omega), u1 356 (by omega)]
      have e1 : mo_v J 1 = mo_v I4 1 := by unfold mo_v; rw [u1 353 (by omega), u1 354 (by omega), u1 355 (by omega), u1 356 (by omega)]
      unfold mp_pv mp_va
      rw [e0, e1, ← w0, ← w1]
      exact gp_va_cong kk0 kk1 (fun a b q1 q2 q3 q4 => u2 _ (by omega))
    refine ⟨by rw [s4, c254]; exact hn, fun I5 e5 => ⟨by omega, by omega, fun I6 e6 => ⟨by omega, by omega, fun I7 e7 => ⟨by omega, by omega, fun I8 e8 => ⟨by omega, by omega, fun I9 e9 => ?_⟩⟩⟩⟩⟩
    rw [mx_ne_uc, s4] at e5
    have f5 : ∀ a, a ≠ 349 → I5 a = I4 a := fun a ha => by rw [e5, ga_uc_ne ha]
    have s5 : I5 349 = ns_wk (ns_ne t) e (ns_pt (I 349) t x y) 0 := by rw [e5, ga_uc_at, ns_wk_0]
    rw [ga_up_uc] at e6 e7 e8 e9
    have f6 : ∀ a, a ≠ 349 → I6 a = I4 a := fun a ha => by rw [e6, ga_uc_ne ha, f5 a ha]
    have s6 : I6 349 = ns_wk (ns_ne t) e (ns_pt (I 349) t x y) 1 := by rw [e6, ga_uc_at, s5]; exact ns_wk_s rfl (by omega)
    have f7 : ∀ a, a ≠ 349 → I7 a = I4 a := fun a ha => by rw [e7, ga_uc_ne ha, f6 a ha]
    have s7 : I7 349 = ns_wk (ns_ne t) e (ns_pt (I 349) t x y) 2 := by rw [e7, ga_uc_at, s6]; exact ns_wk_s rfl (by omega)
    have f8 : ∀ a, a ≠ 349 → I8 a = I4 a := fun a ha => by rw [e8, ga_uc_ne ha, f7 a ha]
    have s8 : I8 349 = ns_wk (ns_ne t) e (ns_pt (I 349) t x y) 3 := by
      rw [e8, ga_uc_at, s7]
      exact ns_wk_s (by rw [ns_wk_o (by omega), ns_ne_o (by omega)]; rfl) (by omega)
    have f9 : ∀ a, a ≠ 349 → I9 a = I4 a := fun a ha => by rw [e9, ga_uc_ne ha, f8 a ha]
    have s9 : I9 349 = ns_wk (ns_ne t) e (ns_pt (I 349) t x y) 4 := by
      rw [e9, ga_uc_at, s8]
      exact ns_wk_s (by rw [ns_wk_o (by omega), ns_ne_o (by omega)]; rfl) (by omega)
    have lo : ∀ (J : ga_I) (k : Nat), J 349 = ns_wk (ns_ne t) e (ns_pt (I 349) t x y) k → ∀ j, j < 234 → J 349 j = t j := fun J k hJ j hj => by rw [hJ, ns_wk_o (by omega), ns_ne_o (by omega)]
    have kv : ∀ J : ga_I, (∀ a, a ≠ 349 → J a = I4 a) → gp_vk (mo_v J 0) ∧ gp_vk (mo_v J 1) := fun J u1 => by
      have e0 : mo_v J 0 = mo_v I4 0 := by unfold mo_v; rw [u1 353 (by omega), u1 354 (by omega), u1 355 (by omega), u1 356 (by omega)]
      have e1 : mo_v J 1 = mo_v I4 1 := by unfold mo_v; rw [u1 353 (by omega), u1 354 (by omega), u1 355 (by omega), u1 356 (by omega)]
      rw [e0, e1]; exact ⟨kk0, kk1⟩
    have gg : ∀ (J : ga_I) (k : Nat), J 349 = ns_wk (ns_ne t) e (ns_pt (I 349) t x y) k → mo_g J := fun J k hJ => mo_g_of (I := I3) (fun j q1 q2 => by rw [lo J k hJ j q2, s3]) hg3
    refine ⟨(kv I9 f9).1, (kv I9 f9).2, by omega, gg I9 4 s9, fun z1 ez1 => ⟨by omega, by omega, fun I10 e10 => ?_⟩⟩
    rw [vv I9 0 f9 (lo I9 4 s9) (by omega)] at ez1
    have b1 := bv 0 (by omega)
    rw [ga_wr_eq ⟨by omega, by omega⟩, ga_up_uc] at e10
    have f10 : ∀ a, a ≠ 349 → I10 a = I4 a := fun a ha => by rw [e10, ga_uc_ne ha, f9 a ha]
    have s10 : I10 349 = ns_wk (ns_ne t) e (ns_pt (I 349) t x y) 5 := by
      rw [e10, ga_uc_at, s9]
      exact ns_wk_s ez1 (by omega)
    refine ⟨(kv I10 f10).1, (kv I10 f10).2, by omega, gg I10 5 s10, fun z2 ez2 => ⟨by omega, by omega, fun I11 e11 => ?_⟩⟩
    rw [vv I10 1 f10 (lo I10 5 s10) (by omega)] at ez2
    have b2 := bv 1 (by omega)
    rw [ga_wr_eq ⟨by omega, by omega⟩, ga_up_uc] at e11
    have f11 : ∀ a, a ≠ 349 → I11 a = I4 a := fun a ha => by rw [e11, ga_uc_ne ha, f10 a ha]
    have s11 : I11 349 = ns_wk (ns_ne t) e (ns_pt (I 349) t x y) 6 := by
      rw [e11, ga_uc_at, s10]
      exact ns_wk_s ez2 (by omega)
    refine ⟨(kv I11 f11).1, (kv I11 f11).2, by omega, gg I11 6 s11, fun z3 ez3 => ⟨by omega, by omega, fun I12 e12 => ⟨by omega, by omega, fun I13 e13 => ?_⟩⟩⟩
    rw [vv I11 2 f11 (lo I11 6 s11) (by omega)] at ez3
    have b3 := bv 2 (by omega)
    rw [ga_wr_eq ⟨by omega, by omega⟩, ga_up_uc] at e12
    have f12 : ∀ a, a ≠ 349 → I12 a = I4 a := fun a ha => by rw [e12, ga_uc_ne ha, f11 a ha]
    have s12 : I12 349 = ns_wk (ns_ne t) e (ns_pt (I 349) t x y) 7 := by
      rw [e12, ga_uc_at, s11]
      exact ns_wk_s ez3 (by omega)
    have q1 := bs 0 (by omega)
    have q2 := bs 1 (by omega)
    have q3 := bs 2 (by omega)
    have hby : ga_rg (gp_j3 ((mp_pv t 0 - mp_pv (I 349) 0).natAbs : Int) ((mp_pv t 1 - mp_pv (I 349) 1).natAbs : Int) ((mp_pv t 2 - mp_pv (I 349) 2).natAbs : Int)) := by
      unfold gp_j3
      constructor <;> omega
    rw [ga_wr_eq hby, ga_up_uc] at e13
    have f13 : ∀ a, a ≠ 349 → I13 a = I4 a := fun a ha => by rw [e13, ga_uc_ne ha, f12 a ha]
    have s13 : I13 349 = ns_wk (ns_ne t) e (ns_pt (I 349) t x y) 8 := by
      rw [e13, ga_uc_at, s12]
      exact ns_wk_s rfl (by omega)
    have hh := h I13 ⟨?_, ?_⟩
    · unfold na_mm at hh
      rw [if_neg hig, hT] at hh
      exact hh
    · unfold ns_mm ns_mv
      rw [if_neg hig, hT, hE]
      exact s13
    · intro a ha1 ha2
      rw [f13 a ha1, f4 a ha2, f3 a ha1, f1 a ha2]
  · have hh := h I14 ⟨?_, ?_⟩
    · unfold na_mm at hh
      rw [if_pos hig] at hh
      exact hh
    · unfold ns_mm
      rw [if_pos hig, e14, ga_up_uc, ga_uc_at]
    · intro a ha1 ha2
      rw [e14, ga_up_uc, ga_uc_ne ha1]
end MK
