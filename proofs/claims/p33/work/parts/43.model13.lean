section MO
variable {G : ga_G} {d : Nat} {I : ga_I} {E : Option ga_V → ga_I → Prop}
theorem ni_z_of {s s' : Nat → Int} (h : ni_t s) (e : ∀ j, j < 38 → s' j = s j) (hz : (0 ≤ s' 236 ∧ s' 236 ≤ gp_ct (gp_sk (ms_q s 0)) (ms_n s 0).toNat) ∧ (0 ≤ s' 237 ∧ s' 237 ≤ gp_ct (gp_sk (ms_q s 1)) (ms_n s 1).toNat)) : ni_z s' := by
  have c0 := mo_ct_of (I := fun _ => s) (J := fun _ => s') e (ax := 0) (by omega) h.1
  have c1 := mo_ct_of (I := fun _ => s) (J := fun _ => s') e (ax := 1) (by omega) h.2.1
  unfold ni_z
  rw [c0, c1]
  exact hz
theorem ni_of {s s' : Nat → Int} (h : ni_s s) (e1 : ∀ j, j < 234 → s' j = s j) (e2 : ∀ j, 415 ≤ j → s' j = s j) (hp : (0 ≤ s' 234 ∧ s' 234 ≤ 1000) ∧ (0 ≤ s' 235 ∧ s' 235 ≤ 1000)) (hz : (0 ≤ s' 236 ∧ s' 236 ≤ gp_ct (gp_sk (ms_q s 0)) (ms_n s 0).toNat) ∧ (0 ≤ s' 237 ∧ s' 237 ≤ gp_ct (gp_sk (ms_q s 1)) (ms_n s 1).toNat)) (hn : 0 ≤ s' 254 ∧ s' 254 ≤ 20) : ni_s s' := by
  refine ⟨ni_t_of e1 h.1, hp, ni_z_of h.1 (fun j hj => e1 j (by omega)) hz, hn, fun p hp2 => ?_⟩
  have := h.2.2.2.2 p hp2
  rw [e2 _ (by omega)]
  refine ⟨this.1, fun q => ni_t_of (fun j hj => ?_) (this.2 q)⟩
  exact e2 _ (by omega)
theorem ni_of2 {s s' : Nat → Int} (h : ni_s s) (e : ∀ j, (j < 38 ∨ (234 ≤ j ∧ j < 238) ∨ j = 254 ∨ 415 ≤ j) → s' j = s j) (hg : ∀ g i : Nat, g < 49 → i < 3 → 0 ≤ s' (38 + 4 * g + i) ∧ s' (38 + 4 * g + i) ≤ 9999) (hl : ∀ g : Nat, g < 49 → -1 ≤ s' (38 + 4 * g + 3) ∧ s' (38 + 4 * g + 3) ≤ 2) : ni_s s' := by
  have u : ∀ ax, 0 ≤ ax ∧ ax ≤ 1 → ms_n s' ax = ms_n s ax ∧ ∀ b, b < 6 → ms_p s' ax b = ms_p s ax b ∧ ms_q s' ax b = ms_q s ax b ∧ ms_r s' ax b = ms_r s ax b := fun ax ha => ⟨e _ (by omega), fun b hb => ⟨e _ (by omega), e _ (by omega), e _ (by omega)⟩⟩
  refine ⟨⟨gp_ok_of h.1.1 (u 0 (by omega)).1 (u 0 (by omega)).2, gp_ok_of h.1.2.1 (u 1 (by omega)).1 (u 1 (by omega)).2, hg, hl⟩, ?_, ni_z_of h.1 (fun j hj => e j (by omega)) ?_, ?_, fun p hp2 => ?_⟩
  · rw [e 234 (by omega), e 235 (by omega)]; exact h.2.1
  · rw [e 236 (by omega), e 237 (by omega)]; exact h.2.2.1
  · rw [e 254 (by omega)]; exact h.2.2.2.1
  · have := h.2.2.2.2 p hp2
    rw [e _ (by omega)]
    refine ⟨this.1, fun q => ni_t_of (fun j hj => ?_) (this.2 q)⟩
    exact e _ (by omega)
theorem ni_t1 {s : Nat → Int} {x y : Int} (h : ni_s s) (hx : 0 ≤ x ∧ x ≤ 1000) (hy : 0 ≤ y ∧ y ≤ 1000) : ni_s (ns_t1 s x y) := by
  have hz := ns_go_zn (I := fun _ => s) h.1.1 h.1.2.1 h.2.2.1 x y
  have lo : ∀ j, j < 234 ∨ 254 ≤ j → ns_t1 s x y j = s j := fun j hj => by rw [ns_t1_o (by omega), ns_go_o (by omega)]
  refine ni_of h (fun j hj => lo j (by omega)) (fun j hj => lo j (by omega)) ?_ ?_ ?_
  · rw [ns_t1_o (by omega), ns_t1_o (by omega), ns_go_v.1, ns_go_v.2.1]; exact ⟨hx, hy⟩
  · rw [ns_t1_o (by omega), ns_t1_o (by omega)]; exact hz
  · rw [lo _ (by omega)]; exact h.2.2.2.1
theorem ni_pv {s : Nat → Int} (h : ni_s s) {g : Int} (hg : 0 ≤ g ∧ g ≤ 2) : 0 ≤ mp_pv s g ∧ mp_pv s g ≤ 9999 := by
  obtain ⟨a0, a1, a2, a3, a4, a5⟩ := ni_all (I := fun _ => s) rfl h
  have e := mp_pv_bd (I := fun _ => s) a0 a1 a3 hg a5
  exact e
theorem ns_by_bd {s t : Nat → Int} (hs : ni_s s) (ht : ni_s t) : 0 ≤ ns_by s t ∧ ns_by s t ≤ 9999 := by
  have a0 := ni_pv hs (g := 0) (by omega)
  have a1 := ni_pv hs (g := 1) (by omega)
  have a2 := ni_pv hs (g := 2) (by omega)
  have b0 := ni_pv ht (g := 0) (by omega)
  have b1 := ni_pv ht (g := 1) (by omega)
  have b2 := ni_pv ht (g := 2) (by omega)
  unfold ns_by gp_j3
  constructor <;> omega
theorem ni_mm {s : Nat → Int} {x y : Int} (h : ni_s s) (hx : 0 ≤ x ∧ x ≤ 1000) (hy : 0 ≤ y ∧ y ≤ 1000) : ni_s (ns_mm s x y) := by
  unfold ns_mm
  by_cases q : na_ig s x y
  · rw [if_pos q]
    refine ni_of h (fun j hj => ns_up_ne (by omega)) (fun j hj => ns_up_ne (by omega)) ?_ ?_ ?_
    · rw [ns_up_ne (by omega), ns_up_ne (by omega)]; exact h.2.1
    · rw [ns_up_ne (by omega), ns_up_ne (by omega)]; exact h.2.2.1
    · rw [ns_up_ne (by omega)]; exact h.2.2.2.1
  · rw [if_neg q]
    have ht := ni_t1 h hx hy
    have hE : 255 ≤ ns_e (ns_t1 s x y) ∧ ns_e (ns_t1 s x y) ≤ 407 := by unfold ns_e; omega
    have hne : ∀ j, j < 254 ∨ 407 ≤ j → ns_ne (ns_t1 s x y) j = ns_t1 s x y j := fun j hj => by
      unfold ns_ne
      by_cases w : ns_t1 s x y 254 = 20
      · rw [if_pos w, if_neg (by omega)]
      · rw [if_neg w, ns_up_ne (by omega)]
    have hn := ht.2.2.2.1
    have lo : ∀ j, j < 254 ∨ 415 ≤ j → ns_mv s x y j = ns_t1 s x y j := fun j hj => by
      unfold ns_mv
      rw [ns_wk_o (by omega), hne j (by omega)]
    refine ni_of ht (fun j hj => lo j (by omega)) (fun j hj => lo j (by omega)) ?_ ?_ ?_
    · rw [lo _ (by omega), lo _ (by omega)]; exact ht.2.1
    · rw [lo _ (by omega), lo _ (by omega)]; exact ht.2.2.1
    · unfold ns_mv
      rw [ns_wk_o (by omega)]
      unfold ns_ne
      by_cases w : ns_t1 s x y 254 = 20
      · rw [if_pos w, if_neg (by omega), w]; omega
      · rw [if_neg w, ns_up_at]; omega
theorem ns_tw_bd {c to step : Int} (h0 : 0 ≤ c ∧ c ≤ 1000) (h1 : 0 ≤ to ∧ to ≤ 1000) (h2 : 1 ≤ step) : 0 ≤ ns_tw c to step ∧ ns_tw c to step ≤ 1000 := by
  unfold ns_tw
  by_cases q : c < to
  · rw [if_pos q]; omega
  · rw [if_neg q]; omega
theorem ni_mw {s : Nat → Int} {ax c : Int} (h : ni_s s) (hc : 0 ≤ c ∧ c ≤ 1000) : ni_s (ns_mw s ax c) := by
  have hp := h.2.1
  unfold ns_mw
  by_cases q : ax = 0
  · rw [if_pos q]; exact ni_mm h hc hp.2
  · rw [if_neg q]; exact ni_mm h hp.1 hc
end MO
section MP
variable {G : ga_G} {d : Nat} {I : ga_I} {E : Option ga_V → ga_I → Prop}
theorem ns_ch_o {s : Nat → Int} {op z : Int} {j i : Nat} (ho : 0 ≤ op ∧ op ≤ 2) (h : i < 241 ∨ 253 ≤ i) (hj : i ≠ j) : ns_ch s op j z i = s i := by
  unfold ns_ch
  rw [ns_up_ne hj, ns_up_ne (by omega), ns_up_ne (by omega), ns_up_ne (by omega)]
theorem ni_ch {s : Nat → Int} {op z : Int} {g i : Nat} (h : ni_s s) (ho : 0 ≤ op ∧ op ≤ 2) (hg : g < 49) (hi : i < 3) (hz : 0 ≤ z ∧ z ≤ 9999) : ni_s (ns_ch s op (38 + 4 * g + i) z) := by
  refine ni_of2 h (fun j hj => ns_ch_o ho (by omega) (by omega)) (fun g' i' hg' hi' => ?_) (fun g' hg' => ?_)
  · by_cases q : g' = g ∧ i' = i
    · rw [q.1, q.2]
      unfold ns_ch
      rw [ns_up_at]
      exact hz
    · rw [ns_ch_o ho (by omega) (by omega)]; exact h.1.2.2.1 g' i' hg' hi'
  · rw [ns_ch_o ho (by omega) (by omega)]; exact h.1.2.2.2 g' hg'
theorem ns_sv_bd {s : Nat → Int} {c r i pc : Int} (h : ni_s s) (hc : 0 ≤ c ∧ c ≤ 6) (hr : 0 ≤ r ∧ r ≤ 6) (hi : 0 ≤ i ∧ i ≤ 2) (hp : 0 ≤ pc ∧ pc ≤ 1000) : (0 ≤ s (38 + 4 * (7 * c + r) + i).toNat * pc ∧ s (38 + 4 * (7 * c + r) + i).toNat * pc ≤ 9999000) ∧ (0 ≤ Int.tdiv (s (38 + 4 * (7 * c + r) + i).toNat * pc) 100 ∧ Int.tdiv (s (38 + 4 * (7 * c + r) + i).toNat * pc) 100 ≤ 99990) := by
  have hv := h.1.2.2.1 (7 * c + r).toNat i.toNat (by omega) (by omega)
  rw [show 38 + 4 * (7 * c + r).toNat + i.toNat = (38 + 4 * (7 * c + r) + i).toNat by omega] at hv
  have h1 : 0 ≤ s (38 + 4 * (7 * c + r) + i).toNat * pc := Int.mul_nonneg hv.1 hp.1
  have h2 : s (38 + 4 * (7 * c + r) + i).toNat * pc ≤ 9999 * 1000 := Int.mul_le_mul hv.2 hp.2 hp.1 (by omega)
  refine ⟨⟨h1, by omega⟩, ?_⟩
  rw [Int.tdiv_eq_ediv_of_nonneg h1]
  omega
def sc_ok (s0 s : Nat → Int) : Prop := ni_s s ∧ ms_n s 0 = ms_n s0 0 ∧ ms_n s 1 = ms_n s0 1
theorem sc_s1 {s0 : Nat → Int} {op i pc c r : Int} {X : (Nat → Int) × Int} (h : sc_ok s0 X.1) (ho : 0 ≤ op ∧ op ≤ 2) (hi : 0 ≤ i ∧ i ≤ 2) (hp : 0 ≤ pc ∧ pc ≤ 1000) (hc : 0 ≤ c ∧ c ≤ 6) (hr : 0 ≤ r ∧ r ≤ 6) : sc_ok s0 (ns_s1 op i pc X c r).1 := by
  unfold ns_s1
  by_cases q : ns_ra X.1 op c r i (ns_sv X.1 c r i pc) = 0
  · rw [if_pos q]
    have hv := (ns_sv_bd h.1 hc hr hi hp).2
    have hv2 : 0 ≤ ns_sv X.1 c r i pc ∧ ns_sv X.1 c r i pc ≤ 9999 := by unfold ns_sv; omega
    have e := ni_ch (g := (7 * c + r).toNat) (i := i.toNat) h.1 ho (by omega) (by omega) hv2
    rw [show 38 + 4 * (7 * c + r).toNat + i.toNat = (38 + 4 * (7 * c + r) + i).toNat by omega] at e
    refine ⟨e, ?_, ?_⟩
    · rw [← h.2.1]; exact ns_ch_o ho (by omega) (by omega)
    · rw [← h.2.2]; exact ns_ch_o ho (by omega) (by omega)
  · rw [if_neg q]; exact h
theorem sc_s2 {s0 : Nat → Int} {op i pc c : Int} {X : (Nat → Int) × Int} (h : sc_ok s0 X.1) (ho : 0 ≤ op ∧ op ≤ 2) (hi : 0 ≤ i ∧ i ≤ 2) (hp : 0 ≤ pc ∧ pc ≤ 1000) (hc : 0 ≤ c ∧ c ≤ 6) : ∀ m : Nat, m ≤ 7 → sc_ok s0 (ns_s2 op i pc X c m).1
  | 0, _ => h
  | m + 1, hm => sc_s1 (sc_s2 h ho hi hp hc m (by omega)) ho hi hp hc ⟨by omega, by omega⟩
theorem sc_s3 {s0 : Nat → Int} {op i pc : Int} {m : Nat} {X : (Nat → Int) × Int} (h : sc_ok s0 X.1) (ho : 0 ≤ op ∧ op ≤ 2) (hi : 0 ≤ i ∧ i ≤ 2) (hp : 0 ≤ pc ∧ pc ≤ 1000) (hm : m ≤ 7) : ∀ n : Nat, n ≤ 7 → sc_ok s0 (ns_s3 op i pc X m n).1
  | 0, _ => h
  | n + 1, hn => sc_s2 (sc_s3 h ho hi hp hm n (by omega)) ho hi hp ⟨by omega, by omega⟩ m hm
end MP
