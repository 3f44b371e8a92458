/-! the class: numbers read -/
section TA
variable {G : ga_G} {d : Nat} {I : ga_I} {E : Option ga_V → ga_I → Prop}
def gp_ch (x : Nat → Int) (l i : Int) : Int := if 0 ≤ i ∧ i < l then x i.toNat else 0
def gr_X (I : ga_I) : Prop := 0 ≤ I 327 0 ∧ I 327 0 ≤ 160
theorem gp_ch_rg {I : ga_I} (h : ga_RG I) (a : Nat) {l i : Int} : ga_rg (gp_ch (I a) l i) := by
  unfold gp_ch
  by_cases q : 0 ≤ i ∧ i < l
  · rw [if_pos q]; exact h _ _
  · rw [if_neg q]; exact ⟨by omega, by omega⟩
theorem s_Text_characterAt {i : Int} (hx : gr_X I) (ri : ga_rg i) (h : E (some (.inl (gp_ch (I 328) (I 327 0) i))) I) : ga_W G d mt_Text_characterAt 0 (ga_en 2 [.inr 327, .inl i]) [] I E := by
  unfold gr_X at hx
  unfold gp_ch at h
  refine k_Text_characterAt_0 ri (fun hI => ⟨fun q => ?_, fun q => ⟨fun q2 => ?_, fun q2 => ⟨fun q3 => by exfalso; omega, fun q3 => ⟨by omega, by omega, ?_⟩⟩⟩⟩)
  · rwa [if_neg (by omega)] at h
  · rwa [if_neg (by omega)] at h
  · rwa [if_pos (by omega)] at h
theorem s_Text_isDigit {z : Int} (rz : ga_rg z) (h : E (some (.inl (ga_bb (decide (48 ≤ z ∧ z ≤ 57))))) I) : ga_W G d mt_Text_isDigit 0 (ga_en 1 [.inl z]) [] I E := by
  refine k_Text_isDigit_0 rz (fun hI => ⟨fun q => ?_, fun q => ⟨fun q2 => ?_, fun q2 => ?_⟩⟩)
  · exact ga_bF (decide_eq_false (by omega)) h
  · exact ga_bF (decide_eq_false (by omega)) h
  · exact ga_bT (decide_eq_true (by omega)) h
theorem s_Text_put {c : Int} (hx : gr_X I) (hl : I 327 0 < 160) (hc : 0 ≤ c ∧ c < 65536) (h : E none (ga_up (ga_up I 328 (I 327 0).toNat c) 327 0 (I 327 0 + 1))) : ga_W G d mt_Text_put 0 (ga_en 2 [.inr 327, .inl c]) [] I E := by
  unfold gr_X at hx
  refine k_Text_put_0 (fun hI => ⟨fun q => by exfalso; omega, fun q => ⟨by omega, by omega, by omega, by omega, fun I1 e1 I2 e2 => ?_⟩⟩)
  rw [ga_wr_eq ⟨by omega, by omega⟩] at e1
  have e0 : I1 327 0 = I 327 0 := by rw [e1, ga_up_fn (by omega)]
  rw [e0, ga_wr_eq ⟨by omega, by omega⟩] at e2
  rw [e2, e1]
  exact h
end TA
theorem k_Text_peek_0 {G : ga_G} {d : Nat} {I : ga_I} {E : Option ga_V → ga_I → Prop}  
    (h : ga_RG I → (((I 327 0) ≤ (I 327 2)) → (gr_X I) ∧ ((∀ z1 : Int, z1 = gp_ch (I 328) (I 327 0) (I 327 2) → E (some (.inl z1)) I))) ∧ ((¬ ((I 327 0) ≤ (I 327 2))) → (gr_X I) ∧ ((∀ z2 : Int, z2 = gp_ch (I 328) (I 327 0) (I 327 2) → ((z2 ≠ 32) → (∀ z3 : Int, z3 = gp_ch (I 328) (I 327 0) (I 327 2) → E (some (.inl z3)) I)) ∧ ((z2 = 32) → (∀ I1 : ga_I, I1 = (ga_up I 327 2 (ga_wr ((I 327 2) + 1))) → ga_W G (d + 1) mt_Text_peek 0 [some (.inr 327)] [] I1 E)))))) :
    ga_W G (d + 1) mt_Text_peek 0 (ga_en 1 [.inr 327]) [] I E := by
  show ga_W G (d + 1) mt_Text_peek 0 [some (.inr 327)] [] I E
  refine gw_RG (fun hI1 => ?_)
  have h := h hI1
  refine gw_aload_n 0 d_Text_peek_0 rfl rfl ?_
  refine gw_getI d_Text_peek_1 fl_Text_27 (ga_oX) rfl ?_
  refine gw_aload_n 0 d_Text_peek_4 rfl rfl ?_
  refine gw_getI d_Text_peek_5 fl_Text_19 (ga_oX) rfl ?_
  refine gw_icmp_ge 37 d_Text_peek_8 (by decide) (hI1 _ _) (hI1 _ _) (fun hc => ?_) (fun hc => ?_)
  · have h := h.1 hc
    refine gw_aload_n 0 d_Text_peek_37 rfl rfl ?_
    refine gw_aload_n 0 d_Text_peek_38 rfl rfl ?_
    refine gw_getI d_Text_peek_39 fl_Text_27 (ga_oX) rfl ?_
    obtain ⟨g1, h⟩ := h
    refine gw_invV (as := [.inl (I 327 2)]) (k := 327) (rest := []) (d' := d) d_Text_peek_42 lk_Text_94 (ga_rcv (ga_oX) rfl rfl) rfl (Nat.le_of_ble_eq_true rfl) (Nat.le_of_ble_eq_true rfl) rfl rfl (s_Text_characterAt g1 (hI1 _ _) ?_)
    show ga_W G (d + 1) mt_Text_peek 45 [some (.inr 327)] [.inl (gp_ch (I 328) (I 327 0) (I 327 2))] I E
    refine gw_nz (z := gp_ch (I 328) (I 327 0) (I 327 2)) (fun z1 q1 => ?_)
    have h := h z1 q1
    exact gw_ireturn d_Text_peek_45 rfl h
  · have h := h.2 hc
    refine gw_aload_n 0 d_Text_peek_11 rfl rfl ?_
    refine gw_aload_n 0 d_Text_peek_12 rfl rfl ?_
    refine gw_getI d_Text_peek_13 fl_Text_27 (ga_oX) rfl ?_
    obtain ⟨g2, h⟩ := h
    refine gw_invV (as := [.inl (I 327 2)]) (k := 327) (rest := []) (d' := d) d_Text_peek_16 lk_Text_94 (ga_rcv (ga_oX) rfl rfl) rfl (Nat.le_of_ble_eq_true rfl) (Nat.le_of_ble_eq_true rfl) rfl rfl (s_Text_characterAt g2 (hI1 _ _) ?_)
    show ga_W G (d + 1) mt_Text_peek 19 [some (.inr 327)] [.inl (gp_ch (I 328) (I 327 0) (I 327 2))] I E
    refine gw_nz (z := gp_ch (I 328) (I 327 0) (I 327 2)) (fun z2 q2 => ?_)
    have h := h z2 q2
    refine gw_bipush d_Text_peek_19 (by decide +kernel) ?_
    refine gw_icmp_ne 37 d_Text_peek_21 (by decide) (by rw [q2]; exact (gp_ch_rg hI1 _)) ⟨by decide, by decide⟩ (fun hc => ?_) (fun hc => ?_)
    · have h := h.1 hc
      refine gw_aload_n 0 d_Text_peek_37 rfl rfl ?_
      refine gw_aload_n 0 d_Text_peek_38 rfl rfl ?_
      refine gw_getI d_Text_peek_39 fl_Text_27 (ga_oX) rfl ?_
      refine gw_invV (as := [.inl (I 327 2)]) (k := 327) (rest := []) (d' := d) d_Text_peek_42 lk_Text_94 (ga_rcv (ga_oX) rfl rfl) rfl (Nat.le_of_ble_eq_true rfl) (Nat.le_of_ble_eq_true rfl) rfl rfl (s_Text_characterAt g2 (hI1 _ _) ?_)
      show ga_W G (d + 1) mt_Text_peek 45 [some (.inr 327)] [.inl (gp_ch (I 328) (I 327 0) (I 327 2))] I E
      refine gw_nz (z := gp_ch (I 328) (I 327 0) (I 327 2)) (fun z3 q3 => ?_)
      have h := h z3 q3
      exact gw_ireturn d_Text_peek_45 rfl h
    · have h := h.2 hc
      refine gw_aload_n 0 d_Text_peek_24 rfl rfl ?_
      refine gw_dup d_Text_peek_25 ?_
      refine gw_getI d_Text_peek_26 fl_Text_27 (ga_oX) rfl ?_
      refine gw_iconst d_Text_peek_29 ?_
      refine gw_iadd d_Text_peek_30 ?_
      refine gw_putI d_Text_peek_31 fp_Text_27 (ga_oX) rfl ?_
      refine gw_nm (J := (ga_up I 327 2 (ga_wr ((I 327 2) + 1)))) (fun I1 q4 => ?_)
      have h := h I1 q4
      refine gw_RG (fun hI2 => ?_)
      refine gw_goto 0 d_Text_peek_34 (by decide) ?_
      exact gw_le h (by exact ⟨rfl, trivial⟩)

section TA
variable {G : ga_G} {d : Nat} {I : ga_I} {E : Option ga_V → ga_I → Prop}
/-- the text as it should be -/
def xo_x (I : ga_I) : Prop := gr_X I ∧ (0 ≤ I 327 2 ∧ I 327 2 ≤ I 327 0) ∧ ∀ i : Nat, (i : Int) < I 327 0 → 1 ≤ I 328 i ∧ I 328 i ≤ 255
def xt_p (I : ga_I) : Nat := gp_sp (I 328) (I 327 0).toNat (I 327 2).toNat
def xt_hv (I : ga_I) : Int := gp_ch (I 328) (I 327 0) (xt_p I)
theorem xt_p_bd (h : xo_x I) : I 327 2 ≤ (xt_p I : Int) ∧ (xt_p I : Int) ≤ I 327 0 := by
  have h1 : 0 ≤ I 327 0 ∧ I 327 0 ≤ 160 := h.1
  have h2 := h.2.1
  have := gp_sp_le (t := I 328) (l := (I 327 0).toNat) (n := (I 327 2).toNat) (by omega)
  unfold xt_p
  omega
theorem xt_hv_bd (h : xo_x I) : 0 ≤ xt_hv I ∧ xt_hv I ≤ 255 := by
  unfold xt_hv gp_ch
  by_cases q : 0 ≤ (xt_p I : Int) ∧ (xt_p I : Int) < I 327 0
  · rw [if_pos q, Int.toNat_natCast]; have := h.2.2 _ q.2; omega
  · rw [if_neg q]; omega
theorem xt_hv_eq {c : Int} (h : xo_x I) (hc : 0 < c) : xt_hv I = c ↔ gt_ok (I 328) (I 327 0).toNat (xt_p I) c := by
  unfold xt_hv gp_ch gt_ok
  by_cases q : 0 ≤ (xt_p I : Int) ∧ (xt_p I : Int) < I 327 0
  · rw [if_pos q, Int.toNat_natCast]; exact ⟨fun w => ⟨by omega, w⟩, fun w => w.2⟩
  · rw [if_neg q]; exact ⟨fun w => by exfalso; omega, fun w => by exfalso; have := w.1; omega⟩
theorem l_Text_peek : ∀ (j : Nat) (I : ga_I), xo_x I → (I 327 2).toNat + j = (I 327 0).toNat → E (some (.inl (xt_hv I))) (ga_up I 327 2 (xt_p I : Nat)) → ga_W G (d + 1) mt_Text_peek 0 (ga_en 1 [.inr 327]) [] I E := by
  have stop : ∀ I : ga_I, xo_x I → ¬ ((I 327 2).toNat < (I 327 0).toNat ∧ I 328 (I 327 2).toNat = 32) → xt_p I = (I 327 2).toNat ∧ ga_up I 327 2 (xt_p I : Nat) = I ∧ xt_hv I = gp_ch (I 328) (I 327 0) (I 327 2) := fun I hx hn => by
    have e : xt_p I = (I 327 2).toNat := gp_sp_e hn
    have h2 := hx.2.1
    refine ⟨e, ?_, ?_⟩
    · rw [e, ga_up_uc, ns_up_id (by omega), ga_uc_id]
    · unfold xt_hv; rw [e, show ((I 327 2).toNat : Int) = I 327 2 by omega]
  intro j
  induction j with
  | zero =>
    intro I hx hj h
    have h1 : 0 ≤ I 327 0 ∧ I 327 0 ≤ 160 := hx.1
    have hx2 := hx.2.1
    obtain ⟨p1, p2, p3⟩ := stop I hx (by omega)
    rw [p2, p3] at h
    exact k_Text_peek_0 (fun hI => ⟨fun q => ⟨hx.1, fun z1 f1 => by rw [f1]; exact h⟩, fun q => by exfalso; omega⟩)
  | succ j ih =>
    intro I hx hj h
    have h1 : 0 ≤ I 327 0 ∧ I 327 0 ≤ 160 := hx.1
    have hx2 := hx.2.1
    have ec : gp_ch (I 328) (I 327 0) (I 327 2) = I 328 (I 327 2).toNat := by unfold gp_ch; rw [if_pos (by omega)]
    refine k_Text_peek_0 (fun hI => ⟨fun q => by exfalso; omega, fun q => ⟨hx.1, fun z2 f2 => ⟨fun q3 z3 f3 => ?_, fun q2 I1 e1 => ?_⟩⟩⟩)
    · obtain ⟨p1, p2, p3⟩ := stop I hx (fun w => q3 (by rw [f2, ec]; exact w.2))
      rw [p2, p3] at h
      rw [f3]; exact h
    · rw [f2, ec] at q2
      rw [ga_wr_eq ⟨by omega, by omega⟩] at e1
      have l1 : I1 327 0 = I 327 0 := by rw [e1, ga_up_nj (by omega)]
      have n1 : I1 327 2 = I 327 2 + 1 := by rw [e1, ga_up_at]
      have x1 : I1 328 = I 328 := by rw [e1, ga_up_fn (by omega)]
      have ep : xt_p I1 = xt_p I := by
        unfold xt_p
        rw [l1, n1, x1, gp_sp_s (n := (I 327 2).toNat) ⟨by omega, q2⟩, show (I 327 2 + 1).toNat = (I 327 2).toNat + 1 by omega]
      refine ih I1 ⟨by unfold gr_X; rw [l1]; exact h1, by rw [l1, n1]; omega, by rw [l1, x1]; exact hx.2.2⟩ (by rw [l1, n1]; omega) ?_
      have ev : xt_hv I1 = xt_hv I := by unfold xt_hv; rw [ep, l1, x1]
      rw [ev, ep, e1, ga_up_up]
      exact h
theorem s_Text_peek (hx : xo_x I) (h : E (some (.inl (xt_hv I))) (ga_up I 327 2 (xt_p I : Nat))) : ga_W G (d + 1) mt_Text_peek 0 (ga_en 1 [.inr 327]) [] I E :=
  l_Text_peek ((I 327 0).toNat - (I 327 2).toNat) I hx (by have h1 : 0 ≤ I 327 0 ∧ I 327 0 ≤ 160 := hx.1; have := hx.2.1; omega) h
end TA
theorem k_Text_readNumber_0 {G : ga_G} {d : Nat} {I : ga_I} {E : Option ga_V → ga_I → Prop} {v1 : Int} {v2 : Int} 
    (h : ga_RG I → (((I 327 1) = (-1)) → (xo_x I) ∧ ((∀ I1 : ga_I, I1 = (ga_up I 327 2 (xt_p I : Nat)) → (ga_rg (xt_hv I)) ∧ ((((xt_hv I) ≠ 48) → ga_W G (d + 2) mt_Text_readNumber 34 [some (.inr 327), some (.inl v1), some (.inl v2), some (.inl 0), some (.inl (I1 327 2)), some (.inl 0), none] [] I1 E) ∧ (((xt_hv I) = 48) → ga_W G (d + 2) mt_Text_readNumber 34 [some (.inr 327), some (.inl v1), some (.inl v2), some (.inl 1), some (.inl (I1 327 2)), some (.inl 0), none] [] I1 E))))) ∧ ((¬ ((I 327 1) = (-1))) → E (some (.inl 0)) I)) :
    ga_W G (d + 2) mt_Text_readNumber 0 (ga_en 7 [.inr 327, .inl v1, .inl v2]) [] I E := by
  show ga_W G (d + 2) mt_Text_readNumber 0 [some (.inr 327), some (.inl v1), some (.inl v2), none, none, none, none] [] I E
  refine gw_RG (fun hI1 => ?_)
  have h := h hI1
  refine gw_aload_n 0 d_Text_readNumber_0 rfl rfl ?_
  refine gw_getI d_Text_readNumber_1 fl_Text_11 (ga_oX) rfl ?_
  refine gw_iconst d_Text_readNumber_4 ?_
  refine gw_icmp_eq 10 d_Text_readNumber_5 (by decide) (hI1 _ _) ⟨by decide, by decide⟩ (fun hc => ?_) (fun hc => ?_)
  · have h := h.1 hc
    refine gw_aload_n 0 d_Text_readNumber_10 rfl rfl ?_
    obtain ⟨g1, h⟩ := h
    refine gw_invV (as := []) (k := 327) (rest := []) (d' := (d + 1)) d_Text_readNumber_11 lk_Text_30 (ga_rcv (ga_oX) rfl rfl) rfl (Nat.le_of_ble_eq_true rfl) (Nat.le_of_ble_eq_true rfl) rfl rfl (s_Text_peek g1 ?_)
    show ga_W G (d + 2) mt_Text_readNumber 14 [some (.inr 327), some (.inl v1), some (.inl v2), none, none, none, none] [.inl (xt_hv I)] (ga_up I 327 2 (xt_p I : Nat)) E
    refine gw_nm (fun I1 q1 => ?_)
    have h := h I1 q1
    refine gw_RG (fun hI2 => ?_)
    refine gw_bipush d_Text_readNumber_14 (by decide +kernel) ?_
    obtain ⟨g2, h⟩ := h
    refine gw_icmp_ne 23 d_Text_readNumber_16 (by decide) g2 ⟨by decide, by decide⟩ (fun hc => ?_) (fun hc => ?_)
    · have h := h.1 hc
      refine gw_iconst d_Text_readNumber_23 ?_
      refine gw_istore_n 3 d_Text_readNumber_24 rfl (Nat.le_of_ble_eq_true rfl) rfl ?_
      refine gw_aload_n 0 d_Text_readNumber_25 rfl rfl ?_
      refine gw_getI d_Text_readNumber_26 fl_Text_27 (ga_oX) rfl ?_
      refine gw_istore 4 d_Text_readNumber_29 (Nat.le_of_ble_eq_true rfl) rfl ?_
      refine gw_iconst d_Text_readNumber_31 ?_
      refine gw_istore 5 d_Text_readNumber_32 (Nat.le_of_ble_eq_true rfl) rfl ?_
      exact gw_le h (by exact ⟨rfl, ⟨rfl, ⟨rfl, ⟨rfl, ⟨rfl, ⟨rfl, trivial⟩⟩⟩⟩⟩⟩)
    · have h := h.2 hc
      refine gw_iconst d_Text_readNumber_19 ?_
      refine gw_goto 24 d_Text_readNumber_20 (by decide) ?_
      refine gw_istore_n 3 d_Text_readNumber_24 rfl (Nat.le_of_ble_eq_true rfl) rfl ?_
      refine gw_aload_n 0 d_Text_readNumber_25 rfl rfl ?_
      refine gw_getI d_Text_readNumber_26 fl_Text_27 (ga_oX) rfl ?_
      refine gw_istore 4 d_Text_readNumber_29 (Nat.le_of_ble_eq_true rfl) rfl ?_
      refine gw_iconst d_Text_readNumber_31 ?_
      refine gw_istore 5 d_Text_readNumber_32 (Nat.le_of_ble_eq_true rfl) rfl ?_
      exact gw_le h (by exact ⟨rfl, ⟨rfl, ⟨rfl, ⟨rfl, ⟨rfl, ⟨rfl, trivial⟩⟩⟩⟩⟩⟩)
  · have h := h.2 hc
    refine gw_iconst d_Text_readNumber_8 ?_
    exact gw_ireturn d_Text_readNumber_9 rfl h
theorem k_Text_readNumber_34 {G : ga_G} {d : Nat} {I : ga_I} {E : Option ga_V → ga_I → Prop} {v1 : Int} {v2 : Int} {v3 : Int} {v4 : Int} {v5 : Int} (r1 : ga_rg v1) (r2 : ga_rg v2) (r3 : ga_rg v3) (r5 : ga_rg v5)
    (h : ga_RG I → (((I 327 0) ≤ (I 327 2)) → (ga_rg ((I 327 2) - v4)) ∧ (((((I 327 2) - v4) = 0) → (∀ I1 : ga_I, I1 = (ga_up I 327 1 (ga_wr v4)) → E (some (.inl v5)) I1)) ∧ ((¬ (((I 327 2) - v4) = 0)) → ((((I 327 2) - v4) ≤ 1) → ((v1 ≤ v5 ∧ v5 ≤ v2) → E (some (.inl v5)) I) ∧ ((¬ (v1 ≤ v5 ∧ v5 ≤ v2)) → (∀ I2 : ga_I, I2 = (ga_up I 327 1 (ga_wr v4)) → E (some (.inl v5)) I2))) ∧ ((¬ (((I 327 2) - v4) ≤ 1)) → ((v3 ≠ 0) → (∀ I3 : ga_I, I3 = (ga_up I 327 1 (ga_wr v4)) → E (some (.inl v5)) I3)) ∧ ((v3 = 0) → ((v1 ≤ v5 ∧ v5 ≤ v2) → E (some (.inl v5)) I) ∧ ((¬ (v1 ≤ v5 ∧ v5 ≤ v2)) → (∀ I4 : ga_I, I4 = (ga_up I 327 1 (ga_wr v4)) → E (some (.inl v5)) I4))))))) ∧ ((¬ ((I 327 0) ≤ (I 327 2))) → (gr_X I) ∧ ((∀ z1 : Int, z1 = gp_ch (I 328) (I 327 0) (I 327 2) → ((¬ (48 ≤ z1 ∧ z1 ≤ 57)) → (ga_rg ((I 327 2) - v4)) ∧ (((((I 327 2) - v4) = 0) → (∀ I5 : ga_I, I5 = (ga_up I 327 1 (ga_wr v4)) → E (some (.inl v5)) I5)) ∧ ((¬ (((I 327 2) - v4) = 0)) → ((((I 327 2) - v4) ≤ 1) → ((v1 ≤ v5 ∧ v5 ≤ v2) → E (some (.inl v5)) I) ∧ ((¬ (v1 ≤ v5 ∧ v5 ≤ v2)) → (∀ I6 : ga_I, I6 = (ga_up I 327 1 (ga_wr v4)) → E (some (.inl v5)) I6))) ∧ ((¬ (((I 327 2) - v4) ≤ 1)) → ((v3 ≠ 0) → (∀ I7 : ga_I, I7 = (ga_up I 327 1 (ga_wr v4)) → E (some (.inl v5)) I7)) ∧ ((v3 = 0) → ((v1 ≤ v5 ∧ v5 ≤ v2) → E (some (.inl v5)) I) ∧ ((¬ (v1 ≤ v5 ∧ v5 ≤ v2)) → (∀ I8 : ga_I, I8 = (ga_up I 327 1 (ga_wr v4)) → E (some (.inl v5)) I8))))))) ∧ ((48 ≤ z1 ∧ z1 ≤ 57) → (∀ z2 : Int, z2 = gp_ch (I 328) (I 327 0) (I 327 2) → (ga_rg (((v5 * 10) + z2) - 48)) ∧ ((∀ I9 : ga_I, I9 = (ga_up I 327 2 (ga_wr ((I 327 2) + 1))) → ga_W G (d + 2) mt_Text_readNumber 34 [some (.inr 327), some (.inl v1), some (.inl v2), some (.inl v3), some (.inl v4), some (.inl (min (((v5 * 10) + z2) - 48) 1000000)), none] [] I9 E)))))))) :
    ga_W G (d + 2) mt_Text_readNumber 34 [some (.inr 327), some (.inl v1), some (.inl v2), some (.inl v3), some (.inl v4), some (.inl v5), none] [] I E := by
  refine gw_RG (fun hI1 => ?_)
  have h := h hI1
  refine gw_aload_n 0 d_Text_readNumber_34 rfl rfl ?_
  refine gw_getI d_Text_readNumber_35 fl_Text_27 (ga_oX) rfl ?_
  refine gw_aload_n 0 d_Text_readNumber_38 rfl rfl ?_
  refine gw_getI d_Text_readNumber_39 fl_Text_19 (ga_oX) rfl ?_
  refine gw_icmp_ge 96 d_Text_readNumber_42 (by decide) (hI1 _ _) (hI1 _ _) (fun hc => ?_) (fun hc => ?_)
  · have h := h.1 hc
    refine gw_aload_n 0 d_Text_readNumber_96 rfl rfl ?_
    refine gw_getI d_Text_readNumber_97 fl_Text_27 (ga_oX) rfl ?_
    refine gw_iload 4 d_Text_readNumber_100 rfl ?_
    refine gw_isub d_Text_readNumber_102 ?_
    refine gw_istore 6 d_Text_readNumber_103 (Nat.le_of_ble_eq_true rfl) rfl ?_
    refine gw_iload 6 d_Text_readNumber_105 rfl ?_
    obtain ⟨g1, h⟩ := h
    refine gw_if_eq 130 d_Text_readNumber_107 (by decide) g1 (fun hc => ?_) (fun hc => ?_)
    · have h := h.1 hc
      refine gw_aload_n 0 d_Text_readNumber_130 rfl rfl ?_
      refine gw_iload 4 d_Text_readNumber_131 rfl ?_
      refine gw_putI d_Text_readNumber_133 fp_Text_11 (ga_oX) rfl ?_
      refine gw_nm (J := (ga_up I 327 1 (ga_wr v4))) (fun I1 q1 => ?_)
      have h := h I1 q1
      refine gw_RG (fun hI2 => ?_)
      refine gw_iload 5 d_Text_readNumber_136 rfl ?_
      exact gw_ireturn d_Text_readNumber_138 rfl h
    · have h := h.2 hc
      refine gw_iload 6 d_Text_readNumber_110 rfl ?_
      refine gw_iconst d_Text_readNumber_112 ?_
      refine gw_icmp_le 120 d_Text_readNumber_113 (by decide) g1 ⟨by decide, by decide⟩ (fun hc => ?_) (fun hc => ?_)
      · have h := h.1 hc
        refine gw_iload 5 d_Text_readNumber_120 rfl ?_
        refine gw_iload_n 1 d_Text_readNumber_122 rfl rfl ?_
        refine gw_iload_n 2 d_Text_readNumber_123 rfl rfl ?_
        refine gw_invN (as := [.inl v5, .inl v1, .inl v2]) (rest := []) (d' := (d + 1)) d_Text_readNumber_124 lk_Text_108 rfl (Nat.le_of_ble_eq_true rfl) (Nat.le_of_ble_eq_true rfl) rfl rfl (s_GT_isIn r5 r1 r2 ?_)
        show ga_W G (d + 2) mt_Text_readNumber 127 [some (.inr 327), some (.inl v1), some (.inl v2), some (.inl v3), some (.inl v4), some (.inl v5), some (.inl ((I 327 2) - v4))] [.inl (ga_bb (decide (v1 ≤ v5 ∧ v5 ≤ v2)))] I E
        refine gw_ifb_ne 136 d_Text_readNumber_127 (by decide) (fun hc => ?_) (fun hc => ?_)
        · have h := h.1 (of_decide_eq_true hc)
          refine gw_iload 5 d_Text_readNumber_136 rfl ?_
          exact gw_ireturn d_Text_readNumber_138 rfl h
        · have h := h.2 (of_decide_eq_false hc)
          refine gw_aload_n 0 d_Text_readNumber_130 rfl rfl ?_
          refine gw_iload 4 d_Text_readNumber_131 rfl ?_
          refine gw_putI d_Text_readNumber_133 fp_Text_11 (ga_oX) rfl ?_
          refine gw_nm (J := (ga_up I 327 1 (ga_wr v4))) (fun I2 q2 => ?_)
          have h := h I2 q2
          refine gw_RG (fun hI3 => ?_)
          refine gw_iload 5 d_Text_readNumber_136 rfl ?_
          exact gw_ireturn d_Text_readNumber_138 rfl h
      · have h := h.2 hc
        refine gw_iload_n 3 d_Text_readNumber_116 rfl rfl ?_
        refine gw_if_ne 130 d_Text_readNumber_117 (by decide) r3 (fun hc => ?_) (fun hc => ?_)
        · have h := h.1 hc
          refine gw_aload_n 0 d_Text_readNumber_130 rfl rfl ?_
          refine gw_iload 4 d_Text_readNumber_131 rfl ?_
          refine gw_putI d_Text_readNumber_133 fp_Text_11 (ga_oX) rfl ?_
          refine gw_nm (J := (ga_up I 327 1 (ga_wr v4))) (fun I3 q3 => ?_)
          have h := h I3 q3
          refine gw_RG (fun hI4 => ?_)
          refine gw_iload 5 d_Text_readNumber_136 rfl ?_
          exact gw_ireturn d_Text_readNumber_138 rfl h
        · have h := h.2 hc
          refine gw_iload 5 d_Text_readNumber_120 rfl ?_
          refine gw_iload_n 1 d_Text_readNumber_122 rfl rfl ?_
          refine gw_iload_n 2 d_Text_readNumber_123 rfl rfl ?_
          refine gw_invN (as := [.inl v5, .inl v1, .inl v2]) (rest := []) (d' := (d + 1)) d_Text_readNumber_124 lk_Text_108 rfl (Nat.le_of_ble_eq_true rfl) (Nat.le_of_ble_eq_true rfl) rfl rfl (s_GT_isIn r5 r1 r2 ?_)
          show ga_W G (d + 2) mt_Text_readNumber 127 [some (.inr 327), some (.inl v1), some (.inl v2), some (.inl v3), some (.inl v4), some (.inl v5), some (.inl ((I 327 2) - v4))] [.inl (ga_bb (decide (v1 ≤ v5 ∧ v5 ≤ v2)))] I E
          refine gw_ifb_ne 136 d_Text_readNumber_127 (by decide) (fun hc => ?_) (fun hc => ?_)
          · have h := h.1 (of_decide_eq_true hc)
            refine gw_iload 5 d_Text_readNumber_136 rfl ?_
            exact gw_ireturn d_Text_readNumber_138 rfl h
          · have h := h.2 (of_decide_eq_false hc)
            refine gw_aload_n 0 d_Text_readNumber_130 rfl rfl ?_
            refine gw_iload 4 d_Text_readNumber_131 rfl ?_
            refine gw_putI d_Text_readNumber_133 fp_Text_11 (ga_oX) rfl ?_
            refine gw_nm (J := (ga_up I 327 1 (ga_wr v4))) (fun I4 q4 => ?_)
            have h := h I4 q4
            refine gw_RG (fun hI5 => ?_)
            refine gw_iload 5 d_Text_readNumber_136 rfl ?_
            exact gw_ireturn d_Text_readNumber_138 rfl h
  · have h := h.2 hc
    refine gw_aload_n 0 d_Text_readNumber_45 rfl rfl ?_
    refine gw_aload_n 0 d_Text_readNumber_46 rfl rfl ?_
    refine gw_getI d_Text_readNumber_47 fl_Text_27 (ga_oX) rfl ?_
    obtain ⟨g2, h⟩ := h
    refine gw_invV (as := [.inl (I 327 2)]) (k := 327) (rest := []) (d' := (d + 1)) d_Text_readNumber_50 lk_Text_94 (ga_rcv (ga_oX) rfl rfl) rfl (Nat.le_of_ble_eq_true rfl) (Nat.le_of_ble_eq_true rfl) rfl rfl (s_Text_characterAt g2 (hI1 _ _) ?_)
    show ga_W G (d + 2) mt_Text_readNumber 53 [some (.inr 327), some (.inl v1), some (.inl v2), some (.inl v3), some (.inl v4), some (.inl v5), none] [.inl (gp_ch (I 328) (I 327 0) (I 327 2))] I E
    refine gw_nz (z := gp_ch (I 328) (I 327 0) (I 327 2)) (fun z1 q5 => ?_)
    have h := h z1 q5
    refine gw_invS (as := [.inl z1]) (rest := []) (d' := (d + 1)) d_Text_readNumber_53 lk_Text_98 rfl (Nat.le_of_ble_eq_true rfl) (Nat.le_of_ble_eq_true rfl) rfl rfl (s_Text_isDigit (by rw [q5]; exact (gp_ch_rg hI1 _)) ?_)
    show ga_W G (d + 2) mt_Text_readNumber 56 [some (.inr 327), some (.inl v1), some (.inl v2), some (.inl v3), some (.inl v4), some (.inl v5), none] [.inl (ga_bb (decide (48 ≤ z1 ∧ z1 ≤ 57)))] I E
    refine gw_ifb_eq 96 d_Text_readNumber_56 (by decide) (fun hc => ?_) (fun hc => ?_)
    · have h := h.1 (of_decide_eq_false hc)
      refine gw_aload_n 0 d_Text_readNumber_96 rfl rfl ?_
      refine gw_getI d_Text_readNumber_97 fl_Text_27 (ga_oX) rfl ?_
      refine gw_iload 4 d_Text_readNumber_100 rfl ?_
      refine gw_isub d_Text_readNumber_102 ?_
      refine gw_istore 6 d_Text_readNumber_103 (Nat.le_of_ble_eq_true rfl) rfl ?_
      refine gw_iload 6 d_Text_readNumber_105 rfl ?_
      obtain ⟨g3, h⟩ := h
      refine gw_if_eq 130 d_Text_readNumber_107 (by decide) g3 (fun hc => ?_) (fun hc => ?_)
      · have h := h.1 hc
        refine gw_aload_n 0 d_Text_readNumber_130 rfl rfl ?_
        refine gw_iload 4 d_Text_readNumber_131 rfl ?_
        refine gw_putI d_Text_readNumber_133 fp_Text_11 (ga_oX) rfl ?_
        refine gw_nm (J := (ga_up I 327 1 (ga_wr v4))) (fun I5 q6 => ?_)
        have h := h I5 q6
        refine gw_RG (fun hI6 => ?_)
        refine gw_iload 5 d_Text_readNumber_136 rfl ?_
        exact gw_ireturn d_Text_readNumber_138 rfl h
      · have h := h.2 hc
        refine gw_iload 6 d_Text_readNumber_110 rfl ?_
        refine gw_iconst d_Text_readNumber_112 ?_
        refine gw_icmp_le 120 d_Text_readNumber_113 (by decide) g3 ⟨by decide, by decide⟩ (fun hc => ?_) (fun hc => ?_)
        · have h := h.1 hc
          refine gw_iload 5 d_Text_readNumber_120 rfl ?_
          refine gw_iload_n 1 d_Text_readNumber_122 rfl rfl ?_
          refine gw_iload_n 2 d_Text_readNumber_123 rfl rfl ?_
          refine gw_invN (as := [.inl v5, .inl v1, .inl v2]) (rest := []) (d' := (d + 1)) d_Text_readNumber_124 lk_Text_108 rfl (Nat.le_of_ble_eq_true rfl) (Nat.le_of_ble_eq_true rfl) rfl rfl (s_GT_isIn r5 r1 r2 ?_)
          show ga_W G (d + 2) mt_Text_readNumber 127 [some (.inr 327), some (.inl v1), some (.inl v2), some (.inl v3), some (.inl v4), some (.inl v5), some (.inl ((I 327 2) - v4))] [.inl (ga_bb (decide (v1 ≤ v5 ∧ v5 ≤ v2)))] I E
          refine gw_ifb_ne 136 d_Text_readNumber_127 (by decide) (fun hc => ?_) (fun hc => ?_)
          · have h := h.1 (of_decide_eq_true hc)
            refine gw_iload 5 d_Text_readNumber_136 rfl ?_
            exact gw_ireturn d_Text_readNumber_138 rfl h
          · have h := h.2 (of_decide_eq_false hc)
            refine gw_aload_n 0 d_Text_readNumber_130 rfl rfl ?_
            refine gw_iload 4 d_Text_readNumber_131 rfl ?_
            refine gw_putI d_Text_readNumber_133 fp_Text_11 (ga_oX) rfl ?_
            refine gw_nm (J := (ga_up I 327 1 (ga_wr v4))) (fun I6 q7 => ?_)
            have h := h I6 q7
            refine gw_RG (fun hI7 => ?_)
            refine gw_iload 5 d_Text_readNumber_136 rfl ?_
            exact gw_ireturn d_Text_readNumber_138 rfl h
        · have h := h.2 hc
          refine gw_iload_n 3 d_Text_readNumber_116 rfl rfl ?_
          refine gw_if_ne 130 d_Text_readNumber_117 (by decide) r3 (fun hc => ?_) (fun hc => ?_)
          · have h := h.1 hc
            refine gw_aload_n 0 d_Text_readNumber_130 rfl rfl ?_
            refine gw_iload 4 d_Text_readNumber_131 rfl ?_
            refine gw_putI d_Text_readNumber_133 fp_Text_11 (ga_oX) rfl ?_
            refine gw_nm (J := (ga_up I 327 1 (ga_wr v4))) (fun I7 q8 => ?_)
            have h := h I7 q8
            refine gw_RG (fun hI8 => ?_)
            refine gw_iload 5 d_Text_readNumber_136 rfl ?_
            exact gw_ireturn d_Text_readNumber_138 rfl h
          · have h := h.2 hc
            refine gw_iload 5 d_Text_readNumber_120 rfl ?_
            refine gw_iload_n 1 d_Text_readNumber_122 rfl rfl ?_
            refine gw_iload_n 2 d_Text_readNumber_123 rfl rfl ?_
            refine gw_invN (as := [.inl v5, .inl v1, .inl v2]) (rest := []) (d' := (d + 1)) d_Text_readNumber_124 lk_Text_108 rfl (Nat.le_of_ble_eq_true rfl) (Nat.le_of_ble_eq_true rfl) rfl rfl (s_GT_isIn r5 r1 r2 ?_)
            show ga_W G (d + 2) mt_Text_readNumber 127 [some (.inr 327), some (.inl v1), some (.inl v2), some (.inl v3), some (.inl v4), some (.inl v5), some (.inl ((I 327 2) - v4))] [.inl (ga_bb (decide (v1 ≤ v5 ∧ v5 ≤ v2)))] I E
            refine gw_ifb_ne 136 d_Text_readNumber_127 (by decide) (fun hc => ?_) (fun hc => ?_)
            · have h := h.1 (of_decide_eq_true hc)
              refine gw_iload 5 d_Text_readNumber_136 rfl ?_
              exact gw_ireturn d_Text_readNumber_138 rfl h
            · have h := h.2 (of_decide_eq_false hc)
              refine gw_aload_n 0 d_Text_readNumber_130 rfl rfl ?_
              refine gw_iload 4 d_Text_readNumber_131 rfl ?_
              refine gw_putI d_Text_readNumber_133 fp_Text_11 (ga_oX) rfl ?_
              refine gw_nm (J := (ga_up I 327 1 (ga_wr v4))) (fun I8 q9 => ?_)
              have h := h I8 q9
              refine gw_RG (fun hI9 => ?_)
              refine gw_iload 5 d_Text_readNumber_136 rfl ?_
              exact gw_ireturn d_Text_readNumber_138 rfl h
    · have h := h.2 (of_decide_eq_true hc)
      refine gw_iload 5 d_Text_readNumber_59 rfl ?_
      refine gw_bipush d_Text_readNumber_61 (by decide +kernel) ?_
      refine gw_imul d_Text_readNumber_63 ?_
      refine gw_aload_n 0 d_Text_readNumber_64 rfl rfl ?_
      refine gw_aload_n 0 d_Text_readNumber_65 rfl rfl ?_
      refine gw_getI d_Text_readNumber_66 fl_Text_27 (ga_oX) rfl ?_
      refine gw_invV (as := [.inl (I 327 2)]) (k := 327) (rest := [.inl (v5 * 10)]) (d' := (d + 1)) d_Text_readNumber_69 lk_Text_94 (ga_rcv (ga_oX) rfl rfl) rfl (Nat.le_of_ble_eq_true rfl) (Nat.le_of_ble_eq_true rfl) rfl rfl (s_Text_characterAt g2 (hI1 _ _) ?_)
      show ga_W G (d + 2) mt_Text_readNumber 72 [some (.inr 327), some (.inl v1), some (.inl v2), some (.inl v3), some (.inl v4), some (.inl v5), none] [.inl (gp_ch (I 328) (I 327 0) (I 327 2)), .inl (v5 * 10)] I E
      refine gw_nz (z := gp_ch (I 328) (I 327 0) (I 327 2)) (fun z2 q10 => ?_)
      have h := h z2 q10
      refine gw_iadd d_Text_readNumber_72 ?_
      refine gw_bipush d_Text_readNumber_73 (by decide +kernel) ?_
      refine gw_isub d_Text_readNumber_75 ?_
      refine gw_ldc (n := 1000000) d_Text_readNumber_76 kw_Text_102 (by decide +kernel) ?_
      obtain ⟨g4, h⟩ := h
      refine gw_mmin d_Text_readNumber_78 lk_Text_103 g4 ⟨by decide, by decide⟩ (by omega) (Nat.le_of_ble_eq_true rfl) ?_
      refine gw_istore 5 d_Text_readNumber_81 (Nat.le_of_ble_eq_true rfl) rfl ?_
      refine gw_aload_n 0 d_Text_readNumber_83 rfl rfl ?_
      refine gw_dup d_Text_readNumber_84 ?_
      refine gw_getI d_Text_readNumber_85 fl_Text_27 (ga_oX) rfl ?_
      refine gw_iconst d_Text_readNumber_88 ?_
      refine gw_iadd d_Text_readNumber_89 ?_
      refine gw_putI d_Text_readNumber_90 fp_Text_27 (ga_oX) rfl ?_
      refine gw_nm (J := (ga_up I 327 2 (ga_wr ((I 327 2) + 1)))) (fun I9 q11 => ?_)
      have h := h I9 q11
      refine gw_RG (fun hI10 => ?_)
      refine gw_goto 34 d_Text_readNumber_93 (by decide) ?_
      exact gw_le h (by exact ⟨rfl, ⟨rfl, ⟨rfl, ⟨rfl, ⟨rfl, ⟨rfl, trivial⟩⟩⟩⟩⟩⟩)

theorem k_Text_readEndOfItem_0 {G : ga_G} {d : Nat} {I : ga_I} {E : Option ga_V → ga_I → Prop}  
    (h : ga_RG I → (((I 327 1) = (-1)) → (xo_x I) ∧ ((∀ I1 : ga_I, I1 = (ga_up I 327 2 (xt_p I : Nat)) → (ga_rg (xt_hv I)) ∧ ((((xt_hv I) ≠ 59) → (∀ I2 : ga_I, I2 = (ga_up I1 327 1 (I1 327 2)) → E none I2)) ∧ (((xt_hv I) = 59) → (∀ I3 : ga_I, I3 = (ga_up I1 327 2 (ga_wr ((I1 327 2) + 1))) → E none I3)))))) ∧ ((¬ ((I 327 1) = (-1))) → E none I)) :
    ga_W G (d + 2) mt_Text_readEndOfItem 0 (ga_en 1 [.inr 327]) [] I E := by
  show ga_W G (d + 2) mt_Text_readEndOfItem 0 [some (.inr 327)] [] I E
  refine gw_RG (fun hI1 => ?_)
  have h := h hI1
  refine gw_aload_n 0 d_Text_readEndOfItem_0 rfl rfl ?_
  refine gw_getI d_Text_readEndOfItem_1 fl_Text_11 (ga_oX) rfl ?_
  refine gw_iconst d_Text_readEndOfItem_4 ?_
  refine gw_icmp_eq 9 d_Text_readEndOfItem_5 (by decide) (hI1 _ _) ⟨by decide, by decide⟩ (fun hc => ?_) (fun hc => ?_)
  · have h := h.1 hc
    refine gw_aload_n 0 d_Text_readEndOfItem_9 rfl rfl ?_
    obtain ⟨g1, h⟩ := h
    refine gw_invV (as := []) (k := 327) (rest := []) (d' := (d + 1)) d_Text_readEndOfItem_10 lk_Text_30 (ga_rcv (ga_oX) rfl rfl) rfl (Nat.le_of_ble_eq_true rfl) (Nat.le_of_ble_eq_true rfl) rfl rfl (s_Text_peek g1 ?_)
    show ga_W G (d + 2) mt_Text_readEndOfItem 13 [some (.inr 327)] [.inl (xt_hv I)] (ga_up I 327 2 (xt_p I : Nat)) E
    refine gw_nm (fun I1 q1 => ?_)
    have h := h I1 q1
    refine gw_RG (fun hI2 => ?_)
    refine gw_bipush d_Text_readEndOfItem_13 (by decide +kernel) ?_
    obtain ⟨g2, h⟩ := h
    refine gw_icmp_ne 31 d_Text_readEndOfItem_15 (by decide) g2 ⟨by decide, by decide⟩ (fun hc => ?_) (fun hc => ?_)
    · have h := h.1 hc
      refine gw_aload_n 0 d_Text_readEndOfItem_31 rfl rfl ?_
      refine gw_aload_n 0 d_Text_readEndOfItem_32 rfl rfl ?_
      refine gw_getI d_Text_readEndOfItem_33 fl_Text_27 (ga_oX) rfl ?_
      refine gw_putI d_Text_readEndOfItem_36 fp_Text_11 (ga_oX) rfl ?_
      show ga_W G (d + 2) mt_Text_readEndOfItem 39 [some (.inr 327)] [] (ga_up I1 327 1 (ga_wr (I1 327 2))) E
      rw [ga_wr_eq (z := (I1 327 2)) (hI2 _ _)]
      refine gw_nm (J := (ga_up I1 327 1 (I1 327 2))) (fun I2 q2 => ?_)
      have h := h I2 q2
      refine gw_RG (fun hI3 => ?_)
      exact gw_return d_Text_readEndOfItem_39 rfl h
    · have h := h.2 hc
      refine gw_aload_n 0 d_Text_readEndOfItem_18 rfl rfl ?_
      refine gw_dup d_Text_readEndOfItem_19 ?_
      refine gw_getI d_Text_readEndOfItem_20 fl_Text_27 (ga_oX) rfl ?_
      refine gw_iconst d_Text_readEndOfItem_23 ?_
      refine gw_iadd d_Text_readEndOfItem_24 ?_
      refine gw_putI d_Text_readEndOfItem_25 fp_Text_27 (ga_oX) rfl ?_
      refine gw_nm (J := (ga_up I1 327 2 (ga_wr ((I1 327 2) + 1)))) (fun I3 q3 => ?_)
      have h := h I3 q3
      refine gw_RG (fun hI4 => ?_)
      refine gw_goto 39 d_Text_readEndOfItem_28 (by decide) ?_
      exact gw_return d_Text_readEndOfItem_39 rfl h
  · have h := h.2 hc
    exact gw_return d_Text_readEndOfItem_8 rfl h

section TB
variable {G : ga_G} {d : Nat} {I : ga_I} {E : Option ga_V → ga_I → Prop}
def xf (I J : ga_I) : Prop := (∀ a, a ≠ 327 → J a = I a) ∧ ∀ j, j ≠ 1 → j ≠ 2 → J 327 j = I 327 j
theorem xf_tr {I J K : ga_I} (h1 : xf I J) (h2 : xf J K) : xf I K := ⟨fun a ha => (h2.1 a ha).trans (h1.1 a ha), fun j q1 q2 => (h2.2 j q1 q2).trans (h1.2 j q1 q2)⟩
theorem xo_x_of {I J : ga_I} (hx : xo_x I) (hf : xf I J) {n : Nat} (hn : J 327 2 = (n : Int)) (hb : (n : Int) ≤ I 327 0) : xo_x J := by
  have l1 : J 327 0 = I 327 0 := hf.2 0 (by omega) (by omega)
  have x1 : J 328 = I 328 := hf.1 328 (by omega)
  exact ⟨by unfold gr_X; rw [l1]; exact hx.1, by rw [l1, hn]; omega, by rw [l1, x1]; exact hx.2.2⟩
def xt_rd (I : ga_I) (lo hi : Int) : Bool × Nat × Int := gp_rd (I 328) (I 327 0).toNat (I 327 2).toNat lo hi
def gr_rn (I J : ga_I) (lo hi z : Int) : Prop := (I 327 1 ≠ -1 → J = I ∧ z = 0) ∧ (I 327 1 = -1 → xf I J ∧ xo_x J ∧ ((xt_rd I lo hi).1 = true → J 327 1 = -1 ∧ J 327 2 = ((xt_rd I lo hi).2.1 : Nat) ∧ z = (xt_rd I lo hi).2.2) ∧ ((xt_rd I lo hi).1 = false → J 327 1 = ((xt_rd I lo hi).2.1 : Nat)))
theorem l_Text_readNumber (I0 : ga_I) (hx0 : xo_x I0) (hE : I0 327 1 = -1) {lo hi zf : Int} (hlo : 0 ≤ lo ∧ lo ≤ 9999) (hhi : 0 ≤ hi ∧ hi ≤ 9999) (hzf : 0 ≤ zf ∧ zf ≤ 1) (hz : zf ≠ 0 ↔ xt_hv I0 = 48) (h : ∀ (J : ga_I) (z : Int), gr_rn I0 J lo hi z → E (some (.inl z)) J) :
    ∀ (j k : Nat) (v : Int) (I : ga_I), xt_p I0 + k + j = (I0 327 0).toNat → xf I0 I → I 327 1 = -1 → I 327 2 = ((xt_p I0 + k : Nat) : Int) → (∀ i, i < k → 48 ≤ I0 328 (xt_p I0 + i) ∧ I0 328 (xt_p I0 + i) ≤ 57) → v = min (gp_nx (I0 328) (xt_p I0) k) 1000000 → gp_dg (I0 328) (I0 327 0).toNat (xt_p I0) = gp_dg (I0 328) (I0 327 0).toNat (xt_p I0 + k) →
    ga_W G (d + 2) mt_Text_readNumber 34 [some (.inr 327), some (.inl lo), some (.inl hi), some (.inl zf), some (.inl ((xt_p I0 : Nat) : Int)), some (.inl v), none] [] I E := by
  have hx1 : 0 ≤ I0 327 0 ∧ I0 327 0 ≤ 160 := hx0.1
  have hx2 := hx0.2.1
  have core : ∀ (k : Nat) (v : Int) (I : ga_I), xt_p I0 + k ≤ (I0 327 0).toNat → xf I0 I → I 327 1 = -1 → I 327 2 = ((xt_p I0 + k : Nat) : Int) → (∀ i, i < k → 48 ≤ I0 328 (xt_p I0 + i) ∧ I0 328 (xt_p I0 + i) ≤ 57) → v = min (gp_nx (I0 328) (xt_p I0) k) 1000000 → gp_dg (I0 328) (I0 327 0).toNat (xt_p I0) = xt_p I0 + k →
      ((lo ≤ v ∧ v ≤ hi) ↔ (lo ≤ gp_nx (I0 328) (xt_p I0) (gp_dg (I0 328) (I0 327 0).toNat (xt_p I0) - xt_p I0) ∧ gp_nx (I0 328) (xt_p I0) (gp_dg (I0 328) (I0 327 0).toNat (xt_p I0) - xt_p I0) ≤ hi)) ∧
      (∀ J1 : ga_I, J1 = ga_up I 327 1 (ga_wr (xt_p I0 : Nat)) → ¬ (xt_p I0 < gp_dg (I0 328) (I0 327 0).toNat (xt_p I0) ∧ (I0 328 (xt_p I0) ≠ 48 ∨ gp_dg (I0 328) (I0 327 0).toNat (xt_p I0) = xt_p I0 + 1) ∧ (lo ≤ gp_nx (I0 328) (xt_p I0) (gp_dg (I0 328) (I0 327 0).toNat (xt_p I0) - xt_p I0) ∧ gp_nx (I0 328) (xt_p I0) (gp_dg (I0 328) (I0 327 0).toNat (xt_p I0) - xt_p I0) ≤ hi)) → E (some (.inl v)) J1) ∧
      ((lo ≤ v ∧ v ≤ hi) → k ≠ 0 → (I0 328 (xt_p I0) ≠ 48 ∨ k = 1) → E (some (.inl v)) I) := by
    intro k v I hk hf hE2 hn hd hv hdg
    have hp0 := gp_nx_bd (t := I0 328) (p := xt_p I0) k hd
    have ek : gp_dg (I0 328) (I0 327 0).toNat (xt_p I0) - xt_p I0 = k := by omega
    rw [ek]
    have rng : (lo ≤ v ∧ v ≤ hi) ↔ (lo ≤ gp_nx (I0 328) (xt_p I0) k ∧ gp_nx (I0 328) (xt_p I0) k ≤ hi) := by omega
    refine ⟨rng, fun J1 e1 hq => ?_, fun hr hk0 hq => ?_⟩
    · have eR : xt_rd I0 lo hi = (false, xt_p I0, 0) := by
        unfold xt_rd gp_rd
        rw [← show xt_p I0 = gp_sp (I0 328) (I0 327 0).toNat (I0 327 2).toNat from rfl, ek, if_neg hq]
      rw [ga_wr_eq ⟨by omega, by omega⟩] at e1
      have f1 : xf I0 J1 := xf_tr hf ⟨fun a ha => by rw [e1, ga_up_fn (by omega)], fun j h1 h2 => by rw [e1, ga_up_nj (by omega)]⟩
      refine h J1 v ⟨fun w => absurd hE w, fun _ => ⟨f1, xo_x_of hx0 f1 (n := xt_p I0 + k) (by rw [e1, ga_up_nj (by omega), hn]) (by omega), fun w => ?_, fun _ => ?_⟩⟩
      · rw [eR] at w; cases w
      · rw [eR, e1, ga_up_at]
    · have eR : xt_rd I0 lo hi = (true, xt_p I0 + k, gp_nx (I0 328) (xt_p I0) k) := by
        unfold xt_rd gp_rd
        rw [← show xt_p I0 = gp_sp (I0 328) (I0 327 0).toNat (I0 327 2).toNat from rfl, ek, if_pos ⟨by omega, by omega, rng.mp hr⟩, hdg]
      refine h I v ⟨fun w => absurd hE w, fun _ => ⟨hf, xo_x_of hx0 hf (n := xt_p I0 + k) hn (by omega), fun _ => ?_, fun w => ?_⟩⟩
      · rw [eR]; exact ⟨hE2, hn, show v = gp_nx (I0 328) (xt_p I0) k by have := rng.mp hr; omega⟩
      · rw [eR] at w; cases w
  have hzn : zf = 0 → xt_p I0 < (I0 327 0).toNat → I0 328 (xt_p I0) = 48 → False := fun w1 w2 w3 => by
    have := (xt_hv_eq hx0 (c := 48) (by omega)).mpr ⟨w2, w3⟩
    exact (hz.mpr this) w1
  have hz : zf ≠ 0 ↔ (xt_p I0 < (I0 327 0).toNat → I0 328 (xt_p I0) = 48) ∧ zf ≠ 0 := ⟨fun w => ⟨fun _ => ((xt_hv_eq hx0 (c := 48) (by omega)).mp (hz.mp w)).2, w⟩, fun w => w.2⟩
  intro j
  induction j with
  | zero =>
    intro k v I hk hf hE2 hn hd hv hdg
    have l1 : I 327 0 = I0 327 0 := hf.2 0 (by omega) (by omega)
    have hp0 := gp_nx_bd (t := I0 328) (p := xt_p I0) k hd
    rw [gp_dg_e (n := xt_p I0 + k) (by omega)] at hdg
    obtain ⟨rng, bad, good⟩ := core k v I (by omega) hf hE2 hn hd hv hdg
    refine k_Text_readNumber_34 ⟨by omega, by omega⟩ ⟨by omega, by omega⟩ ⟨by omega, by omega⟩ ⟨by omega, by omega⟩ (fun hI => ⟨fun q0 => ?_, fun q0 => by exfalso; omega⟩)
    exact ⟨⟨by omega, by omega⟩, fun q1 J1 e1 => bad J1 e1 (fun w => by have := w.1; omega), fun q1 => ⟨fun q2 => ⟨fun q3 => good q3 (by omega) (Or.inr (by omega)), fun q3 J1 e1 => bad J1 e1 (fun w => q3 (rng.mpr w.2.2))⟩, fun q2 => ⟨fun q4 J1 e1 => bad J1 e1 (fun w => w.2.1.elim (fun u => u ((hz.mp q4).1 (by omega))) (fun u => by omega)), fun q4 => ⟨fun q3 => good q3 (by omega) (Or.inl (fun u => hzn q4 (by omega) u)), fun q3 J1 e1 => bad J1 e1 (fun w => q3 (rng.mpr w.2.2))⟩⟩⟩⟩
  | succ j ih =>
    intro k v I hk hf hE2 hn hd hv hdg
    have l1 : I 327 0 = I0 327 0 := hf.2 0 (by omega) (by omega)
    have x1 : I 328 = I0 328 := hf.1 328 (by omega)
    have hp0 := gp_nx_bd (t := I0 328) (p := xt_p I0) k hd
    have ec : gp_ch (I 328) (I 327 0) (I 327 2) = I0 328 (xt_p I0 + k) := by unfold gp_ch; rw [if_pos (by omega), x1, hn, Int.toNat_natCast]
    have hch := hx0.2.2 (xt_p I0 + k) (by omega)
    refine k_Text_readNumber_34 ⟨by omega, by omega⟩ ⟨by omega, by omega⟩ ⟨by omega, by omega⟩ ⟨by omega, by omega⟩ (fun hI => ⟨fun q0 => by exfalso; omega, fun q0 => ⟨by unfold gr_X; rw [l1]; exact hx0.1, fun z1 f1 => ⟨fun q5 => ?_, fun q5 z2 f2 => ?_⟩⟩⟩)
    · rw [f1, ec] at q5
      rw [gp_dg_e (n := xt_p I0 + k) (fun w => q5 w.2)] at hdg
      obtain ⟨rng, bad, good⟩ := core k v I (by omega) hf hE2 hn hd hv hdg
      exact ⟨⟨by omega, by omega⟩, fun q1 J1 e1 => bad J1 e1 (fun w => by have := w.1; omega), fun q1 => ⟨fun q2 => ⟨fun q3 => good q3 (by omega) (Or.inr (by omega)), fun q3 J1 e1 => bad J1 e1 (fun w => q3 (rng.mpr w.2.2))⟩, fun q2 => ⟨fun q4 J1 e1 => bad J1 e1 (fun w => w.2.1.elim (fun u => u ((hz.mp q4).1 (by omega))) (fun u => by omega)), fun q4 => ⟨fun q3 => good q3 (by omega) (Or.inl (fun u => hzn q4 (by omega) u)), fun q3 J1 e1 => bad J1 e1 (fun w => q3 (rng.mpr w.2.2))⟩⟩⟩⟩
    · rw [f1, ec] at q5
      rw [ec] at f2
      refine ⟨⟨by omega, by omega⟩, fun J eJ => ?_⟩
      rw [hn, ga_wr_eq ⟨by omega, by omega⟩] at eJ
      refine ih (k + 1) _ J (by omega) (xf_tr hf ⟨fun a ha => by rw [eJ, ga_up_fn (by omega)], fun j h1 h2 => by rw [eJ, ga_up_nj (by omega)]⟩) (by rw [eJ, ga_up_nj (by omega)]; exact hE2) (by rw [eJ, ga_up_at]; omega) (fun i hi => ?_) ?_ ?_
      · by_cases e : i = k
        · rw [e]; exact q5
        · exact hd i (by omega)
      · rw [show gp_nx (I0 328) (xt_p I0) (k + 1) = 10 * gp_nx (I0 328) (xt_p I0) k + I0 328 (xt_p I0 + k) - 48 from rfl]; omega
      · rw [hdg]; exact gp_dg_s ⟨by omega, q5⟩
theorem s_Text_readNumber {lo hi : Int} (hx : xo_x I) (hlo : 0 ≤ lo ∧ lo ≤ 9999) (hhi : 0 ≤ hi ∧ hi ≤ 9999) (h : ∀ (J : ga_I) (z : Int), gr_rn I J lo hi z → E (some (.inl z)) J) : ga_W G (d + 2) mt_Text_readNumber 0 (ga_en 7 [.inr 327, .inl lo, .inl hi]) [] I E := by
  have hp := xt_p_bd hx
  have hx1 : 0 ≤ I 327 0 ∧ I 327 0 ≤ 160 := hx.1
  have hb := xt_hv_bd hx
  refine k_Text_readNumber_0 (fun hI => ⟨fun q0 => ⟨hx, fun I1 e1 => ⟨⟨by omega, by omega⟩, fun q1 => ?_, fun q1 => ?_⟩⟩, fun q0 => h I 0 ⟨fun _ => ⟨rfl, rfl⟩, fun w => absurd w q0⟩⟩)
  all_goals
    have n1 : I1 327 2 = (xt_p I : Nat) := by rw [e1, ga_up_at]
    have m1 : xf I I1 := ⟨fun a ha => by rw [e1, ga_up_fn (by omega)], fun j h1 h2 => by rw [e1, ga_up_nj (by omega)]⟩
    have r1 : I1 327 1 = -1 := by rw [e1, ga_up_nj (by omega)]; exact q0
    rw [n1]
  · exact l_Text_readNumber I hx q0 hlo hhi (by omega) ⟨fun w => absurd rfl w, fun w => absurd w q1⟩ h ((I 327 0).toNat - xt_p I) 0 0 I1 (by omega) m1 r1 (by rw [n1]; rfl) (fun i hi => absurd hi (Nat.not_lt_zero i)) rfl rfl
  · exact l_Text_readNumber I hx q0 hlo hhi (by omega) ⟨fun w => q1, fun w => by decide⟩ h ((I 327 0).toNat - xt_p I) 0 0 I1 (by omega) m1 r1 (by rw [n1]; rfl) (fun i hi => absurd hi (Nat.not_lt_zero i)) rfl rfl
/-- the end of an item read -/
def gr_re (I J : ga_I) : Prop := (I 327 1 ≠ -1 → J = I) ∧ (I 327 1 = -1 → xf I J ∧ xo_x J ∧ (gt_ok (I 328) (I 327 0).toNat (xt_p I) 59 → J 327 1 = -1 ∧ J 327 2 = (xt_p I : Nat) + 1) ∧ (¬ gt_ok (I 328) (I 327 0).toNat (xt_p I) 59 → J 327 1 = (xt_p I : Nat)))
theorem s_Text_readEndOfItem (hx : xo_x I) (h : ∀ J : ga_I, gr_re I J → E none J) : ga_W G (d + 2) mt_Text_readEndOfItem 0 (ga_en 1 [.inr 327]) [] I E := by
  have hp := xt_p_bd hx
  have hx1 : 0 ≤ I 327 0 ∧ I 327 0 ≤ 160 := hx.1
  have hb := xt_hv_bd hx
  refine k_Text_readEndOfItem_0 (fun hI => ⟨fun q0 => ⟨hx, fun I1 e1 => ⟨⟨by omega, by omega⟩, fun q1 I2 e2 => ?_, fun q1 I2 e2 => ?_⟩⟩, fun q0 => h I ⟨fun _ => rfl, fun w => absurd w q0⟩⟩)
  · have n1 : I1 327 2 = (xt_p I : Nat) := by rw [e1, ga_up_at]
    rw [n1] at e2
    have m2 : xf I I2 := ⟨fun a ha => by rw [e2, ga_up_fn (by omega), e1, ga_up_fn (by omega)], fun j h1 h2 => by rw [e2, ga_up_nj (by omega), e1, ga_up_nj (by omega)]⟩
    refine h I2 ⟨fun w => absurd q0 w, fun _ => ⟨m2, xo_x_of hx m2 (n := xt_p I) (by rw [e2, ga_up_nj (by omega), n1]) (by omega), fun w => absurd ((xt_hv_eq hx (by omega)).mpr w) q1, fun _ => by rw [e2, ga_up_at]⟩⟩
  · have n1 : I1 327 2 = (xt_p I : Nat) := by rw [e1, ga_up_at]
    have hok := (xt_hv_eq hx (c := 59) (by omega)).mp q1
    have := hok.1
    rw [n1, ga_wr_eq ⟨by omega, by omega⟩] at e2
    have m2 : xf I I2 := ⟨fun a ha => by rw [e2, ga_up_fn (by omega), e1, ga_up_fn (by omega)], fun j h1 h2 => by rw [e2, ga_up_nj (by omega), e1, ga_up_nj (by omega)]⟩
    refine h I2 ⟨fun w => absurd q0 w, fun _ => ⟨m2, xo_x_of hx m2 (n := xt_p I + 1) (by rw [e2, ga_up_at]; omega) (by omega), fun _ => ⟨by rw [e2, ga_up_nj (by omega), e1, ga_up_nj (by omega)]; exact q0, by rw [e2, ga_up_at]⟩, fun w => absurd hok w⟩⟩
/-- the values of a blend -/
def gl_v (I : ga_I) (o : Nat) : Int × Int × Int × Int := (I o 0, I o 1, I o 2, I o 3)
theorem s_Table_numerator {k o1 o2 : Nat} {g : Int} (hk : ga_isT k) (ho1 : ga_isL o1) (ho2 : ga_isL o2) (h1 : gp_vk (gl_v I o1)) (h2 : gp_vk (gl_v I o2)) (hg : 0 ≤ g ∧ g ≤ 2) (h : E (some (.inl (gp_nu (gl_v I o1) (gl_v I o2) (fun c r => I (k + 9) ((c * 7 + r) * 3 + g).toNat)))) I) : ga_W G (d + 1) mt_Table_numerator 0 (ga_en 6 [.inr k, .inr o1, .inr o2, .inl g]) [] I E := by
  obtain ⟨a1, a2, -, -⟩ := h1
  obtain ⟨b1, b2, -, -⟩ := h2
  change 0 ≤ I o1 0 ∧ I o1 0 ≤ 6 at a1
  change 0 ≤ I o1 1 ∧ I o1 1 ≤ 6 at a2
  change 0 ≤ I o2 0 ∧ I o2 0 ≤ 6 at b1
  change 0 ≤ I o2 1 ∧ I o2 1 ≤ 6 at b2
  exact k_Table_numerator_0 hk ho1 ho2 (fun hI => ⟨by omega, by omega, by omega, by omega, h⟩)
end TB
