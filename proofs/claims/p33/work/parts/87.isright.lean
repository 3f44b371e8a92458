/-! the law: isRight -/
theorem rw_st {f : Nat → Int} {n : Nat} {x0 x y : Int} (hx : x = x0 + gp_rw f n) (e : y = x + f n) : y = x0 + gp_rw f (n + 1) := by
  rw [e, hx]
  show _ = x0 + (gp_rw f n + f n)
  omega
theorem rw_0 {f : Nat → Int} {x : Int} : x = x + gp_rw f 0 := by
  show x = x + 0
  omega
theorem ct_st0 {q : Nat → Int} {k : Nat} {t : Int} (ht : t = gp_ct (gp_sk q) k) (h : q k ≠ 0) : t + 0 = gp_ct (gp_sk q) (k + 1) := by
  rw [gp_ct_F (show gp_sk q k = false from decide_eq_false h), ht]; omega
theorem ct_st1 {q : Nat → Int} {k : Nat} {t : Int} (ht : t = gp_ct (gp_sk q) k) (h : q k = 0) : t + 1 = gp_ct (gp_sk q) (k + 1) := by
  rw [gp_ct_T (show gp_sk q k = true from decide_eq_true h), ht]
theorem cz45 {A : na_A} {ax : Nat} (h : ax < 2) : na_count A (4 + (ax : Int)) = A.1 (236 + ax) := by
  rcases (show ax = 0 ∨ ax = 1 by omega) with e | e <;> subst e <;> rfl
theorem z45 {s : Nat → Int} (h : ni_s s) {ax : Nat} (ha : ax < 2) : 0 ≤ s (236 + ax) ∧ s (236 + ax) ≤ gp_ct (gp_sk (ms_q s (ax : Int))) (ms_n s (ax : Int)).toNat := by
  have hz := h.2.2.1
  rcases (show ax = 0 ∨ ax = 1 by omega) with e | e <;> subst e
  · exact hz.1
  · exact hz.2
section LI
variable {G : ga_G} {E : Option ga_V → ga_I → Prop} {A : na_A} {a b : Int}
theorem ir_35 {a0 b0 : Int} {c : Nat} (hA : ni_a A) (hc : (c : Int) ≤ ms_n A.1 0) (K : ∀ (J : ga_I) (a b : Int), a = a0 + gp_rw (fun r => mp_g3 A.1 (c * 7 + r)) ((ms_n A.1 1).toNat + 1) → b = b0 + gp_rw (fun r => lk3 A.1 (c * 7 + r)) ((ms_n A.1 1).toNat + 1) → rx J A → ga_W G 6 mt_Law_isRight 101 [some (.inr 0), some (.inl a), some (.inl (ms_n A.1 0 + 1)), some (.inl (ms_n A.1 1 + 1)), some (.inl b), some (.inl (c : Int)), none, none, none, none] [] J E) : ∀ (f r : Nat) (I : ga_I) (a b : Int), r + f = ((ms_n A.1 1).toNat + 1) → a = a0 + gp_rw (fun r => mp_g3 A.1 (c * 7 + r)) r → b = b0 + gp_rw (fun r => lk3 A.1 (c * 7 + r)) r → rx I A → ga_W G 6 mt_Law_isRight 35 [some (.inr 0), some (.inl a), some (.inl (ms_n A.1 0 + 1)), some (.inl (ms_n A.1 1 + 1)), some (.inl b), some (.inl (c : Int)), some (.inl (r : Int)), none, none, none] [] I E := by
  have n0 := ni_n hA.1.1 (ax := 0) (by omega)
  have n1 := ni_n hA.1.1 (ax := 1) (by omega)
  intro f
  induction f with
  | zero =>
    intro r I a b hk ha hb hx
    have hk2 : r = ((ms_n A.1 1).toNat + 1) := hk
    subst hk2
    refine gw_iload 6 d_Law_isRight_35 rfl ?_
    refine gw_iload_n 3 d_Law_isRight_37 rfl rfl ?_
    refine gw_icmp_ge 101 d_Law_isRight_38 (by decide) ⟨by omega, by omega⟩ ⟨by omega, by omega⟩ (fun _ => ?_) (fun hq => absurd (by omega) hq)
    exact gw_le (K I a b ha hb hx) (by exact ⟨rfl, ⟨rfl, ⟨rfl, ⟨rfl, ⟨rfl, ⟨rfl, trivial⟩⟩⟩⟩⟩⟩)
  | succ f ih =>
    intro r I a b hk ha hb hx
    refine gw_iload 6 d_Law_isRight_35 rfl ?_
    refine gw_iload_n 3 d_Law_isRight_37 rfl rfl ?_
    refine gw_icmp_ge 101 d_Law_isRight_38 (by decide) ⟨by omega, by omega⟩ ⟨by omega, by omega⟩ (fun hq => absurd hq (by omega)) (fun _ => ?_)
    refine gw_iload_n 1 d_Law_isRight_41 rfl rfl ?_
    refine gw_aload_n 0 d_Law_isRight_42 rfl rfl ?_
    refine gw_iload 5 d_Law_isRight_43 rfl ?_
    refine gw_iload 6 d_Law_isRight_45 rfl ?_
    refine gw_iconst d_Law_isRight_47 ?_
    refine gw_invV (as := [.inl (c : Int), .inl (r : Int), .inl 0]) (k := 0) (rest := [.inl a]) (d' := 5) d_Law_isRight_48 lk_Law_26 (ga_rcv ga_oG rfl rfl) rfl (Nat.le_of_ble_eq_true rfl) (Nat.le_of_ble_eq_true rfl) rfl rfl (q_region (v := A.1 (38 + 4 * (c * 7 + r))) ⟨by omega, by omega⟩ ⟨by omega, by omega⟩ ⟨by decide, by decide⟩ hx hA (rgv (by omega) (by omega)).1 (fun I hx => ?_))
    refine gw_aload_n 0 d_Law_isRight_51 rfl rfl ?_
    refine gw_iload 5 d_Law_isRight_52 rfl ?_
    refine gw_iload 6 d_Law_isRight_54 rfl ?_
    refine gw_iconst d_Law_isRight_56 ?_
    refine gw_invV (as := [.inl (c : Int), .inl (r : Int), .inl 1]) (k := 0) (rest := [.inl (A.1 (38 + 4 * (c * 7 + r))), .inl a]) (d' := 5) d_Law_isRight_57 lk_Law_26 (ga_rcv ga_oG rfl rfl) rfl (Nat.le_of_ble_eq_true rfl) (Nat.le_of_ble_eq_true rfl) rfl rfl (q_region (v := A.1 (38 + 4 * (c * 7 + r) + 1)) ⟨by omega, by omega⟩ ⟨by omega, by omega⟩ ⟨by decide, by decide⟩ hx hA (rgv (by omega) (by omega)).2.1 (fun I hx => ?_))
    refine gw_iadd d_Law_isRight_60 ?_
    refine gw_aload_n 0 d_Law_isRight_61 rfl rfl ?_
    refine gw_iload 5 d_Law_isRight_62 rfl ?_
    refine gw_iload 6 d_Law_isRight_64 rfl ?_
    refine gw_iconst d_Law_isRight_66 ?_
    refine gw_invV (as := [.inl (c : Int), .inl (r : Int), .inl 2]) (k := 0) (rest := [.inl ((A.1 (38 + 4 * (c * 7 + r))) + (A.1 (38 + 4 * (c * 7 + r) + 1))), .inl a]) (d' := 5) d_Law_isRight_67 lk_Law_26 (ga_rcv ga_oG rfl rfl) rfl (Nat.le_of_ble_eq_true rfl) (Nat.le_of_ble_eq_true rfl) rfl rfl (q_region (v := A.1 (38 + 4 * (c * 7 + r) + 2)) ⟨by omega, by omega⟩ ⟨by omega, by omega⟩ ⟨by decide, by decide⟩ hx hA (rgv (by omega) (by omega)).2.2.1 (fun I hx => ?_))
    refine gw_iadd d_Law_isRight_70 ?_
    refine gw_iadd d_Law_isRight_71 ?_
    refine gw_istore_n 1 d_Law_isRight_72 rfl (Nat.le_of_ble_eq_true rfl) rfl ?_
    refine gw_iload 4 d_Law_isRight_73 rfl ?_
    refine gw_aload_n 0 d_Law_isRight_75 rfl rfl ?_
    refine gw_iload 5 d_Law_isRight_76 rfl ?_
    refine gw_iload 6 d_Law_isRight_78 rfl ?_
    refine gw_iconst d_Law_isRight_80 ?_
    refine gw_invV (as := [.inl (c : Int), .inl (r : Int), .inl 3]) (k := 0) (rest := [.inl b]) (d' := 5) d_Law_isRight_81 lk_Law_26 (ga_rcv ga_oG rfl rfl) rfl (Nat.le_of_ble_eq_true rfl) (Nat.le_of_ble_eq_true rfl) rfl rfl (q_region (v := rgl A.1 (c * 7 + r)) ⟨by omega, by omega⟩ ⟨by omega, by omega⟩ ⟨by decide, by decide⟩ hx hA (rgv (by omega) (by omega)).2.2.2 (fun I hx => ?_))
    refine gw_if_lt 91 d_Law_isRight_84 (by decide) (rgl_lt hA.1.1 (g := c * 7 + r) (by omega)).2.2 (fun hl => ?_) (fun hl => ?_)
    · refine gw_iconst d_Law_isRight_91 ?_
      refine gw_iadd d_Law_isRight_92 ?_
      refine gw_istore 4 d_Law_isRight_93 (Nat.le_of_ble_eq_true rfl) rfl ?_
      refine gw_iinc 6 d_Law_isRight_95 rfl rfl ?_
      refine gw_goto 35 d_Law_isRight_98 (by decide) ?_
      exact gw_le (ih (r + 1) I (a + (((A.1 (38 + 4 * (c * 7 + r))) + (A.1 (38 + 4 * (c * 7 + r) + 1))) + (A.1 (38 + 4 * (c * 7 + r) + 2)))) (b + 0) (by omega) (rw_st ha (by unfold mp_g3; rfl)) (rw_st hb (by show b + 0 = b + lk3 A.1 (c * 7 + r); rw [(rgl_lt hA.1.1 (g := c * 7 + r) (by omega)).1 hl])) hx) (by exact ⟨rfl, ⟨rfl, ⟨rfl, ⟨rfl, ⟨rfl, ⟨rfl, ⟨rfl, trivial⟩⟩⟩⟩⟩⟩⟩)
    · refine gw_iconst d_Law_isRight_87 ?_
      refine gw_goto 92 d_Law_isRight_88 (by decide) ?_
      refine gw_iadd d_Law_isRight_92 ?_
      refine gw_istore 4 d_Law_isRight_93 (Nat.le_of_ble_eq_true rfl) rfl ?_
      refine gw_iinc 6 d_Law_isRight_95 rfl rfl ?_
      refine gw_goto 35 d_Law_isRight_98 (by decide) ?_
      exact gw_le (ih (r + 1) I (a + (((A.1 (38 + 4 * (c * 7 + r))) + (A.1 (38 + 4 * (c * 7 + r) + 1))) + (A.1 (38 + 4 * (c * 7 + r) + 2)))) (b + 1) (by omega) (rw_st ha (by unfold mp_g3; rfl)) (rw_st hb (by show b + 1 = b + lk3 A.1 (c * 7 + r); rw [(rgl_lt hA.1.1 (g := c * 7 + r) (by omega)).2.1 hl])) hx) (by exact ⟨rfl, ⟨rfl, ⟨rfl, ⟨rfl, ⟨rfl, ⟨rfl, ⟨rfl, trivial⟩⟩⟩⟩⟩⟩⟩)
theorem ir_26 (hA : ni_a A) (K : ∀ (J : ga_I) (a b : Int), a = 0 + gp_rw (fun c => gp_rw (fun r => mp_g3 A.1 (c * 7 + r)) ((ms_n A.1 1).toNat + 1)) ((ms_n A.1 0).toNat + 1) → b = 0 + gp_rw (fun c => gp_rw (fun r => lk3 A.1 (c * 7 + r)) ((ms_n A.1 1).toNat + 1)) ((ms_n A.1 0).toNat + 1) → rx J A → ga_W G 6 mt_Law_isRight 107 [some (.inr 0), some (.inl a), some (.inl (ms_n A.1 0 + 1)), some (.inl (ms_n A.1 1 + 1)), some (.inl b), none, none, none, none, none] [] J E) : ∀ (f c : Nat) (I : ga_I) (a b : Int), c + f = ((ms_n A.1 0).toNat + 1) → a = 0 + gp_rw (fun c => gp_rw (fun r => mp_g3 A.1 (c * 7 + r)) ((ms_n A.1 1).toNat + 1)) c → b = 0 + gp_rw (fun c => gp_rw (fun r => lk3 A.1 (c * 7 + r)) ((ms_n A.1 1).toNat + 1)) c → rx I A → ga_W G 6 mt_Law_isRight 26 [some (.inr 0), some (.inl a), some (.inl (ms_n A.1 0 + 1)), some (.inl (ms_n A.1 1 + 1)), some (.inl b), some (.inl (c : Int)), none, none, none, none] [] I E := by
  have n0 := ni_n hA.1.1 (ax := 0) (by omega)
  have n1 := ni_n hA.1.1 (ax := 1) (by omega)
  intro f
  induction f with
  | zero =>
    intro c I a b hk ha hb hx
    have hk2 : c = ((ms_n A.1 0).toNat + 1) := hk
    subst hk2
    refine gw_iload 5 d_Law_isRight_26 rfl ?_
    refine gw_iload_n 2 d_Law_isRight_28 rfl rfl ?_
    refine gw_icmp_ge 107 d_Law_isRight_29 (by decide) ⟨by omega, by omega⟩ ⟨by omega, by omega⟩ (fun _ => ?_) (fun hq => absurd (by omega) hq)
    exact gw_le (K I a b ha hb hx) (by exact ⟨rfl, ⟨rfl, ⟨rfl, ⟨rfl, ⟨rfl, trivial⟩⟩⟩⟩⟩)
  | succ f ih =>
    intro c I a b hk ha hb hx
    refine gw_iload 5 d_Law_isRight_26 rfl ?_
    refine gw_iload_n 2 d_Law_isRight_28 rfl rfl ?_
    refine gw_icmp_ge 107 d_Law_isRight_29 (by decide) ⟨by omega, by omega⟩ ⟨by omega, by omega⟩ (fun hq => absurd hq (by omega)) (fun _ => ?_)
    refine gw_iconst d_Law_isRight_32 ?_
    refine gw_istore 6 d_Law_isRight_33 (Nat.le_of_ble_eq_true rfl) rfl ?_
    refine gw_le (ir_35 (c := c) (a0 := a) (b0 := b) hA (by omega) (fun I a1 b1 ha1 hb1 hx => ?_) ((ms_n A.1 1).toNat + 1) 0 I a b (by omega) rw_0 rw_0 hx) (by exact ⟨rfl, ⟨rfl, ⟨rfl, ⟨rfl, ⟨rfl, ⟨rfl, ⟨rfl, trivial⟩⟩⟩⟩⟩⟩⟩)
    refine gw_iinc 5 d_Law_isRight_101 rfl rfl ?_
    refine gw_goto 26 d_Law_isRight_104 (by decide) ?_
    exact gw_le (ih (c + 1) I a1 b1 (by omega) (rw_st ha ha1) (rw_st hb hb1) hx) (by exact ⟨rfl, ⟨rfl, ⟨rfl, ⟨rfl, ⟨rfl, ⟨rfl, trivial⟩⟩⟩⟩⟩⟩)
theorem ir_131 {ax : Nat} (hA : ni_a A) (hax : ax < 2) (K : ∀ (J : ga_I) (t : Int), t = gp_ct (gp_sk (ms_q A.1 (ax : Int))) (ms_n A.1 (ax : Int)).toNat → rx J A → ga_W G 6 mt_Law_isRight 252 [some (.inr 0), some (.inl a), some (.inl (ms_n A.1 0 + 1)), some (.inl (ms_n A.1 1 + 1)), some (.inl b), some (.inl (ax : Int)), some (.inl (ms_n A.1 (ax : Int))), some (.inl t), none, none] [] J E) : ∀ (f k : Nat) (I : ga_I) (t : Int), k + f = (ms_n A.1 (ax : Int)).toNat → t = gp_ct (gp_sk (ms_q A.1 (ax : Int))) k → rx I A → ga_W G 6 mt_Law_isRight 131 [some (.inr 0), some (.inl a), some (.inl (ms_n A.1 0 + 1)), some (.inl (ms_n A.1 1 + 1)), some (.inl b), some (.inl (ax : Int)), some (.inl (ms_n A.1 (ax : Int))), some (.inl t), some (.inl (k : Int)), none] [] I E := by
  have n6 := ni_n hA.1.1 (ax := (ax : Int)) (by omega)
  intro f
  induction f with
  | zero =>
    intro k I t hk ht hx
    have hk2 : k = (ms_n A.1 (ax : Int)).toNat := hk
    subst hk2
    refine gw_iload 8 d_Law_isRight_131 rfl ?_
    refine gw_iload 6 d_Law_isRight_133 rfl ?_
    refine gw_icmp_ge 252 d_Law_isRight_135 (by decide) ⟨by omega, by omega⟩ ⟨by omega, by omega⟩ (fun _ => ?_) (fun hq => absurd (by omega) hq)
    exact gw_le (K I t ht hx) (by exact ⟨rfl, ⟨rfl, ⟨rfl, ⟨rfl, ⟨rfl, ⟨rfl, ⟨rfl, ⟨rfl, trivial⟩⟩⟩⟩⟩⟩⟩⟩)
  | succ f ih =>
    intro k I t hk ht hx
    have hak := ni_axs hA.1.1 (ax := (ax : Int)) (by omega)
    have bo := hak.2.2.1 k (by omega)
    obtain ⟨o1, o2, o3, o4, o5, o6, o7⟩ := bo
    refine gw_iload 8 d_Law_isRight_131 rfl ?_
    refine gw_iload 6 d_Law_isRight_133 rfl ?_
    refine gw_icmp_ge 252 d_Law_isRight_135 (by decide) ⟨by omega, by omega⟩ ⟨by omega, by omega⟩ (fun hq => absurd hq (by omega)) (fun _ => ?_)
    refine gw_iload 7 d_Law_isRight_138 rfl ?_
    refine gw_aload_n 0 d_Law_isRight_140 rfl rfl ?_
    refine gw_iload 5 d_Law_isRight_141 rfl ?_
    refine gw_iload 8 d_Law_isRight_143 rfl ?_
    refine gw_iconst d_Law_isRight_145 ?_
    refine gw_invV (as := [.inl (ax : Int), .inl (k : Int), .inl 1]) (k := 0) (rest := [.inl t]) (d' := 5) d_Law_isRight_146 lk_Law_22 (ga_rcv ga_oG rfl rfl) rfl (Nat.le_of_ble_eq_true rfl) (Nat.le_of_ble_eq_true rfl) rfl rfl (q_border (v := ms_q A.1 (ax : Int) k) ⟨by omega, by omega⟩ ⟨by omega, by omega⟩ ⟨by decide, by decide⟩ hx hA (bdv (by omega) (by omega)).2.1 (fun I hx => ?_))
    refine gw_if_ne 156 d_Law_isRight_149 (by decide) ⟨by omega, by omega⟩ (fun hl => ?_) (fun hl => ?_)
    · refine gw_iconst d_Law_isRight_156 ?_
      refine gw_iadd d_Law_isRight_157 ?_
      refine gw_istore 7 d_Law_isRight_158 (Nat.le_of_ble_eq_true rfl) rfl ?_
      refine gw_aload_n 0 d_Law_isRight_160 rfl rfl ?_
      refine gw_iload 5 d_Law_isRight_161 rfl ?_
      refine gw_iload 8 d_Law_isRight_163 rfl ?_
      refine gw_iconst d_Law_isRight_165 ?_
      refine gw_invV (as := [.inl (ax : Int), .inl (k : Int), .inl 0]) (k := 0) (rest := []) (d' := 5) d_Law_isRight_166 lk_Law_22 (ga_rcv ga_oG rfl rfl) rfl (Nat.le_of_ble_eq_true rfl) (Nat.le_of_ble_eq_true rfl) rfl rfl (q_border (v := ms_p A.1 (ax : Int) k) ⟨by omega, by omega⟩ ⟨by omega, by omega⟩ ⟨by decide, by decide⟩ hx hA (bdv (by omega) (by omega)).1 (fun I hx => ?_))
      refine gw_aload_n 0 d_Law_isRight_169 rfl rfl ?_
      refine gw_iload 5 d_Law_isRight_170 rfl ?_
      refine gw_iload 8 d_Law_isRight_172 rfl ?_
      refine gw_iconst d_Law_isRight_174 ?_
      refine gw_invV (as := [.inl (ax : Int), .inl (k : Int), .inl 2]) (k := 0) (rest := [.inl (ms_p A.1 (ax : Int) k)]) (d' := 5) d_Law_isRight_175 lk_Law_22 (ga_rcv ga_oG rfl rfl) rfl (Nat.le_of_ble_eq_true rfl) (Nat.le_of_ble_eq_true rfl) rfl rfl (q_border (v := ms_r A.1 (ax : Int) k) ⟨by omega, by omega⟩ ⟨by omega, by omega⟩ ⟨by decide, by decide⟩ hx hA (bdv (by omega) (by omega)).2.2 (fun I hx => ?_))
      refine gw_isub d_Law_isRight_178 ?_
      refine gw_istore 9 d_Law_isRight_179 (Nat.le_of_ble_eq_true rfl) rfl ?_
      refine gw_iload 9 d_Law_isRight_181 rfl ?_
      refine gw_if_lt 244 d_Law_isRight_183 (by decide) ⟨by omega, by omega⟩ (fun hq => absurd hq (by omega)) (fun _ => ?_)
      refine gw_aload_n 0 d_Law_isRight_186 rfl rfl ?_
      refine gw_iload 5 d_Law_isRight_187 rfl ?_
      refine gw_iload 8 d_Law_isRight_189 rfl ?_
      refine gw_iconst d_Law_isRight_191 ?_
      refine gw_invV (as := [.inl (ax : Int), .inl (k : Int), .inl 0]) (k := 0) (rest := []) (d' := 5) d_Law_isRight_192 lk_Law_22 (ga_rcv ga_oG rfl rfl) rfl (Nat.le_of_ble_eq_true rfl) (Nat.le_of_ble_eq_true rfl) rfl rfl (q_border (v := ms_p A.1 (ax : Int) k) ⟨by omega, by omega⟩ ⟨by omega, by omega⟩ ⟨by decide, by decide⟩ hx hA (bdv (by omega) (by omega)).1 (fun I hx => ?_))
      refine gw_aload_n 0 d_Law_isRight_195 rfl rfl ?_
      refine gw_iload 5 d_Law_isRight_196 rfl ?_
      refine gw_iload 8 d_Law_isRight_198 rfl ?_
      refine gw_iconst d_Law_isRight_200 ?_
      refine gw_invV (as := [.inl (ax : Int), .inl (k : Int), .inl 2]) (k := 0) (rest := [.inl (ms_p A.1 (ax : Int) k)]) (d' := 5) d_Law_isRight_201 lk_Law_22 (ga_rcv ga_oG rfl rfl) rfl (Nat.le_of_ble_eq_true rfl) (Nat.le_of_ble_eq_true rfl) rfl rfl (q_border (v := ms_r A.1 (ax : Int) k) ⟨by omega, by omega⟩ ⟨by omega, by omega⟩ ⟨by decide, by decide⟩ hx hA (bdv (by omega) (by omega)).2.2 (fun I hx => ?_))
      refine gw_iadd d_Law_isRight_204 ?_
      refine gw_sipush d_Law_isRight_205 (by decide +kernel) ?_
      refine gw_icmp_gt 244 d_Law_isRight_208 (by decide) ⟨by omega, by omega⟩ ⟨by decide, by decide⟩ (fun hq => absurd hq (by omega)) (fun _ => ?_)
      refine gw_iload 8 d_Law_isRight_211 rfl ?_
      refine gw_if_le 246 d_Law_isRight_213 (by decide) ⟨by omega, by omega⟩ (fun hz => ?_) (fun hz => ?_)
      · refine gw_iinc 8 d_Law_isRight_246 rfl rfl ?_
        refine gw_goto 131 d_Law_isRight_249 (by decide) ?_
        exact gw_le (ih (k + 1) I (t + 0) (by omega) (ct_st0 ht hl) hx) (by exact ⟨rfl, ⟨rfl, ⟨rfl, ⟨rfl, ⟨rfl, ⟨rfl, ⟨rfl, ⟨rfl, ⟨rfl, trivial⟩⟩⟩⟩⟩⟩⟩⟩⟩)
      · have ap := hak.2.2.2 (k - 1) (by omega)
        rw [show k - 1 + 1 = k by omega] at ap
        have bo2 := hak.2.2.1 (k - 1) (by omega)
        obtain ⟨u1, u2, u3, u4, u5, u6, u7⟩ := bo2
        refine gw_iload 9 d_Law_isRight_216 rfl ?_
        refine gw_aload_n 0 d_Law_isRight_218 rfl rfl ?_
        refine gw_iload 5 d_Law_isRight_219 rfl ?_
        refine gw_iload 8 d_Law_isRight_221 rfl ?_
        refine gw_iconst d_Law_isRight_223 ?_
        refine gw_isub d_Law_isRight_224 ?_
        refine gw_iconst d_Law_isRight_225 ?_
        refine gw_invV (as := [.inl (ax : Int), .inl ((k : Int) - 1), .inl 0]) (k := 0) (rest := [.inl ((ms_p A.1 (ax : Int) k) - (ms_r A.1 (ax : Int) k))]) (d' := 5) d_Law_isRight_226 lk_Law_22 (ga_rcv ga_oG rfl rfl) rfl (Nat.le_of_ble_eq_true rfl) (Nat.le_of_ble_eq_true rfl) rfl rfl (q_border (v := ms_p A.1 (ax : Int) (k - 1)) ⟨by omega, by omega⟩ ⟨by omega, by omega⟩ ⟨by decide, by decide⟩ hx hA (by rw [show (k : Int) - 1 = ((k - 1 : Nat) : Int) by omega]; exact (bdv (k := k - 1) (by omega) (by omega)).1) (fun I hx => ?_))
        refine gw_aload_n 0 d_Law_isRight_229 rfl rfl ?_
        refine gw_iload 5 d_Law_isRight_230 rfl ?_
        refine gw_iload 8 d_Law_isRight_232 rfl ?_
        refine gw_iconst d_Law_isRight_234 ?_
        refine gw_isub d_Law_isRight_235 ?_
        refine gw_iconst d_Law_isRight_236 ?_
        refine gw_invV (as := [.inl (ax : Int), .inl ((k : Int) - 1), .inl 2]) (k := 0) (rest := [.inl (ms_p A.1 (ax : Int) (k - 1)), .inl ((ms_p A.1 (ax : Int) k) - (ms_r A.1 (ax : Int) k))]) (d' := 5) d_Law_isRight_237 lk_Law_22 (ga_rcv ga_oG rfl rfl) rfl (Nat.le_of_ble_eq_true rfl) (Nat.le_of_ble_eq_true rfl) rfl rfl (q_border (v := ms_r A.1 (ax : Int) (k - 1)) ⟨by omega, by omega⟩ ⟨by omega, by omega⟩ ⟨by decide, by decide⟩ hx hA (by rw [show (k : Int) - 1 = ((k - 1 : Nat) : Int) by omega]; exact (bdv (k := k - 1) (by omega) (by omega)).2.2) (fun I hx => ?_))
        refine gw_iadd d_Law_isRight_240 ?_
        refine gw_icmp_gt 246 d_Law_isRight_241 (by decide) ⟨by omega, by omega⟩ ⟨by omega, by omega⟩ (fun _ => ?_) (fun hq => absurd (by omega) hq)
        refine gw_iinc 8 d_Law_isRight_246 rfl rfl ?_
        refine gw_goto 131 d_Law_isRight_249 (by decide) ?_
        exact gw_le (ih (k + 1) I (t + 0) (by omega) (ct_st0 ht hl) hx) (by exact ⟨rfl, ⟨rfl, ⟨rfl, ⟨rfl, ⟨rfl, ⟨rfl, ⟨rfl, ⟨rfl, ⟨rfl, trivial⟩⟩⟩⟩⟩⟩⟩⟩⟩)
    · refine gw_iconst d_Law_isRight_152 ?_
      refine gw_goto 157 d_Law_isRight_153 (by decide) ?_
      refine gw_iadd d_Law_isRight_157 ?_
      refine gw_istore 7 d_Law_isRight_158 (Nat.le_of_ble_eq_true rfl) rfl ?_
      refine gw_aload_n 0 d_Law_isRight_160 rfl rfl ?_
      refine gw_iload 5 d_Law_isRight_161 rfl ?_
      refine gw_iload 8 d_Law_isRight_163 rfl ?_
      refine gw_iconst d_Law_isRight_165 ?_
      refine gw_invV (as := [.inl (ax : Int), .inl (k : Int), .inl 0]) (k := 0) (rest := []) (d' := 5) d_Law_isRight_166 lk_Law_22 (ga_rcv ga_oG rfl rfl) rfl (Nat.le_of_ble_eq_true rfl) (Nat.le_of_ble_eq_true rfl) rfl rfl (q_border (v := ms_p A.1 (ax : Int) k) ⟨by omega, by omega⟩ ⟨by omega, by omega⟩ ⟨by decide, by decide⟩ hx hA (bdv (by omega) (by omega)).1 (fun I hx => ?_))
      refine gw_aload_n 0 d_Law_isRight_169 rfl rfl ?_
      refine gw_iload 5 d_Law_isRight_170 rfl ?_
      refine gw_iload 8 d_Law_isRight_172 rfl ?_
      refine gw_iconst d_Law_isRight_174 ?_
      refine gw_invV (as := [.inl (ax : Int), .inl (k : Int), .inl 2]) (k := 0) (rest := [.inl (ms_p A.1 (ax : Int) k)]) (d' := 5) d_Law_isRight_175 lk_Law_22 (ga_rcv ga_oG rfl rfl) rfl (Nat.le_of_ble_eq_true rfl) (Nat.le_of_ble_eq_true rfl) rfl rfl (q_border (v := ms_r A.1 (ax : Int) k) ⟨by omega, by omega⟩ ⟨by omega, by omega⟩ ⟨by decide, by decide⟩ hx hA (bdv (by omega) (by omega)).2.2 (fun I hx => ?_))
      refine gw_isub d_Law_isRight_178 ?_
      refine gw_istore 9 d_Law_isRight_179 (Nat.le_of_ble_eq_true rfl) rfl ?_
      refine gw_iload 9 d_Law_isRight_181 rfl ?_
      refine gw_if_lt 244 d_Law_isRight_183 (by decide) ⟨by omega, by omega⟩ (fun hq => absurd hq (by omega)) (fun _ => ?_)
      refine gw_aload_n 0 d_Law_isRight_186 rfl rfl ?_
      refine gw_iload 5 d_Law_isRight_187 rfl ?_
      refine gw_iload 8 d_Law_isRight_189 rfl ?_
      refine gw_iconst d_Law_isRight_191 ?_
      refine gw_invV (as := [.inl (ax : Int), .inl (k : Int), .inl 0]) (k := 0) (rest := []) (d' := 5) d_Law_isRight_192 lk_Law_22 (ga_rcv ga_oG rfl rfl) rfl (Nat.le_of_ble_eq_true rfl) (Nat.le_of_ble_eq_true rfl) rfl rfl (q_border (v := ms_p A.1 (ax : Int) k) ⟨by omega, by omega⟩ ⟨by omega, by omega⟩ ⟨by decide, by decide⟩ hx hA (bdv (by omega) (by omega)).1 (fun I hx => ?_))
      refine gw_aload_n 0 d_Law_isRight_195 rfl rfl ?_
      refine gw_iload 5 d_Law_isRight_196 rfl ?_
      refine gw_iload 8 d_Law_isRight_198 rfl ?_
      refine gw_iconst d_Law_isRight_200 ?_
      refine gw_invV (as := [.inl (ax : Int), .inl (k : Int), .inl 2]) (k := 0) (rest := [.inl (ms_p A.1 (ax : Int) k)]) (d' := 5) d_Law_isRight_201 lk_Law_22 (ga_rcv ga_oG rfl rfl) rfl (Nat.le_of_ble_eq_true rfl) (Nat.le_of_ble_eq_true rfl) rfl rfl (q_border (v := ms_r A.1 (ax : Int) k) ⟨by omega, by omega⟩ ⟨by omega, by omega⟩ ⟨by decide, by decide⟩ hx hA (bdv (by omega) (by omega)).2.2 (fun I hx => ?_))
      refine gw_iadd d_Law_isRight_204 ?_
      refine gw_sipush d_Law_isRight_205 (by decide +kernel) ?_
      refine gw_icmp_gt 244 d_Law_isRight_208 (by decide) ⟨by omega, by omega⟩ ⟨by decide, by decide⟩ (fun hq => absurd hq (by omega)) (fun _ => ?_)
      refine gw_iload 8 d_Law_isRight_211 rfl ?_
      refine gw_if_le 246 d_Law_isRight_213 (by decide) ⟨by omega, by omega⟩ (fun hz => ?_) (fun hz => ?_)
      · refine gw_iinc 8 d_Law_isRight_246 rfl rfl ?_
        refine gw_goto 131 d_Law_isRight_249 (by decide) ?_
        exact gw_le (ih (k + 1) I (t + 1) (by omega) (ct_st1 ht hl) hx) (by exact ⟨rfl, ⟨rfl, ⟨rfl, ⟨rfl, ⟨rfl, ⟨rfl, ⟨rfl, ⟨rfl, ⟨rfl, trivial⟩⟩⟩⟩⟩⟩⟩⟩⟩)
      · have ap := hak.2.2.2 (k - 1) (by omega)
        rw [show k - 1 + 1 = k by omega] at ap
        have bo2 := hak.2.2.1 (k - 1) (by omega)
        obtain ⟨u1, u2, u3, u4, u5, u6, u7⟩ := bo2
        refine gw_iload 9 d_Law_isRight_216 rfl ?_
        refine gw_aload_n 0 d_Law_isRight_218 rfl rfl ?_
        refine gw_iload 5 d_Law_isRight_219 rfl ?_
        refine gw_iload 8 d_Law_isRight_221 rfl ?_
        refine gw_iconst d_Law_isRight_223 ?_
        refine gw_isub d_Law_isRight_224 ?_
        refine gw_iconst d_Law_isRight_225 ?_
        refine gw_invV (as := [.inl (ax : Int), .inl ((k : Int) - 1), .inl 0]) (k := 0) (rest := [.inl ((ms_p A.1 (ax : Int) k) - (ms_r A.1 (ax : Int) k))]) (d' := 5) d_Law_isRight_226 lk_Law_22 (ga_rcv ga_oG rfl rfl) rfl (Nat.le_of_ble_eq_true rfl) (Nat.le_of_ble_eq_true rfl) rfl rfl (q_border (v := ms_p A.1 (ax : Int) (k - 1)) ⟨by omega, by omega⟩ ⟨by omega, by omega⟩ ⟨by decide, by decide⟩ hx hA (by rw [show (k : Int) - 1 = ((k - 1 : Nat) : Int) by omega]; exact (bdv (k := k - 1) (by omega) (by omega)).1) (fun I hx => ?_))
        refine gw_aload_n 0 d_Law_isRight_229 rfl rfl ?_
        refine gw_iload 5 d_Law_isRight_230 rfl ?_
        refine gw_iload 8 d_Law_isRight_232 rfl ?_
        refine gw_iconst d_Law_isRight_234 ?_
        refine gw_isub d_Law_isRight_235 ?_
        refine gw_iconst d_Law_isRight_236 ?_
        refine gw_invV (as := [.inl (ax : Int), .inl ((k : Int) - 1), .inl 2]) (k := 0) (rest := [.inl (ms_p A.1 (ax : Int) (k - 1)), .inl ((ms_p A.1 (ax : Int) k) - (ms_r A.1 (ax : Int) k))]) (d' := 5) d_Law_isRight_237 lk_Law_22 (ga_rcv ga_oG rfl rfl) rfl (Nat.le_of_ble_eq_true rfl) (Nat.le_of_ble_eq_true rfl) rfl rfl (q_border (v := ms_r A.1 (ax : Int) (k - 1)) ⟨by omega, by omega⟩ ⟨by omega, by omega⟩ ⟨by decide, by decide⟩ hx hA (by rw [show (k : Int) - 1 = ((k - 1 : Nat) : Int) by omega]; exact (bdv (k := k - 1) (by omega) (by omega)).2.2) (fun I hx => ?_))
        refine gw_iadd d_Law_isRight_240 ?_
        refine gw_icmp_gt 246 d_Law_isRight_241 (by decide) ⟨by omega, by omega⟩ ⟨by omega, by omega⟩ (fun _ => ?_) (fun hq => absurd (by omega) hq)
        refine gw_iinc 8 d_Law_isRight_246 rfl rfl ?_
        refine gw_goto 131 d_Law_isRight_249 (by decide) ?_
        exact gw_le (ih (k + 1) I (t + 1) (by omega) (ct_st1 ht hl) hx) (by exact ⟨rfl, ⟨rfl, ⟨rfl, ⟨rfl, ⟨rfl, ⟨rfl, ⟨rfl, ⟨rfl, ⟨rfl, trivial⟩⟩⟩⟩⟩⟩⟩⟩⟩)
theorem ir_110 (hA : ni_a A) (K : ∀ (J : ga_I), rx J A → ga_W G 6 mt_Law_isRight 402 [some (.inr 0), some (.inl a), some (.inl (ms_n A.1 0 + 1)), some (.inl (ms_n A.1 1 + 1)), some (.inl b), none, none, none, none, none] [] J E) : ∀ (f ax : Nat) (I : ga_I), ax + f = 2 → rx I A → ga_W G 6 mt_Law_isRight 110 [some (.inr 0), some (.inl a), some (.inl (ms_n A.1 0 + 1)), some (.inl (ms_n A.1 1 + 1)), some (.inl b), some (.inl (ax : Int)), none, none, none, none] [] I E := by
  intro f
  induction f with
  | zero =>
    intro ax I hk hx
    have hk2 : ax = 2 := hk
    subst hk2
    refine gw_iload 5 d_Law_isRight_110 rfl ?_
    refine gw_iconst d_Law_isRight_112 ?_
    refine gw_icmp_ge 402 d_Law_isRight_113 (by decide) ⟨by omega, by omega⟩ ⟨by decide, by decide⟩ (fun _ => ?_) (fun hq => absurd (by omega) hq)
    exact gw_le (K I hx) (by exact ⟨rfl, ⟨rfl, ⟨rfl, ⟨rfl, ⟨rfl, trivial⟩⟩⟩⟩⟩)
  | succ f ih =>
    intro ax I hk hx
    have hax : ax < 2 := by omega
    have n6 := ni_n hA.1.1 (ax := (ax : Int)) (by omega)
    obtain ⟨⟨⟨f1, f2, f3, f4⟩, f5⟩, fv⟩ := na_f_f hA.1 (ax := (ax : Int)) (by omega)
    obtain ⟨-, -, ⟨g1, g2⟩, g3, g4⟩ := fv
    have zb := z45 hA.1 hax
    refine gw_iload 5 d_Law_isRight_110 rfl ?_
    refine gw_iconst d_Law_isRight_112 ?_
    refine gw_icmp_ge 402 d_Law_isRight_113 (by decide) ⟨by omega, by omega⟩ ⟨by decide, by decide⟩ (fun hq => absurd hq (by omega)) (fun _ => ?_)
    refine gw_aload_n 0 d_Law_isRight_116 rfl rfl ?_
    refine gw_iload 5 d_Law_isRight_117 rfl ?_
    refine gw_iconst d_Law_isRight_119 ?_
    refine gw_invV (as := [.inl (ax : Int), .inl 0]) (k := 0) (rest := []) (d' := 5) d_Law_isRight_120 lk_Law_18 (ga_rcv ga_oG rfl rfl) rfl (Nat.le_of_ble_eq_true rfl) (Nat.le_of_ble_eq_true rfl) rfl rfl (q_axis (v := ms_n A.1 (ax : Int)) ⟨by omega, by omega⟩ ⟨by decide, by decide⟩ hx hA (ax0 (by omega)) (fun I hx => ?_))
    refine gw_istore 6 d_Law_isRight_123 (Nat.le_of_ble_eq_true rfl) rfl ?_
    refine gw_iconst d_Law_isRight_125 ?_
    refine gw_istore 7 d_Law_isRight_126 (Nat.le_of_ble_eq_true rfl) rfl ?_
    refine gw_iconst d_Law_isRight_128 ?_
    refine gw_istore 8 d_Law_isRight_129 (Nat.le_of_ble_eq_true rfl) rfl ?_
    refine gw_le (ir_131 (ax := ax) hA hax (fun I t ht hx => ?_) (ms_n A.1 (ax : Int)).toNat 0 I 0 (by omega) rfl hx) (by exact ⟨rfl, ⟨rfl, ⟨rfl, ⟨rfl, ⟨rfl, ⟨rfl, ⟨rfl, ⟨rfl, ⟨rfl, trivial⟩⟩⟩⟩⟩⟩⟩⟩⟩)
    have ctb := gp_ct_le (gp_sk (ms_q A.1 (ax : Int))) (ms_n A.1 (ax : Int)).toNat
    refine gw_aload_n 0 d_Law_isRight_252 rfl rfl ?_
    refine gw_iload 5 d_Law_isRight_253 rfl ?_
    refine gw_iconst d_Law_isRight_255 ?_
    refine gw_invV (as := [.inl (ax : Int), .inl 2]) (k := 0) (rest := []) (d' := 5) d_Law_isRight_256 lk_Law_18 (ga_rcv ga_oG rfl rfl) rfl (Nat.le_of_ble_eq_true rfl) (Nat.le_of_ble_eq_true rfl) rfl rfl (q_axis (v := (na_f A.1 (ax : Int)).1) ⟨by omega, by omega⟩ ⟨by decide, by decide⟩ hx hA (axv (by omega)).2.1 (fun I hx => ?_))
    refine gw_istore 8 d_Law_isRight_259 (Nat.le_of_ble_eq_true rfl) rfl ?_
    refine gw_aload_n 0 d_Law_isRight_261 rfl rfl ?_
    refine gw_iload 5 d_Law_isRight_262 rfl ?_
    refine gw_iconst d_Law_isRight_264 ?_
    refine gw_invV (as := [.inl (ax : Int), .inl 3]) (k := 0) (rest := []) (d' := 5) d_Law_isRight_265 lk_Law_18 (ga_rcv ga_oG rfl rfl) rfl (Nat.le_of_ble_eq_true rfl) (Nat.le_of_ble_eq_true rfl) rfl rfl (q_axis (v := (na_f A.1 (ax : Int)).2.1) ⟨by omega, by omega⟩ ⟨by decide, by decide⟩ hx hA (axv (by omega)).2.2.1 (fun I hx => ?_))
    refine gw_istore 9 d_Law_isRight_268 (Nat.le_of_ble_eq_true rfl) rfl ?_
    refine gw_aload_n 0 d_Law_isRight_270 rfl rfl ?_
    refine gw_iload 5 d_Law_isRight_271 rfl ?_
    refine gw_iconst d_Law_isRight_273 ?_
    refine gw_invV (as := [.inl (ax : Int), .inl 1]) (k := 0) (rest := []) (d' := 5) d_Law_isRight_274 lk_Law_18 (ga_rcv ga_oG rfl rfl) rfl (Nat.le_of_ble_eq_true rfl) (Nat.le_of_ble_eq_true rfl) rfl rfl (q_axis (v := gp_ct (gp_sk (ms_q A.1 (ax : Int))) (ms_n A.1 (ax : Int)).toNat + 1) ⟨by omega, by omega⟩ ⟨by decide, by decide⟩ hx hA (axv (by omega)).1 (fun I hx => ?_))
    refine gw_iload 7 d_Law_isRight_277 rfl ?_
    refine gw_iconst d_Law_isRight_279 ?_
    refine gw_iadd d_Law_isRight_280 ?_
    refine gw_icmp_nes d_Law_isRight_281 394 (by decide) (by rw [ht]) ?_
    refine gw_aload_n 0 d_Law_isRight_284 rfl rfl ?_
    refine gw_iconst d_Law_isRight_285 ?_
    refine gw_iload 5 d_Law_isRight_286 rfl ?_
    refine gw_iadd d_Law_isRight_288 ?_
    refine gw_invV (as := [.inl (4 + (ax : Int))]) (k := 0) (rest := []) (d' := 5) d_Law_isRight_289 lk_Law_12 (ga_rcv ga_oG rfl rfl) rfl (Nat.le_of_ble_eq_true rfl) (Nat.le_of_ble_eq_true rfl) rfl rfl (q_count (v := A.1 (236 + ax)) ⟨by omega, by omega⟩ hx hA (cz45 hax) (fun I hx => ?_))
    refine gw_if_lt 394 d_Law_isRight_292 (by decide) ⟨by omega, by omega⟩ (fun hq => absurd hq (by omega)) (fun _ => ?_)
    refine gw_aload_n 0 d_Law_isRight_295 rfl rfl ?_
    refine gw_iconst d_Law_isRight_296 ?_
    refine gw_iload 5 d_Law_isRight_297 rfl ?_
    refine gw_iadd d_Law_isRight_299 ?_
    refine gw_invV (as := [.inl (4 + (ax : Int))]) (k := 0) (rest := []) (d' := 5) d_Law_isRight_300 lk_Law_12 (ga_rcv ga_oG rfl rfl) rfl (Nat.le_of_ble_eq_true rfl) (Nat.le_of_ble_eq_true rfl) rfl rfl (q_count (v := A.1 (236 + ax)) ⟨by omega, by omega⟩ hx hA (cz45 hax) (fun I hx => ?_))
    refine gw_iload 7 d_Law_isRight_303 rfl ?_
    refine gw_icmp_gt 394 d_Law_isRight_305 (by decide) ⟨by omega, by omega⟩ ⟨by omega, by omega⟩ (fun hq => absurd hq (by omega)) (fun _ => ?_)
    refine gw_iload 8 d_Law_isRight_308 rfl ?_
    refine gw_if_lt 394 d_Law_isRight_310 (by decide) ⟨by omega, by omega⟩ (fun hq => absurd hq (by omega)) (fun _ => ?_)
    refine gw_iload 9 d_Law_isRight_313 rfl ?_
    refine gw_iload 6 d_Law_isRight_315 rfl ?_
    refine gw_icmp_gt 394 d_Law_isRight_317 (by decide) ⟨by omega, by omega⟩ ⟨by omega, by omega⟩ (fun hq => absurd hq (by omega)) (fun _ => ?_)
    refine gw_iload 9 d_Law_isRight_320 rfl ?_
    refine gw_iload 8 d_Law_isRight_322 rfl ?_
    refine gw_isub d_Law_isRight_324 ?_
    refine gw_iconst d_Law_isRight_325 ?_
    refine gw_icmp_gt 394 d_Law_isRight_326 (by decide) ⟨by omega, by omega⟩ ⟨by decide, by decide⟩ (fun hq => absurd hq (by omega)) (fun _ => ?_)
    refine gw_iload 9 d_Law_isRight_329 rfl ?_
    refine gw_iload 8 d_Law_isRight_331 rfl ?_
    refine gw_icmp_lt 394 d_Law_isRight_333 (by decide) ⟨by omega, by omega⟩ ⟨by omega, by omega⟩ (fun hq => absurd hq (by omega)) (fun _ => ?_)
    refine gw_iload 9 d_Law_isRight_336 rfl ?_
    refine gw_iload 8 d_Law_isRight_338 rfl ?_
    refine gw_icmp_ne 347 d_Law_isRight_340 (by decide) ⟨by omega, by omega⟩ ⟨by omega, by omega⟩ (fun hl => ?_) (fun hl => ?_)
    · refine gw_iconst d_Law_isRight_347 ?_
      refine gw_aload_n 0 d_Law_isRight_348 rfl rfl ?_
      refine gw_iload 5 d_Law_isRight_349 rfl ?_
      refine gw_iconst d_Law_isRight_351 ?_
      refine gw_invV (as := [.inl (ax : Int), .inl 5]) (k := 0) (rest := [.inl 0]) (d' := 5) d_Law_isRight_352 lk_Law_18 (ga_rcv ga_oG rfl rfl) rfl (Nat.le_of_ble_eq_true rfl) (Nat.le_of_ble_eq_true rfl) rfl rfl (q_axis (v := (na_f A.1 (ax : Int)).2.2.2) ⟨by omega, by omega⟩ ⟨by decide, by decide⟩ hx hA (axv (by omega)).2.2.2.2 (fun I hx => ?_))
      refine gw_iconst d_Law_isRight_355 ?_
      refine gw_icmp_ne 363 d_Law_isRight_356 (by decide) ⟨by omega, by omega⟩ ⟨by decide, by decide⟩ (fun _ => ?_) (fun hq => absurd hq (by omega))
      refine gw_iconst d_Law_isRight_363 ?_
      refine gw_icmp_ne 394 d_Law_isRight_364 (by decide) ⟨by decide, by decide⟩ ⟨by decide, by decide⟩ (fun hq => absurd (by omega) hq) (fun _ => ?_)
      refine gw_aload_n 0 d_Law_isRight_367 rfl rfl ?_
      refine gw_iload 5 d_Law_isRight_368 rfl ?_
      refine gw_iconst d_Law_isRight_370 ?_
      refine gw_invV (as := [.inl (ax : Int), .inl 4]) (k := 0) (rest := []) (d' := 5) d_Law_isRight_371 lk_Law_18 (ga_rcv ga_oG rfl rfl) rfl (Nat.le_of_ble_eq_true rfl) (Nat.le_of_ble_eq_true rfl) rfl rfl (q_axis (v := (na_f A.1 (ax : Int)).2.2.1) ⟨by omega, by omega⟩ ⟨by decide, by decide⟩ hx hA (axv (by omega)).2.2.2.1 (fun I hx => ?_))
      refine gw_if_lt 394 d_Law_isRight_374 (by decide) ⟨by omega, by omega⟩ (fun hq => absurd hq (by omega)) (fun _ => ?_)
      refine gw_aload_n 0 d_Law_isRight_377 rfl rfl ?_
      refine gw_iload 5 d_Law_isRight_378 rfl ?_
      refine gw_iconst d_Law_isRight_380 ?_
      refine gw_invV (as := [.inl (ax : Int), .inl 4]) (k := 0) (rest := []) (d' := 5) d_Law_isRight_381 lk_Law_18 (ga_rcv ga_oG rfl rfl) rfl (Nat.le_of_ble_eq_true rfl) (Nat.le_of_ble_eq_true rfl) rfl rfl (q_axis (v := (na_f A.1 (ax : Int)).2.2.1) ⟨by omega, by omega⟩ ⟨by decide, by decide⟩ hx hA (axv (by omega)).2.2.2.1 (fun I hx => ?_))
      refine gw_aload_n 0 d_Law_isRight_384 rfl rfl ?_
      refine gw_iload 5 d_Law_isRight_385 rfl ?_
      refine gw_iconst d_Law_isRight_387 ?_
      refine gw_invV (as := [.inl (ax : Int), .inl 5]) (k := 0) (rest := [.inl ((na_f A.1 (ax : Int)).2.2.1)]) (d' := 5) d_Law_isRight_388 lk_Law_18 (ga_rcv ga_oG rfl rfl) rfl (Nat.le_of_ble_eq_true rfl) (Nat.le_of_ble_eq_true rfl) rfl rfl (q_axis (v := (na_f A.1 (ax : Int)).2.2.2) ⟨by omega, by omega⟩ ⟨by decide, by decide⟩ hx hA (axv (by omega)).2.2.2.2 (fun I hx => ?_))
      refine gw_icmp_le 396 d_Law_isRight_391 (by decide) ⟨by omega, by omega⟩ ⟨by omega, by omega⟩ (fun _ => ?_) (fun hq => absurd (by omega) hq)
      refine gw_iinc 5 d_Law_isRight_396 rfl rfl ?_
      refine gw_goto 110 d_Law_isRight_399 (by decide) ?_
      exact gw_le (ih (ax + 1) I (by omega) hx) (by exact ⟨rfl, ⟨rfl, ⟨rfl, ⟨rfl, ⟨rfl, ⟨rfl, trivial⟩⟩⟩⟩⟩⟩)
    · refine gw_iconst d_Law_isRight_343 ?_
      refine gw_goto 348 d_Law_isRight_344 (by decide) ?_
      refine gw_aload_n 0 d_Law_isRight_348 rfl rfl ?_
      refine gw_iload 5 d_Law_isRight_349 rfl ?_
      refine gw_iconst d_Law_isRight_351 ?_
      refine gw_invV (as := [.inl (ax : Int), .inl 5]) (k := 0) (rest := [.inl 1]) (d' := 5) d_Law_isRight_352 lk_Law_18 (ga_rcv ga_oG rfl rfl) rfl (Nat.le_of_ble_eq_true rfl) (Nat.le_of_ble_eq_true rfl) rfl rfl (q_axis (v := (na_f A.1 (ax : Int)).2.2.2) ⟨by omega, by omega⟩ ⟨by decide, by decide⟩ hx hA (axv (by omega)).2.2.2.2 (fun I hx => ?_))
      refine gw_iconst d_Law_isRight_355 ?_
      refine gw_icmp_ne 363 d_Law_isRight_356 (by decide) ⟨by omega, by omega⟩ ⟨by decide, by decide⟩ (fun hq => absurd (by omega) hq) (fun _ => ?_)
      refine gw_iconst d_Law_isRight_359 ?_
      refine gw_goto 364 d_Law_isRight_360 (by decide) ?_
      refine gw_icmp_ne 394 d_Law_isRight_364 (by decide) ⟨by decide, by decide⟩ ⟨by decide, by decide⟩ (fun hq => absurd (by omega) hq) (fun _ => ?_)
      refine gw_aload_n 0 d_Law_isRight_367 rfl rfl ?_
      refine gw_iload 5 d_Law_isRight_368 rfl ?_
      refine gw_iconst d_Law_isRight_370 ?_
      refine gw_invV (as := [.inl (ax : Int), .inl 4]) (k := 0) (rest := []) (d' := 5) d_Law_isRight_371 lk_Law_18 (ga_rcv ga_oG rfl rfl) rfl (Nat.le_of_ble_eq_true rfl) (Nat.le_of_ble_eq_true rfl) rfl rfl (q_axis (v := (na_f A.1 (ax : Int)).2.2.1) ⟨by omega, by omega⟩ ⟨by decide, by decide⟩ hx hA (axv (by omega)).2.2.2.1 (fun I hx => ?_))
      refine gw_if_lt 394 d_Law_isRight_374 (by decide) ⟨by omega, by omega⟩ (fun hq => absurd hq (by omega)) (fun _ => ?_)
      refine gw_aload_n 0 d_Law_isRight_377 rfl rfl ?_
      refine gw_iload 5 d_Law_isRight_378 rfl ?_
      refine gw_iconst d_Law_isRight_380 ?_
      refine gw_invV (as := [.inl (ax : Int), .inl 4]) (k := 0) (rest := []) (d' := 5) d_Law_isRight_381 lk_Law_18 (ga_rcv ga_oG rfl rfl) rfl (Nat.le_of_ble_eq_true rfl) (Nat.le_of_ble_eq_true rfl) rfl rfl (q_axis (v := (na_f A.1 (ax : Int)).2.2.1) ⟨by omega, by omega⟩ ⟨by decide, by decide⟩ hx hA (axv (by omega)).2.2.2.1 (fun I hx => ?_))
      refine gw_aload_n 0 d_Law_isRight_384 rfl rfl ?_
      refine gw_iload 5 d_Law_isRight_385 rfl ?_
      refine gw_iconst d_Law_isRight_387 ?_
      refine gw_invV (as := [.inl (ax : Int), .inl 5]) (k := 0) (rest := [.inl ((na_f A.1 (ax : Int)).2.2.1)]) (d' := 5) d_Law_isRight_388 lk_Law_18 (ga_rcv ga_oG rfl rfl) rfl (Nat.le_of_ble_eq_true rfl) (Nat.le_of_ble_eq_true rfl) rfl rfl (q_axis (v := (na_f A.1 (ax : Int)).2.2.2) ⟨by omega, by omega⟩ ⟨by decide, by decide⟩ hx hA (axv (by omega)).2.2.2.2 (fun I hx => ?_))
      refine gw_icmp_le 396 d_Law_isRight_391 (by decide) ⟨by omega, by omega⟩ ⟨by omega, by omega⟩ (fun _ => ?_) (fun hq => absurd (by omega) hq)
      refine gw_iinc 5 d_Law_isRight_396 rfl rfl ?_
      refine gw_goto 110 d_Law_isRight_399 (by decide) ?_
      exact gw_le (ih (ax + 1) I (by omega) hx) (by exact ⟨rfl, ⟨rfl, ⟨rfl, ⟨rfl, ⟨rfl, ⟨rfl, trivial⟩⟩⟩⟩⟩⟩)
theorem ir_it0 {g : Nat} {lo hi : Int} {I : ga_I} (hA : ni_a A) (hg : g < 3) (hl : 0 ≤ lo ∧ lo ≤ 10000) (hh : 0 ≤ hi ∧ hi ≤ 9999) (hx : rx I A) (K : ∀ (J : ga_I) (lo1 hi1 : Int), (0 ≤ lo1 ∧ lo1 ≤ lo ∧ lo1 ≤ rv A.1 (na_f A.1 0).1 (na_f A.1 1).1 (g : Int)) → (hi ≤ hi1 ∧ rv A.1 (na_f A.1 0).1 (na_f A.1 1).1 (g : Int) ≤ hi1 ∧ hi1 ≤ 9999) → rx J A → ga_W G 6 mt_Law_isRight 422 [some (.inr 0), some (.inl a), some (.inl (ms_n A.1 0 + 1)), some (.inl (ms_n A.1 1 + 1)), some (.inl b), some (.inl (g : Int)), some (.inl lo1), some (.inl hi1), some (.inl 1), none] [] J E) : ga_W G 6 mt_Law_isRight 422 [some (.inr 0), some (.inl a), some (.inl (ms_n A.1 0 + 1)), some (.inl (ms_n A.1 1 + 1)), some (.inl b), some (.inl (g : Int)), some (.inl lo), some (.inl hi), some (.inl 0), none] [] I E := by
  have n0 := ni_n hA.1.1 (ax := 0) (by omega)
  have n1 := ni_n hA.1.1 (ax := 1) (by omega)
  obtain ⟨⟨⟨f1, f2, f3, f4⟩, f5⟩, fv⟩ := na_f_f hA.1 (ax := 0) (by omega)
  obtain ⟨⟨⟨k1, k2, k3, k4⟩, k5⟩, kv⟩ := na_f_f hA.1 (ax := 1) (by omega)
  have xb := rv_bd hA.1.1 (c := (na_f A.1 0).1) (r := (na_f A.1 1).1) (g := (g : Int)) (by omega) (by omega) (by omega)
  refine gw_iload 8 d_Law_isRight_422 rfl ?_
  refine gw_iconst d_Law_isRight_424 ?_
  refine gw_icmp_ge 496 d_Law_isRight_425 (by decide) ⟨by decide, by decide⟩ ⟨by decide, by decide⟩ (fun hq => absurd hq (by omega)) (fun _ => ?_)
  refine gw_aload_n 0 d_Law_isRight_428 rfl rfl ?_
  refine gw_aload_n 0 d_Law_isRight_429 rfl rfl ?_
  refine gw_iconst d_Law_isRight_430 ?_
  refine gw_iconst d_Law_isRight_431 ?_
  refine gw_iload 8 d_Law_isRight_432 rfl ?_
  refine gw_iconst d_Law_isRight_434 ?_
  refine gw_iand d_Law_isRight_435 ?_
  refine gw_iadd d_Law_isRight_436 ?_
  refine gw_invV (as := [.inl 0, .inl (2 + (an 0 1))]) (k := 0) (rest := [.inr 0]) (d' := 5) d_Law_isRight_437 lk_Law_18 (ga_rcv ga_oG rfl rfl) rfl (Nat.le_of_ble_eq_true rfl) (Nat.le_of_ble_eq_true rfl) rfl rfl (q_axis (v := (na_f A.1 0).1) ⟨by decide, by decide⟩ ⟨by decide +kernel, by decide +kernel⟩ hx hA (by rw [show (2 : Int) + (an 0 1) = 2 from by decide +kernel]; exact (axv (by omega)).2.1) (fun I hx => ?_))
  refine gw_aload_n 0 d_Law_isRight_440 rfl rfl ?_
  refine gw_iconst d_Law_isRight_441 ?_
  refine gw_iconst d_Law_isRight_442 ?_
  refine gw_iload 8 d_Law_isRight_443 rfl ?_
  refine gw_iconst d_Law_isRight_445 ?_
  refine gw_ishr d_Law_isRight_446 ?_
  refine gw_iadd d_Law_isRight_447 ?_
  refine gw_invV (as := [.inl 1, .inl (2 + (sh 0 1))]) (k := 0) (rest := [.inl ((na_f A.1 0).1), .inr 0]) (d' := 5) d_Law_isRight_448 lk_Law_18 (ga_rcv ga_oG rfl rfl) rfl (Nat.le_of_ble_eq_true rfl) (Nat.le_of_ble_eq_true rfl) rfl rfl (q_axis (v := (na_f A.1 1).1) ⟨by decide, by decide⟩ ⟨by decide +kernel, by decide +kernel⟩ hx hA (by rw [show (2 : Int) + (sh 0 1) = 2 from by decide +kernel]; exact (axv (by omega)).2.1) (fun I hx => ?_))
  refine gw_iload 5 d_Law_isRight_451 rfl ?_
  refine gw_invV (as := [.inl ((na_f A.1 0).1), .inl ((na_f A.1 1).1), .inl (g : Int)]) (k := 0) (rest := []) (d' := 5) d_Law_isRight_453 lk_Law_26 (ga_rcv ga_oG rfl rfl) rfl (Nat.le_of_ble_eq_true rfl) (Nat.le_of_ble_eq_true rfl) rfl rfl (q_region (v := rv A.1 (na_f A.1 0).1 (na_f A.1 1).1 (g : Int)) ⟨by omega, by omega⟩ ⟨by omega, by omega⟩ ⟨by omega, by omega⟩ hx hA (rvv (by omega) (by omega) (by omega)) (fun I hx => ?_))
  refine gw_istore 9 d_Law_isRight_456 (Nat.le_of_ble_eq_true rfl) rfl ?_
  refine gw_iload 9 d_Law_isRight_458 rfl ?_
  refine gw_iload 6 d_Law_isRight_460 rfl ?_
  refine gw_icmp_ge 470 d_Law_isRight_462 (by decide) ⟨by omega, by omega⟩ ⟨by omega, by omega⟩ (fun h6 => ?_) (fun h6 => ?_)
  · refine gw_iload 6 d_Law_isRight_470 rfl ?_
    refine gw_istore 6 d_Law_isRight_472 (Nat.le_of_ble_eq_true rfl) rfl ?_
    refine gw_iload 9 d_Law_isRight_474 rfl ?_
    refine gw_iload 7 d_Law_isRight_476 rfl ?_
    refine gw_icmp_le 486 d_Law_isRight_478 (by decide) ⟨by omega, by omega⟩ ⟨by omega, by omega⟩ (fun h7 => ?_) (fun h7 => ?_)
    · refine gw_iload 7 d_Law_isRight_486 rfl ?_
      refine gw_istore 7 d_Law_isRight_488 (Nat.le_of_ble_eq_true rfl) rfl ?_
      refine gw_iinc 8 d_Law_isRight_490 rfl rfl ?_
      refine gw_goto 422 d_Law_isRight_493 (by decide) ?_
      exact gw_le (K I lo hi ⟨by omega, by omega, by omega⟩ ⟨by omega, by omega, by omega⟩ hx) (by exact ⟨rfl, ⟨rfl, ⟨rfl, ⟨rfl, ⟨rfl, ⟨rfl, ⟨rfl, ⟨rfl, ⟨rfl, trivial⟩⟩⟩⟩⟩⟩⟩⟩⟩)
    · refine gw_iload 9 d_Law_isRight_481 rfl ?_
      refine gw_goto 488 d_Law_isRight_483 (by decide) ?_
      refine gw_istore 7 d_Law_isRight_488 (Nat.le_of_ble_eq_true rfl) rfl ?_
      refine gw_iinc 8 d_Law_isRight_490 rfl rfl ?_
      refine gw_goto 422 d_Law_isRight_493 (by decide) ?_
      exact gw_le (K I lo (rv A.1 (na_f A.1 0).1 (na_f A.1 1).1 (g : Int)) ⟨by omega, by omega, by omega⟩ ⟨by omega, by omega, by omega⟩ hx) (by exact ⟨rfl, ⟨rfl, ⟨rfl, ⟨rfl, ⟨rfl, ⟨rfl, ⟨rfl, ⟨rfl, ⟨rfl, trivial⟩⟩⟩⟩⟩⟩⟩⟩⟩)
  · refine gw_iload 9 d_Law_isRight_465 rfl ?_
    refine gw_goto 472 d_Law_isRight_467 (by decide) ?_
    refine gw_istore 6 d_Law_isRight_472 (Nat.le_of_ble_eq_true rfl) rfl ?_
    refine gw_iload 9 d_Law_isRight_474 rfl ?_
    refine gw_iload 7 d_Law_isRight_476 rfl ?_
    refine gw_icmp_le 486 d_Law_isRight_478 (by decide) ⟨by omega, by omega⟩ ⟨by omega, by omega⟩ (fun h7 => ?_) (fun h7 => ?_)
    · refine gw_iload 7 d_Law_isRight_486 rfl ?_
      refine gw_istore 7 d_Law_isRight_488 (Nat.le_of_ble_eq_true rfl) rfl ?_
      refine gw_iinc 8 d_Law_isRight_490 rfl rfl ?_
      refine gw_goto 422 d_Law_isRight_493 (by decide) ?_
      exact gw_le (K I (rv A.1 (na_f A.1 0).1 (na_f A.1 1).1 (g : Int)) hi ⟨by omega, by omega, by omega⟩ ⟨by omega, by omega, by omega⟩ hx) (by exact ⟨rfl, ⟨rfl, ⟨rfl, ⟨rfl, ⟨rfl, ⟨rfl, ⟨rfl, ⟨rfl, ⟨rfl, trivial⟩⟩⟩⟩⟩⟩⟩⟩⟩)
    · refine gw_iload 9 d_Law_isRight_481 rfl ?_
      refine gw_goto 488 d_Law_isRight_483 (by decide) ?_
      refine gw_istore 7 d_Law_isRight_488 (Nat.le_of_ble_eq_true rfl) rfl ?_
      refine gw_iinc 8 d_Law_isRight_490 rfl rfl ?_
      refine gw_goto 422 d_Law_isRight_493 (by decide) ?_
      exact gw_le (K I (rv A.1 (na_f A.1 0).1 (na_f A.1 1).1 (g : Int)) (rv A.1 (na_f A.1 0).1 (na_f A.1 1).1 (g : Int)) ⟨by omega, by omega, by omega⟩ ⟨by omega, by omega, by omega⟩ hx) (by exact ⟨rfl, ⟨rfl, ⟨rfl, ⟨rfl, ⟨rfl, ⟨rfl, ⟨rfl, ⟨rfl, ⟨rfl, trivial⟩⟩⟩⟩⟩⟩⟩⟩⟩)
theorem ir_it1 {g : Nat} {lo hi : Int} {I : ga_I} (hA : ni_a A) (hg : g < 3) (hl : 0 ≤ lo ∧ lo ≤ 10000) (hh : 0 ≤ hi ∧ hi ≤ 9999) (hx : rx I A) (K : ∀ (J : ga_I) (lo1 hi1 : Int), (0 ≤ lo1 ∧ lo1 ≤ lo ∧ lo1 ≤ rv A.1 (na_f A.1 0).2.1 (na_f A.1 1).1 (g : Int)) → (hi ≤ hi1 ∧ rv A.1 (na_f A.1 0).2.1 (na_f A.1 1).1 (g : Int) ≤ hi1 ∧ hi1 ≤ 9999) → rx J A → ga_W G 6 mt_Law_isRight 422 [some (.inr 0), some (.inl a), some (.inl (ms_n A.1 0 + 1)), some (.inl (ms_n A.1 1 + 1)), some (.inl b), some (.inl (g : Int)), some (.inl lo1), some (.inl hi1), some (.inl 2), none] [] J E) : ga_W G 6 mt_Law_isRight 422 [some (.inr 0), some (.inl a), some (.inl (ms_n A.1 0 + 1)), some (.inl (ms_n A.1 1 + 1)), some (.inl b), some (.inl (g : Int)), some (.inl lo), some (.inl hi), some (.inl 1), none] [] I E := by
  have n0 := ni_n hA.1.1 (ax := 0) (by omega)
  have n1 := ni_n hA.1.1 (ax := 1) (by omega)
  obtain ⟨⟨⟨f1, f2, f3, f4⟩, f5⟩, fv⟩ := na_f_f hA.1 (ax := 0) (by omega)
  obtain ⟨⟨⟨k1, k2, k3, k4⟩, k5⟩, kv⟩ := na_f_f hA.1 (ax := 1) (by omega)
  have xb := rv_bd hA.1.1 (c := (na_f A.1 0).2.1) (r := (na_f A.1 1).1) (g := (g : Int)) (by omega) (by omega) (by omega)
  refine gw_iload 8 d_Law_isRight_422 rfl ?_
  refine gw_iconst d_Law_isRight_424 ?_
  refine gw_icmp_ge 496 d_Law_isRight_425 (by decide) ⟨by decide, by decide⟩ ⟨by decide, by decide⟩ (fun hq => absurd hq (by omega)) (fun _ => ?_)
  refine gw_aload_n 0 d_Law_isRight_428 rfl rfl ?_
  refine gw_aload_n 0 d_Law_isRight_429 rfl rfl ?_
  refine gw_iconst d_Law_isRight_430 ?_
  refine gw_iconst d_Law_isRight_431 ?_
  refine gw_iload 8 d_Law_isRight_432 rfl ?_
  refine gw_iconst d_Law_isRight_434 ?_
  refine gw_iand d_Law_isRight_435 ?_
  refine gw_iadd d_Law_isRight_436 ?_
  refine gw_invV (as := [.inl 0, .inl (2 + (an 1 1))]) (k := 0) (rest := [.inr 0]) (d' := 5) d_Law_isRight_437 lk_Law_18 (ga_rcv ga_oG rfl rfl) rfl (Nat.le_of_ble_eq_true rfl) (Nat.le_of_ble_eq_true rfl) rfl rfl (q_axis (v := (na_f A.1 0).2.1) ⟨by decide, by decide⟩ ⟨by decide +kernel, by decide +kernel⟩ hx hA (by rw [show (2 : Int) + (an 1 1) = 3 from by decide +kernel]; exact (axv (by omega)).2.2.1) (fun I hx => ?_))
  refine gw_aload_n 0 d_Law_isRight_440 rfl rfl ?_
  refine gw_iconst d_Law_isRight_441 ?_
  refine gw_iconst d_Law_isRight_442 ?_
  refine gw_iload 8 d_Law_isRight_443 rfl ?_
  refine gw_iconst d_Law_isRight_445 ?_
  refine gw_ishr d_Law_isRight_446 ?_
  refine gw_iadd d_Law_isRight_447 ?_
  refine gw_invV (as := [.inl 1, .inl (2 + (sh 1 1))]) (k := 0) (rest := [.inl ((na_f A.1 0).2.1), .inr 0]) (d' := 5) d_Law_isRight_448 lk_Law_18 (ga_rcv ga_oG rfl rfl) rfl (Nat.le_of_ble_eq_true rfl) (Nat.le_of_ble_eq_true rfl) rfl rfl (q_axis (v := (na_f A.1 1).1) ⟨by decide, by decide⟩ ⟨by decide +kernel, by decide +kernel⟩ hx hA (by rw [show (2 : Int) + (sh 1 1) = 2 from by decide +kernel]; exact (axv (by omega)).2.1) (fun I hx => ?_))
  refine gw_iload 5 d_Law_isRight_451 rfl ?_
  refine gw_invV (as := [.inl ((na_f A.1 0).2.1), .inl ((na_f A.1 1).1), .inl (g : Int)]) (k := 0) (rest := []) (d' := 5) d_Law_isRight_453 lk_Law_26 (ga_rcv ga_oG rfl rfl) rfl (Nat.le_of_ble_eq_true rfl) (Nat.le_of_ble_eq_true rfl) rfl rfl (q_region (v := rv A.1 (na_f A.1 0).2.1 (na_f A.1 1).1 (g : Int)) ⟨by omega, by omega⟩ ⟨by omega, by omega⟩ ⟨by omega, by omega⟩ hx hA (rvv (by omega) (by omega) (by omega)) (fun I hx => ?_))
  refine gw_istore 9 d_Law_isRight_456 (Nat.le_of_ble_eq_true rfl) rfl ?_
  refine gw_iload 9 d_Law_isRight_458 rfl ?_
  refine gw_iload 6 d_Law_isRight_460 rfl ?_
  refine gw_icmp_ge 470 d_Law_isRight_462 (by decide) ⟨by omega, by omega⟩ ⟨by omega, by omega⟩ (fun h6 => ?_) (fun h6 => ?_)
  · refine gw_iload 6 d_Law_isRight_470 rfl ?_
    refine gw_istore 6 d_Law_isRight_472 (Nat.le_of_ble_eq_true rfl) rfl ?_
    refine gw_iload 9 d_Law_isRight_474 rfl ?_
    refine gw_iload 7 d_Law_isRight_476 rfl ?_
    refine gw_icmp_le 486 d_Law_isRight_478 (by decide) ⟨by omega, by omega⟩ ⟨by omega, by omega⟩ (fun h7 => ?_) (fun h7 => ?_)
    · refine gw_iload 7 d_Law_isRight_486 rfl ?_
      refine gw_istore 7 d_Law_isRight_488 (Nat.le_of_ble_eq_true rfl) rfl ?_
      refine gw_iinc 8 d_Law_isRight_490 rfl rfl ?_
      refine gw_goto 422 d_Law_isRight_493 (by decide) ?_
      exact gw_le (K I lo hi ⟨by omega, by omega, by omega⟩ ⟨by omega, by omega, by omega⟩ hx) (by exact ⟨rfl, ⟨rfl, ⟨rfl, ⟨rfl, ⟨rfl, ⟨rfl, ⟨rfl, ⟨rfl, ⟨rfl, trivial⟩⟩⟩⟩⟩⟩⟩⟩⟩)
    · refine gw_iload 9 d_Law_isRight_481 rfl ?_
      refine gw_goto 488 d_Law_isRight_483 (by decide) ?_
      refine gw_istore 7 d_Law_isRight_488 (Nat.le_of_ble_eq_true rfl) rfl ?_
      refine gw_iinc 8 d_Law_isRight_490 rfl rfl ?_
      refine gw_goto 422 d_Law_isRight_493 (by decide) ?_
      exact gw_le (K I lo (rv A.1 (na_f A.1 0).2.1 (na_f A.1 1).1 (g : Int)) ⟨by omega, by omega, by omega⟩ ⟨by omega, by omega, by omega⟩ hx) (by exact ⟨rfl, ⟨rfl, ⟨rfl, ⟨rfl, ⟨rfl, ⟨rfl, ⟨rfl, ⟨rfl, ⟨rfl, trivial⟩⟩⟩⟩⟩⟩⟩⟩⟩)
  · refine gw_iload 9 d_Law_isRight_465 rfl ?_
    refine gw_goto 472 d_Law_isRight_467 (by decide) ?_
    refine gw_istore 6 d_Law_isRight_472 (Nat.le_of_ble_eq_true rfl) rfl ?_
    refine gw_iload 9 d_Law_isRight_474 rfl ?_
    refine gw_iload 7 d_Law_isRight_476 rfl ?_
    refine gw_icmp_le 486 d_Law_isRight_478 (by decide) ⟨by omega, by omega⟩ ⟨by omega, by omega⟩ (fun h7 => ?_) (fun h7 => ?_)
    · refine gw_iload 7 d_Law_isRight_486 rfl ?_
      refine gw_istore 7 d_Law_isRight_488 (Nat.le_of_ble_eq_true rfl) rfl ?_
      refine gw_iinc 8 d_Law_isRight_490 rfl rfl ?_
      refine gw_goto 422 d_Law_isRight_493 (by decide) ?_
      exact gw_le (K I (rv A.1 (na_f A.1 0).2.1 (na_f A.1 1).1 (g : Int)) hi ⟨by omega, by omega, by omega⟩ ⟨by omega, by omega, by omega⟩ hx) (by exact ⟨rfl, ⟨rfl, ⟨rfl, ⟨rfl, ⟨rfl, ⟨rfl, ⟨rfl, ⟨rfl, ⟨rfl, trivial⟩⟩⟩⟩⟩⟩⟩⟩⟩)
    · refine gw_iload 9 d_Law_isRight_481 rfl ?_
      refine gw_goto 488 d_Law_isRight_483 (by decide) ?_
      refine gw_istore 7 d_Law_isRight_488 (Nat.le_of_ble_eq_true rfl) rfl ?_
      refine gw_iinc 8 d_Law_isRight_490 rfl rfl ?_
      refine gw_goto 422 d_Law_isRight_493 (by decide) ?_
      exact gw_le (K I (rv A.1 (na_f A.1 0).2.1 (na_f A.1 1).1 (g : Int)) (rv A.1 (na_f A.1 0).2.1 (na_f A.1 1).1 (g : Int)) ⟨by omega, by omega, by omega⟩ ⟨by omega, by omega, by omega⟩ hx) (by exact ⟨rfl, ⟨rfl, ⟨rfl, ⟨rfl, ⟨rfl, ⟨rfl, ⟨rfl, ⟨rfl, ⟨rfl, trivial⟩⟩⟩⟩⟩⟩⟩⟩⟩)
theorem ir_it2 {g : Nat} {lo hi : Int} {I : ga_I} (hA : ni_a A) (hg : g < 3) (hl : 0 ≤ lo ∧ lo ≤ 10000) (hh : 0 ≤ hi ∧ hi ≤ 9999) (hx : rx I A) (K : ∀ (J : ga_I) (lo1 hi1 : Int), (0 ≤ lo1 ∧ lo1 ≤ lo ∧ lo1 ≤ rv A.1 (na_f A.1 0).1 (na_f A.1 1).2.1 (g : Int)) → (hi ≤ hi1 ∧ rv A.1 (na_f A.1 0).1 (na_f A.1 1).2.1 (g : Int) ≤ hi1 ∧ hi1 ≤ 9999) → rx J A → ga_W G 6 mt_Law_isRight 422 [some (.inr 0), some (.inl a), some (.inl (ms_n A.1 0 + 1)), some (.inl (ms_n A.1 1 + 1)), some (.inl b), some (.inl (g : Int)), some (.inl lo1), some (.inl hi1), some (.inl 3), none] [] J E) : ga_W G 6 mt_Law_isRight 422 [some (.inr 0), some (.inl a), some (.inl (ms_n A.1 0 + 1)), some (.inl (ms_n A.1 1 + 1)), some (.inl b), some (.inl (g : Int)), some (.inl lo), some (.inl hi), some (.inl 2), none] [] I E := by
  have n0 := ni_n hA.1.1 (ax := 0) (by omega)
  have n1 := ni_n hA.1.1 (ax := 1) (by omega)
  obtain ⟨⟨⟨f1, f2, f3, f4⟩, f5⟩, fv⟩ := na_f_f hA.1 (ax := 0) (by omega)
  obtain ⟨⟨⟨k1, k2, k3, k4⟩, k5⟩, kv⟩ := na_f_f hA.1 (ax := 1) (by omega)
  have xb := rv_bd hA.1.1 (c := (na_f A.1 0).1) (r := (na_f A.1 1).2.1) (g := (g : Int)) (by omega) (by omega) (by omega)
  refine gw_iload 8 d_Law_isRight_422 rfl ?_
  refine gw_iconst d_Law_isRight_424 ?_
  refine gw_icmp_ge 496 d_Law_isRight_425 (by decide) ⟨by decide, by decide⟩ ⟨by decide, by decide⟩ (fun hq => absurd hq (by omega)) (fun _ => ?_)
  refine gw_aload_n 0 d_Law_isRight_428 rfl rfl ?_
  refine gw_aload_n 0 d_Law_isRight_429 rfl rfl ?_
  refine gw_iconst d_Law_isRight_430 ?_
  refine gw_iconst d_Law_isRight_431 ?_
  refine gw_iload 8 d_Law_isRight_432 rfl ?_
  refine gw_iconst d_Law_isRight_434 ?_
  refine gw_iand d_Law_isRight_435 ?_
  refine gw_iadd d_Law_isRight_436 ?_
  refine gw_invV (as := [.inl 0, .inl (2 + (an 2 1))]) (k := 0) (rest := [.inr 0]) (d' := 5) d_Law_isRight_437 lk_Law_18 (ga_rcv ga_oG rfl rfl) rfl (Nat.le_of_ble_eq_true rfl) (Nat.le_of_ble_eq_true rfl) rfl rfl (q_axis (v := (na_f A.1 0).1) ⟨by decide, by decide⟩ ⟨by decide +kernel, by decide +kernel⟩ hx hA (by rw [show (2 : Int) + (an 2 1) = 2 from by decide +kernel]; exact (axv (by omega)).2.1) (fun I hx => ?_))
  refine gw_aload_n 0 d_Law_isRight_440 rfl rfl ?_
  refine gw_iconst d_Law_isRight_441 ?_
  refine gw_iconst d_Law_isRight_442 ?_
  refine gw_iload 8 d_Law_isRight_443 rfl ?_
  refine gw_iconst d_Law_isRight_445 ?_
  refine gw_ishr d_Law_isRight_446 ?_
  refine gw_iadd d_Law_isRight_447 ?_
  refine gw_invV (as := [.inl 1, .inl (2 + (sh 2 1))]) (k := 0) (rest := [.inl ((na_f A.1 0).1), .inr 0]) (d' := 5) d_Law_isRight_448 lk_Law_18 (ga_rcv ga_oG rfl rfl) rfl (Nat.le_of_ble_eq_true rfl) (Nat.le_of_ble_eq_true rfl) rfl rfl (q_axis (v := (na_f A.1 1).2.1) ⟨by decide, by decide⟩ ⟨by decide +kernel, by decide +kernel⟩ hx hA (by rw [show (2 : Int) + (sh 2 1) = 3 from by decide +kernel]; exact (axv (by omega)).2.2.1) (fun I hx => ?_))
  refine gw_iload 5 d_Law_isRight_451 rfl ?_
  refine gw_invV (as := [.inl ((na_f A.1 0).1), .inl ((na_f A.1 1).2.1), .inl (g : Int)]) (k := 0) (rest := []) (d' := 5) d_Law_isRight_453 lk_Law_26 (ga_rcv ga_oG rfl rfl) rfl (Nat.le_of_ble_eq_true rfl) (Nat.le_of_ble_eq_true rfl) rfl rfl (q_region (v := rv A.1 (na_f A.1 0).1 (na_f A.1 1).2.1 (g : Int)) ⟨by omega, by omega⟩ ⟨by omega, by omega⟩ ⟨by omega, by omega⟩ hx hA (rvv (by omega) (by omega) (by omega)) (fun I hx => ?_))
  refine gw_istore 9 d_Law_isRight_456 (Nat.le_of_ble_eq_true rfl) rfl ?_
  refine gw_iload 9 d_Law_isRight_458 rfl ?_
  refine gw_iload 6 d_Law_isRight_460 rfl ?_
  refine gw_icmp_ge 470 d_Law_isRight_462 (by decide) ⟨by omega, by omega⟩ ⟨by omega, by omega⟩ (fun h6 => ?_) (fun h6 => ?_)
  · refine gw_iload 6 d_Law_isRight_470 rfl ?_
    refine gw_istore 6 d_Law_isRight_472 (Nat.le_of_ble_eq_true rfl) rfl ?_
    refine gw_iload 9 d_Law_isRight_474 rfl ?_
    refine gw_iload 7 d_Law_isRight_476 rfl ?_
    refine gw_icmp_le 486 d_Law_isRight_478 (by decide) ⟨by omega, by omega⟩ ⟨by omega, by omega⟩ (fun h7 => ?_) (fun h7 => ?_)
    · refine gw_iload 7 d_Law_isRight_486 rfl ?_
      refine gw_istore 7 d_Law_isRight_488 (Nat.le_of_ble_eq_true rfl) rfl ?_
      refine gw_iinc 8 d_Law_isRight_490 rfl rfl ?_
      refine gw_goto 422 d_Law_isRight_493 (by decide) ?_
      exact gw_le (K I lo hi ⟨by omega, by omega, by omega⟩ ⟨by omega, by omega, by omega⟩ hx) (by exact ⟨rfl, ⟨rfl, ⟨rfl, ⟨rfl, ⟨rfl, ⟨rfl, ⟨rfl, ⟨rfl, ⟨rfl, trivial⟩⟩⟩⟩⟩⟩⟩⟩⟩)
    · refine gw_iload 9 d_Law_isRight_481 rfl ?_
      refine gw_goto 488 d_Law_isRight_483 (by decide) ?_
      refine gw_istore 7 d_Law_isRight_488 (Nat.le_of_ble_eq_true rfl) rfl ?_
      refine gw_iinc 8 d_Law_isRight_490 rfl rfl ?_
      refine gw_goto 422 d_Law_isRight_493 (by decide) ?_
      exact gw_le (K I lo (rv A.1 (na_f A.1 0).1 (na_f A.1 1).2.1 (g : Int)) ⟨by omega, by omega, by omega⟩ ⟨by omega, by omega, by omega⟩ hx) (by exact ⟨rfl, ⟨rfl, ⟨rfl, ⟨rfl, ⟨rfl, ⟨rfl, ⟨rfl, ⟨rfl, ⟨rfl, trivial⟩⟩⟩⟩⟩⟩⟩⟩⟩)
  · refine gw_iload 9 d_Law_isRight_465 rfl ?_
    refine gw_goto 472 d_Law_isRight_467 (by decide) ?_
    refine gw_istore 6 d_Law_isRight_472 (Nat.le_of_ble_eq_true rfl) rfl ?_
    refine gw_iload 9 d_Law_isRight_474 rfl ?_
    refine gw_iload 7 d_Law_isRight_476 rfl ?_
    refine gw_icmp_le 486 d_Law_isRight_478 (by decide) ⟨by omega, by omega⟩ ⟨by omega, by omega⟩ (fun h7 => ?_) (fun h7 => ?_)
    · refine gw_iload 7 d_Law_isRight_486 rfl ?_
      refine gw_istore 7 d_Law_isRight_488 (Nat.le_of_ble_eq_true rfl) rfl ?_
      refine gw_iinc 8 d_Law_isRight_490 rfl rfl ?_
      refine gw_goto 422 d_Law_isRight_493 (by decide) ?_
      exact gw_le (K I (rv A.1 (na_f A.1 0).1 (na_f A.1 1).2.1 (g : Int)) hi ⟨by omega, by omega, by omega⟩ ⟨by omega, by omega, by omega⟩ hx) (by exact ⟨rfl, ⟨rfl, ⟨rfl, ⟨rfl, ⟨rfl, ⟨rfl, ⟨rfl, ⟨rfl, ⟨rfl, trivial⟩⟩⟩⟩⟩⟩⟩⟩⟩)
    · refine gw_iload 9 d_Law_isRight_481 rfl ?_
      refine gw_goto 488 d_Law_isRight_483 (by decide) ?_
      refine gw_istore 7 d_Law_isRight_488 (Nat.le_of_ble_eq_true rfl) rfl ?_
      refine gw_iinc 8 d_Law_isRight_490 rfl rfl ?_
      refine gw_goto 422 d_Law_isRight_493 (by decide) ?_
      exact gw_le (K I (rv A.1 (na_f A.1 0).1 (na_f A.1 1).2.1 (g : Int)) (rv A.1 (na_f A.1 0).1 (na_f A.1 1).2.1 (g : Int)) ⟨by omega, by omega, by omega⟩ ⟨by omega, by omega, by omega⟩ hx) (by exact ⟨rfl, ⟨rfl, ⟨rfl, ⟨rfl, ⟨rfl, ⟨rfl, ⟨rfl, ⟨rfl, ⟨rfl, trivial⟩⟩⟩⟩⟩⟩⟩⟩⟩)
theorem ir_it3 {g : Nat} {lo hi : Int} {I : ga_I} (hA : ni_a A) (hg : g < 3) (hl : 0 ≤ lo ∧ lo ≤ 10000) (hh : 0 ≤ hi ∧ hi ≤ 9999) (hx : rx I A) (K : ∀ (J : ga_I) (lo1 hi1 : Int), (0 ≤ lo1 ∧ lo1 ≤ lo ∧ lo1 ≤ rv A.1 (na_f A.1 0).2.1 (na_f A.1 1).2.1 (g : Int)) → (hi ≤ hi1 ∧ rv A.1 (na_f A.1 0).2.1 (na_f A.1 1).2.1 (g : Int) ≤ hi1 ∧ hi1 ≤ 9999) → rx J A → ga_W G 6 mt_Law_isRight 422 [some (.inr 0), some (.inl a), some (.inl (ms_n A.1 0 + 1)), some (.inl (ms_n A.1 1 + 1)), some (.inl b), some (.inl (g : Int)), some (.inl lo1), some (.inl hi1), some (.inl 4), none] [] J E) : ga_W G 6 mt_Law_isRight 422 [some (.inr 0), some (.inl a), some (.inl (ms_n A.1 0 + 1)), some (.inl (ms_n A.1 1 + 1)), some (.inl b), some (.inl (g : Int)), some (.inl lo), some (.inl hi), some (.inl 3), none] [] I E := by
  have n0 := ni_n hA.1.1 (ax := 0) (by omega)
  have n1 := ni_n hA.1.1 (ax := 1) (by omega)
  obtain ⟨⟨⟨f1, f2, f3, f4⟩, f5⟩, fv⟩ := na_f_f hA.1 (ax := 0) (by omega)
  obtain ⟨⟨⟨k1, k2, k3, k4⟩, k5⟩, kv⟩ := na_f_f hA.1 (ax := 1) (by omega)
  have xb := rv_bd hA.1.1 (c := (na_f A.1 0).2.1) (r := (na_f A.1 1).2.1) (g := (g : Int)) (by omega) (by omega) (by omega)
  refine gw_iload 8 d_Law_isRight_422 rfl ?_
  refine gw_iconst d_Law_isRight_424 ?_
  refine gw_icmp_ge 496 d_Law_isRight_425 (by decide) ⟨by decide, by decide⟩ ⟨by decide, by decide⟩ (fun hq => absurd hq (by omega)) (fun _ => ?_)
  refine gw_aload_n 0 d_Law_isRight_428 rfl rfl ?_
  refine gw_aload_n 0 d_Law_isRight_429 rfl rfl ?_
  refine gw_iconst d_Law_isRight_430 ?_
  refine gw_iconst d_Law_isRight_431 ?_
  refine gw_iload 8 d_Law_isRight_432 rfl ?_
  refine gw_iconst d_Law_isRight_434 ?_
  refine gw_iand d_Law_isRight_435 ?_
  refine gw_iadd d_Law_isRight_436 ?_
  refine gw_invV (as := [.inl 0, .inl (2 + (an 3 1))]) (k := 0) (rest := [.inr 0]) (d' := 5) d_Law_isRight_437 lk_Law_18 (ga_rcv ga_oG rfl rfl) rfl (Nat.le_of_ble_eq_true rfl) (Nat.le_of_ble_eq_true rfl) rfl rfl (q_axis (v := (na_f A.1 0).2.1) ⟨by decide, by decide⟩ ⟨by decide +kernel, by decide +kernel⟩ hx hA (by rw [show (2 : Int) + (an 3 1) = 3 from by decide +kernel]; exact (axv (by omega)).2.2.1) (fun I hx => ?_))
  refine gw_aload_n 0 d_Law_isRight_440 rfl rfl ?_
  refine gw_iconst d_Law_isRight_441 ?_
  refine gw_iconst d_Law_isRight_442 ?_
  refine gw_iload 8 d_Law_isRight_443 rfl ?_
  refine gw_iconst d_Law_isRight_445 ?_
  refine gw_ishr d_Law_isRight_446 ?_
  refine gw_iadd d_Law_isRight_447 ?_
  refine gw_invV (as := [.inl 1, .inl (2 + (sh 3 1))]) (k := 0) (rest := [.inl ((na_f A.1 0).2.1), .inr 0]) (d' := 5) d_Law_isRight_448 lk_Law_18 (ga_rcv ga_oG rfl rfl) rfl (Nat.le_of_ble_eq_true rfl) (Nat.le_of_ble_eq_true rfl) rfl rfl (q_axis (v := (na_f A.1 1).2.1) ⟨by decide, by decide⟩ ⟨by decide +kernel, by decide +kernel⟩ hx hA (by rw [show (2 : Int) + (sh 3 1) = 3 from by decide +kernel]; exact (axv (by omega)).2.2.1) (fun I hx => ?_))
  refine gw_iload 5 d_Law_isRight_451 rfl ?_
  refine gw_invV (as := [.inl ((na_f A.1 0).2.1), .inl ((na_f A.1 1).2.1), .inl (g : Int)]) (k := 0) (rest := []) (d' := 5) d_Law_isRight_453 lk_Law_26 (ga_rcv ga_oG rfl rfl) rfl (Nat.le_of_ble_eq_true rfl) (Nat.le_of_ble_eq_true rfl) rfl rfl (q_region (v := rv A.1 (na_f A.1 0).2.1 (na_f A.1 1).2.1 (g : Int)) ⟨by omega, by omega⟩ ⟨by omega, by omega⟩ ⟨by omega, by omega⟩ hx hA (rvv (by omega) (by omega) (by omega)) (fun I hx => ?_))
  refine gw_istore 9 d_Law_isRight_456 (Nat.le_of_ble_eq_true rfl) rfl ?_
  refine gw_iload 9 d_Law_isRight_458 rfl ?_
  refine gw_iload 6 d_Law_isRight_460 rfl ?_
  refine gw_icmp_ge 470 d_Law_isRight_462 (by decide) ⟨by omega, by omega⟩ ⟨by omega, by omega⟩ (fun h6 => ?_) (fun h6 => ?_)
  · refine gw_iload 6 d_Law_isRight_470 rfl ?_
    refine gw_istore 6 d_Law_isRight_472 (Nat.le_of_ble_eq_true rfl) rfl ?_
    refine gw_iload 9 d_Law_isRight_474 rfl ?_
    refine gw_iload 7 d_Law_isRight_476 rfl ?_
    refine gw_icmp_le 486 d_Law_isRight_478 (by decide) ⟨by omega, by omega⟩ ⟨by omega, by omega⟩ (fun h7 => ?_) (fun h7 => ?_)
    · refine gw_iload 7 d_Law_isRight_486 rfl ?_
      refine gw_istore 7 d_Law_isRight_488 (Nat.le_of_ble_eq_true rfl) rfl ?_
      refine gw_iinc 8 d_Law_isRight_490 rfl rfl ?_
      refine gw_goto 422 d_Law_isRight_493 (by decide) ?_
      exact gw_le (K I lo hi ⟨by omega, by omega, by omega⟩ ⟨by omega, by omega, by omega⟩ hx) (by exact ⟨rfl, ⟨rfl, ⟨rfl, ⟨rfl, ⟨rfl, ⟨rfl, ⟨rfl, ⟨rfl, ⟨rfl, trivial⟩⟩⟩⟩⟩⟩⟩⟩⟩)
    · refine gw_iload 9 d_Law_isRight_481 rfl ?_
      refine gw_goto 488 d_Law_isRight_483 (by decide) ?_
      refine gw_istore 7 d_Law_isRight_488 (Nat.le_of_ble_eq_true rfl) rfl ?_
      refine gw_iinc 8 d_Law_isRight_490 rfl rfl ?_
      refine gw_goto 422 d_Law_isRight_493 (by decide) ?_
      exact gw_le (K I lo (rv A.1 (na_f A.1 0).2.1 (na_f A.1 1).2.1 (g : Int)) ⟨by omega, by omega, by omega⟩ ⟨by omega, by omega, by omega⟩ hx) (by exact ⟨rfl, ⟨rfl, ⟨rfl, ⟨rfl, ⟨rfl, ⟨rfl, ⟨rfl, ⟨rfl, ⟨rfl, trivial⟩⟩⟩⟩⟩⟩⟩⟩⟩)
  · refine gw_iload 9 d_Law_isRight_465 rfl ?_
    refine gw_goto 472 d_Law_isRight_467 (by decide) ?_
    refine gw_istore 6 d_Law_isRight_472 (Nat.le_of_ble_eq_true rfl) rfl ?_
    refine gw_iload 9 d_Law_isRight_474 rfl ?_
    refine gw_iload 7 d_Law_isRight_476 rfl ?_
    refine gw_icmp_le 486 d_Law_isRight_478 (by decide) ⟨by omega, by omega⟩ ⟨by omega, by omega⟩ (fun h7 => ?_) (fun h7 => ?_)
    · refine gw_iload 7 d_Law_isRight_486 rfl ?_
      refine gw_istore 7 d_Law_isRight_488 (Nat.le_of_ble_eq_true rfl) rfl ?_
      refine gw_iinc 8 d_Law_isRight_490 rfl rfl ?_
      refine gw_goto 422 d_Law_isRight_493 (by decide) ?_
      exact gw_le (K I (rv A.1 (na_f A.1 0).2.1 (na_f A.1 1).2.1 (g : Int)) hi ⟨by omega, by omega, by omega⟩ ⟨by omega, by omega, by omega⟩ hx) (by exact ⟨rfl, ⟨rfl, ⟨rfl, ⟨rfl, ⟨rfl, ⟨rfl, ⟨rfl, ⟨rfl, ⟨rfl, trivial⟩⟩⟩⟩⟩⟩⟩⟩⟩)
    · refine gw_iload 9 d_Law_isRight_481 rfl ?_
      refine gw_goto 488 d_Law_isRight_483 (by decide) ?_
      refine gw_istore 7 d_Law_isRight_488 (Nat.le_of_ble_eq_true rfl) rfl ?_
      refine gw_iinc 8 d_Law_isRight_490 rfl rfl ?_
      refine gw_goto 422 d_Law_isRight_493 (by decide) ?_
      exact gw_le (K I (rv A.1 (na_f A.1 0).2.1 (na_f A.1 1).2.1 (g : Int)) (rv A.1 (na_f A.1 0).2.1 (na_f A.1 1).2.1 (g : Int)) ⟨by omega, by omega, by omega⟩ ⟨by omega, by omega, by omega⟩ hx) (by exact ⟨rfl, ⟨rfl, ⟨rfl, ⟨rfl, ⟨rfl, ⟨rfl, ⟨rfl, ⟨rfl, ⟨rfl, trivial⟩⟩⟩⟩⟩⟩⟩⟩⟩)
theorem ir_405 (hA : ni_a A) (K : ∀ (J : ga_I), rx J A → ga_W G 6 mt_Law_isRight 553 [some (.inr 0), some (.inl a), some (.inl (ms_n A.1 0 + 1)), some (.inl (ms_n A.1 1 + 1)), some (.inl b), none, none, none, none, none] [] J E) : ∀ (f g : Nat) (I : ga_I), g + f = 3 → rx I A → ga_W G 6 mt_Law_isRight 405 [some (.inr 0), some (.inl a), some (.inl (ms_n A.1 0 + 1)), some (.inl (ms_n A.1 1 + 1)), some (.inl b), some (.inl (g : Int)), none, none, none, none] [] I E := by
  intro f
  induction f with
  | zero =>
    intro g I hk hx
    have hk2 : g = 3 := hk
    subst hk2
    refine gw_iload 5 d_Law_isRight_405 rfl ?_
    refine gw_iconst d_Law_isRight_407 ?_
    refine gw_icmp_ge 553 d_Law_isRight_408 (by decide) ⟨by omega, by omega⟩ ⟨by decide, by decide⟩ (fun _ => ?_) (fun hq => absurd (by omega) hq)
    exact gw_le (K I hx) (by exact ⟨rfl, ⟨rfl, ⟨rfl, ⟨rfl, ⟨rfl, trivial⟩⟩⟩⟩⟩)
  | succ f ih =>
    intro g I hk hx
    have n0 := ni_n hA.1.1 (ax := 0) (by omega)
    have n1 := ni_n hA.1.1 (ax := 1) (by omega)
    obtain ⟨⟨⟨f1, f2, f3, f4⟩, f5⟩, fv⟩ := na_f_f hA.1 (ax := 0) (by omega)
    obtain ⟨⟨⟨k1, k2, k3, k4⟩, k5⟩, kv⟩ := na_f_f hA.1 (ax := 1) (by omega)
    refine gw_iload 5 d_Law_isRight_405 rfl ?_
    refine gw_iconst d_Law_isRight_407 ?_
    refine gw_icmp_ge 553 d_Law_isRight_408 (by decide) ⟨by omega, by omega⟩ ⟨by decide, by decide⟩ (fun hq => absurd hq (by omega)) (fun _ => ?_)
    refine gw_sipush d_Law_isRight_411 (by decide +kernel) ?_
    refine gw_istore 6 d_Law_isRight_414 (Nat.le_of_ble_eq_true rfl) rfl ?_
    refine gw_iconst d_Law_isRight_416 ?_
    refine gw_istore 7 d_Law_isRight_417 (Nat.le_of_ble_eq_true rfl) rfl ?_
    refine gw_iconst d_Law_isRight_419 ?_
    refine gw_istore 8 d_Law_isRight_420 (Nat.le_of_ble_eq_true rfl) rfl ?_
    refine gw_le (ir_it0 (g := g) (lo := 10000) (hi := 0) hA (by omega) (by omega) (by omega) hx (fun I l0 m0 hl0 hm0 hx => ?_)) (by exact ⟨rfl, ⟨rfl, ⟨rfl, ⟨rfl, ⟨rfl, ⟨rfl, ⟨rfl, ⟨rfl, ⟨rfl, trivial⟩⟩⟩⟩⟩⟩⟩⟩⟩)
    refine gw_le (ir_it1 (g := g) (lo := l0) (hi := m0) hA (by omega) (by omega) (by omega) hx (fun I l1 m1 hl1 hm1 hx => ?_)) (by exact ⟨rfl, ⟨rfl, ⟨rfl, ⟨rfl, ⟨rfl, ⟨rfl, ⟨rfl, ⟨rfl, ⟨rfl, trivial⟩⟩⟩⟩⟩⟩⟩⟩⟩)
    refine gw_le (ir_it2 (g := g) (lo := l1) (hi := m1) hA (by omega) (by omega) (by omega) hx (fun I l2 m2 hl2 hm2 hx => ?_)) (by exact ⟨rfl, ⟨rfl, ⟨rfl, ⟨rfl, ⟨rfl, ⟨rfl, ⟨rfl, ⟨rfl, ⟨rfl, trivial⟩⟩⟩⟩⟩⟩⟩⟩⟩)
    refine gw_le (ir_it3 (g := g) (lo := l2) (hi := m2) hA (by omega) (by omega) (by omega) hx (fun I l3 m3 hl3 hm3 hx => ?_)) (by exact ⟨rfl, ⟨rfl, ⟨rfl, ⟨rfl, ⟨rfl, ⟨rfl, ⟨rfl, ⟨rfl, ⟨rfl, trivial⟩⟩⟩⟩⟩⟩⟩⟩⟩)
    refine gw_iload 8 d_Law_isRight_422 rfl ?_
    refine gw_iconst d_Law_isRight_424 ?_
    refine gw_icmp_ge 496 d_Law_isRight_425 (by decide) ⟨by decide, by decide⟩ ⟨by decide, by decide⟩ (fun _ => ?_) (fun hq => absurd (by omega) hq)
    obtain ⟨⟨p1, p2⟩, ⟨p3, p4⟩, ⟨p5, p6⟩⟩ := pv_mean hA.1 (g := (g : Int)) (lo := l3) (hi := m3) (by omega) (by omega) (by omega) (by omega) (by omega)
    have hpv : Int.tdiv (na_nu A.1 (g : Int)) ((na_f A.1 0).2.2.2 * (na_f A.1 1).2.2.2) = mp_pv A.1 (g : Int) := rfl
    refine gw_aload_n 0 d_Law_isRight_496 rfl rfl ?_
    refine gw_iload 5 d_Law_isRight_497 rfl ?_
    refine gw_iconst d_Law_isRight_499 ?_
    refine gw_invV (as := [.inl (g : Int), .inl 0]) (k := 0) (rest := []) (d' := 5) d_Law_isRight_500 lk_Law_35 (ga_rcv ga_oG rfl rfl) rfl (Nat.le_of_ble_eq_true rfl) (Nat.le_of_ble_eq_true rfl) rfl rfl (q_gain (v := mp_pv A.1 (g : Int)) ⟨by omega, by omega⟩ ⟨by decide, by decide⟩ hx hA (gnv (by omega)).1 (fun I hx => ?_))
    refine gw_iload 6 d_Law_isRight_503 rfl ?_
    refine gw_icmp_lt 545 d_Law_isRight_505 (by decide) ⟨by omega, by omega⟩ ⟨by omega, by omega⟩ (fun hq => absurd hq (by omega)) (fun _ => ?_)
    refine gw_aload_n 0 d_Law_isRight_508 rfl rfl ?_
    refine gw_iload 5 d_Law_isRight_509 rfl ?_
    refine gw_iconst d_Law_isRight_511 ?_
    refine gw_invV (as := [.inl (g : Int), .inl 0]) (k := 0) (rest := []) (d' := 5) d_Law_isRight_512 lk_Law_35 (ga_rcv ga_oG rfl rfl) rfl (Nat.le_of_ble_eq_true rfl) (Nat.le_of_ble_eq_true rfl) rfl rfl (q_gain (v := mp_pv A.1 (g : Int)) ⟨by omega, by omega⟩ ⟨by decide, by decide⟩ hx hA (gnv (by omega)).1 (fun I hx => ?_))
    refine gw_iload 7 d_Law_isRight_515 rfl ?_
    refine gw_icmp_gt 545 d_Law_isRight_517 (by decide) ⟨by omega, by omega⟩ ⟨by omega, by omega⟩ (fun hq => absurd hq (by omega)) (fun _ => ?_)
    refine gw_aload_n 0 d_Law_isRight_520 rfl rfl ?_
    refine gw_iload 5 d_Law_isRight_521 rfl ?_
    refine gw_iconst d_Law_isRight_523 ?_
    refine gw_invV (as := [.inl (g : Int), .inl 1]) (k := 0) (rest := []) (d' := 5) d_Law_isRight_524 lk_Law_35 (ga_rcv ga_oG rfl rfl) rfl (Nat.le_of_ble_eq_true rfl) (Nat.le_of_ble_eq_true rfl) rfl rfl (q_gain (v := na_nu A.1 (g : Int)) ⟨by omega, by omega⟩ ⟨by decide, by decide⟩ hx hA (gnv (by omega)).2.1 (fun I hx => ?_))
    refine gw_aload_n 0 d_Law_isRight_527 rfl rfl ?_
    refine gw_iload 5 d_Law_isRight_528 rfl ?_
    refine gw_iconst d_Law_isRight_530 ?_
    refine gw_invV (as := [.inl (g : Int), .inl 2]) (k := 0) (rest := [.inl (na_nu A.1 (g : Int))]) (d' := 5) d_Law_isRight_531 lk_Law_35 (ga_rcv ga_oG rfl rfl) rfl (Nat.le_of_ble_eq_true rfl) (Nat.le_of_ble_eq_true rfl) rfl rfl (q_gain (v := (na_f A.1 0).2.2.2 * (na_f A.1 1).2.2.2) ⟨by omega, by omega⟩ ⟨by decide, by decide⟩ hx hA (gnv (by omega)).2.2 (fun I hx => ?_))
    refine gw_idiv d_Law_isRight_534 ⟨by omega, by omega⟩ ⟨by omega, by omega⟩ (by omega) ?_
    refine gw_aload_n 0 d_Law_isRight_535 rfl rfl ?_
    refine gw_iload 5 d_Law_isRight_536 rfl ?_
    refine gw_iconst d_Law_isRight_538 ?_
    refine gw_invV (as := [.inl (g : Int), .inl 0]) (k := 0) (rest := [.inl (Int.tdiv (na_nu A.1 (g : Int)) ((na_f A.1 0).2.2.2 * (na_f A.1 1).2.2.2))]) (d' := 5) d_Law_isRight_539 lk_Law_35 (ga_rcv ga_oG rfl rfl) rfl (Nat.le_of_ble_eq_true rfl) (Nat.le_of_ble_eq_true rfl) rfl rfl (q_gain (v := mp_pv A.1 (g : Int)) ⟨by omega, by omega⟩ ⟨by decide, by decide⟩ hx hA (gnv (by omega)).1 (fun I hx => ?_))
    refine gw_icmp_eq 547 d_Law_isRight_542 (by decide) ⟨by omega, by omega⟩ ⟨by omega, by omega⟩ (fun _ => ?_) (fun hq => absurd hpv hq)
    refine gw_iinc 5 d_Law_isRight_547 rfl rfl ?_
    refine gw_goto 405 d_Law_isRight_550 (by decide) ?_
    exact gw_le (ih (g + 1) I (by omega) hx) (by exact ⟨rfl, ⟨rfl, ⟨rfl, ⟨rfl, ⟨rfl, ⟨rfl, trivial⟩⟩⟩⟩⟩⟩)
theorem w_isRight {I : ga_I} (hx : rx I A) (hA : ni_a A) (hp : np_s A.1) (K : ∀ J, rx J A → E (some (.inl 1)) J) : ga_W G 6 mt_Law_isRight 0 (ga_en 10 [.inr 0]) [] I E := by
  show ga_W G 6 mt_Law_isRight 0 [some (.inr 0), none, none, none, none, none, none, none, none, none] [] I E
  have n0 := ni_n hA.1.1 (ax := 0) (by omega)
  have n1 := ni_n hA.1.1 (ax := 1) (by omega)
  refine gw_iconst d_Law_isRight_0 ?_
  refine gw_istore_n 1 d_Law_isRight_1 rfl (Nat.le_of_ble_eq_true rfl) rfl ?_
  refine gw_aload_n 0 d_Law_isRight_2 rfl rfl ?_
  refine gw_iconst d_Law_isRight_3 ?_
  refine gw_iconst d_Law_isRight_4 ?_
  refine gw_invV (as := [.inl 0, .inl 0]) (k := 0) (rest := []) (d' := 5) d_Law_isRight_5 lk_Law_18 (ga_rcv ga_oG rfl rfl) rfl (Nat.le_of_ble_eq_true rfl) (Nat.le_of_ble_eq_true rfl) rfl rfl (q_axis (v := ms_n A.1 0) ⟨by decide, by decide⟩ ⟨by decide, by decide⟩ hx hA (ax0 (by omega)) (fun I hx => ?_))
  refine gw_iconst d_Law_isRight_8 ?_
  refine gw_iadd d_Law_isRight_9 ?_
  refine gw_istore_n 2 d_Law_isRight_10 rfl (Nat.le_of_ble_eq_true rfl) rfl ?_
  refine gw_aload_n 0 d_Law_isRight_11 rfl rfl ?_
  refine gw_iconst d_Law_isRight_12 ?_
  refine gw_iconst d_Law_isRight_13 ?_
  refine gw_invV (as := [.inl 1, .inl 0]) (k := 0) (rest := []) (d' := 5) d_Law_isRight_14 lk_Law_18 (ga_rcv ga_oG rfl rfl) rfl (Nat.le_of_ble_eq_true rfl) (Nat.le_of_ble_eq_true rfl) rfl rfl (q_axis (v := ms_n A.1 1) ⟨by decide, by decide⟩ ⟨by decide, by decide⟩ hx hA (ax0 (by omega)) (fun I hx => ?_))
  refine gw_iconst d_Law_isRight_17 ?_
  refine gw_iadd d_Law_isRight_18 ?_
  refine gw_istore_n 3 d_Law_isRight_19 rfl (Nat.le_of_ble_eq_true rfl) rfl ?_
  refine gw_iconst d_Law_isRight_20 ?_
  refine gw_istore 4 d_Law_isRight_21 (Nat.le_of_ble_eq_true rfl) rfl ?_
  refine gw_iconst d_Law_isRight_23 ?_
  refine gw_istore 5 d_Law_isRight_24 (Nat.le_of_ble_eq_true rfl) rfl ?_
  refine gw_le (ir_26 hA (fun I a b ha hb hx => ?_) ((ms_n A.1 0).toNat + 1) 0 I 0 0 (by omega) rw_0 rw_0 hx) (by exact ⟨rfl, ⟨rfl, ⟨rfl, ⟨rfl, ⟨rfl, ⟨rfl, trivial⟩⟩⟩⟩⟩⟩)
  have hlk : Int32.ofInt b = Int32.ofInt (ns_lo A.1 0 + ns_lo A.1 1 + ns_lo A.1 2) := by
    rw [hb]
    have e := lk_sum hA.1.1 (m := (ms_n A.1 0).toNat + 1) (n := (ms_n A.1 1).toNat + 1) (by omega) (by omega)
    have e2 : 0 + gp_tt (lk3 A.1) ((ms_n A.1 0).toNat + 1) ((ms_n A.1 1).toNat + 1) = ns_lo A.1 0 + ns_lo A.1 1 + ns_lo A.1 2 := by rw [e, Int.zero_add]; rfl
    exact congrArg Int32.ofInt e2
  have hac : Int32.ofInt (A.1 250 + A.1 251 + A.1 252 + A.1 253) = Int32.ofInt a := by
    obtain ⟨k, hk⟩ := hp.2.2.2
    have e2 : a = ns_tt A.1 := by rw [ha, Int.zero_add]; rfl
    rw [e2]
    exact of_k hk
  have hs := hA.1.2.2.2.1
  have hj := hp.2.2.1 (A.1 254 - 1).toNat (by omega)
  refine gw_iconst d_Law_isRight_107 ?_
  refine gw_istore 5 d_Law_isRight_108 (Nat.le_of_ble_eq_true rfl) rfl ?_
  refine gw_le (ir_110 hA (fun I hx => ?_) 2 0 I (by omega) hx) (by exact ⟨rfl, ⟨rfl, ⟨rfl, ⟨rfl, ⟨rfl, ⟨rfl, trivial⟩⟩⟩⟩⟩⟩)
  refine gw_iconst d_Law_isRight_402 ?_
  refine gw_istore 5 d_Law_isRight_403 (Nat.le_of_ble_eq_true rfl) rfl ?_
  refine gw_le (ir_405 hA (fun I hx => ?_) 3 0 I (by omega) hx) (by exact ⟨rfl, ⟨rfl, ⟨rfl, ⟨rfl, ⟨rfl, ⟨rfl, trivial⟩⟩⟩⟩⟩⟩)
  refine gw_aload_n 0 d_Law_isRight_553 rfl rfl ?_
  refine gw_iconst d_Law_isRight_554 ?_
  refine gw_iconst d_Law_isRight_555 ?_
  refine gw_invV (as := [.inl 0, .inl 2]) (k := 0) (rest := []) (d' := 5) d_Law_isRight_556 lk_Law_29 (ga_rcv ga_oG rfl rfl) rfl (Nat.le_of_ble_eq_true rfl) (Nat.le_of_ble_eq_true rfl) rfl rfl (q_operator (v := ns_lo A.1 0) ⟨by decide, by decide⟩ ⟨by decide, by decide⟩ hx hA (opv (by omega)) (fun I hx => ?_))
  refine gw_aload_n 0 d_Law_isRight_559 rfl rfl ?_
  refine gw_iconst d_Law_isRight_560 ?_
  refine gw_iconst d_Law_isRight_561 ?_
  refine gw_invV (as := [.inl 1, .inl 2]) (k := 0) (rest := [.inl (ns_lo A.1 0)]) (d' := 5) d_Law_isRight_562 lk_Law_29 (ga_rcv ga_oG rfl rfl) rfl (Nat.le_of_ble_eq_true rfl) (Nat.le_of_ble_eq_true rfl) rfl rfl (q_operator (v := ns_lo A.1 1) ⟨by decide, by decide⟩ ⟨by decide, by decide⟩ hx hA (opv (by omega)) (fun I hx => ?_))
  refine gw_iadd d_Law_isRight_565 ?_
  refine gw_aload_n 0 d_Law_isRight_566 rfl rfl ?_
  refine gw_iconst d_Law_isRight_567 ?_
  refine gw_iconst d_Law_isRight_568 ?_
  refine gw_invV (as := [.inl 2, .inl 2]) (k := 0) (rest := [.inl ((ns_lo A.1 0) + (ns_lo A.1 1))]) (d' := 5) d_Law_isRight_569 lk_Law_29 (ga_rcv ga_oG rfl rfl) rfl (Nat.le_of_ble_eq_true rfl) (Nat.le_of_ble_eq_true rfl) rfl rfl (q_operator (v := ns_lo A.1 2) ⟨by decide, by decide⟩ ⟨by decide, by decide⟩ hx hA (opv (by omega)) (fun I hx => ?_))
  refine gw_iadd d_Law_isRight_572 ?_
  refine gw_istore 5 d_Law_isRight_573 (Nat.le_of_ble_eq_true rfl) rfl ?_
  refine gw_aload_n 0 d_Law_isRight_575 rfl rfl ?_
  refine gw_iconst d_Law_isRight_576 ?_
  refine gw_invV (as := [.inl 0]) (k := 0) (rest := []) (d' := 5) d_Law_isRight_577 lk_Law_12 (ga_rcv ga_oG rfl rfl) rfl (Nat.le_of_ble_eq_true rfl) (Nat.le_of_ble_eq_true rfl) rfl rfl (q_count (v := ns_rg A.1) ⟨by decide, by decide⟩ hx hA cnv.1 (fun I hx => ?_))
  refine gw_iload_n 2 d_Law_isRight_580 rfl rfl ?_
  refine gw_iload_n 3 d_Law_isRight_581 rfl rfl ?_
  refine gw_imul d_Law_isRight_582 ?_
  refine gw_icmp_nes d_Law_isRight_583 667 (by decide) rfl ?_
  refine gw_iload 4 d_Law_isRight_586 rfl ?_
  refine gw_iload 5 d_Law_isRight_588 rfl ?_
  refine gw_icmp_nes d_Law_isRight_590 667 (by decide) hlk ?_
  refine gw_aload_n 0 d_Law_isRight_593 rfl rfl ?_
  refine gw_iconst d_Law_isRight_594 ?_
  refine gw_invV (as := [.inl 4]) (k := 0) (rest := []) (d' := 5) d_Law_isRight_595 lk_Law_32 (ga_rcv ga_oG rfl rfl) rfl (Nat.le_of_ble_eq_true rfl) (Nat.le_of_ble_eq_true rfl) rfl rfl (q_account (v := A.1 250 + A.1 251 + A.1 252 + A.1 253) ⟨by decide, by decide⟩ hx hA acv.2.2.2.2 (fun I hx => ?_))
  refine gw_iload_n 1 d_Law_isRight_598 rfl rfl ?_
  refine gw_icmp_nes d_Law_isRight_599 667 (by decide) hac ?_
  refine gw_aload_n 0 d_Law_isRight_602 rfl rfl ?_
  refine gw_iconst d_Law_isRight_603 ?_
  refine gw_invV (as := [.inl 4]) (k := 0) (rest := []) (d' := 5) d_Law_isRight_604 lk_Law_32 (ga_rcv ga_oG rfl rfl) rfl (Nat.le_of_ble_eq_true rfl) (Nat.le_of_ble_eq_true rfl) rfl rfl (q_account (v := A.1 250 + A.1 251 + A.1 252 + A.1 253) ⟨by decide, by decide⟩ hx hA acv.2.2.2.2 (fun I hx => ?_))
  refine gw_aload_n 0 d_Law_isRight_607 rfl rfl ?_
  refine gw_iconst d_Law_isRight_608 ?_
  refine gw_invV (as := [.inl 0]) (k := 0) (rest := [.inl (A.1 250 + A.1 251 + A.1 252 + A.1 253)]) (d' := 5) d_Law_isRight_609 lk_Law_32 (ga_rcv ga_oG rfl rfl) rfl (Nat.le_of_ble_eq_true rfl) (Nat.le_of_ble_eq_true rfl) rfl rfl (q_account (v := A.1 250) ⟨by decide, by decide⟩ hx hA acv.1 (fun I hx => ?_))
  refine gw_aload_n 0 d_Law_isRight_612 rfl rfl ?_
  refine gw_iconst d_Law_isRight_613 ?_
  refine gw_invV (as := [.inl 1]) (k := 0) (rest := [.inl (A.1 250), .inl (A.1 250 + A.1 251 + A.1 252 + A.1 253)]) (d' := 5) d_Law_isRight_614 lk_Law_32 (ga_rcv ga_oG rfl rfl) rfl (Nat.le_of_ble_eq_true rfl) (Nat.le_of_ble_eq_true rfl) rfl rfl (q_account (v := A.1 251) ⟨by decide, by decide⟩ hx hA acv.2.1 (fun I hx => ?_))
  refine gw_iadd d_Law_isRight_617 ?_
  refine gw_aload_n 0 d_Law_isRight_618 rfl rfl ?_
  refine gw_iconst d_Law_isRight_619 ?_
  refine gw_invV (as := [.inl 2]) (k := 0) (rest := [.inl ((A.1 250) + (A.1 251)), .inl (A.1 250 + A.1 251 + A.1 252 + A.1 253)]) (d' := 5) d_Law_isRight_620 lk_Law_32 (ga_rcv ga_oG rfl rfl) rfl (Nat.le_of_ble_eq_true rfl) (Nat.le_of_ble_eq_true rfl) rfl rfl (q_account (v := A.1 252) ⟨by decide, by decide⟩ hx hA acv.2.2.1 (fun I hx => ?_))
  refine gw_iadd d_Law_isRight_623 ?_
  refine gw_aload_n 0 d_Law_isRight_624 rfl rfl ?_
  refine gw_iconst d_Law_isRight_625 ?_
  refine gw_invV (as := [.inl 3]) (k := 0) (rest := [.inl (((A.1 250) + (A.1 251)) + (A.1 252)), .inl (A.1 250 + A.1 251 + A.1 252 + A.1 253)]) (d' := 5) d_Law_isRight_626 lk_Law_32 (ga_rcv ga_oG rfl rfl) rfl (Nat.le_of_ble_eq_true rfl) (Nat.le_of_ble_eq_true rfl) rfl rfl (q_account (v := A.1 253) ⟨by decide, by decide⟩ hx hA acv.2.2.2.1 (fun I hx => ?_))
  refine gw_iadd d_Law_isRight_629 ?_
  refine gw_icmp_nes d_Law_isRight_630 667 (by decide) rfl ?_
  refine gw_aload_n 0 d_Law_isRight_633 rfl rfl ?_
  refine gw_bipush d_Law_isRight_634 (by decide +kernel) ?_
  refine gw_invV (as := [.inl 6]) (k := 0) (rest := []) (d' := 5) d_Law_isRight_636 lk_Law_12 (ga_rcv ga_oG rfl rfl) rfl (Nat.le_of_ble_eq_true rfl) (Nat.le_of_ble_eq_true rfl) rfl rfl (q_count (v := A.1 254) ⟨by decide, by decide⟩ hx hA cnv.2.2.2.1 (fun I hx => ?_))
  refine gw_bipush d_Law_isRight_639 (by decide +kernel) ?_
  refine gw_icmp_gt 667 d_Law_isRight_641 (by decide) ⟨by omega, by omega⟩ ⟨by decide, by decide⟩ (fun hq => absurd hq (by omega)) (fun _ => ?_)
  refine gw_aload_n 0 d_Law_isRight_644 rfl rfl ?_
  refine gw_bipush d_Law_isRight_645 (by decide +kernel) ?_
  refine gw_invV (as := [.inl 6]) (k := 0) (rest := []) (d' := 5) d_Law_isRight_647 lk_Law_12 (ga_rcv ga_oG rfl rfl) rfl (Nat.le_of_ble_eq_true rfl) (Nat.le_of_ble_eq_true rfl) rfl rfl (q_count (v := A.1 254) ⟨by decide, by decide⟩ hx hA cnv.2.2.2.1 (fun I hx => ?_))
  refine gw_if_eq 663 d_Law_isRight_650 (by decide) ⟨by omega, by omega⟩ (fun hz => ?_) (fun hz => ?_)
  · refine gw_iconst d_Law_isRight_663 ?_
    refine gw_goto 668 d_Law_isRight_664 (by decide) ?_
    exact gw_zreturn d_Law_isRight_668 rfl (Or.inr rfl) (K I hx)
  · refine gw_aload_n 0 d_Law_isRight_653 rfl rfl ?_
    refine gw_iconst d_Law_isRight_654 ?_
    refine gw_bipush d_Law_isRight_655 (by decide +kernel) ?_
    refine gw_invV (as := [.inl 0, .inl 7]) (k := 0) (rest := []) (d' := 5) d_Law_isRight_657 lk_Law_38 (ga_rcv ga_oG rfl rfl) rfl (Nat.le_of_ble_eq_true rfl) (Nat.le_of_ble_eq_true rfl) rfl rfl (q_trail (v := A.1 (262 + 8 * (A.1 254 - 1).toNat)) ⟨by decide, by decide⟩ ⟨by decide, by decide⟩ hx hA (trv (by omega)) (fun I hx => ?_))
    refine gw_if_lt 667 d_Law_isRight_660 (by decide) ⟨by omega, by omega⟩ (fun hq => absurd hq (by omega)) (fun _ => ?_)
    refine gw_iconst d_Law_isRight_663 ?_
    refine gw_goto 668 d_Law_isRight_664 (by decide) ?_
    exact gw_zreturn d_Law_isRight_668 rfl (Or.inr rfl) (K I hx)
end LI
