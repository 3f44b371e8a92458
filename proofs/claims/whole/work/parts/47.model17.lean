/-! the reference: a number read -/
theorem k_Mo_here_0 {G : ga_G} {d : Nat} {I : ga_I} {E : Option ga_V → ga_I → Prop}  
    (h : ga_RG I → (((I 348 6) ≤ (I 348 12)) → (((I 348 6) ≤ (I 348 12)) → E (some (.inl (-1))) I) ∧ ((¬ ((I 348 6) ≤ (I 348 12))) → (0 ≤ (I 348 12)) ∧ (((I 348 12) < 160) ∧ (E (some (.inl (I 352 (I 348 12).toNat))) I)))) ∧ ((¬ ((I 348 6) ≤ (I 348 12))) → (0 ≤ (I 348 12)) ∧ (((I 348 12) < 160) ∧ ((((I 352 (I 348 12).toNat) ≠ 32) → (((I 348 6) ≤ (I 348 12)) → E (some (.inl (-1))) I) ∧ ((¬ ((I 348 6) ≤ (I 348 12))) → E (some (.inl (I 352 (I 348 12).toNat))) I)) ∧ (((I 352 (I 348 12).toNat) = 32) → (∀ I1 : ga_I, I1 = (ga_up I 348 12 (ga_wr ((I 348 12) + 1))) → ga_W G d mt_Mo_here 0 [some (.inr 348)] [] I1 E)))))) :
    ga_W G d mt_Mo_here 0 (ga_en 1 [.inr 348]) [] I E := by
  show ga_W G d mt_Mo_here 0 [some (.inr 348)] [] I E
  refine gw_RG (fun hI1 => ?_)
  have h := h hI1
  refine gw_aload_n 0 d_Mo_here_0 rfl rfl ?_
  refine gw_getI d_Mo_here_1 fl_Mo_194 (ga_oM) rfl ?_
  refine gw_aload_n 0 d_Mo_here_4 rfl rfl ?_
  refine gw_getI d_Mo_here_5 fl_Mo_191 (ga_oM) rfl ?_
  refine gw_icmp_ge 38 d_Mo_here_8 (by decide) (hI1 _ _) (hI1 _ _) (fun hc => ?_) (fun hc => ?_)
  · have h := h.1 hc
    refine gw_aload_n 0 d_Mo_here_38 rfl rfl ?_
    refine gw_getI d_Mo_here_39 fl_Mo_194 (ga_oM) rfl ?_
    refine gw_aload_n 0 d_Mo_here_42 rfl rfl ?_
    refine gw_getI d_Mo_here_43 fl_Mo_191 (ga_oM) rfl ?_
    refine gw_icmp_ge 61 d_Mo_here_46 (by decide) (hI1 _ _) (hI1 _ _) (fun hc => ?_) (fun hc => ?_)
    · have h := h.1 hc
      refine gw_iconst d_Mo_here_61 ?_
      exact gw_ireturn d_Mo_here_62 rfl h
    · have h := h.2 hc
      refine gw_aload_n 0 d_Mo_here_49 rfl rfl ?_
      refine gw_getR d_Mo_here_50 fl_Mo_19 (ga_oM) rfl ?_
      refine gw_aload_n 0 d_Mo_here_53 rfl rfl ?_
      refine gw_getI d_Mo_here_54 fl_Mo_194 (ga_oM) rfl ?_
      obtain ⟨g1, h⟩ := h
      obtain ⟨g2, h⟩ := h
      refine gw_iald d_Mo_here_57 (ga_aM4) g1 g2 ?_
      refine gw_goto 62 d_Mo_here_58 (by decide) ?_
      exact gw_ireturn d_Mo_here_62 rfl h
  · have h := h.2 hc
    refine gw_aload_n 0 d_Mo_here_11 rfl rfl ?_
    refine gw_getR d_Mo_here_12 fl_Mo_19 (ga_oM) rfl ?_
    refine gw_aload_n 0 d_Mo_here_15 rfl rfl ?_
    refine gw_getI d_Mo_here_16 fl_Mo_194 (ga_oM) rfl ?_
    obtain ⟨g3, h⟩ := h
    obtain ⟨g4, h⟩ := h
    refine gw_iald d_Mo_here_19 (ga_aM4) g3 g4 ?_
    refine gw_bipush d_Mo_here_20 (by decide +kernel) ?_
    refine gw_icmp_ne 38 d_Mo_here_22 (by decide) (hI1 _ _) ⟨by decide, by decide⟩ (fun hc => ?_) (fun hc => ?_)
    · have h := h.1 hc
      refine gw_aload_n 0 d_Mo_here_38 rfl rfl ?_
      refine gw_getI d_Mo_here_39 fl_Mo_194 (ga_oM) rfl ?_
      refine gw_aload_n 0 d_Mo_here_42 rfl rfl ?_
      refine gw_getI d_Mo_here_43 fl_Mo_191 (ga_oM) rfl ?_
      refine gw_icmp_ge 61 d_Mo_here_46 (by decide) (hI1 _ _) (hI1 _ _) (fun hc => ?_) (fun hc => ?_)
      · have h := h.1 hc
        refine gw_iconst d_Mo_here_61 ?_
        exact gw_ireturn d_Mo_here_62 rfl h
      · have h := h.2 hc
        refine gw_aload_n 0 d_Mo_here_49 rfl rfl ?_
        refine gw_getR d_Mo_here_50 fl_Mo_19 (ga_oM) rfl ?_
        refine gw_aload_n 0 d_Mo_here_53 rfl rfl ?_
        refine gw_getI d_Mo_here_54 fl_Mo_194 (ga_oM) rfl ?_
        refine gw_iald d_Mo_here_57 (ga_aM4) g3 g4 ?_
        refine gw_goto 62 d_Mo_here_58 (by decide) ?_
        exact gw_ireturn d_Mo_here_62 rfl h
    · have h := h.2 hc
      refine gw_aload_n 0 d_Mo_here_25 rfl rfl ?_
      refine gw_dup d_Mo_here_26 ?_
      refine gw_getI d_Mo_here_27 fl_Mo_194 (ga_oM) rfl ?_
      refine gw_iconst d_Mo_here_30 ?_
      refine gw_iadd d_Mo_here_31 ?_
      refine gw_putI d_Mo_here_32 fp_Mo_194 (ga_oM) rfl ?_
      refine gw_nm (J := (ga_up I 348 12 (ga_wr ((I 348 12) + 1)))) (fun I1 q1 => ?_)
      have h := h I1 q1
      refine gw_RG (fun hI2 => ?_)
      refine gw_goto 0 d_Mo_here_35 (by decide) ?_
      exact gw_le h (by exact ⟨rfl, trivial⟩)

section MS
variable {G : ga_G} {d : Nat} {I : ga_I} {E : Option ga_V → ga_I → Prop}
/-- over spaces -/
def gp_sq (t : Nat → Int) (l : Nat) : Nat → Nat → Nat
  | 0, n => n
  | f + 1, n => if n < l ∧ t n = 32 then gp_sq t l f (n + 1) else n
def gp_sp (t : Nat → Int) (l n : Nat) : Nat := gp_sq t l (l - n) n
theorem gp_sp_s {t : Nat → Int} {l n : Nat} (h : n < l ∧ t n = 32) : gp_sp t l n = gp_sp t l (n + 1) := by
  unfold gp_sp
  rw [show l - n = (l - (n + 1)) + 1 by omega, gp_sq, if_pos h]
theorem gp_sp_e {t : Nat → Int} {l n : Nat} (h : ¬ (n < l ∧ t n = 32)) : gp_sp t l n = n := by
  unfold gp_sp
  cases l - n with
  | zero => rfl
  | succ f => rw [gp_sq, if_neg h]
theorem gp_sp_bd {t : Nat → Int} {l : Nat} : ∀ (j n : Nat), n + j = l → n ≤ gp_sp t l n ∧ gp_sp t l n ≤ l ∧ ¬ (gp_sp t l n < l ∧ t (gp_sp t l n) = 32)
  | 0, n, h => by
    have e : gp_sp t l n = n := gp_sp_e (by omega)
    rw [e]; exact ⟨Nat.le_refl n, by omega, by omega⟩
  | j + 1, n, h => by
    by_cases q : n < l ∧ t n = 32
    · have e := gp_sp_bd (t := t) (l := l) j (n + 1) (by omega)
      rw [← gp_sp_s q] at e
      exact ⟨by omega, e.2⟩
    · rw [gp_sp_e q]; exact ⟨Nat.le_refl n, by omega, q⟩
theorem gp_sp_le {t : Nat → Int} {l n : Nat} (h : n ≤ l) : n ≤ gp_sp t l n ∧ gp_sp t l n ≤ l := ⟨(gp_sp_bd (t := t) (l - n) n (by omega)).1, (gp_sp_bd (t := t) (l - n) n (by omega)).2.1⟩
/-- over digits -/
def gp_dq (t : Nat → Int) (l : Nat) : Nat → Nat → Nat
  | 0, n => n
  | f + 1, n => if n < l ∧ 48 ≤ t n ∧ t n ≤ 57 then gp_dq t l f (n + 1) else n
def gp_dg (t : Nat → Int) (l n : Nat) : Nat := gp_dq t l (l - n) n
theorem gp_dg_s {t : Nat → Int} {l n : Nat} (h : n < l ∧ 48 ≤ t n ∧ t n ≤ 57) : gp_dg t l n = gp_dg t l (n + 1) := by
  unfold gp_dg
  rw [show l - n = (l - (n + 1)) + 1 by omega, gp_dq, if_pos h]
theorem gp_dg_e {t : Nat → Int} {l n : Nat} (h : ¬ (n < l ∧ 48 ≤ t n ∧ t n ≤ 57)) : gp_dg t l n = n := by
  unfold gp_dg
  cases l - n with
  | zero => rfl
  | succ f => rw [gp_dq, if_neg h]
theorem gp_dg_bd {t : Nat → Int} {l : Nat} : ∀ (j n : Nat), n + j = l → n ≤ gp_dg t l n ∧ gp_dg t l n ≤ l
  | 0, n, h => by
    have e : gp_dg t l n = n := gp_dg_e (by omega)
    rw [e]; exact ⟨Nat.le_refl n, by omega⟩
  | j + 1, n, h => by
    by_cases q : n < l ∧ 48 ≤ t n ∧ t n ≤ 57
    · have e := gp_dg_bd (t := t) (l := l) j (n + 1) (by omega)
      rw [← gp_dg_s q] at e
      exact ⟨by omega, e.2⟩
    · rw [gp_dg_e q]; exact ⟨Nat.le_refl n, by omega⟩
theorem gp_dg_le {t : Nat → Int} {l n : Nat} (h : n ≤ l) : n ≤ gp_dg t l n ∧ gp_dg t l n ≤ l := gp_dg_bd (t := t) (l - n) n (by omega)
/-- the number that some digits write -/
def gp_nx (t : Nat → Int) (p : Nat) : Nat → Int
  | 0 => 0
  | k + 1 => 10 * gp_nx t p k + t (p + k) - 48
def gp_rd (t : Nat → Int) (l n : Nat) (lo hi : Int) : Bool × Nat × Int :=
  if gp_sp t l n < gp_dg t l (gp_sp t l n) ∧ (t (gp_sp t l n) ≠ 48 ∨ gp_dg t l (gp_sp t l n) = gp_sp t l n + 1) ∧ (lo ≤ gp_nx t (gp_sp t l n) (gp_dg t l (gp_sp t l n) - gp_sp t l n) ∧ gp_nx t (gp_sp t l n) (gp_dg t l (gp_sp t l n) - gp_sp t l n) ≤ hi)
  then (true, gp_dg t l (gp_sp t l n), gp_nx t (gp_sp t l n) (gp_dg t l (gp_sp t l n) - gp_sp t l n)) else (false, gp_sp t l n, 0)
theorem gp_rd_bd {t : Nat → Int} {l n : Nat} {lo hi : Int} (h : n ≤ l) : n ≤ (gp_rd t l n lo hi).2.1 ∧ (gp_rd t l n lo hi).2.1 ≤ l ∧ ((gp_rd t l n lo hi).1 = true → lo ≤ (gp_rd t l n lo hi).2.2 ∧ (gp_rd t l n lo hi).2.2 ≤ hi) := by
  have h1 := gp_sp_le (t := t) h
  have h2 := gp_dg_le (t := t) h1.2
  unfold gp_rd
  by_cases q : gp_sp t l n < gp_dg t l (gp_sp t l n) ∧ (t (gp_sp t l n) ≠ 48 ∨ gp_dg t l (gp_sp t l n) = gp_sp t l n + 1) ∧ (lo ≤ gp_nx t (gp_sp t l n) (gp_dg t l (gp_sp t l n) - gp_sp t l n) ∧ gp_nx t (gp_sp t l n) (gp_dg t l (gp_sp t l n) - gp_sp t l n) ≤ hi)
  · rw [if_pos q]; dsimp only; exact ⟨by omega, by omega, fun _ => q.2.2⟩
  · rw [if_neg q]; dsimp only; exact ⟨by omega, by omega, fun w => by cases w⟩
/-- the text as it should be -/
def mo_x (I : ga_I) : Prop := (0 ≤ I 348 6 ∧ I 348 6 ≤ 160) ∧ (0 ≤ I 348 12 ∧ I 348 12 ≤ I 348 6) ∧ ∀ i : Nat, (i : Int) < I 348 6 → 1 ≤ I 352 i ∧ I 352 i ≤ 255
def mt_p (I : ga_I) : Nat := gp_sp (I 352) (I 348 6).toNat (I 348 12).toNat
def mt_hv (I : ga_I) : Int := if (mt_p I : Int) < I 348 6 then I 352 (mt_p I) else -1
theorem mt_p_bd (h : mo_x I) : I 348 12 ≤ (mt_p I : Int) ∧ (mt_p I : Int) ≤ I 348 6 := by
  have := gp_sp_le (t := I 352) (l := (I 348 6).toNat) (n := (I 348 12).toNat) (by have := h.2.1; omega)
  have h1 := h.1
  have h2 := h.2.1
  unfold mt_p
  omega
theorem mt_hv_bd (h : mo_x I) : -1 ≤ mt_hv I ∧ mt_hv I ≤ 255 := by
  unfold mt_hv
  by_cases q : (mt_p I : Int) < I 348 6
  · rw [if_pos q]; have := h.2.2 _ q; omega
  · rw [if_neg q]; omega
theorem l_Mo_here : ∀ (j : Nat) (I : ga_I), mo_x I → (I 348 12).toNat + j = (I 348 6).toNat → E (some (.inl (mt_hv I))) (ga_up I 348 12 (mt_p I : Nat)) → ga_W G d mt_Mo_here 0 (ga_en 1 [.inr 348]) [] I E := by
  have stop : ∀ I : ga_I, mo_x I → ¬ ((I 348 12).toNat < (I 348 6).toNat ∧ I 352 (I 348 12).toNat = 32) → mt_p I = (I 348 12).toNat ∧ ga_up I 348 12 (mt_p I : Nat) = I := fun I hx hn => by
    have e : mt_p I = (I 348 12).toNat := gp_sp_e hn
    refine ⟨e, ?_⟩
    rw [e, ga_up_uc, ns_up_id (by have := hx.2.1; omega), ga_uc_id]
  intro j
  induction j with
  | zero =>
    intro I hx hj h
    have hx2 := hx.2.1
    obtain ⟨p1, p2⟩ := stop I hx (by omega)
    rw [p2] at h
    unfold mt_hv at h
    rw [p1, if_neg (by omega)] at h
    exact k_Mo_here_0 (fun hI => ⟨fun q => ⟨fun q2 => h, fun q2 => absurd q q2⟩, fun q => by exfalso; omega⟩)
  | succ j ih =>
    intro I hx hj h
    have hx1 := hx.1
    have hx2 := hx.2.1
    refine k_Mo_here_0 (fun hI => ⟨fun q => by exfalso; omega, fun q => ⟨by omega, by omega, fun q2 => ⟨fun q3 => absurd q3 q, fun q3 => ?_⟩, fun q2 I1 e1 => ?_⟩⟩)
    · obtain ⟨p1, p2⟩ := stop I hx (fun w => q2 w.2)
      rw [p2] at h
      unfold mt_hv at h
      rw [p1, if_pos (by omega)] at h
      exact h
    · rw [ga_wr_eq ⟨by omega, by omega⟩] at e1
      have l1 : I1 348 6 = I 348 6 := by rw [e1, ga_up_nj (by omega)]
      have n1 : I1 348 12 = I 348 12 + 1 := by rw [e1, ga_up_at]
      have x1 : I1 352 = I 352 := by rw [e1, ga_up_fn (by omega)]
      have ep : mt_p I1 = mt_p I := by
        unfold mt_p
        rw [l1, n1, x1, gp_sp_s (n := (I 348 12).toNat) ⟨by omega, q2⟩, show (I 348 12 + 1).toNat = (I 348 12).toNat + 1 by omega]
      refine ih I1 ⟨by rw [l1]; exact hx1, by rw [l1, n1]; omega, by rw [l1, x1]; exact hx.2.2⟩ (by rw [l1, n1]; omega) ?_
      have ev : mt_hv I1 = mt_hv I := by unfold mt_hv; rw [ep, l1, x1]
      rw [ev, ep, e1]
      refine cast ?_ h
      congr 1
      rw [ga_up_uc, ga_up_uc, ga_up_uc, ga_uc_uc, ga_uc_at]
      congr 1
      funext i
      unfold ns_up
      by_cases w : i = 12
      · rw [if_pos w, if_pos w]
      · rw [if_neg w, if_neg w, if_neg w]
theorem s_Mo_here (hx : mo_x I) (h : E (some (.inl (mt_hv I))) (ga_up I 348 12 (mt_p I : Nat))) : ga_W G d mt_Mo_here 0 (ga_en 1 [.inr 348]) [] I E :=
  l_Mo_here ((I 348 6).toNat - (I 348 12).toNat) I hx (by have := hx.1; have := hx.2.1; omega) h
end MS
