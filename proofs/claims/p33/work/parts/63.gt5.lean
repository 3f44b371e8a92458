/-! the class: more calls that change something -/
section TH
variable {G : ga_G} {d : Nat} {I : ga_I} {E : Option ga_V → ga_I → Prop} {A : na_A}
theorem x_lock {op c r l : Int} (r1 : ga_rg op) (r2 : ga_rg c) (r3 : ga_rg r) (r4 : ga_rg l) (hx : rx I A) (hA : ni_a A) (h : nx_E E I (no_lock A op c r l)) : ga_W G (d + 5) mt_GT_lock 0 (ga_en 7 [.inr 0, .inl op, .inl c, .inl r, .inl l]) [] I E := by
  have hs := hA.1
  have hr := hx.1
  have hN := nk_lock (op := op) (c := c) (r := r) (l := l) hA
  unfold no_lock at h hN
  have n0 := ni_n hs.1 (ax := 0) (by omega)
  have n1 := ni_n hs.1 (ax := 1) (by omega)
  have e0 : I 3 0 = ms_n A.1 0 := hr.1.1.1
  have e1 : I 7 0 = ms_n A.1 1 := hr.1.2.1.1
  refine k_GT_lock_0 r1 r2 r3 r4 (fun hI => ?_)
  rw [e0, e1]
  refine ⟨fun q1 => nx_0 h hx (by rw [if_pos (fun w => q1 w.1)]), fun q1 => ⟨fun q2 => nx_0 h hx (by rw [if_pos (fun w => q2 w.2.1)]), fun q2 => ⟨fun q3 => ?_, fun q3 => nx_0 h hx (by rw [if_pos (fun w => q3 w.2.2)])⟩⟩⟩
  have hl := hs.1.2.2.2 (c * 7 + r).toNat (by omega)
  rw [show 38 + 4 * (c * 7 + r).toNat + 3 = (38 + 4 * (7 * c + r) + 3).toNat by omega] at hl
  have lkI : ∀ J : ga_I, rs J 1 A.1 → J 12 (c * 7 + r).toNat = rt_l (A.1 (38 + 4 * (7 * c + r) + 3).toNat) := fun J hJ => by
    have := hJ.1.2.2.2 (c * 7 + r).toNat (by omega)
    rw [show 38 + 4 * (c * 7 + r).toNat + 3 = (38 + 4 * (7 * c + r) + 3).toNat by omega] at this
    exact this
  have bad : A.1 (38 + 4 * (7 * c + r) + 3).toNat ≠ (if l = 1 then -1 else op) → E (some (.inl (-2000000002))) I := fun q => nx_0 h hx (by rw [if_neg (fun w => w ⟨q1, q2, q3⟩), if_pos q])
  have go : ∀ (I1 I2 : ga_I) (y : Int), gr_kp I I1 → y = (if l = 1 then op else -1) → A.1 (38 + 4 * (7 * c + r) + 3).toNat = (if l = 1 then -1 else op) → I2 = ga_up I1 (2 + 10) (c * 7 + r).toNat (rt_l y) → gt_n I2 2 ∧ ∀ z2 : Int, z2 = gp_tt (gp_lk (I2 (2 + 10)) op) ((I2 (2 + 1) 0).toNat + 1) ((I2 (2 + 5) 0).toNat + 1) → E (some (.inl z2)) I2 := fun I1 I2 y c1 hy ha e2 => by
    have hr1 := kp_rs hr c1
    have o2 : ∀ a, a ≠ 12 → I2 a = I1 a := fun a ha => by rw [e2, ga_up_fn ha]
    have hy2 : -1 ≤ y ∧ y ≤ 2 := by
      rw [hy]
      by_cases u : l = 1
      · rw [if_pos u]; omega
      · rw [if_neg u]; omega
    rw [← hy] at h hN
    have os : ∀ j, j ≠ (38 + 4 * (7 * c + r) + 3).toNat → ns_up A.1 (38 + 4 * (7 * c + r) + 3).toNat y j = A.1 j := fun j hj => ns_up_ne hj
    have nn : ni_s (ns_up A.1 (38 + 4 * (7 * c + r) + 3).toNat y) := by
      have := hN
      rw [if_neg (fun w => w ⟨q1, q2, q3⟩), if_neg (fun w => w ha)] at this
      exact this.1
    have T : rt I2 2 (ns_up A.1 (38 + 4 * (7 * c + r) + 3).toNat y) := by
      refine ⟨rt_b_row (by omega) n0.2 (fun j hj => os j (by omega)) (rt_b_of (fun a w1 w2 => o2 a (by omega)) hr1.1.1), rt_b_row (by omega) n1.2 (fun j hj => os j (by omega)) (rt_b_of (fun a w1 w2 => o2 a (by omega)) hr1.1.2.1), fun g i hg hi => ?_, fun g hg => ?_⟩
      · rw [o2 _ (by omega), os _ (by omega)]; exact hr1.1.2.2.1 g i hg hi
      · rw [e2]
        by_cases w : g = (c * 7 + r).toNat
        · rw [w, ga_up_at, show 38 + 4 * (c * 7 + r).toNat + 3 = (38 + 4 * (7 * c + r) + 3).toNat by omega, ns_up_at]
        · rw [ga_up_nj w, os _ (by omega)]; exact hr1.1.2.2.2 g hg
    refine ⟨rt_gn nn.1 T, fun z2 f2 => ?_⟩
    have f2' : z2 = ns_lo (ns_up A.1 (38 + 4 * (7 * c + r) + 3).toNat y) op := f2.trans (rt_lk nn.1 q1 T)
    refine nx_u h hA hx hN c1 (fun a ha => o2 a (by omega)) (rs_gen hs hr1 T ?_ ?_ (fun k hk => ?_) (fun a ha => ?_) (fun a ha => o2 a (by omega)) ?_ (fun j hj => os j (by omega))) (by rw [if_neg (fun w => w ⟨q1, q2, q3⟩), if_neg (fun w => w ha), f2'])
    · rw [o2 _ (by omega), os _ (by omega), os _ (by omega)]; exact hr1.2.2.2.1
    · rw [o2 _ (by omega), os _ (by omega)]; exact hr1.2.2.2.2.1
    · rw [o2 _ (by omega), o2 _ (by omega), o2 _ (by omega), os _ (by omega), os _ (by omega), os _ (by omega)]; exact hr1.2.2.2.2.2.2.2.2.1 k hk
    · rw [o2 _ (by omega), os _ (by omega)]; exact hr1.2.2.2.2.2.2.2.2.2 a ha
    · rw [o2 _ (by omega)]; exact ⟨rfl, rfl⟩
  have l1 : rt_l (-1) = -2000000009 := if_pos rfl
  have l2 : rt_l op = op := if_neg (by omega)
  have li := lkI I hr
  refine ⟨fun q4 => ⟨by omega, fun z1 f1 => ?_⟩, fun q4 => ⟨by omega, fun z1 f1 => ?_⟩⟩
  · have f1' : z1 = rt_l (A.1 (38 + 4 * (7 * c + r) + 3).toNat) := f1.trans li
    unfold rt_l at f1'
    refine ⟨fun q5 => ⟨hx.2.1, fun I1 c1 => ⟨fun _ I2 e2 => ?_, fun q => absurd q q4⟩⟩, fun q5 => bad (fun u => q5 ?_)⟩
    · refine go I1 I2 (-1) c1 (by rw [if_neg q4]) ?_ (by rw [l1]; exact e2)
      rw [if_neg q4]
      by_cases u : A.1 (38 + 4 * (7 * c + r) + 3).toNat = -1
      · rw [if_pos u] at f1'; omega
      · rw [if_neg u] at f1'; omega
    · rw [if_neg q4] at u
      rw [f1', if_neg (by omega), u]
  · have f1' : z1 = rt_l (A.1 (38 + 4 * (7 * c + r) + 3).toNat) := f1.trans li
    unfold rt_l at f1'
    refine ⟨fun q5 => ⟨hx.2.1, fun I1 c1 => ⟨fun q => absurd q4 q, fun _ I2 e2 => ?_⟩⟩, fun q5 => bad (fun u => q5 ?_)⟩
    · refine go I1 I2 op c1 (by rw [if_pos q4]) ?_ (by rw [l2]; exact e2)
      rw [if_pos q4]
      by_cases u : A.1 (38 + 4 * (7 * c + r) + 3).toNat = -1
      · exact u
      · rw [if_neg u] at f1'; omega
    · rw [if_pos q4] at u
      rw [f1', if_pos u]
theorem x_take {p : Int} (r1 : ga_rg p) (hx : rx I A) (hA : ni_a A) (h : nx_E E I (no_take A p)) : ga_W G (d + 5) mt_GT_take 0 (ga_en 2 [.inr 0, .inl p]) [] I E := by
  have hs := hA.1
  have hr := hx.1
  have hN := nk_take (p := p) hA
  unfold no_take at h hN
  refine k_GT_take_0 r1 (fun hI => ⟨fun q1 => ⟨hx.2.1, fun I1 c1 => ?_⟩, fun q1 => nx_0 h hx (by rw [if_pos q1])⟩)
  have hr1 := kp_rs hr c1
  have esn : ga_sn 1 p = 13 + 11 * p.toNat := by
    unfold ga_sn
    rcases (show p = 0 ∨ p = 1 ∨ p = 2 by omega) with e | e | e <;> subst e <;> rfl
  rw [esn]
  refine ⟨by omega, fun I2 c2 => ⟨by omega, by omega, fun I3 e3 z1 f1 => ?_⟩⟩
  have o2 : ∀ a, a < 13 + 11 * p.toNat ∨ 13 + 11 * p.toNat + 11 ≤ a → I2 a = I1 a := fun a ha => c2.2 a ha
  have o3 : ∀ a, a ≠ 46 → I3 a = I2 a := fun a ha => by rw [e3, ga_up_fn ha]
  have lo : ∀ j, j < 415 → ns_tk A.1 p.toNat j = A.1 j := fun j hj => by unfold ns_tk; rw [if_neg (by omega), if_neg (by omega)]
  have f1' : z1 = ns_rg A.1 := by
    rw [f1, o3 _ (by omega), o3 _ (by omega), o2 _ (by omega), o2 _ (by omega)]
    unfold ns_rg
    have a := hr1.1.1.1
    have b := hr1.1.2.1.1
    rw [← a, ← b]
  have hr1' := hr1
  obtain ⟨h1, h2, h3, h4, h5, h6, h7, h8, h9, h10⟩ := hr1'
  refine nx_u h hA hx hN c1 (fun a ha => (o3 a (by omega)).trans (o2 a (by omega))) ?_ (by rw [if_neg (fun w => w q1), f1'])
  have ff : ∀ a, a ≠ 46 → (a < 13 + 11 * p.toNat ∨ 13 + 11 * p.toNat + 11 ≤ a) → I3 a = I1 a := fun a w1 w2 => (o3 a w1).trans (o2 a w2)
  refine ⟨rt_row hs.1 (fun j hj => lo j (by omega)) (rt_of (fun a w1 w2 => ff a (by omega) (by omega)) h1), fun k hk => ?_, ?_, ?_, ?_, ?_, ?_, ?_, fun k hk => ?_, fun a ha => ?_⟩
  · by_cases e : k = p.toNat
    · subst e
      refine ⟨by rw [e3]; unfold ns_tk; rw [if_pos rfl]; exact ga_up_at, fun _ => ?_⟩
      have t2 : rt I2 (13 + 11 * p.toNat) A.1 := rt_cp hs.1 c2.1 h1
      refine rt_row hs.1 (fun j hj => ?_) (rt_of (fun a w1 w2 => o3 a (by omega)) t2)
      unfold ns_tk
      rw [if_neg (by omega), if_pos (by omega)]
      exact congrArg A.1 (by omega)
    · have ek : ∀ j, j < 235 → ns_tk A.1 p.toNat (415 + 235 * k + j) = A.1 (415 + 235 * k + j) := fun j hj => by unfold ns_tk; rw [if_neg (by omega), if_neg (by omega)]
      have e0 := ek 0 (by omega)
      rw [Nat.add_zero] at e0
      rw [e0]
      refine ⟨?_, fun q => ?_⟩
      · rw [e3]
        have : ga_up I2 46 p.toNat 1 (1 + 45) k = I2 46 k := ga_up_nj e
        rw [this, o2 _ (by omega)]; exact (h2 k hk).1
      · refine rt_row ((hs.2.2.2.2 k hk).2 q) (fun j hj => ?_) (rt_of (fun a w1 w2 => ff a (by omega) (by omega)) ((h2 k hk).2 q))
        have := ek (j + 1) (by omega)
        rw [show 415 + 235 * k + (j + 1) = 416 + 235 * k + j by omega] at this
        exact this
  · rw [ff _ (by omega) (by omega), lo _ (by omega), lo _ (by omega)]; exact h3
  · rw [ff _ (by omega) (by omega), lo _ (by omega), lo _ (by omega)]; exact h4
  · rw [ff _ (by omega) (by omega), lo _ (by omega)]; exact h5
  · have hn := hs.2.2.2.1
    unfold rs_p
    rw [ff _ (by omega) (by omega), ff _ (by omega) (by omega), lo 254 (by omega)]
    exact ⟨h6.1, h6.2.1, fun b w hb hw => by rw [lo _ (by omega)]; exact h6.2.2 b w hb hw⟩
  · rw [ff _ (by omega) (by omega), lo _ (by omega)]; exact h7
  · rw [ff _ (by omega) (by omega), lo _ (by omega)]; exact h8
  · rw [ff _ (by omega) (by omega), ff _ (by omega) (by omega), ff _ (by omega) (by omega), lo _ (by omega), lo _ (by omega), lo _ (by omega)]; exact h9 k hk
  · rw [ff _ (by omega) (by omega), lo _ (by omega)]; exact h10 a ha
/-- another table in the place of the present one -/
theorem rs_rt {I1 I2 : ga_I} {s s' : Nat → Int} {o : Nat} (hs : ni_s s) (hr : rs I1 1 s) (ht : ni_t s') (T : rt I1 o s') (e : ∀ j, 234 ≤ j → s' j = s j) (c : gr_rt I1 I2 1 o) : rs I2 1 (ns_st s' (ns_tt s)) ∧ ∀ a, 55 ≤ a → I2 a = I1 a := by
  obtain ⟨J, c1, eJ⟩ := c
  have hz : gp_tt (gp_g3 (I1 (1 + 10))) ((I1 (1 + 2) 0).toNat + 1) ((I1 (1 + 6) 0).toNat + 1) = ns_tt s := rt_g3 hs.1 hr.1
  rw [hz] at eJ
  have T2 : rt J 2 s' := rt_cp ht c1.1 T
  obtain ⟨u1, u2⟩ := rs_st (z := ns_tt s) hs hr T2 ht e (fun a ha => c1.2 a (by omega))
  rw [eJ]
  exact ⟨u1, fun a ha => (u2 a (by omega) (by omega)).trans (c1.2 a (by omega))⟩
theorem x_restore {p : Int} (r1 : ga_rg p) (hx : rx I A) (hA : ni_a A) (h : nx_E E I (no_restore A p)) : ga_W G (d + 5) mt_GT_restore 0 (ga_en 2 [.inr 0, .inl p]) [] I E := by
  have hs := hA.1
  have hr := hx.1
  have hN := nk_restore (p := p) hA
  unfold no_restore at h hN
  refine k_GT_restore_0 r1 (fun hI => ⟨fun q1 => ⟨by omega, by omega, fun q2 => ⟨hx.2.1, fun I1 c1 => ?_⟩, fun q2 => ?_⟩, fun q1 => nx_0 h hx (by rw [if_pos q1])⟩)
  · have hr1 := kp_rs hr c1
    have t0 : I 46 p.toNat = A.1 (415 + 235 * p.toNat) := (hr.2.1 p.toNat (by omega)).1
    rw [t0] at q2
    have hp := hs.2.2.2.2 p.toNat (by omega)
    have q3 : A.1 (415 + 235 * p.toNat) = 1 := by omega
    have esn : ga_sn 1 p = 13 + 11 * p.toNat := by
      unfold ga_sn
      rcases (show p = 0 ∨ p = 1 ∨ p = 2 by omega) with e | e | e <;> subst e <;> rfl
    rw [esn]
    have T0 : rt I1 (13 + 11 * p.toNat) (fun j => A.1 (416 + 235 * p.toNat + j)) := (hr1.2.1 p.toNat (by omega)).2 q3
    have ht0 := hp.2 q3
    have er : ∀ j, j < 234 → ns_rs A.1 p.toNat j = A.1 (416 + 235 * p.toNat + j) := fun j hj => by unfold ns_rs; rw [if_pos hj]
    have ht : ni_t (ns_rs A.1 p.toNat) := ni_t_of er ht0
    have T : rt I1 (13 + 11 * p.toNat) (ns_rs A.1 p.toNat) := rt_row ht0 er T0
    have ok := rs_ok hs hr1
    refine ⟨by omega, ok.1, ok.2, rt_b_ok T.1 ht.1, rt_b_ok T.2.1 ht.2.1, fun I2 c2 z1 f1 => ?_⟩
    obtain ⟨u1, u2⟩ := rs_rt hs hr1 ht T (fun j hj => by unfold ns_rs; rw [if_neg (by omega)]) c2
    have f1' : z1 = ns_rg (ns_rs A.1 p.toNat) := by
      have a := u1.1.1.1
      have b := u1.1.2.1.1
      change I2 3 0 = ns_st (ns_rs A.1 p.toNat) (ns_tt A.1) 0 at a
      change I2 7 0 = ns_st (ns_rs A.1 p.toNat) (ns_tt A.1) 19 at b
      rw [ns_st_o (by omega)] at a b
      rw [f1]
      show (I2 3 0 + 1) * (I2 7 0 + 1) = (ns_rs A.1 p.toNat 0 + 1) * (ns_rs A.1 p.toNat 19 + 1)
      rw [a, b]
    exact nx_u h hA hx hN c1 (fun a ha => u2 a (by omega)) u1 (by rw [if_neg (fun w => w q1), if_neg q2, f1'])
  · have t0 : I 46 p.toNat = A.1 (415 + 235 * p.toNat) := (hr.2.1 p.toNat (by omega)).1
    rw [t0] at q2
    exact nx_0 h hx (by rw [if_neg (fun w => w q1), if_pos q2])
theorem x_undo (hx : rx I A) (hA : ni_a A) (h : nx_E E I (no_undo A)) : ga_W G (d + 5) mt_GT_undo 0 (ga_en 1 [.inr 0]) [] I E := by
  have hm := hx.2.2.1
  refine k_GT_undo_0 (fun hI => ⟨fun q1 => ⟨hx.2.1, ?_, fun I1 c1 => ?_⟩, fun q1 => nx_0 h hx (by unfold no_undo; rw [if_pos (by rw [← hm]; exact q1)])⟩)
  · have := hx.2.1.1; omega
  · have hm0 : A.2.2.1 ≠ 0 := by rw [← hm]; exact q1
    have r := rx_bb hA hx hm0 c1
    have e : (no_undo A).2 = I1 55 0 := by
      rw [c1.1, hm]; unfold no_undo; rw [if_neg hm0]
    rw [← e]
    exact h I1 r (fun a ha => c1.2.2.2 a (by omega) (by omega))
theorem x_append {c : Int} (r1 : ga_rg c) (hx : rx I A) (hA : ni_a A) (h : nx_E E I (no_append A c)) : ga_W G (d + 1) mt_GT_append 0 (ga_en 2 [.inr 0, .inl c]) [] I E := by
  have hl := hA.2.2.2.1
  have hL := hx.2.2.2.2.1
  unfold no_append at h
  refine k_GT_append_0 r1 (fun hI => ⟨fun q1 => ⟨fun q2 => ⟨by omega, by omega, ⟨by omega, by omega⟩, q2, by omega, fun I1 e1 => ?_⟩, fun q2 => nx_0 h hx (by rw [if_neg (fun w => w q1), if_pos (by omega)])⟩, fun q1 => nx_0 h hx (by rw [if_pos q1])⟩)
  rw [if_neg (fun w => w q1), if_neg (by omega)] at h
  have o : ∀ a, a ≠ 327 → a ≠ 328 → I1 a = I a := fun a h1 h2 => by rw [e1, ga_up_fn h1, ga_up_fn h2]
  have el : I1 327 0 = A.2.2.2.2 + 1 := by rw [e1, ga_up_at, hL]
  rw [el]
  refine h I1 ?_ (fun a ha => o a (by omega) (by omega))
  obtain ⟨h1, ⟨H1, H2, H3, H4⟩, h3, h4, h5, h6⟩ := hx
  refine ⟨rs_of (fun a w1 w2 => o a (by omega) (by omega)) h1, ⟨by rw [o 55 (by omega) (by omega)]; exact H1, by rw [o 55 (by omega) (by omega)]; exact H2, by rw [o 46 (by omega) (by omega)]; exact H3, fun i hi j hj => by rw [o _ (by omega) (by omega)]; exact H4 i hi j hj⟩, by rw [o 55 (by omega) (by omega)]; exact h3, fun i hi => ?_, el, ?_⟩
  · rw [o 55 (by omega) (by omega)]
    have hi5 := hA.2.1
    exact rs_of (fun a w1 w2 => o a (by omega) (by omega)) (h4 i hi)
  · show I1 328 = ns_up A.2.2.2.1 A.2.2.2.2.toNat c
    rw [e1, ga_up_fn (by omega), ga_up_uc, ga_uc_at, h6, hL]
end TH
