/-! the class: what is asked, its loops -/
section TK
variable {G : ga_G} {d : Nat} {I : ga_I} {E : Option ga_V → ga_I → Prop} {A : na_A}
theorem x_effect {x y : Int} (r1 : ga_rg x) (r2 : ga_rg y) (hx : rx I A) (hA : ni_a A) (h : nx_E E I (no_effect A x y)) : ga_W G (d + 4) mt_GT_effect 0 (ga_en 5 [.inr 0, .inl x, .inl y]) [] I E := by
  have hs := hA.1
  have hr := hx.1
  have hp := hs.2.1
  unfold no_effect na_effect at h
  have ok := rs_ok hs hr
  have pt := rs_pt hs hr
  have hz6 := ns_zo_10 hs
  have hr' := hr
  obtain ⟨m1, m2, m3, m4, m5, -⟩ := hr'
  refine k_GT_effect_0 r1 r2 (fun hI => ⟨fun q1 => nx_0 h hx (by rw [if_pos (fun w => q1 w.1)]), fun q1 => ⟨fun q2 => ⟨pt, q1, q2, fun q3 => ?_, fun q3 => ?_⟩, fun q2 => nx_0 h hx (by rw [if_pos (fun w => q2 w.2)])⟩⟩)
  · rw [m3.1, m3.2, m5] at q3
    have q3 : ¬ na_ig A.1 x y := q3
    rw [if_neg (fun w => w ⟨q1, q2⟩), if_neg q3] at h
    have ezz : I 48 0 = A.1 236 ∧ I 48 1 = A.1 237 := m4
    have epp : I 47 0 = A.1 234 ∧ I 47 1 = A.1 235 := m3
    have hs1 := ni_go hs q1 q2
    have hz1 := ns_zo_10 hs1
    have hp1 := hs1.2.1
    refine ⟨ok.1, by rw [ezz.1]; omega, fun z1 f1 => ⟨ok.2, by rw [ezz.2]; omega, fun z2 f2 => ?_⟩⟩
    have a1 : z1 = ns_go A.1 x y 236 := by
      have e := rt_za m1.1 (I 48 0) x
      rw [ns_go_v.2.2.1, ← ezz.1, ← e]; exact f1
    have a2 : z2 = ns_go A.1 x y 237 := by
      have e := rt_za m1.2.1 (I 48 1) y
      rw [ns_go_v.2.2.2, ← ezz.2, ← e]; exact f2
    refine ⟨by rw [ezz.1]; omega, by rw [ezz.2]; omega, by rw [epp.1]; exact hp.1, by rw [epp.2]; exact hp.2, fun I1 e1 => ?_⟩
    have o1 : ∀ a, a ≠ 344 ∧ a ≠ 345 → I1 a = I a := fun a ha => by rw [e1, gx_bp_o ha]
    obtain ⟨b0, b1⟩ := gx_bp_rt hs.1 m1 epp ezz
    rw [← e1] at b0 b1
    have rt1 : rt I1 2 A.1 := rt_of (fun a w1 w2 => o1 a (by omega)) m1
    obtain ⟨k0, k1, -⟩ := gv_rt (g := 0) hs.1 rt1 b0 b1 hp.1 hp.2 (by omega)
    refine ⟨Or.inl rfl, k0, k1, gr_gn_rt hs.1 rt1, fun I2 e2 => ?_⟩
    have o2 : ∀ a, a ≠ 344 ∧ a ≠ 345 ∧ a ≠ 346 → I2 a = I a := fun a ha => by
      rw [e2]; unfold gx_nv; rw [ga_up_fn ha.2.2, ga_up_fn ha.2.2, ga_up_fn ha.2.2]; exact o1 a ⟨ha.1, ha.2.1⟩
    have v2 : I2 346 0 = mp_pv A.1 0 ∧ I2 346 1 = mp_pv A.1 1 ∧ I2 346 2 = mp_pv A.1 2 := by
      have w : ∀ g : Int, 0 ≤ g ∧ g ≤ 2 → gv_i I1 g = mp_pv A.1 g := fun g hg => (gv_rt (g := g) hs.1 rt1 b0 b1 hp.1 hp.2 hg).2.2
      rw [e2]
      unfold gx_nv
      refine ⟨?_, ?_, ?_⟩
      · rw [ga_up_nj (by omega), ga_up_nj (by omega), ga_up_at]; exact w 0 (by omega)
      · rw [ga_up_nj (by omega), ga_up_at]; exact w 1 (by omega)
      · rw [ga_up_at]; exact w 2 (by omega)
    have rt2 : rt I2 2 (ns_go A.1 x y) := rt_row hs.1 (fun j hj => ns_go_o (by omega)) (rt_of (fun a w1 w2 => o2 a (by omega)) m1)
    refine ⟨rt_b_ok rt2.1 hs1.1.1, by rw [a1]; omega, fun I3 e3 => ?_⟩
    have o3 : ∀ a, a ≠ 344 → I3 a = I2 a := fun a ha => by rw [e3, gx_bl_o ha]
    have rt3 : rt I3 2 (ns_go A.1 x y) := rt_of (fun a w1 w2 => o3 a (by omega)) rt2
    refine ⟨rt_b_ok rt3.2.1 hs1.1.2.1, by rw [a2]; omega, fun I4 e4 => ?_⟩
    have o4 : ∀ a, a ≠ 345 → I4 a = I3 a := fun a ha => by rw [e4, gx_bl_o ha]
    have rt4 : rt I4 2 (ns_go A.1 x y) := rt_of (fun a w1 w2 => o4 a (by omega)) rt3
    have c0 : gl_v I4 344 = mp_f (ns_go A.1 x y) 0 (ns_go A.1 x y 236) (ns_go A.1 x y 234) := by
      have e := rt_fi rt2.1 (ns_go A.1 x y 236) (ns_go A.1 x y 234)
      rw [gl_v_o (o4 344 (by omega)), e3, gl_v_bl, ← e, a1, ns_go_v.1]
    have c1 : gl_v I4 345 = mp_f (ns_go A.1 x y) 1 (ns_go A.1 x y 237) (ns_go A.1 x y 235) := by
      have e := rt_fi rt3.2.1 (ns_go A.1 x y 237) (ns_go A.1 x y 235)
      rw [e4, gl_v_bl, ← e, a2, ns_go_v.2.1]
    obtain ⟨k4, k5, -⟩ := gv_rt (g := 0) hs1.1 rt4 c0 c1 hp1.1 hp1.2 (by omega)
    refine ⟨Or.inr rfl, k4, k5, gr_gn_rt hs1.1 rt4, fun I5 e5 => ?_⟩
    have o5 : ∀ a, a ≠ 347 → I5 a = I4 a := fun a ha => by
      rw [e5]; unfold gx_nv; rw [ga_up_fn ha, ga_up_fn ha, ga_up_fn ha]
    have v5 : I5 347 0 = mp_pv (ns_go A.1 x y) 0 ∧ I5 347 1 = mp_pv (ns_go A.1 x y) 1 ∧ I5 347 2 = mp_pv (ns_go A.1 x y) 2 := by
      have w : ∀ g : Int, 0 ≤ g ∧ g ≤ 2 → gv_i I4 g = mp_pv (ns_go A.1 x y) g := fun g hg => (gv_rt (g := g) hs1.1 rt4 c0 c1 hp1.1 hp1.2 hg).2.2
      rw [e5]
      unfold gx_nv
      refine ⟨?_, ?_, ?_⟩
      · rw [ga_up_nj (by omega), ga_up_nj (by omega), ga_up_at]; exact w 0 (by omega)
      · rw [ga_up_nj (by omega), ga_up_at]; exact w 1 (by omega)
      · rw [ga_up_at]; exact w 2 (by omega)
    have u5 : I5 346 = I2 346 := by rw [o5 346 (by omega), o4 346 (by omega), o3 346 (by omega)]
    have l5 : ∀ a, a < 344 ∨ 348 ≤ a → I5 a = I a := fun a ha => by rw [o5 a (by omega), o4 a (by omega), o3 a (by omega), o2 a (by omega)]
    have z5 : I5 48 0 = A.1 236 ∧ I5 48 1 = A.1 237 := by rw [l5 48 (by omega)]; exact ezz
    have bd : ∀ i : Nat, i < 3 → (0 ≤ I5 346 i ∧ I5 346 i ≤ 9999) ∧ (0 ≤ I5 347 i ∧ I5 347 i ≤ 9999) := fun i hi => by
      rw [u5]
      rcases (show i = 0 ∨ i = 1 ∨ i = 2 by omega) with w | w | w <;> subst w
      · rw [v2.1, v5.1]; exact ⟨ni_pv hs (by omega), ni_pv hs1 (by omega)⟩
      · rw [v2.2.1, v5.2.1]; exact ⟨ni_pv hs (by omega), ni_pv hs1 (by omega)⟩
      · rw [v2.2.2, v5.2.2]; exact ⟨ni_pv hs (by omega), ni_pv hs1 (by omega)⟩
    have hby := ns_by_bd hs hs1
    have ej : gp_j3 ((I5 347 0 - I5 346 0).natAbs : Int) ((I5 347 1 - I5 346 1).natAbs : Int) ((I5 347 2 - I5 346 2).natAbs : Int) = ns_by A.1 (ns_go A.1 x y) := by
      rw [u5, v2.1, v2.2.1, v2.2.2, v5.1, v5.2.1, v5.2.2]; rfl
    rw [ej, z5.1, z5.2]
    have fin : ∀ z : Int, z = 1 + (if ns_go A.1 x y 236 = A.1 236 then 0 else 2) + (if ns_go A.1 x y 237 = A.1 237 then 0 else 4) + (if ns_by A.1 (ns_go A.1 x y) ≤ 0 then 0 else 8) → E (some (.inl z)) I5 := fun z hz =>
      nx_q h hx (fun a ha => l5 a (by omega)) (by rw [hz])
    have rg1 : ga_rg z1 := by rw [a1]; exact ⟨by omega, by omega⟩
    have rg2 : ga_rg z2 := by rw [a2]; exact ⟨by omega, by omega⟩
    refine ⟨rg1, fun w1 => ⟨rg2, fun w2 => ⟨bd, fun z3 f3 => ⟨⟨by omega, by omega⟩, fun w3 => ?_, fun w3 => ?_⟩⟩, fun w2 => ⟨bd, fun z3 f3 => ⟨⟨by omega, by omega⟩, fun w3 => ?_, fun w3 => ?_⟩⟩⟩, fun w1 => ⟨rg2, fun w2 => ⟨bd, fun z3 f3 => ⟨⟨by omega, by omega⟩, fun w3 => ?_, fun w3 => ?_⟩⟩, fun w2 => ⟨bd, fun z3 f3 => ⟨⟨by omega, by omega⟩, fun w3 => ?_, fun w3 => ?_⟩⟩⟩⟩
    · exact fin _ (by rw [if_pos (a1.symm.trans w1), if_pos (a2.symm.trans w2), if_pos (by omega)])
    · exact fin _ (by rw [if_pos (a1.symm.trans w1), if_pos (a2.symm.trans w2), if_neg (by omega)])
    · exact fin _ (by rw [if_pos (a1.symm.trans w1), if_neg (fun u => w2 (a2.trans u)), if_pos (by omega)])
    · exact fin _ (by rw [if_pos (a1.symm.trans w1), if_neg (fun u => w2 (a2.trans u)), if_neg (by omega)])
    · exact fin _ (by rw [if_neg (fun u => w1 (a1.trans u)), if_pos (a2.symm.trans w2), if_pos (by omega)])
    · exact fin _ (by rw [if_neg (fun u => w1 (a1.trans u)), if_pos (a2.symm.trans w2), if_neg (by omega)])
    · exact fin _ (by rw [if_neg (fun u => w1 (a1.trans u)), if_neg (fun u => w2 (a2.trans u)), if_pos (by omega)])
    · exact fin _ (by rw [if_neg (fun u => w1 (a1.trans u)), if_neg (fun u => w2 (a2.trans u)), if_neg (by omega)])
  · rw [m3.1, m3.2, m5] at q3
    have q3 : na_ig A.1 x y := q3
    exact nx_0 h hx (by rw [if_neg (fun w => w ⟨q1, q2⟩), if_pos q3])
/-- steepest: the greatest step so far, as the class holds it -/
def na_sc (s : Nat → Int) (ax g : Int) (m : Nat) : Int × Int := (max 0 (na_sp s ax g m).1, (na_sp s ax g m).2)
theorem na_sp_nn (s : Nat → Int) (ax g : Int) (m : Nat) : 0 ≤ (na_sp s ax g (m + 1)).1 := by
  unfold na_sp
  by_cases q : ((na_vs s ax g ((m : Int) + 1) - na_vs s ax g (m : Int)).natAbs : Int) ≤ (na_sp s ax g m).1
  · rw [if_pos q]; omega
  · rw [if_neg q]; show (0 : Int) ≤ ((na_vs s ax g ((m : Int) + 1) - na_vs s ax g (m : Int)).natAbs : Int); omega
theorem na_sc_s (s : Nat → Int) (ax g : Int) (m : Nat) : (((na_vs s ax g ((m : Int) + 1) - na_vs s ax g (m : Int)).natAbs : Int) ≤ (na_sc s ax g m).1 → na_sc s ax g (m + 1) = na_sc s ax g m) ∧ (¬ ((na_vs s ax g ((m : Int) + 1) - na_vs s ax g (m : Int)).natAbs : Int) ≤ (na_sc s ax g m).1 → na_sc s ax g (m + 1) = (((na_vs s ax g ((m : Int) + 1) - na_vs s ax g (m : Int)).natAbs : Int), (m : Int))) := by
  have e : ∀ v : Int × Int, na_sp s ax g (m + 1) = v → na_sc s ax g (m + 1) = (max 0 v.1, v.2) := fun v hv => by unfold na_sc; rw [hv]
  have hd : (na_sc s ax g m).1 = max 0 (na_sp s ax g m).1 := rfl
  by_cases q : ((na_vs s ax g ((m : Int) + 1) - na_vs s ax g (m : Int)).natAbs : Int) ≤ (na_sp s ax g m).1
  · have e1 := e (na_sp s ax g m) (by rw [na_sp, if_pos q])
    exact ⟨fun _ => e1, fun w => by exfalso; omega⟩
  · have e1 := e _ (by rw [na_sp, if_neg q])
    rw [e1]
    refine ⟨fun w => ?_, fun w => ?_⟩
    · cases m with
      | zero =>
        have e0 : (na_sc s ax g 0) = (0, 0) := rfl
        rw [e0] at w ⊢
        have w' : ((na_vs s ax g (((0 : Nat) : Int) + 1) - na_vs s ax g ((0 : Nat) : Int)).natAbs : Int) = 0 := by
          change _ ≤ (0 : Int) at w
          omega
        show (max 0 ((na_vs s ax g (((0 : Nat) : Int) + 1) - na_vs s ax g ((0 : Nat) : Int)).natAbs : Int), ((0 : Nat) : Int)) = (0, 0)
        rw [w']; rfl
      | succ k =>
        have := na_sp_nn s ax g k
        exfalso; omega
    · show (max 0 ((na_vs s ax g ((m : Int) + 1) - na_vs s ax g (m : Int)).natAbs : Int), (m : Int)) = _
      rw [Int.max_eq_right (by omega)]
theorem na_sc_1000 (s : Nat → Int) (ax g : Int) : na_sc s ax g 1000 = na_sp s ax g 1000 := by
  have := na_sp_nn s ax g 999
  unfold na_sc
  rw [Int.max_eq_right this]
theorem na_sc_bd {s : Nat → Int} (hs : ni_s s) {ax g : Int} (hg : 0 ≤ g ∧ g ≤ 2) (m : Nat) (hm : m ≤ 1000) : 0 ≤ (na_sc s ax g m).1 ∧ (na_sc s ax g m).1 ≤ 9999 := by
  have := na_sp_bd hs (ax := ax) hg m hm
  show 0 ≤ max 0 (na_sp s ax g m).1 ∧ max 0 (na_sp s ax g m).1 ≤ 9999
  omega
/-- the blend of the axis that stays -/
def sv_o (I : ga_I) (s : Nat → Int) (ax : Int) : Prop := (ax = 0 → gl_v I 345 = mp_f s 1 (ns_zo s 1 (s 235)) (s 235)) ∧ (ax = 1 → gl_v I 344 = mp_f s 0 (ns_zo s 0 (s 234)) (s 234))
def sv_n (ax : Int) : Nat := if ax = 0 then 344 else 345
theorem sv_rt {s : Nat → Int} {ax g c : Int} (hs : ni_s s) (ha : 0 ≤ ax ∧ ax ≤ 1) (hr : rt I 2 s) (ho : sv_o I s ax) (hl : gl_v I (sv_n ax) = mp_f s ax (ns_zo s ax c) c) (hc : 0 ≤ c ∧ c ≤ 1000) (hg : 0 ≤ g ∧ g ≤ 2) : gp_vk (gl_v I 344) ∧ gp_vk (gl_v I 345) ∧ gr_gn I 2 ∧ gv_i I g = na_vs s ax g c := by
  have hp := hs.2.1
  have gg := gr_gn_rt hs.1 hr
  rcases (show ax = 0 ∨ ax = 1 by omega) with w | w <;> subst w
  · obtain ⟨k0, k1, kv⟩ := gv_rt (g := g) hs.1 hr hl (ho.1 rfl) hc hp.2 hg
    exact ⟨k0, k1, gg, kv⟩
  · obtain ⟨k0, k1, kv⟩ := gv_rt (g := g) hs.1 hr (ho.2 rfl) hl hp.1 hc hg
    exact ⟨k0, k1, gg, kv⟩
theorem l_GT_steepest {s : Nat → Int} {ax g w : Int} (hs : ni_s s) (ha : 0 ≤ ax ∧ ax ≤ 1) (hg : 0 ≤ g ∧ g ≤ 2) (hw : 0 ≤ w ∧ w ≤ 1) {I1 : ga_I}
    (h : ∀ J : ga_I, (∀ a, a ≠ 344 → a ≠ 345 → J a = I1 a) → E (some (.inl (if w = 0 then (na_sp s ax g 1000).1 else (na_sp s ax g 1000).2))) J) :
    ∀ (j m : Nat) (I : ga_I), m + j = 1000 → rt I 2 s → sv_o I s ax → (∀ a, a ≠ 344 → a ≠ 345 → I a = I1 a) →
    ga_W G (d + 4) mt_GT_steepest 140 [some (.inr 0), none, some (.inl g), some (.inl w), some (.inr (ga_bo 2 ax)), some (.inr (sv_n ax)), some (.inl (na_vs s ax g (m : Int))), some (.inl (na_sc s ax g m).1), some (.inl (na_sc s ax g m).2), some (.inl (m : Int)), none] [] I E := by
  have hB : ga_isB (ga_bo 2 ax) := ga_bo_B ga_s1.2.1 ax
  have hL : ga_isL (sv_n ax) := by
    unfold sv_n
    by_cases u : ax = 0
    · rw [if_pos u]; exact ga_l344
    · rw [if_neg u]; exact ga_l345
  have hn : sv_n ax = 344 ∨ sv_n ax = 345 := by
    unfold sv_n
    by_cases u : ax = 0
    · rw [if_pos u]; exact Or.inl rfl
    · rw [if_neg u]; exact Or.inr rfl
  intro j
  induction j with
  | zero =>
    intro m I hm h1 h2 h3
    have hb := na_sc_bd hs (ax := ax) hg m (by omega)
    have hh := h I h3
    rw [← na_sc_1000, ← show m = 1000 by omega] at hh
    refine k_GT_steepest_140 hB hL ⟨by omega, by omega⟩ ⟨by omega, by omega⟩ ⟨by omega, by omega⟩ (fun hI => ⟨fun q => ⟨fun q2 => ?_, fun q2 => ?_⟩, fun q => by exfalso; omega⟩)
    · rw [if_neg q2] at hh; exact hh
    · rw [if_pos q2] at hh; exact hh
  | succ j ih =>
    intro m I hm h1 h2 h3
    have hb := na_sc_bd hs (ax := ax) hg m (by omega)
    have hv := na_vs_bd hs (ax := ax) (c := (m : Int)) (by omega) hg
    have hv2 := na_vs_bd hs (ax := ax) (c := (m : Int) + 1) (by omega) hg
    have hat : rt_b I (ga_bo 2 ax) s ax := rt_at h1 ha
    have s1 : (((m + 1 : Nat)) : Int) = (m : Int) + 1 := by omega
    refine k_GT_steepest_140 hB hL ⟨by omega, by omega⟩ ⟨by omega, by omega⟩ ⟨by omega, by omega⟩ (fun hI => ⟨fun q => by exfalso; omega, fun _ => ⟨rt_b_ok hat (ni_axs hs.1 ha), by omega, fun J eJ => ?_⟩⟩)
    rw [rt_zo hat, rt_fi hat] at eJ
    have oJ : ∀ a, a ≠ sv_n ax → J a = I a := fun a hne => by rw [eJ, gx_bl_o hne]
    have lJ : gl_v J (sv_n ax) = mp_f s ax (ns_zo s ax ((m : Int) + 1)) ((m : Int) + 1) := by rw [eJ, gl_v_bl]
    have rJ : rt J 2 s := rt_of (fun a w1 w2 => oJ a (by omega)) h1
    have sJ : sv_o J s ax := by
      refine ⟨fun u => ?_, fun u => ?_⟩
      · rw [gl_v_o (oJ 345 (by unfold sv_n; rw [if_pos u]; omega))]; exact h2.1 u
      · rw [gl_v_o (oJ 344 (by unfold sv_n; rw [if_neg (by omega)]; omega))]; exact h2.2 u
    have fJ : ∀ a, a ≠ 344 → a ≠ 345 → J a = I1 a := fun a w1 w2 => (oJ a (by omega)).trans (h3 a w1 w2)
    obtain ⟨k0, k1, k2, kv⟩ := sv_rt hs ha rJ sJ lJ (by omega) hg
    rw [kv]
    have K := ih (m + 1) J (by omega) rJ sJ fJ
    obtain ⟨t1, t2⟩ := na_sc_s s ax g m
    refine ⟨k0, k1, hg, k2, ⟨by omega, by omega⟩, ⟨by omega, by omega⟩, fun q => ?_, fun q => ?_⟩
    · rw [t1 q, s1] at K; exact K
    · rw [t2 q, s1] at K; exact K
theorem x_steepest {ax g w : Int} (r1 : ga_rg ax) (r2 : ga_rg g) (r3 : ga_rg w) (hx : rx I A) (hA : ni_a A) (h : nx_E E I (no_steepest A ax g w)) : ga_W G (d + 4) mt_GT_steepest 0 (ga_en 11 [.inr 0, .inl ax, .inl g, .inl w]) [] I E := by
  have hs := hA.1
  have hr := hx.1
  have hp := hs.2.1
  unfold no_steepest na_steepest at h
  have epp : I 47 0 = A.1 234 ∧ I 47 1 = A.1 235 := hr.2.2.1
  refine k_GT_steepest_0 r1 r2 r3 (fun hI => ⟨fun q1 => nx_0 h hx (by rw [if_pos (fun w => q1 w.1)]), fun q1 => ⟨fun q2 => nx_0 h hx (by rw [if_pos (fun w => q2 w.2.1)]), fun q2 => ⟨fun q3 => ?_, fun q3 => nx_0 h hx (by rw [if_pos (fun w => q3 w.2.2)])⟩⟩⟩)
  rw [if_neg (fun w => w ⟨q1, q2, q3⟩)] at h
  have ok := rs_ok hs hr
  have step : ∀ (c0 c1 : Int) (J1 J2 : ga_I), 0 ≤ c0 ∧ c0 ≤ 1000 → 0 ≤ c1 ∧ c1 ≤ 1000 → J1 = gx_bl I 344 (gp_fi (I (3 + 1)) (I (3 + 2)) (I (3 + 3)) (I 3 0).toNat (gp_zo (I (3 + 1)) (I (3 + 2)) c0 (I 3 0).toNat) c0) → J2 = gx_bl J1 345 (gp_fi (J1 (7 + 1)) (J1 (7 + 2)) (J1 (7 + 3)) (J1 7 0).toNat (gp_zo (J1 (7 + 1)) (J1 (7 + 2)) c1 (J1 7 0).toNat) c1) → rt J2 2 A.1 ∧ gl_v J2 344 = mp_f A.1 0 (ns_zo A.1 0 c0) c0 ∧ gl_v J2 345 = mp_f A.1 1 (ns_zo A.1 1 c1) c1 ∧ ∀ a, a ≠ 344 → a ≠ 345 → J2 a = I a := fun c0 c1 J1 J2 hc0 hc1 e1 e2 => by
    have a0 := rt_zo hr.1.1 c0
    have f0 := rt_fi hr.1.1 (ns_zo A.1 0 c0) c0
    have e1' : J1 = gx_bl I 344 (mp_f A.1 0 (ns_zo A.1 0 c0) c0) := by rw [e1, ← f0, ← a0]
    have o1 : ∀ a, a ≠ 344 → J1 a = I a := fun a ha => by rw [e1', gx_bl_o ha]
    have t1 : rt J1 2 A.1 := rt_of (fun a w1 w2 => o1 a (by omega)) hr.1
    have a1 := rt_zo t1.2.1 c1
    have f1 := rt_fi t1.2.1 (ns_zo A.1 1 c1) c1
    have e2' : J2 = gx_bl J1 345 (mp_f A.1 1 (ns_zo A.1 1 c1) c1) := by rw [e2, ← f1, ← a1]
    have o2 : ∀ a, a ≠ 345 → J2 a = J1 a := fun a ha => by rw [e2', gx_bl_o ha]
    exact ⟨rt_of (fun a w1 w2 => o2 a (by omega)) t1, by rw [gl_v_o (o2 344 (by omega)), e1', gl_v_bl], by rw [e2', gl_v_bl], fun a h1 h2 => by rw [o2 a h2, o1 a h1]⟩
  have ok7 : ∀ J1 : ga_I, (∃ v, J1 = gx_bl I 344 v) → gb_ok J1 7 ∧ J1 47 = I 47 := fun J1 ⟨v, e⟩ => by
    have o1 : ∀ a, a ≠ 344 → J1 a = I a := fun a ha => by rw [e, gx_bl_o ha]
    exact ⟨rt_b_ok (rt_of (t := 2) (fun a w1 w2 => o1 a (by omega)) hr.1).2.1 hs.1.2.1, o1 47 (by omega)⟩
  have go : ∀ J : ga_I, rt J 2 A.1 → sv_o J A.1 ax → (∀ a, a ≠ 344 → a ≠ 345 → J a = I a) → ga_W G (d + 4) mt_GT_steepest 140 [some (.inr 0), none, some (.inl g), some (.inl w), some (.inr (ga_bo 2 ax)), some (.inr (sv_n ax)), some (.inl (na_vs A.1 ax g 0)), some (.inl 0), some (.inl 0), some (.inl 0), none] [] J E := fun J j1 j2 j3 =>
    l_GT_steepest hs q1 q2 q3 (I1 := J) (fun J2 hJ => nx_q h hx (fun a ha => (hJ a (by omega) (by omega)).trans (j3 a (by omega) (by omega))) rfl) 1000 0 J (by omega) j1 j2 (fun a _ _ => rfl)
  refine ⟨fun q4 => ⟨fun _ => ⟨ok.1, by rw [epp.1]; exact hp.1, fun J1 e1 => ⟨fun _ => ⟨(ok7 J1 ⟨_, e1⟩).1, by omega, fun J2 e2 => ?_⟩, fun q => absurd q q4⟩⟩, fun q => absurd q q4⟩, fun q4 => ⟨fun q => absurd q4 q, fun _ => ⟨ok.1, by omega, fun J1 e1 => ⟨fun q => absurd q4 q, fun _ => ⟨(ok7 J1 ⟨_, e1⟩).1, by rw [(ok7 J1 ⟨_, e1⟩).2, epp.2]; exact hp.2, fun J2 e2 => ?_⟩⟩⟩⟩⟩
  · have hax : ax = 1 := by omega
    rw [epp.1] at e1
    obtain ⟨u1, u2, u3, u4⟩ := step _ _ J1 J2 hp.1 (by omega) e1 e2
    have hsv : sv_n ax = 345 := by unfold sv_n; rw [if_neg q4]
    have so : sv_o J2 A.1 ax := ⟨fun u => absurd u q4, fun _ => u2⟩
    obtain ⟨k0, k1, k2, kv⟩ := sv_rt (c := 0) hs q1 u1 so (by rw [hsv, hax]; exact u3) (by omega) q2
    have K := go J2 u1 so u4
    rw [hsv] at K
    rw [kv]
    exact ⟨k0, k1, q2, k2, K⟩
  · rw [(ok7 J1 ⟨_, e1⟩).2, epp.2] at e2
    obtain ⟨u1, u2, u3, u4⟩ := step _ _ J1 J2 (by omega) hp.2 e1 e2
    have hsv : sv_n ax = 344 := by unfold sv_n; rw [if_pos q4]
    have so : sv_o J2 A.1 ax := ⟨fun _ => u3, fun u => by exfalso; omega⟩
    obtain ⟨k0, k1, k2, kv⟩ := sv_rt (c := 0) hs q1 u1 so (by rw [hsv, q4]; exact u2) (by omega) q2
    have K := go J2 u1 so u4
    rw [hsv] at K
    rw [kv]
    exact ⟨k0, k1, q2, k2, K⟩
end TK
