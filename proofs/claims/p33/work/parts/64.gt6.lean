/-! the class: scale, sweep -/
section TI
variable {G : ga_G} {d : Nat} {I : ga_I} {E : Option ga_V → ga_I → Prop} {A : na_A}
theorem l_GT_scale2 {s0 : Nat → Int} {op i pc : Int} {c m : Nat} {X : (Nat → Int) × Int} {B : ga_I} (h : sc_ok s0 X.1) (ho : 0 ≤ op ∧ op ≤ 2) (hi : 0 ≤ i ∧ i ≤ 2) (hp : 0 ≤ pc ∧ pc ≤ 1000) (hc : (c : Int) ≤ ms_n s0 0) (h0 : ms_n s0 0 ≤ 6) (hm : (m : Int) = ms_n s0 1 + 1) (h1 : ms_n s0 1 ≤ 6)
    (K : ∀ J : ga_I, rs J 1 (ns_s2 op i pc X c m).1 → (∀ a, 55 ≤ a → J a = B a) → ga_W G (d + 5) mt_GT_scale 45 [some (.inr 0), some (.inl op), some (.inl i), some (.inl pc), some (.inl (ns_s2 op i pc X c m).2), some (.inl ((c : Int) + 1)), none, none, none] [] J E) :
    ∀ (j r : Nat) (J : ga_I), r + j = m → rs J 1 (ns_s2 op i pc X c r).1 → (∀ a, 55 ≤ a → J a = B a) → ga_W G (d + 5) mt_GT_scale 66 [some (.inr 0), some (.inl op), some (.inl i), some (.inl pc), some (.inl (ns_s2 op i pc X c r).2), some (.inl (c : Int)), some (.inl (r : Int)), none, none] [] J E := by
  intro j
  induction j with
  | zero =>
    intro r J hr hJ hf
    have ok := sc_s2 h ho hi hp (c := (c : Int)) ⟨by omega, by omega⟩ r (by omega)
    have en : J 7 0 = ms_n s0 1 := (show J 7 0 = _ from hJ.1.2.1.1).trans ok.2.2
    refine k_GT_scale_66 ⟨by omega, by omega⟩ (fun hI => ⟨fun q => ?_, fun q => by exfalso; omega⟩)
    rw [show r = m by omega] at hJ ⊢
    exact K J hJ hf
  | succ j ih =>
    intro r J hr hJ hf
    have ok := sc_s2 h ho hi hp (c := (c : Int)) ⟨by omega, by omega⟩ r (by omega)
    have hv := ns_sv_bd (i := i) (pc := pc) (c := (c : Int)) (r := (r : Int)) ok.1 ⟨by omega, by omega⟩ ⟨by omega, by omega⟩ hi hp
    have en : J 7 0 = ms_n s0 1 := (show J 7 0 = _ from hJ.1.2.1.1).trans ok.2.2
    have hg := gr_gn_rt ok.1.1 hJ.1
    have e := ih (r + 1)
    rw [ns_s2] at e
    generalize hY : ns_s2 op i pc X c r = Y at *
    have ev : J 11 (((c : Int) * 7 + r) * 3 + i).toNat = Y.1 (38 + 4 * (7 * (c : Int) + r) + i).toNat := by
      have := hJ.1.2.2.1 ((c : Int) * 7 + r).toNat i.toNat (by omega) (by omega)
      rw [show ((c : Int) * 7 + r).toNat * 3 + i.toNat = (((c : Int) * 7 + r) * 3 + i).toNat by omega, show 38 + 4 * ((c : Int) * 7 + r).toNat + i.toNat = (38 + 4 * (7 * (c : Int) + r) + i).toNat by omega] at this
      exact this
    refine k_GT_scale_66 ⟨by omega, by omega⟩ (fun hI => ⟨fun q => by exfalso; omega, fun q => ⟨by omega, fun z1 f1 => ?_⟩⟩)
    have f1' : z1 = Y.1 (38 + 4 * (7 * (c : Int) + r) + i).toNat := f1.trans ev
    rw [f1']
    refine ⟨⟨by omega, by omega⟩, ⟨by omega, by omega⟩, by omega, by omega, by omega, by omega, hg, fun z2 f2 => ?_⟩
    have f2' : z2 = ns_ra Y.1 op c r i (ns_sv Y.1 c r i pc) := f2.trans (rs_ra ok.1 hJ ho (by omega) (by omega) hi)
    have := mp_ra_bd (Y.1 (38 + 4 * (7 * (c : Int) + (r : Int)) + 3).toNat) (Y.1 (38 + 4 * (7 * (c : Int) + (r : Int)) + i).toNat) (Y.1 (241 + 3 * op).toNat) (Y.1 (241 + 3 * op + 1).toNat) op (ns_sv Y.1 c r i pc)
    refine ⟨by rw [f2']; unfold ns_ra; constructor <;> omega, fun q2 => ?_, fun q2 I1 e1 => ?_⟩
    · have e2 : ns_s1 op i pc Y c r = Y := by unfold ns_s1; rw [if_neg (by rw [← f2']; exact q2)]
      rw [e2] at e
      exact e J (by omega) hJ hf
    · have e2 : ns_s1 op i pc Y c r = (ns_ch Y.1 op (38 + 4 * (7 * (c : Int) + (r : Int)) + i).toNat (ns_sv Y.1 c r i pc), Y.2 + 1) := by unfold ns_s1; rw [if_pos (by rw [← f2']; exact q2)]
      rw [e2] at e
      obtain ⟨u1, u2⟩ := rs_ed (z := ns_sv Y.1 c r i pc) ok.1 hJ ho (c := (c : Int)) (r := (r : Int)) (i := i) (by omega) (by omega) hi
      refine e I1 (by omega) (by rw [e1]; exact u1) (fun a ha => by rw [e1]; exact (u2 a (by omega)).trans (hf a ha))
theorem l_GT_scale {s0 : Nat → Int} {op i pc : Int} {n m : Nat} {B : ga_I} (h : sc_ok s0 s0) (ho : 0 ≤ op ∧ op ≤ 2) (hi : 0 ≤ i ∧ i ≤ 2) (hp : 0 ≤ pc ∧ pc ≤ 1000) (hn : (n : Int) = ms_n s0 0 + 1) (h0 : ms_n s0 0 ≤ 6) (hm : (m : Int) = ms_n s0 1 + 1) (h1 : ms_n s0 1 ≤ 6)
    (K : ∀ J : ga_I, rs J 1 (ns_s3 op i pc (s0, 0) m n).1 → (∀ a, 55 ≤ a → J a = B a) → E (some (.inl (ns_s3 op i pc (s0, 0) m n).2)) J) :
    ∀ (j c : Nat) (J : ga_I), c + j = n → rs J 1 (ns_s3 op i pc (s0, 0) m c).1 → (∀ a, 55 ≤ a → J a = B a) → ga_W G (d + 5) mt_GT_scale 45 [some (.inr 0), some (.inl op), some (.inl i), some (.inl pc), some (.inl (ns_s3 op i pc (s0, 0) m c).2), some (.inl (c : Int)), none, none, none] [] J E := by
  intro j
  induction j with
  | zero =>
    intro c J hc hJ hf
    have ok := sc_s3 (X := (s0, 0)) h ho hi hp (m := m) (by omega) c (by omega)
    have en : J 3 0 = ms_n s0 0 := (show J 3 0 = _ from hJ.1.1.1).trans ok.2.1
    refine k_GT_scale_45 ⟨by omega, by omega⟩ (fun hI => ⟨fun q => ?_, fun q => by exfalso; omega⟩)
    rw [show c = n by omega] at hJ ⊢
    exact K J hJ hf
  | succ j ih =>
    intro c J hc hJ hf
    have e := ih (c + 1)
    have ok := sc_s3 (X := (s0, 0)) h ho hi hp (m := m) (by omega) c (by omega)
    have en : J 3 0 = ms_n s0 0 := (show J 3 0 = _ from hJ.1.1.1).trans ok.2.1
    refine k_GT_scale_45 ⟨by omega, by omega⟩ (fun hI => ⟨fun q => by exfalso; omega, fun q => ?_⟩)
    exact l_GT_scale2 (B := B) (X := ns_s3 op i pc (s0, 0) m c) ok ho hi hp (by omega) h0 hm h1 (fun K j1 j2 => e K (by omega) j1 j2) m 0 J (by omega) hJ hf
theorem x_scale {op i pc : Int} (r1 : ga_rg op) (r2 : ga_rg i) (r3 : ga_rg pc) (hx : rx I A) (hA : ni_a A) (h : nx_E E I (no_scale A op i pc)) : ga_W G (d + 5) mt_GT_scale 0 (ga_en 9 [.inr 0, .inl op, .inl i, .inl pc]) [] I E := by
  have hs := hA.1
  have hr := hx.1
  have hN := nk_scale (op := op) (i := i) (pc := pc) hA
  unfold no_scale at h hN
  have n0 := ni_n hs.1 (ax := 0) (by omega)
  have n1 := ni_n hs.1 (ax := 1) (by omega)
  refine k_GT_scale_0 r1 r2 r3 (fun hI => ⟨fun q1 => nx_0 h hx (by rw [if_pos (fun w => q1 w.1)]), fun q1 => ⟨fun q2 => nx_0 h hx (by rw [if_pos (fun w => q2 w.2.1)]), fun q2 => ⟨fun q3 => ⟨hx.2.1, fun I1 c1 => ?_⟩, fun q3 => nx_0 h hx (by rw [if_pos (fun w => q3 w.2.2)])⟩⟩⟩)
  have hr1 := kp_rs hr c1
  exact l_GT_scale (B := I1) (s0 := A.1) (n := (ms_n A.1 0).toNat + 1) (m := (ms_n A.1 1).toNat + 1) ⟨hs, rfl, rfl⟩ q1 q2 q3 (by omega) (by omega) (by omega) (by omega) (fun J j1 j2 => nx_u h hA hx hN c1 (fun a ha => j2 a (by omega)) j1 (by rw [if_neg (fun w => w ⟨q1, q2, q3⟩)])) ((ms_n A.1 0).toNat + 1) 0 I1 (by omega) hr1 (fun a _ => rfl)
theorem l_GT_sweep {ax to step : Int} {B : ga_I} (ha : 0 ≤ ax ∧ ax ≤ 1) (ht : 0 ≤ to ∧ to ≤ 1000) (hst : 1 ≤ step ∧ step ≤ 1000) :
    ∀ (f : Nat) (s : Nat → Int) (I : ga_I) (c ch : Int) (n : Nat), n + f = 1000 → ni_s s → rs I 1 s → 0 ≤ c ∧ c ≤ 1000 → (∀ a, 55 ≤ a → a < 344 ∨ 348 ≤ a → I a = B a) → (∀ J : ga_I, rs J 1 (ns_sw ax to step f s c ch).1 → (∀ a, 55 ≤ a → a < 344 ∨ 348 ≤ a → J a = B a) → E (some (.inl (ns_sw ax to step f s c ch).2)) J) →
    ga_W G (d + 5) mt_GT_sweep 65 [some (.inr 0), some (.inl ax), some (.inl to), some (.inl step), some (.inl c), some (.inl ch), some (.inl (n : Int)), none] [] I E := by
  intro f
  induction f with
  | zero =>
    intro s I c ch n hn hs hr hc hf h
    exact k_GT_sweep_65 ⟨by omega, by omega⟩ ⟨by omega, by omega⟩ ⟨by omega, by omega⟩ ⟨by omega, by omega⟩ (fun hI => ⟨fun q => h I hr hf, fun q => by exfalso; omega⟩)
  | succ f ih =>
    intro s I c ch n hn hs hr hc hf h
    by_cases q0 : c = to
    · have e : ns_sw ax to step (f + 1) s c ch = (s, ch) := by rw [ns_sw, if_pos q0]
      rw [e] at h
      exact k_GT_sweep_65 ⟨by omega, by omega⟩ ⟨by omega, by omega⟩ ⟨by omega, by omega⟩ ⟨by omega, by omega⟩ (fun hI => ⟨fun q => by exfalso; omega, fun _ => ⟨fun q => h I hr hf, fun q => absurd q0 q⟩⟩)
    · have e : ns_sw ax to step (f + 1) s c ch = ns_sw ax to step f (ns_mw s ax (ns_tw c to step)) (ns_tw c to step) (if ns_mw s ax (ns_tw c to step) (236 + ax).toNat = s (236 + ax).toNat then ch else ch + 1) := by rw [ns_sw, if_neg q0]
      have hb := ns_tw_bd hc ht (step := step) hst.1
      have hp := hs.2.1
      have hni := ni_mw (ax := ax) hs hb
      rw [e] at h
      have zz : ∀ (J : ga_I) (r : Nat → Int), rs J 1 r → J 48 ax.toNat = r (236 + ax).toNat := fun J r hJ => by
        have := hJ.2.2.2.1
        rcases (show ax = 0 ∨ ax = 1 by omega) with w | w <;> subst w
        · exact this.1
        · exact this.2
      have z0 := zz I s hr
      have go : ∀ (J : ga_I), rs J 1 (ns_mw s ax (ns_tw c to step)) → (∀ a, a < 1 ∨ 55 ≤ a → a < 344 ∨ 348 ≤ a → J a = I a) →
          ((J 48 ax.toNat = I 48 ax.toNat) → ga_W G (d + 5) mt_GT_sweep 65 [some (.inr 0), some (.inl ax), some (.inl to), some (.inl step), some (.inl (ns_tw c to step)), some (.inl ch), some (.inl ((n : Int) + 1)), none] [] J E) ∧ ((¬ (J 48 ax.toNat = I 48 ax.toNat)) → ga_W G (d + 5) mt_GT_sweep 65 [some (.inr 0), some (.inl ax), some (.inl to), some (.inl step), some (.inl (ns_tw c to step)), some (.inl (ch + 1)), some (.inl ((n : Int) + 1)), none] [] J E) := fun J j1 j2 => by
        have zJ := zz J _ j1
        rw [z0, zJ]
        have e2 : ∀ ch', ch' = (if ns_mw s ax (ns_tw c to step) (236 + ax).toNat = s (236 + ax).toNat then ch else ch + 1) → ga_W G (d + 5) mt_GT_sweep 65 [some (.inr 0), some (.inl ax), some (.inl to), some (.inl step), some (.inl (ns_tw c to step)), some (.inl ch'), some (.inl ((n : Int) + 1)), none] [] J E := fun ch' hch => by
          rw [← hch] at h
          have := ih (ns_mw s ax (ns_tw c to step)) J (ns_tw c to step) ch' (n + 1) (by omega) hni j1 hb (fun a w1 w2 => (j2 a (Or.inr w1) w2).trans (hf a w1 w2)) h
          rw [show ((n + 1 : Nat) : Int) = (n : Int) + 1 by omega] at this
          exact this
        exact ⟨fun q => e2 ch (by rw [if_pos q]), fun q => e2 (ch + 1) (by rw [if_neg q])⟩
      have p0 : I 47 0 = s 234 := hr.2.2.1.1
      have p1 : I 47 1 = s 235 := hr.2.2.1.2
      refine k_GT_sweep_65 ⟨by omega, by omega⟩ ⟨by omega, by omega⟩ ⟨by omega, by omega⟩ ⟨by omega, by omega⟩ (fun hI => ⟨fun q => by exfalso; omega, fun _ => ⟨fun q => absurd q q0, fun _ => ⟨hc, ht, hst, by omega, by omega, fun q => ?_, fun q => ?_⟩⟩⟩)
      · rw [p0]
        refine s_GT_carryOutMove hs hr hp.1 hb (fun J j1 j2 => ⟨_, rfl, go J ?_ j2⟩)
        unfold ns_mw; rw [if_neg q]; exact j1
      · rw [p1]
        refine s_GT_carryOutMove hs hr hb hp.2 (fun J j1 j2 => ⟨_, rfl, go J ?_ j2⟩)
        unfold ns_mw; rw [if_pos q]; exact j1
theorem x_sweep {ax to step : Int} (r1 : ga_rg ax) (r2 : ga_rg to) (r3 : ga_rg step) (hx : rx I A) (hA : ni_a A) (h : nx_E E I (no_sweep A ax to step)) : ga_W G (d + 5) mt_GT_sweep 0 (ga_en 8 [.inr 0, .inl ax, .inl to, .inl step]) [] I E := by
  have hs := hA.1
  have hr := hx.1
  have hp := hs.2.1
  have hN := nk_sweep (ax := ax) (to := to) (step := step) hA
  unfold no_sweep at h hN
  have pt : ∀ J : ga_I, rs J 1 A.1 → 0 ≤ ax ∧ ax ≤ 1 → J 47 ax.toNat = A.1 (234 + ax).toNat := fun J hJ q => by
    have := hJ.2.2.1
    rcases (show ax = 0 ∨ ax = 1 by omega) with w | w <;> subst w
    · exact this.1
    · exact this.2
  refine k_GT_sweep_0 r1 r2 r3 (fun hI => ⟨fun q1 => nx_0 h hx (by rw [if_pos (fun w => q1 w.1)]), fun q1 => ⟨fun q2 => nx_0 h hx (by rw [if_pos (fun w => q2 w.2.1)]), fun q2 => ⟨fun q3 => ⟨by omega, by omega, ?_⟩, fun q3 => nx_0 h hx (by rw [if_pos (fun w => q3 w.2.2)])⟩⟩⟩)
  rw [pt I hr q1]
  refine ⟨fun q4 => ⟨hx.2.1, fun I1 c1 => ?_⟩, fun q4 => nx_0 h hx (by rw [if_neg (fun w => w ⟨q1, q2, q3⟩), if_pos q4])⟩
  have hr1 := kp_rs hr c1
  have hc : 0 ≤ A.1 (234 + ax).toNat ∧ A.1 (234 + ax).toNat ≤ 1000 := by
    rcases (show ax = 0 ∨ ax = 1 by omega) with w | w <;> subst w
    · exact hp.1
    · exact hp.2
  exact l_GT_sweep (B := I1) q1 q2 q3 1000 A.1 I1 _ 0 0 (by omega) hs hr1 hc (fun a _ _ => rfl) (fun J j1 j2 => nx_u h hA hx hN c1 (fun a ha => j2 a (by omega) (by omega)) j1 (by rw [if_neg (fun w => w ⟨q1, q2, q3⟩), if_neg q4]))
end TI
