/-! the law: its body -/
abbrev mt_Law : ga_M := (x, code, 13, ret)
theorem an_3 (v : Int) : 0 ≤ an v 3 ∧ an v 3 ≤ 3 := by have := an_bd v 2 (m := 3) (by decide +kernel) (by omega); omega
theorem eff_bits {a b c : Int} (ha : a = 0 ∨ a = 2) (hb : b = 0 ∨ b = 4) (hc : c = 0 ∨ c = 8) : an (1 + a + b + c) 2 = a ∧ an (1 + a + b + c) 8 = c := by
  rcases ha with rfl | rfl <;> rcases hb with rfl | rfl <;> rcases hc with rfl | rfl <;> decide +kernel
theorem ne_succ (x : Int) : ¬ Int32.ofInt x = Int32.ofInt (x + 1) := fun h => by
  have e : ga_wr x = ga_wr (x + 1) := congrArg Int32.toInt h
  obtain ⟨a, ha⟩ := wr_k x
  obtain ⟨b, hb⟩ := wr_k (x + 1)
  omega
section LB
variable {G : ga_G} {d : Nat} {mt : ga_M} {pc : Nat} {lst : List (Option gl_V)} {st : List gl_V} {I : ga_I} {E : Option gl_V → ga_I → Prop}
theorem gl_icmp_new {a b : Int} {off : Int} (tgt : Nat) (hd : decode mt.2.1 pc = .ok (.if_icmp .ne off, 3)) (ht : (pc : Int) + off = (tgt : Int)) (ew : ¬ Int32.ofInt a = Int32.ofInt b) (K : gl_W G d mt tgt lst st I E) : gl_W G d mt pc lst (gI b :: gI a :: st) I E := by
  intro p e R s m args below meth c cells slots Q C hr hI H locs ls hP hS hL
  exact lv_icmp_ne C.1 C.2.1 hd ht (fun _ => K p e R s m args below meth c cells slots Q C hr hI H locs ls hP hS hL) (fun h => absurd h ew)
end LB
section LQ
variable {G : ga_G} {I : ga_I} {E : Option ga_V → ga_I → Prop} {A : na_A} {v : Int}
theorem l_count {w : Int} (r0 : ga_rg w) (hx : rx I A) (hA : ni_a A) (e : na_count A w = v) (K : ∀ J, rx J A → E (some (.inl v)) J) : ga_W G 6 mt_GT_count 0 (ga_en 2 [.inr 0, .inl w]) [] I E :=
  x_count (d := 5) r0 hx hA (fun J j1 _ => by
    have k := K J j1
    rw [← e] at k
    exact k)
theorem l_effect {x y : Int} (r0 : ga_rg x) (r1 : ga_rg y) (hx : rx I A) (hA : ni_a A) (e : na_effect A x y = v) (K : ∀ J, rx J A → E (some (.inl v)) J) : ga_W G 6 mt_GT_effect 0 (ga_en 5 [.inr 0, .inl x, .inl y]) [] I E :=
  x_effect (d := 2) r0 r1 hx hA (fun J j1 _ => by
    have k := K J j1
    rw [← e] at k
    exact k)
theorem l_valueAt {x y g : Int} (r0 : ga_rg x) (r1 : ga_rg y) (r2 : ga_rg g) (hx : rx I A) (hA : ni_a A) (e : na_valueAt A x y g = v) (K : ∀ J, rx J A → E (some (.inl v)) J) : ga_W G 6 mt_GT_valueAt 0 (ga_en 4 [.inr 0, .inl x, .inl y, .inl g]) [] I E :=
  x_valueAt (d := 2) r0 r1 r2 hx hA (fun J j1 _ => by
    have k := K J j1
    rw [← e] at k
    exact k)
theorem l_chatter {ax c m t : Int} (r0 : ga_rg ax) (r1 : ga_rg c) (r2 : ga_rg m) (r3 : ga_rg t) (hx : rx I A) (hA : ni_a A) (e : na_chatter A ax c m t = v) (K : ∀ J, rx J A → E (some (.inl v)) J) : ga_W G 6 mt_GT_chatter 0 (ga_en 6 [.inr 0, .inl ax, .inl c, .inl m, .inl t]) [] I E :=
  x_chatter (d := 3) r0 r1 r2 r3 hx hA (fun J j1 _ => by
    have k := K J j1
    rw [← e] at k
    exact k)
theorem l_steepest {ax g w : Int} (r0 : ga_rg ax) (r1 : ga_rg g) (r2 : ga_rg w) (hx : rx I A) (hA : ni_a A) (e : na_steepest A ax g w = v) (K : ∀ J, rx J A → E (some (.inl v)) J) : ga_W G 6 mt_GT_steepest 0 (ga_en 11 [.inr 0, .inl ax, .inl g, .inl w]) [] I E :=
  x_steepest (d := 2) r0 r1 r2 hx hA (fun J j1 _ => by
    have k := K J j1
    rw [← e] at k
    exact k)
end LQ
section LB
variable {G : ga_G} {E : Option gl_V → ga_I → Prop} {A : na_A} {I : ga_I} {t : Nat} {y z eff : Int} {r : Nat → Int}
theorem lw_277 (hy : ga_rg y) (hA : ni_a A) (hr : ni_s r) (hpr : np_s r) (hF : ∀ X : nX, nz (A.1, X) y = (na_act (A.1, X) r, z)) (K : ∀ (J : ga_I) (A1 : na_A), rx J A1 → ni_a A1 → np_s A1.1 → gl_W G 7 mt_Law 334 [some (gR 1000), some (gR 0), some (gI (t : Int)), none, none, none, none, none, none, none, none, none, none] [] J E) (hx : rx I (na_act A r)) : gl_W G 7 mt_Law 277 [some (gR 1000), some (gR 0), some (gI (t : Int)), some (gI y), some (gJ (dg A.1)), none, none, none, none, some (gI z), some (gI 0), none, none] [] I E := by
  have b3 := an_3 (t : Int)
  refine gl_iload 10 d_Law_277 rfl ?_
  refine gl_if_ne 334 d_Law_279 (by decide) ⟨by decide, by decide⟩ (fun hq => absurd hq (by omega)) (fun _ => ?_)
  refine gl_iload_n 2 d_Law_282 rfl rfl ?_
  refine gl_iconst d_Law_283 ?_
  refine gl_iand d_Law_284 ?_
  refine gl_iconst d_Law_285 ?_
  refine gl_icmp_ne 334 d_Law_286 (by decide) ⟨by omega, by omega⟩ ⟨by decide, by decide⟩ (fun hb => ?_) (fun hb => ?_)
  · exact gl_le (K I _ hx (ni_act hA hr) hpr) (by exact ⟨rfl, ⟨rfl, ⟨rfl, trivial⟩⟩⟩)
  · refine gl_aload_n 1 d_Law_289 rfl rfl ?_
    refine gl_invL (as := [.inr 0]) (rest := []) (d' := 6) d_Law_290 lk_Law_89 rfl rfl (Nat.le_of_ble_eq_true rfl) (Nat.le_of_ble_eq_true rfl) rfl rfl (w_digest hx (ni_act hA hr) (fun I hx => ?_))
    refine gl_lstore 11 d_Law_293 (Nat.le_of_ble_eq_true rfl) rfl rfl ?_
    refine gl_aload_n 1 d_Law_295 rfl rfl ?_
    have ub := (un_row (r := r) hA).1
    refine gl_invV (as := []) (k := 0) (rest := []) (d' := 6) d_Law_296 lk_Law_105 (ga_rcv ga_oG rfl rfl) rfl (Nat.le_of_ble_eq_true rfl) (Nat.le_of_ble_eq_true rfl) rfl rfl (x_undo (d := 1) hx (ni_act hA hr) (fun J j1 _ => ?_))
    obtain ⟨hx, hA3⟩ := un_rx hA hr j1
    refine gl_if_lt 332 d_Law_299 (by decide) ⟨by omega, by omega⟩ (fun hq => absurd hq (by omega)) (fun _ => ?_)
    refine gl_aload_n 1 d_Law_302 rfl rfl ?_
    refine gl_invL (as := [.inr 0]) (rest := []) (d' := 6) d_Law_303 lk_Law_89 rfl rfl (Nat.le_of_ble_eq_true rfl) (Nat.le_of_ble_eq_true rfl) rfl rfl (w_digest hx hA3 (fun I hx => ?_))
    refine gl_lload 4 d_Law_306 rfl ?_
    refine gl_lcmp d_Law_308 rfl ?_
    refine gl_if_ne 332 d_Law_309 (by decide) ⟨by decide, by decide⟩ (fun hq => absurd hq (by omega)) (fun _ => ?_)
    refine gl_aload_n 1 d_Law_312 rfl rfl ?_
    refine gl_iload_n 3 d_Law_313 rfl rfl ?_
    refine gl_invS (as := [.inr 0, .inl y]) (rest := []) (d' := 6) d_Law_314 lk_Law_96 rfl (Nat.le_of_ble_eq_true rfl) (Nat.le_of_ble_eq_true rfl) rfl rfl (w_act hy hx hA3 (nx_e (hF _) (fun I hx => ?_)))
    refine gl_iload 9 d_Law_317 rfl ?_
    refine gl_icmp_nes d_Law_319 332 (by decide) rfl ?_
    refine gl_aload_n 1 d_Law_322 rfl rfl ?_
    refine gl_invL (as := [.inr 0]) (rest := []) (d' := 6) d_Law_323 lk_Law_89 rfl rfl (Nat.le_of_ble_eq_true rfl) (Nat.le_of_ble_eq_true rfl) rfl rfl (w_digest hx (ni_act hA3 hr) (fun I hx => ?_))
    refine gl_lload 11 d_Law_326 rfl ?_
    refine gl_lcmp d_Law_328 rfl ?_
    refine gl_if_eq 334 d_Law_329 (by decide) ⟨by decide, by decide⟩ (fun _ => ?_) (fun hq => absurd (by omega) hq)
    exact gl_le (K I _ hx (ni_act hA3 hr) hpr) (by exact ⟨rfl, ⟨rfl, ⟨rfl, trivial⟩⟩⟩)
theorem lw_160 {A1 : na_A} {zo ig : Int} (H : (eff = 0 ∧ z = -2000000009 ∧ A1.1 236 = zo ∧ A1.1 239 = ga_wr (ig + 1)) ∨ (∃ a b c : Int, (a = 0 ∨ a = 2) ∧ (b = 0 ∨ b = 4) ∧ (c = 0 ∨ c = 8) ∧ eff = 1 + a + b + c ∧ (a = 0 ↔ A1.1 236 = zo) ∧ (c = 0 ↔ z = 0) ∧ 0 ≤ z ∧ z ≤ 9999 ∧ A1.1 239 = ig)) (hx : rx I A1) (hA1 : ni_a A1) (hzo : 0 ≤ zo ∧ zo ≤ 6) (K : ∀ J, rx J A1 → gl_W G 7 mt_Law 277 [some (gR 1000), some (gR 0), some (gI (t : Int)), some (gI y), some (gJ (dg A.1)), none, none, none, none, some (gI z), some (gI 0), none, none] [] J E) : gl_W G 7 mt_Law 160 [some (gR 1000), some (gR 0), some (gI (t : Int)), some (gI y), some (gJ (dg A.1)), none, some (gI eff), some (gI zo), some (gI ig), some (gI z), some (gI 0), none, none] [] I E := by
  have z6 := z236 hA1.1
  rcases H with ⟨h1, h2, h3, e239⟩ | ⟨a, b, c, ha, hb, hc, h1, h2, h3, h4, h5, e239⟩
  · have a2 : an eff 2 = 0 := by rw [h1]; decide +kernel
    have a8 : an eff 8 = 0 := by rw [h1]; decide +kernel
    refine gl_iload 6 d_Law_160 rfl ?_
    refine gl_if_ne 169 d_Law_162 (by decide) ⟨by omega, by omega⟩ (fun hq => absurd hq (by omega)) (fun _ => ?_)
    refine gl_iconst d_Law_165 ?_
    refine gl_goto 170 d_Law_166 (by decide) ?_
    refine gl_iload 9 d_Law_170 rfl ?_
    refine gl_ldc (n := (-2000000009)) d_Law_172 kw_Law_100 (by decide +kernel) ?_
    refine gl_icmp_ne 181 d_Law_174 (by decide) ⟨by omega, by omega⟩ ⟨by decide, by decide⟩ (fun hq => absurd hq (by omega)) (fun _ => ?_)
    refine gl_iconst d_Law_177 ?_
    refine gl_goto 182 d_Law_178 (by decide) ?_
    refine gl_icmp_ne 275 d_Law_182 (by decide) ⟨by decide, by decide⟩ ⟨by decide, by decide⟩ (fun hq => absurd hq (by omega)) (fun _ => ?_)
    refine gl_iload 6 d_Law_185 rfl ?_
    refine gl_iconst d_Law_187 ?_
    refine gl_iand d_Law_188 ?_
    refine gl_iconst d_Law_189 ?_
    refine gl_icmp_ne 197 d_Law_190 (by decide) ⟨by omega, by omega⟩ ⟨by decide, by decide⟩ (fun _ => ?_) (fun hq => absurd hq (by omega))
    refine gl_iconst d_Law_197 ?_
    refine gl_aload_n 1 d_Law_198 rfl rfl ?_
    refine gl_iconst d_Law_199 ?_
    refine gl_invV (as := [.inl 4]) (k := 0) (rest := [gI 0]) (d' := 6) d_Law_200 lk_Law_12 (ga_rcv ga_oG rfl rfl) rfl (Nat.le_of_ble_eq_true rfl) (Nat.le_of_ble_eq_true rfl) rfl rfl (l_count (v := A1.1 236) ⟨by decide, by decide⟩ hx hA1 cnv.2.1 (fun I hx => ?_))
    refine gl_iload 7 d_Law_203 rfl ?_
    refine gl_icmp_eq 212 d_Law_205 (by decide) ⟨by omega, by omega⟩ ⟨by omega, by omega⟩ (fun _ => ?_) (fun hq => absurd (by omega) hq)
    refine gl_iconst d_Law_212 ?_
    refine gl_icmp_ne 275 d_Law_213 (by decide) ⟨by decide, by decide⟩ ⟨by decide, by decide⟩ (fun hq => absurd hq (by omega)) (fun _ => ?_)
    refine gl_iload 6 d_Law_216 rfl ?_
    refine gl_bipush d_Law_218 (by decide +kernel) ?_
    refine gl_iand d_Law_220 ?_
    refine gl_bipush d_Law_221 (by decide +kernel) ?_
    refine gl_icmp_ne 230 d_Law_223 (by decide) ⟨by omega, by omega⟩ ⟨by decide, by decide⟩ (fun _ => ?_) (fun hq => absurd hq (by omega))
    refine gl_iconst d_Law_230 ?_
    refine gl_iload 9 d_Law_231 rfl ?_
    refine gl_if_le 240 d_Law_233 (by decide) ⟨by omega, by omega⟩ (fun _ => ?_) (fun hq => absurd (by omega) hq)
    refine gl_iconst d_Law_240 ?_
    refine gl_icmp_ne 275 d_Law_241 (by decide) ⟨by decide, by decide⟩ ⟨by decide, by decide⟩ (fun hq => absurd hq (by omega)) (fun _ => ?_)
    refine gl_iload 6 d_Law_244 rfl ?_
    refine gl_if_ne 253 d_Law_246 (by decide) ⟨by omega, by omega⟩ (fun hq => absurd hq (by omega)) (fun _ => ?_)
    refine gl_iconst d_Law_249 ?_
    refine gl_goto 254 d_Law_250 (by decide) ?_
    refine gl_aload_n 1 d_Law_254 rfl rfl ?_
    refine gl_bipush d_Law_255 (by decide +kernel) ?_
    refine gl_invV (as := [.inl 7]) (k := 0) (rest := [gI 1]) (d' := 6) d_Law_257 lk_Law_12 (ga_rcv ga_oG rfl rfl) rfl (Nat.le_of_ble_eq_true rfl) (Nat.le_of_ble_eq_true rfl) rfl rfl (l_count (v := A1.1 239) ⟨by decide, by decide⟩ hx hA1 cnv.2.2.2.2.1 (fun I hx => ?_))
    refine gl_iload 8 d_Law_260 rfl ?_
    refine gl_iconst d_Law_262 ?_
    refine gl_iadd d_Law_263 ?_
    refine gl_icmp_nes d_Law_264 271 (by decide) (by rw [e239]; exact ga_of_wr _) ?_
    refine gl_iconst d_Law_267 ?_
    refine gl_goto 272 d_Law_268 (by decide) ?_
    refine gl_icmp_eq 277 d_Law_272 (by decide) ⟨by decide, by decide⟩ ⟨by decide, by decide⟩ (fun _ => ?_) (fun hq => absurd (by omega) hq)
    exact gl_le (K I hx) (by exact ⟨rfl, ⟨rfl, ⟨rfl, ⟨rfl, ⟨rfl, ⟨rfl, ⟨rfl, trivial⟩⟩⟩⟩⟩⟩⟩)
  · obtain ⟨a2, a8⟩ := eff_bits ha hb hc
    rw [← h1] at a2 a8
    rcases ha with ha | ha <;> rcases hc with hc | hc
    · have z1 : A1.1 236 = zo := by omega
      have z2 : z = 0 := by omega
      refine gl_iload 6 d_Law_160 rfl ?_
      refine gl_if_ne 169 d_Law_162 (by decide) ⟨by omega, by omega⟩ (fun _ => ?_) (fun hq => absurd hq (by omega))
      refine gl_iconst d_Law_169 ?_
      refine gl_iload 9 d_Law_170 rfl ?_
      refine gl_ldc (n := (-2000000009)) d_Law_172 kw_Law_100 (by decide +kernel) ?_
      refine gl_icmp_ne 181 d_Law_174 (by decide) ⟨by omega, by omega⟩ ⟨by decide, by decide⟩ (fun _ => ?_) (fun hq => absurd hq (by omega))
      refine gl_iconst d_Law_181 ?_
      refine gl_icmp_ne 275 d_Law_182 (by decide) ⟨by decide, by decide⟩ ⟨by decide, by decide⟩ (fun hq => absurd hq (by omega)) (fun _ => ?_)
      refine gl_iload 6 d_Law_185 rfl ?_
      refine gl_iconst d_Law_187 ?_
      refine gl_iand d_Law_188 ?_
      refine gl_iconst d_Law_189 ?_
      refine gl_icmp_ne 197 d_Law_190 (by decide) ⟨by omega, by omega⟩ ⟨by decide, by decide⟩ (fun _ => ?_) (fun hq => absurd hq (by omega))
      refine gl_iconst d_Law_197 ?_
      refine gl_aload_n 1 d_Law_198 rfl rfl ?_
      refine gl_iconst d_Law_199 ?_
      refine gl_invV (as := [.inl 4]) (k := 0) (rest := [gI 0]) (d' := 6) d_Law_200 lk_Law_12 (ga_rcv ga_oG rfl rfl) rfl (Nat.le_of_ble_eq_true rfl) (Nat.le_of_ble_eq_true rfl) rfl rfl (l_count (v := A1.1 236) ⟨by decide, by decide⟩ hx hA1 cnv.2.1 (fun I hx => ?_))
      refine gl_iload 7 d_Law_203 rfl ?_
      refine gl_icmp_eq 212 d_Law_205 (by decide) ⟨by omega, by omega⟩ ⟨by omega, by omega⟩ (fun _ => ?_) (fun hq => absurd (by omega) hq)
      refine gl_iconst d_Law_212 ?_
      refine gl_icmp_ne 275 d_Law_213 (by decide) ⟨by decide, by decide⟩ ⟨by decide, by decide⟩ (fun hq => absurd hq (by omega)) (fun _ => ?_)
      refine gl_iload 6 d_Law_216 rfl ?_
      refine gl_bipush d_Law_218 (by decide +kernel) ?_
      refine gl_iand d_Law_220 ?_
      refine gl_bipush d_Law_221 (by decide +kernel) ?_
      refine gl_icmp_ne 230 d_Law_223 (by decide) ⟨by omega, by omega⟩ ⟨by decide, by decide⟩ (fun _ => ?_) (fun hq => absurd hq (by omega))
      refine gl_iconst d_Law_230 ?_
      refine gl_iload 9 d_Law_231 rfl ?_
      refine gl_if_le 240 d_Law_233 (by decide) ⟨by omega, by omega⟩ (fun _ => ?_) (fun hq => absurd (by omega) hq)
      refine gl_iconst d_Law_240 ?_
      refine gl_icmp_ne 275 d_Law_241 (by decide) ⟨by decide, by decide⟩ ⟨by decide, by decide⟩ (fun hq => absurd hq (by omega)) (fun _ => ?_)
      refine gl_iload 6 d_Law_244 rfl ?_
      refine gl_if_ne 253 d_Law_246 (by decide) ⟨by omega, by omega⟩ (fun _ => ?_) (fun hq => absurd hq (by omega))
      refine gl_iconst d_Law_253 ?_
      refine gl_aload_n 1 d_Law_254 rfl rfl ?_
      refine gl_bipush d_Law_255 (by decide +kernel) ?_
      refine gl_invV (as := [.inl 7]) (k := 0) (rest := [gI 0]) (d' := 6) d_Law_257 lk_Law_12 (ga_rcv ga_oG rfl rfl) rfl (Nat.le_of_ble_eq_true rfl) (Nat.le_of_ble_eq_true rfl) rfl rfl (l_count (v := A1.1 239) ⟨by decide, by decide⟩ hx hA1 cnv.2.2.2.2.1 (fun I hx => ?_))
      refine gl_iload 8 d_Law_260 rfl ?_
      refine gl_iconst d_Law_262 ?_
      refine gl_iadd d_Law_263 ?_
      refine gl_icmp_new 271 d_Law_264 (by decide) (by rw [e239]; exact ne_succ _) ?_
      refine gl_iconst d_Law_271 ?_
      refine gl_icmp_eq 277 d_Law_272 (by decide) ⟨by decide, by decide⟩ ⟨by decide, by decide⟩ (fun _ => ?_) (fun hq => absurd (by omega) hq)
      exact gl_le (K I hx) (by exact ⟨rfl, ⟨rfl, ⟨rfl, ⟨rfl, ⟨rfl, ⟨rfl, ⟨rfl, trivial⟩⟩⟩⟩⟩⟩⟩)
    · have z1 : A1.1 236 = zo := by omega
      have z2 : 0 < z := by omega
      refine gl_iload 6 d_Law_160 rfl ?_
      refine gl_if_ne 169 d_Law_162 (by decide) ⟨by omega, by omega⟩ (fun _ => ?_) (fun hq => absurd hq (by omega))
      refine gl_iconst d_Law_169 ?_
      refine gl_iload 9 d_Law_170 rfl ?_
      refine gl_ldc (n := (-2000000009)) d_Law_172 kw_Law_100 (by decide +kernel) ?_
      refine gl_icmp_ne 181 d_Law_174 (by decide) ⟨by omega, by omega⟩ ⟨by decide, by decide⟩ (fun _ => ?_) (fun hq => absurd hq (by omega))
      refine gl_iconst d_Law_181 ?_
      refine gl_icmp_ne 275 d_Law_182 (by decide) ⟨by decide, by decide⟩ ⟨by decide, by decide⟩ (fun hq => absurd hq (by omega)) (fun _ => ?_)
      refine gl_iload 6 d_Law_185 rfl ?_
      refine gl_iconst d_Law_187 ?_
      refine gl_iand d_Law_188 ?_
      refine gl_iconst d_Law_189 ?_
      refine gl_icmp_ne 197 d_Law_190 (by decide) ⟨by omega, by omega⟩ ⟨by decide, by decide⟩ (fun _ => ?_) (fun hq => absurd hq (by omega))
      refine gl_iconst d_Law_197 ?_
      refine gl_aload_n 1 d_Law_198 rfl rfl ?_
      refine gl_iconst d_Law_199 ?_
      refine gl_invV (as := [.inl 4]) (k := 0) (rest := [gI 0]) (d' := 6) d_Law_200 lk_Law_12 (ga_rcv ga_oG rfl rfl) rfl (Nat.le_of_ble_eq_true rfl) (Nat.le_of_ble_eq_true rfl) rfl rfl (l_count (v := A1.1 236) ⟨by decide, by decide⟩ hx hA1 cnv.2.1 (fun I hx => ?_))
      refine gl_iload 7 d_Law_203 rfl ?_
      refine gl_icmp_eq 212 d_Law_205 (by decide) ⟨by omega, by omega⟩ ⟨by omega, by omega⟩ (fun _ => ?_) (fun hq => absurd (by omega) hq)
      refine gl_iconst d_Law_212 ?_
      refine gl_icmp_ne 275 d_Law_213 (by decide) ⟨by decide, by decide⟩ ⟨by decide, by decide⟩ (fun hq => absurd hq (by omega)) (fun _ => ?_)
      refine gl_iload 6 d_Law_216 rfl ?_
      refine gl_bipush d_Law_218 (by decide +kernel) ?_
      refine gl_iand d_Law_220 ?_
      refine gl_bipush d_Law_221 (by decide +kernel) ?_
      refine gl_icmp_ne 230 d_Law_223 (by decide) ⟨by omega, by omega⟩ ⟨by decide, by decide⟩ (fun hq => absurd hq (by omega)) (fun _ => ?_)
      refine gl_iconst d_Law_226 ?_
      refine gl_goto 231 d_Law_227 (by decide) ?_
      refine gl_iload 9 d_Law_231 rfl ?_
      refine gl_if_le 240 d_Law_233 (by decide) ⟨by omega, by omega⟩ (fun hq => absurd hq (by omega)) (fun _ => ?_)
      refine gl_iconst d_Law_236 ?_
      refine gl_goto 241 d_Law_237 (by decide) ?_
      refine gl_icmp_ne 275 d_Law_241 (by decide) ⟨by decide, by decide⟩ ⟨by decide, by decide⟩ (fun hq => absurd hq (by omega)) (fun _ => ?_)
      refine gl_iload 6 d_Law_244 rfl ?_
      refine gl_if_ne 253 d_Law_246 (by decide) ⟨by omega, by omega⟩ (fun _ => ?_) (fun hq => absurd hq (by omega))
      refine gl_iconst d_Law_253 ?_
      refine gl_aload_n 1 d_Law_254 rfl rfl ?_
      refine gl_bipush d_Law_255 (by decide +kernel) ?_
      refine gl_invV (as := [.inl 7]) (k := 0) (rest := [gI 0]) (d' := 6) d_Law_257 lk_Law_12 (ga_rcv ga_oG rfl rfl) rfl (Nat.le_of_ble_eq_true rfl) (Nat.le_of_ble_eq_true rfl) rfl rfl (l_count (v := A1.1 239) ⟨by decide, by decide⟩ hx hA1 cnv.2.2.2.2.1 (fun I hx => ?_))
      refine gl_iload 8 d_Law_260 rfl ?_
      refine gl_iconst d_Law_262 ?_
      refine gl_iadd d_Law_263 ?_
      refine gl_icmp_new 271 d_Law_264 (by decide) (by rw [e239]; exact ne_succ _) ?_
      refine gl_iconst d_Law_271 ?_
      refine gl_icmp_eq 277 d_Law_272 (by decide) ⟨by decide, by decide⟩ ⟨by decide, by decide⟩ (fun _ => ?_) (fun hq => absurd (by omega) hq)
      exact gl_le (K I hx) (by exact ⟨rfl, ⟨rfl, ⟨rfl, ⟨rfl, ⟨rfl, ⟨rfl, ⟨rfl, trivial⟩⟩⟩⟩⟩⟩⟩)
    · have z1 : ¬ A1.1 236 = zo := by omega
      have z2 : z = 0 := by omega
      refine gl_iload 6 d_Law_160 rfl ?_
      refine gl_if_ne 169 d_Law_162 (by decide) ⟨by omega, by omega⟩ (fun _ => ?_) (fun hq => absurd hq (by omega))
      refine gl_iconst d_Law_169 ?_
      refine gl_iload 9 d_Law_170 rfl ?_
      refine gl_ldc (n := (-2000000009)) d_Law_172 kw_Law_100 (by decide +kernel) ?_
      refine gl_icmp_ne 181 d_Law_174 (by decide) ⟨by omega, by omega⟩ ⟨by decide, by decide⟩ (fun _ => ?_) (fun hq => absurd hq (by omega))
      refine gl_iconst d_Law_181 ?_
      refine gl_icmp_ne 275 d_Law_182 (by decide) ⟨by decide, by decide⟩ ⟨by decide, by decide⟩ (fun hq => absurd hq (by omega)) (fun _ => ?_)
      refine gl_iload 6 d_Law_185 rfl ?_
      refine gl_iconst d_Law_187 ?_
      refine gl_iand d_Law_188 ?_
      refine gl_iconst d_Law_189 ?_
      refine gl_icmp_ne 197 d_Law_190 (by decide) ⟨by omega, by omega⟩ ⟨by decide, by decide⟩ (fun hq => absurd hq (by omega)) (fun _ => ?_)
      refine gl_iconst d_Law_193 ?_
      refine gl_goto 198 d_Law_194 (by decide) ?_
      refine gl_aload_n 1 d_Law_198 rfl rfl ?_
      refine gl_iconst d_Law_199 ?_
      refine gl_invV (as := [.inl 4]) (k := 0) (rest := [gI 1]) (d' := 6) d_Law_200 lk_Law_12 (ga_rcv ga_oG rfl rfl) rfl (Nat.le_of_ble_eq_true rfl) (Nat.le_of_ble_eq_true rfl) rfl rfl (l_count (v := A1.1 236) ⟨by decide, by decide⟩ hx hA1 cnv.2.1 (fun I hx => ?_))
      refine gl_iload 7 d_Law_203 rfl ?_
      refine gl_icmp_eq 212 d_Law_205 (by decide) ⟨by omega, by omega⟩ ⟨by omega, by omega⟩ (fun hq => absurd hq (by omega)) (fun _ => ?_)
      refine gl_iconst d_Law_208 ?_
      refine gl_goto 213 d_Law_209 (by decide) ?_
      refine gl_icmp_ne 275 d_Law_213 (by decide) ⟨by decide, by decide⟩ ⟨by decide, by decide⟩ (fun hq => absurd hq (by omega)) (fun _ => ?_)
      refine gl_iload 6 d_Law_216 rfl ?_
      refine gl_bipush d_Law_218 (by decide +kernel) ?_
      refine gl_iand d_Law_220 ?_
      refine gl_bipush d_Law_221 (by decide +kernel) ?_
      refine gl_icmp_ne 230 d_Law_223 (by decide) ⟨by omega, by omega⟩ ⟨by decide, by decide⟩ (fun _ => ?_) (fun hq => absurd hq (by omega))
      refine gl_iconst d_Law_230 ?_
      refine gl_iload 9 d_Law_231 rfl ?_
      refine gl_if_le 240 d_Law_233 (by decide) ⟨by omega, by omega⟩ (fun _ => ?_) (fun hq => absurd (by omega) hq)
      refine gl_iconst d_Law_240 ?_
      refine gl_icmp_ne 275 d_Law_241 (by decide) ⟨by decide, by decide⟩ ⟨by decide, by decide⟩ (fun hq => absurd hq (by omega)) (fun _ => ?_)
      refine gl_iload 6 d_Law_244 rfl ?_
      refine gl_if_ne 253 d_Law_246 (by decide) ⟨by omega, by omega⟩ (fun _ => ?_) (fun hq => absurd hq (by omega))
      refine gl_iconst d_Law_253 ?_
      refine gl_aload_n 1 d_Law_254 rfl rfl ?_
      refine gl_bipush d_Law_255 (by decide +kernel) ?_
      refine gl_invV (as := [.inl 7]) (k := 0) (rest := [gI 0]) (d' := 6) d_Law_257 lk_Law_12 (ga_rcv ga_oG rfl rfl) rfl (Nat.le_of_ble_eq_true rfl) (Nat.le_of_ble_eq_true rfl) rfl rfl (l_count (v := A1.1 239) ⟨by decide, by decide⟩ hx hA1 cnv.2.2.2.2.1 (fun I hx => ?_))
      refine gl_iload 8 d_Law_260 rfl ?_
      refine gl_iconst d_Law_262 ?_
      refine gl_iadd d_Law_263 ?_
      refine gl_icmp_new 271 d_Law_264 (by decide) (by rw [e239]; exact ne_succ _) ?_
      refine gl_iconst d_Law_271 ?_
      refine gl_icmp_eq 277 d_Law_272 (by decide) ⟨by decide, by decide⟩ ⟨by decide, by decide⟩ (fun _ => ?_) (fun hq => absurd (by omega) hq)
      exact gl_le (K I hx) (by exact ⟨rfl, ⟨rfl, ⟨rfl, ⟨rfl, ⟨rfl, ⟨rfl, ⟨rfl, trivial⟩⟩⟩⟩⟩⟩⟩)
    · have z1 : ¬ A1.1 236 = zo := by omega
      have z2 : 0 < z := by omega
      refine gl_iload 6 d_Law_160 rfl ?_
      refine gl_if_ne 169 d_Law_162 (by decide) ⟨by omega, by omega⟩ (fun _ => ?_) (fun hq => absurd hq (by omega))
      refine gl_iconst d_Law_169 ?_
      refine gl_iload 9 d_Law_170 rfl ?_
      refine gl_ldc (n := (-2000000009)) d_Law_172 kw_Law_100 (by decide +kernel) ?_
      refine gl_icmp_ne 181 d_Law_174 (by decide) ⟨by omega, by omega⟩ ⟨by decide, by decide⟩ (fun _ => ?_) (fun hq => absurd hq (by omega))
      refine gl_iconst d_Law_181 ?_
      refine gl_icmp_ne 275 d_Law_182 (by decide) ⟨by decide, by decide⟩ ⟨by decide, by decide⟩ (fun hq => absurd hq (by omega)) (fun _ => ?_)
      refine gl_iload 6 d_Law_185 rfl ?_
      refine gl_iconst d_Law_187 ?_
      refine gl_iand d_Law_188 ?_
      refine gl_iconst d_Law_189 ?_
      refine gl_icmp_ne 197 d_Law_190 (by decide) ⟨by omega, by omega⟩ ⟨by decide, by decide⟩ (fun hq => absurd hq (by omega)) (fun _ => ?_)
      refine gl_iconst d_Law_193 ?_
      refine gl_goto 198 d_Law_194 (by decide) ?_
      refine gl_aload_n 1 d_Law_198 rfl rfl ?_
      refine gl_iconst d_Law_199 ?_
      refine gl_invV (as := [.inl 4]) (k := 0) (rest := [gI 1]) (d' := 6) d_Law_200 lk_Law_12 (ga_rcv ga_oG rfl rfl) rfl (Nat.le_of_ble_eq_true rfl) (Nat.le_of_ble_eq_true rfl) rfl rfl (l_count (v := A1.1 236) ⟨by decide, by decide⟩ hx hA1 cnv.2.1 (fun I hx => ?_))
      refine gl_iload 7 d_Law_203 rfl ?_
      refine gl_icmp_eq 212 d_Law_205 (by decide) ⟨by omega, by omega⟩ ⟨by omega, by omega⟩ (fun hq => absurd hq (by omega)) (fun _ => ?_)
      refine gl_iconst d_Law_208 ?_
      refine gl_goto 213 d_Law_209 (by decide) ?_
      refine gl_icmp_ne 275 d_Law_213 (by decide) ⟨by decide, by decide⟩ ⟨by decide, by decide⟩ (fun hq => absurd hq (by omega)) (fun _ => ?_)
      refine gl_iload 6 d_Law_216 rfl ?_
      refine gl_bipush d_Law_218 (by decide +kernel) ?_
      refine gl_iand d_Law_220 ?_
      refine gl_bipush d_Law_221 (by decide +kernel) ?_
      refine gl_icmp_ne 230 d_Law_223 (by decide) ⟨by omega, by omega⟩ ⟨by decide, by decide⟩ (fun hq => absurd hq (by omega)) (fun _ => ?_)
      refine gl_iconst d_Law_226 ?_
      refine gl_goto 231 d_Law_227 (by decide) ?_
      refine gl_iload 9 d_Law_231 rfl ?_
      refine gl_if_le 240 d_Law_233 (by decide) ⟨by omega, by omega⟩ (fun hq => absurd hq (by omega)) (fun _ => ?_)
      refine gl_iconst d_Law_236 ?_
      refine gl_goto 241 d_Law_237 (by decide) ?_
      refine gl_icmp_ne 275 d_Law_241 (by decide) ⟨by decide, by decide⟩ ⟨by decide, by decide⟩ (fun hq => absurd hq (by omega)) (fun _ => ?_)
      refine gl_iload 6 d_Law_244 rfl ?_
      refine gl_if_ne 253 d_Law_246 (by decide) ⟨by omega, by omega⟩ (fun _ => ?_) (fun hq => absurd hq (by omega))
      refine gl_iconst d_Law_253 ?_
      refine gl_aload_n 1 d_Law_254 rfl rfl ?_
      refine gl_bipush d_Law_255 (by decide +kernel) ?_
      refine gl_invV (as := [.inl 7]) (k := 0) (rest := [gI 0]) (d' := 6) d_Law_257 lk_Law_12 (ga_rcv ga_oG rfl rfl) rfl (Nat.le_of_ble_eq_true rfl) (Nat.le_of_ble_eq_true rfl) rfl rfl (l_count (v := A1.1 239) ⟨by decide, by decide⟩ hx hA1 cnv.2.2.2.2.1 (fun I hx => ?_))
      refine gl_iload 8 d_Law_260 rfl ?_
      refine gl_iconst d_Law_262 ?_
      refine gl_iadd d_Law_263 ?_
      refine gl_icmp_new 271 d_Law_264 (by decide) (by rw [e239]; exact ne_succ _) ?_
      refine gl_iconst d_Law_271 ?_
      refine gl_icmp_eq 277 d_Law_272 (by decide) ⟨by decide, by decide⟩ ⟨by decide, by decide⟩ (fun _ => ?_) (fun hq => absurd (by omega) hq)
      exact gl_le (K I hx) (by exact ⟨rfl, ⟨rfl, ⟨rfl, ⟨rfl, ⟨rfl, ⟨rfl, ⟨rfl, trivial⟩⟩⟩⟩⟩⟩⟩)
theorem lw_118 (hy : ga_rg y) (hA : ni_a A) (hp : np_s A.1) (hr : ni_s r) (hpr : np_s r) (hF : ∀ X : nX, nz (A.1, X) y = (na_act (A.1, X) r, z)) (Hm : (an y 15 = 10 ∨ an y 15 = 11) → eff = na_effect A (lo (sh y 3) 1001) (lo (sh (y * 7) 4) 1001)) (K : ∀ (J : ga_I) (A1 : na_A), rx J A1 → ni_a A1 → np_s A1.1 → gl_W G 7 mt_Law 334 [some (gR 1000), some (gR 0), some (gI (t : Int)), none, none, none, none, none, none, none, none, none, none] [] J E) (hx : rx I (na_act A r)) : gl_W G 7 mt_Law 118 [some (gR 1000), some (gR 0), some (gI (t : Int)), some (gI y), some (gJ (dg A.1)), none, some (gI eff), some (gI (A.1 236)), some (gI (A.1 239)), some (gI z), some (gI 0), none, none] [] I E := by
  have b15 := an_15 y
  by_cases hm : an y 15 = 10 ∨ an y 15 = 11
  · have bX := lo_bd (sh y 3) 1001 (by omega)
    have bY := lo_bd (sh (y * 7) 4) 1001 (by omega)
    have e1 : (na_act A r, z) = (na_act A (ns_mm A.1 (lo (sh y 3) 1001) (lo (sh (y * 7) 4) 1001)), na_mm A.1 (lo (sh y 3) 1001) (lo (sh (y * 7) 4) 1001)) := (hF A.2).symm.trans (nz_mv hm)
    have er : r = ns_mm A.1 (lo (sh y 3) 1001) (lo (sh (y * 7) 4) 1001) := congrArg (fun R : na_A × Int => R.1.1) e1
    have ez : z = na_mm A.1 (lo (sh y 3) 1001) (lo (sh (y * 7) 4) 1001) := congrArg Prod.snd e1
    have ee : eff = na_effect (A.1, A.2) (lo (sh y 3) 1001) (lo (sh (y * 7) 4) 1001) := Hm hm
    have H : (eff = 0 ∧ z = -2000000009 ∧ (na_act A r).1 236 = A.1 236 ∧ (na_act A r).1 239 = ga_wr (A.1 239 + 1)) ∨ (∃ a b c : Int, (a = 0 ∨ a = 2) ∧ (b = 0 ∨ b = 4) ∧ (c = 0 ∨ c = 8) ∧ eff = 1 + a + b + c ∧ (a = 0 ↔ (na_act A r).1 236 = A.1 236) ∧ (c = 0 ↔ z = 0) ∧ 0 ≤ z ∧ z ≤ 9999 ∧ (na_act A r).1 239 = A.1 239) := by
      show (eff = 0 ∧ z = -2000000009 ∧ r 236 = A.1 236 ∧ r 239 = ga_wr (A.1 239 + 1)) ∨ (∃ a b c : Int, (a = 0 ∨ a = 2) ∧ (b = 0 ∨ b = 4) ∧ (c = 0 ∨ c = 8) ∧ eff = 1 + a + b + c ∧ (a = 0 ↔ r 236 = A.1 236) ∧ (c = 0 ↔ z = 0) ∧ 0 ≤ z ∧ z ≤ 9999 ∧ r 239 = A.1 239)
      rw [ee, er, ez]
      rcases nz_eff hA.1 (x := (lo (sh y 3) 1001)) (y := (lo (sh (y * 7) 4) 1001)) ⟨by omega, by omega⟩ ⟨by omega, by omega⟩ A.2 with ⟨-, f1, f2, f3, f4⟩ | ⟨a, b, c, f1, f2, f3, f4, f5, f6, f7, f8, f9⟩
      · exact Or.inl ⟨f1, f2, f3, f4⟩
      · exact Or.inr ⟨a, b, c, f1, f2, f3, f4, f5, f6, f7, f8, f9⟩
    refine gl_iload 10 d_Law_118 rfl ?_
    refine gl_if_eq 133 d_Law_120 (by decide) ⟨by decide, by decide⟩ (fun _ => ?_) (fun hq => absurd (by omega) hq)
    refine gl_aload_n 1 d_Law_133 rfl rfl ?_
    refine gl_invS (as := [.inr 0]) (rest := []) (d' := 6) d_Law_134 lk_Law_101 rfl (Nat.le_of_ble_eq_true rfl) (Nat.le_of_ble_eq_true rfl) rfl rfl (w_isRight hx (ni_act hA hr) hpr (fun I hx => ?_))
    refine gl_if_ne 142 d_Law_137 (by decide) ⟨by decide, by decide⟩ (fun _ => ?_) (fun hq => absurd hq (by omega))
    refine gl_iload_n 3 d_Law_142 rfl rfl ?_
    refine gl_bipush d_Law_143 (by decide +kernel) ?_
    refine gl_iand d_Law_145 ?_
    refine gl_bipush d_Law_146 (by decide +kernel) ?_
    refine gl_icmp_eq 160 d_Law_148 (by decide) ⟨by omega, by omega⟩ ⟨by decide, by decide⟩ (fun h10 => ?_) (fun h10 => ?_)
    · exact gl_le (lw_160 (eff := eff) (A1 := na_act A r) (zo := A.1 236) (ig := A.1 239) H hx (ni_act hA hr) (z236 hA.1) (fun J j1 => lw_277 hy hA hr hpr hF K j1)) (by exact ⟨rfl, ⟨rfl, ⟨rfl, ⟨rfl, ⟨rfl, ⟨rfl, ⟨rfl, ⟨rfl, ⟨rfl, ⟨rfl, trivial⟩⟩⟩⟩⟩⟩⟩⟩⟩⟩)
    · refine gl_iload_n 3 d_Law_151 rfl rfl ?_
      refine gl_bipush d_Law_152 (by decide +kernel) ?_
      refine gl_iand d_Law_154 ?_
      refine gl_bipush d_Law_155 (by decide +kernel) ?_
      refine gl_icmp_ne 277 d_Law_157 (by decide) ⟨by omega, by omega⟩ ⟨by decide, by decide⟩ (fun hq => absurd (hm.resolve_left h10) hq) (fun _ => ?_)
      exact gl_le (lw_160 (eff := eff) (A1 := na_act A r) (zo := A.1 236) (ig := A.1 239) H hx (ni_act hA hr) (z236 hA.1) (fun J j1 => lw_277 hy hA hr hpr hF K j1)) (by exact ⟨rfl, ⟨rfl, ⟨rfl, ⟨rfl, ⟨rfl, ⟨rfl, ⟨rfl, ⟨rfl, ⟨rfl, ⟨rfl, trivial⟩⟩⟩⟩⟩⟩⟩⟩⟩⟩)
  · refine gl_iload 10 d_Law_118 rfl ?_
    refine gl_if_eq 133 d_Law_120 (by decide) ⟨by decide, by decide⟩ (fun _ => ?_) (fun hq => absurd (by omega) hq)
    refine gl_aload_n 1 d_Law_133 rfl rfl ?_
    refine gl_invS (as := [.inr 0]) (rest := []) (d' := 6) d_Law_134 lk_Law_101 rfl (Nat.le_of_ble_eq_true rfl) (Nat.le_of_ble_eq_true rfl) rfl rfl (w_isRight hx (ni_act hA hr) hpr (fun I hx => ?_))
    refine gl_if_ne 142 d_Law_137 (by decide) ⟨by decide, by decide⟩ (fun _ => ?_) (fun hq => absurd hq (by omega))
    refine gl_iload_n 3 d_Law_142 rfl rfl ?_
    refine gl_bipush d_Law_143 (by decide +kernel) ?_
    refine gl_iand d_Law_145 ?_
    refine gl_bipush d_Law_146 (by decide +kernel) ?_
    refine gl_icmp_eq 160 d_Law_148 (by decide) ⟨by omega, by omega⟩ ⟨by decide, by decide⟩ (fun hq => absurd hq (by omega)) (fun _ => ?_)
    refine gl_iload_n 3 d_Law_151 rfl rfl ?_
    refine gl_bipush d_Law_152 (by decide +kernel) ?_
    refine gl_iand d_Law_154 ?_
    refine gl_bipush d_Law_155 (by decide +kernel) ?_
    refine gl_icmp_ne 277 d_Law_157 (by decide) ⟨by omega, by omega⟩ ⟨by decide, by decide⟩ (fun _ => ?_) (fun hq => absurd hq (by omega))
    exact gl_le (lw_277 hy hA hr hpr hF K hx) (by exact ⟨rfl, ⟨rfl, ⟨rfl, ⟨rfl, ⟨rfl, ⟨rfl, ⟨rfl, trivial⟩⟩⟩⟩⟩⟩⟩)
theorem lw_77 (hy : ga_rg y) (hA : ni_a A) (hp : np_s A.1) (Hm : (an y 15 = 10 ∨ an y 15 = 11) → eff = na_effect A (lo (sh y 3) 1001) (lo (sh (y * 7) 4) 1001)) (K : ∀ (J : ga_I) (A1 : na_A), rx J A1 → ni_a A1 → np_s A1.1 → gl_W G 7 mt_Law 334 [some (gR 1000), some (gR 0), some (gI (t : Int)), none, none, none, none, none, none, none, none, none, none] [] J E) (hx : rx I A) : gl_W G 7 mt_Law 77 [some (gR 1000), some (gR 0), some (gI (t : Int)), some (gI y), some (gJ (dg A.1)), none, some (gI eff), none, none, none, none, none, none] [] I E := by
  have b15 := an_15 y
  rcases nq_nz (y := y) hA.1 hp with ⟨z, ⟨z1, z2, z3⟩, hF⟩ | ⟨z, r, ⟨z1, z2⟩, hpr, hr, hF⟩
  · have hn : ¬ (an y 15 = 10 ∨ an y 15 = 11) := fun hm => by
      have bX := lo_bd (sh y 3) 1001 (by omega)
      have bY := lo_bd (sh (y * 7) 4) 1001 (by omega)
      have e1 : (A, z) = (na_act A (ns_mm A.1 (lo (sh y 3) 1001) (lo (sh (y * 7) 4) 1001)), na_mm A.1 (lo (sh y 3) 1001) (lo (sh (y * 7) 4) 1001)) := (hF A.2).symm.trans (nz_mv hm)
      have ez : z = na_mm A.1 (lo (sh y 3) 1001) (lo (sh (y * 7) 4) 1001) := congrArg Prod.snd e1
      rcases nz_eff hA.1 (x := (lo (sh y 3) 1001)) (y := (lo (sh (y * 7) 4) 1001)) ⟨by omega, by omega⟩ ⟨by omega, by omega⟩ A.2 with ⟨-, f1, f2, f3, f4⟩ | ⟨a, b, c, f1, f2, f3, f4, f5, f6, f7, f8, f9⟩
      · omega
      · omega
    refine gl_aload_n 1 d_Law_77 rfl rfl ?_
    refine gl_iconst d_Law_78 ?_
    refine gl_invV (as := [.inl 4]) (k := 0) (rest := []) (d' := 6) d_Law_79 lk_Law_12 (ga_rcv ga_oG rfl rfl) rfl (Nat.le_of_ble_eq_true rfl) (Nat.le_of_ble_eq_true rfl) rfl rfl (l_count (v := A.1 236) ⟨by decide, by decide⟩ hx hA cnv.2.1 (fun I hx => ?_))
    refine gl_istore 7 d_Law_82 (Nat.le_of_ble_eq_true rfl) rfl rfl ?_
    refine gl_aload_n 1 d_Law_84 rfl rfl ?_
    refine gl_bipush d_Law_85 (by decide +kernel) ?_
    refine gl_invV (as := [.inl 7]) (k := 0) (rest := []) (d' := 6) d_Law_87 lk_Law_12 (ga_rcv ga_oG rfl rfl) rfl (Nat.le_of_ble_eq_true rfl) (Nat.le_of_ble_eq_true rfl) rfl rfl (l_count (v := A.1 239) ⟨by decide, by decide⟩ hx hA cnv.2.2.2.2.1 (fun I hx => ?_))
    refine gl_istore 8 d_Law_90 (Nat.le_of_ble_eq_true rfl) rfl rfl ?_
    refine gl_aload_n 1 d_Law_92 rfl rfl ?_
    refine gl_iload_n 3 d_Law_93 rfl rfl ?_
    refine gl_invS (as := [.inr 0, .inl y]) (rest := []) (d' := 6) d_Law_94 lk_Law_96 rfl (Nat.le_of_ble_eq_true rfl) (Nat.le_of_ble_eq_true rfl) rfl rfl (w_act hy hx hA (nx_e (hF A.2) (fun I hx => ?_)))
    refine gl_istore 9 d_Law_97 (Nat.le_of_ble_eq_true rfl) rfl rfl ?_
    refine gl_iload 9 d_Law_99 rfl ?_
    refine gl_if_ge 115 d_Law_101 (by decide) ⟨by omega, by omega⟩ (fun hq => absurd hq (by omega)) (fun _ => ?_)
    refine gl_iload 9 d_Law_104 rfl ?_
    refine gl_ldc (n := (-2000000009)) d_Law_106 kw_Law_100 (by decide +kernel) ?_
    refine gl_icmp_eq 115 d_Law_108 (by decide) ⟨by omega, by omega⟩ ⟨by decide, by decide⟩ (fun hq => absurd hq (by omega)) (fun _ => ?_)
    refine gl_iconst d_Law_111 ?_
    refine gl_goto 116 d_Law_112 (by decide) ?_
    refine gl_istore 10 d_Law_116 (Nat.le_of_ble_eq_true rfl) rfl rfl ?_
    refine gl_iload 10 d_Law_118 rfl ?_
    refine gl_if_eq 133 d_Law_120 (by decide) ⟨by decide, by decide⟩ (fun hq => absurd hq (by omega)) (fun _ => ?_)
    refine gl_aload_n 1 d_Law_123 rfl rfl ?_
    refine gl_invL (as := [.inr 0]) (rest := []) (d' := 6) d_Law_124 lk_Law_89 rfl rfl (Nat.le_of_ble_eq_true rfl) (Nat.le_of_ble_eq_true rfl) rfl rfl (w_digest hx hA (fun I hx => ?_))
    refine gl_lload 4 d_Law_127 rfl ?_
    refine gl_lcmp d_Law_129 rfl ?_
    refine gl_if_ne 140 d_Law_130 (by decide) ⟨by decide, by decide⟩ (fun hq => absurd hq (by omega)) (fun _ => ?_)
    refine gl_aload_n 1 d_Law_133 rfl rfl ?_
    refine gl_invS (as := [.inr 0]) (rest := []) (d' := 6) d_Law_134 lk_Law_101 rfl (Nat.le_of_ble_eq_true rfl) (Nat.le_of_ble_eq_true rfl) rfl rfl (w_isRight hx hA hp (fun I hx => ?_))
    refine gl_if_ne 142 d_Law_137 (by decide) ⟨by decide, by decide⟩ (fun _ => ?_) (fun hq => absurd hq (by omega))
    refine gl_iload_n 3 d_Law_142 rfl rfl ?_
    refine gl_bipush d_Law_143 (by decide +kernel) ?_
    refine gl_iand d_Law_145 ?_
    refine gl_bipush d_Law_146 (by decide +kernel) ?_
    refine gl_icmp_eq 160 d_Law_148 (by decide) ⟨by omega, by omega⟩ ⟨by decide, by decide⟩ (fun hq => absurd hq (by omega)) (fun _ => ?_)
    refine gl_iload_n 3 d_Law_151 rfl rfl ?_
    refine gl_bipush d_Law_152 (by decide +kernel) ?_
    refine gl_iand d_Law_154 ?_
    refine gl_bipush d_Law_155 (by decide +kernel) ?_
    refine gl_icmp_ne 277 d_Law_157 (by decide) ⟨by omega, by omega⟩ ⟨by decide, by decide⟩ (fun _ => ?_) (fun hq => absurd hq (by omega))
    refine gl_iload 10 d_Law_277 rfl ?_
    refine gl_if_ne 334 d_Law_279 (by decide) ⟨by decide, by decide⟩ (fun _ => ?_) (fun hq => absurd hq (by omega))
    exact gl_le (K I A hx hA hp) (by exact ⟨rfl, ⟨rfl, ⟨rfl, trivial⟩⟩⟩)
  · rcases z1 with z1 | z1
    · refine gl_aload_n 1 d_Law_77 rfl rfl ?_
      refine gl_iconst d_Law_78 ?_
      refine gl_invV (as := [.inl 4]) (k := 0) (rest := []) (d' := 6) d_Law_79 lk_Law_12 (ga_rcv ga_oG rfl rfl) rfl (Nat.le_of_ble_eq_true rfl) (Nat.le_of_ble_eq_true rfl) rfl rfl (l_count (v := A.1 236) ⟨by decide, by decide⟩ hx hA cnv.2.1 (fun I hx => ?_))
      refine gl_istore 7 d_Law_82 (Nat.le_of_ble_eq_true rfl) rfl rfl ?_
      refine gl_aload_n 1 d_Law_84 rfl rfl ?_
      refine gl_bipush d_Law_85 (by decide +kernel) ?_
      refine gl_invV (as := [.inl 7]) (k := 0) (rest := []) (d' := 6) d_Law_87 lk_Law_12 (ga_rcv ga_oG rfl rfl) rfl (Nat.le_of_ble_eq_true rfl) (Nat.le_of_ble_eq_true rfl) rfl rfl (l_count (v := A.1 239) ⟨by decide, by decide⟩ hx hA cnv.2.2.2.2.1 (fun I hx => ?_))
      refine gl_istore 8 d_Law_90 (Nat.le_of_ble_eq_true rfl) rfl rfl ?_
      refine gl_aload_n 1 d_Law_92 rfl rfl ?_
      refine gl_iload_n 3 d_Law_93 rfl rfl ?_
      refine gl_invS (as := [.inr 0, .inl y]) (rest := []) (d' := 6) d_Law_94 lk_Law_96 rfl (Nat.le_of_ble_eq_true rfl) (Nat.le_of_ble_eq_true rfl) rfl rfl (w_act hy hx hA (nx_e (hF A.2) (fun I hx => ?_)))
      refine gl_istore 9 d_Law_97 (Nat.le_of_ble_eq_true rfl) rfl rfl ?_
      refine gl_iload 9 d_Law_99 rfl ?_
      refine gl_if_ge 115 d_Law_101 (by decide) ⟨by omega, by omega⟩ (fun _ => ?_) (fun hq => absurd (by omega) hq)
      refine gl_iconst d_Law_115 ?_
      refine gl_istore 10 d_Law_116 (Nat.le_of_ble_eq_true rfl) rfl rfl ?_
      exact gl_le (lw_118 (eff := eff) hy hA hp hr hpr hF Hm K hx) (by exact ⟨rfl, ⟨rfl, ⟨rfl, ⟨rfl, ⟨rfl, ⟨rfl, ⟨rfl, ⟨rfl, ⟨rfl, ⟨rfl, trivial⟩⟩⟩⟩⟩⟩⟩⟩⟩⟩)
    · refine gl_aload_n 1 d_Law_77 rfl rfl ?_
      refine gl_iconst d_Law_78 ?_
      refine gl_invV (as := [.inl 4]) (k := 0) (rest := []) (d' := 6) d_Law_79 lk_Law_12 (ga_rcv ga_oG rfl rfl) rfl (Nat.le_of_ble_eq_true rfl) (Nat.le_of_ble_eq_true rfl) rfl rfl (l_count (v := A.1 236) ⟨by decide, by decide⟩ hx hA cnv.2.1 (fun I hx => ?_))
      refine gl_istore 7 d_Law_82 (Nat.le_of_ble_eq_true rfl) rfl rfl ?_
      refine gl_aload_n 1 d_Law_84 rfl rfl ?_
      refine gl_bipush d_Law_85 (by decide +kernel) ?_
      refine gl_invV (as := [.inl 7]) (k := 0) (rest := []) (d' := 6) d_Law_87 lk_Law_12 (ga_rcv ga_oG rfl rfl) rfl (Nat.le_of_ble_eq_true rfl) (Nat.le_of_ble_eq_true rfl) rfl rfl (l_count (v := A.1 239) ⟨by decide, by decide⟩ hx hA cnv.2.2.2.2.1 (fun I hx => ?_))
      refine gl_istore 8 d_Law_90 (Nat.le_of_ble_eq_true rfl) rfl rfl ?_
      refine gl_aload_n 1 d_Law_92 rfl rfl ?_
      refine gl_iload_n 3 d_Law_93 rfl rfl ?_
      refine gl_invS (as := [.inr 0, .inl y]) (rest := []) (d' := 6) d_Law_94 lk_Law_96 rfl (Nat.le_of_ble_eq_true rfl) (Nat.le_of_ble_eq_true rfl) rfl rfl (w_act hy hx hA (nx_e (hF A.2) (fun I hx => ?_)))
      refine gl_istore 9 d_Law_97 (Nat.le_of_ble_eq_true rfl) rfl rfl ?_
      refine gl_iload 9 d_Law_99 rfl ?_
      refine gl_if_ge 115 d_Law_101 (by decide) ⟨by omega, by omega⟩ (fun hq => absurd hq (by omega)) (fun _ => ?_)
      refine gl_iload 9 d_Law_104 rfl ?_
      refine gl_ldc (n := (-2000000009)) d_Law_106 kw_Law_100 (by decide +kernel) ?_
      refine gl_icmp_eq 115 d_Law_108 (by decide) ⟨by omega, by omega⟩ ⟨by decide, by decide⟩ (fun _ => ?_) (fun hq => absurd (by omega) hq)
      refine gl_iconst d_Law_115 ?_
      refine gl_istore 10 d_Law_116 (Nat.le_of_ble_eq_true rfl) rfl rfl ?_
      exact gl_le (lw_118 (eff := eff) hy hA hp hr hpr hF Hm K hx) (by exact ⟨rfl, ⟨rfl, ⟨rfl, ⟨rfl, ⟨rfl, ⟨rfl, ⟨rfl, ⟨rfl, ⟨rfl, ⟨rfl, trivial⟩⟩⟩⟩⟩⟩⟩⟩⟩⟩)
theorem lw_28 (hy : ga_rg y) (hA : ni_a A) (hp : np_s A.1) (K : ∀ (J : ga_I) (A1 : na_A), rx J A1 → ni_a A1 → np_s A1.1 → gl_W G 7 mt_Law 334 [some (gR 1000), some (gR 0), some (gI (t : Int)), none, none, none, none, none, none, none, none, none, none] [] J E) (hx : rx I A) : gl_W G 7 mt_Law 28 [some (gR 1000), some (gR 0), some (gI (t : Int)), some (gI y), some (gJ (dg A.1)), none, none, none, none, none, none, none, none] [] I E := by
  have b15 := an_15 y
  by_cases hm : an y 15 = 10 ∨ an y 15 = 11
  · refine gl_iload_n 3 d_Law_28 rfl rfl ?_
    refine gl_bipush d_Law_29 (by decide +kernel) ?_
    refine gl_iand d_Law_31 ?_
    refine gl_bipush d_Law_32 (by decide +kernel) ?_
    refine gl_icmp_eq 46 d_Law_34 (by decide) ⟨by omega, by omega⟩ ⟨by decide, by decide⟩ (fun h10 => ?_) (fun h10 => ?_)
    · refine gl_aload_n 1 d_Law_46 rfl rfl ?_
      refine gl_iload_n 3 d_Law_47 rfl rfl ?_
      refine gl_iconst d_Law_48 ?_
      refine gl_ishr d_Law_49 ?_
      refine gl_sipush d_Law_50 (by decide +kernel) ?_
      have b1 := lo_bd (sh y 3) 1001 (by omega)
      refine gl_invS (as := [.inl (sh y 3), .inl 1001]) (rest := [gR 0]) (d' := 6) d_Law_53 lk_Law_41 rfl (Nat.le_of_ble_eq_true rfl) (Nat.le_of_ble_eq_true rfl) rfl rfl (w_low (by omega) (by omega) ?_)
      refine gl_iload_n 3 d_Law_56 rfl rfl ?_
      refine gl_bipush d_Law_57 (by decide +kernel) ?_
      refine gl_imul d_Law_59 ?_
      refine gl_iconst d_Law_60 ?_
      refine gl_ishr d_Law_61 ?_
      refine gl_sipush d_Law_62 (by decide +kernel) ?_
      have b2 := lo_bd (sh (y * 7) 4) 1001 (by omega)
      refine gl_invS (as := [.inl (sh (y * 7) 4), .inl 1001]) (rest := [gI (lo (sh y 3) 1001), gR 0]) (d' := 6) d_Law_65 lk_Law_41 rfl (Nat.le_of_ble_eq_true rfl) (Nat.le_of_ble_eq_true rfl) rfl rfl (w_low (by omega) (by omega) ?_)
      refine gl_invV (as := [.inl (lo (sh y 3) 1001), .inl (lo (sh (y * 7) 4) 1001)]) (k := 0) (rest := []) (d' := 6) d_Law_68 lk_Law_93 (ga_rcv ga_oG rfl rfl) rfl (Nat.le_of_ble_eq_true rfl) (Nat.le_of_ble_eq_true rfl) rfl rfl (l_effect (v := na_effect A (lo (sh y 3) 1001) (lo (sh (y * 7) 4) 1001)) ⟨by omega, by omega⟩ ⟨by omega, by omega⟩ hx hA rfl (fun I hx => ?_))
      refine gl_goto 75 d_Law_71 (by decide) ?_
      refine gl_istore 6 d_Law_75 (Nat.le_of_ble_eq_true rfl) rfl rfl ?_
      exact gl_le (lw_77 (eff := (na_effect A (lo (sh y 3) 1001) (lo (sh (y * 7) 4) 1001))) hy hA hp (fun hm2 => rfl) K hx) (by exact ⟨rfl, ⟨rfl, ⟨rfl, ⟨rfl, ⟨rfl, ⟨rfl, trivial⟩⟩⟩⟩⟩⟩)
    · refine gl_iload_n 3 d_Law_37 rfl rfl ?_
      refine gl_bipush d_Law_38 (by decide +kernel) ?_
      refine gl_iand d_Law_40 ?_
      refine gl_bipush d_Law_41 (by decide +kernel) ?_
      refine gl_icmp_ne 74 d_Law_43 (by decide) ⟨by omega, by omega⟩ ⟨by decide, by decide⟩ (fun hq => absurd hq (by omega)) (fun _ => ?_)
      refine gl_aload_n 1 d_Law_46 rfl rfl ?_
      refine gl_iload_n 3 d_Law_47 rfl rfl ?_
      refine gl_iconst d_Law_48 ?_
      refine gl_ishr d_Law_49 ?_
      refine gl_sipush d_Law_50 (by decide +kernel) ?_
      have b3 := lo_bd (sh y 3) 1001 (by omega)
      refine gl_invS (as := [.inl (sh y 3), .inl 1001]) (rest := [gR 0]) (d' := 6) d_Law_53 lk_Law_41 rfl (Nat.le_of_ble_eq_true rfl) (Nat.le_of_ble_eq_true rfl) rfl rfl (w_low (by omega) (by omega) ?_)
      refine gl_iload_n 3 d_Law_56 rfl rfl ?_
      refine gl_bipush d_Law_57 (by decide +kernel) ?_
      refine gl_imul d_Law_59 ?_
      refine gl_iconst d_Law_60 ?_
      refine gl_ishr d_Law_61 ?_
      refine gl_sipush d_Law_62 (by decide +kernel) ?_
      have b4 := lo_bd (sh (y * 7) 4) 1001 (by omega)
      refine gl_invS (as := [.inl (sh (y * 7) 4), .inl 1001]) (rest := [gI (lo (sh y 3) 1001), gR 0]) (d' := 6) d_Law_65 lk_Law_41 rfl (Nat.le_of_ble_eq_true rfl) (Nat.le_of_ble_eq_true rfl) rfl rfl (w_low (by omega) (by omega) ?_)
      refine gl_invV (as := [.inl (lo (sh y 3) 1001), .inl (lo (sh (y * 7) 4) 1001)]) (k := 0) (rest := []) (d' := 6) d_Law_68 lk_Law_93 (ga_rcv ga_oG rfl rfl) rfl (Nat.le_of_ble_eq_true rfl) (Nat.le_of_ble_eq_true rfl) rfl rfl (l_effect (v := na_effect A (lo (sh y 3) 1001) (lo (sh (y * 7) 4) 1001)) ⟨by omega, by omega⟩ ⟨by omega, by omega⟩ hx hA rfl (fun I hx => ?_))
      refine gl_goto 75 d_Law_71 (by decide) ?_
      refine gl_istore 6 d_Law_75 (Nat.le_of_ble_eq_true rfl) rfl rfl ?_
      exact gl_le (lw_77 (eff := (na_effect A (lo (sh y 3) 1001) (lo (sh (y * 7) 4) 1001))) hy hA hp (fun hm2 => rfl) K hx) (by exact ⟨rfl, ⟨rfl, ⟨rfl, ⟨rfl, ⟨rfl, ⟨rfl, trivial⟩⟩⟩⟩⟩⟩)
  · refine gl_iload_n 3 d_Law_28 rfl rfl ?_
    refine gl_bipush d_Law_29 (by decide +kernel) ?_
    refine gl_iand d_Law_31 ?_
    refine gl_bipush d_Law_32 (by decide +kernel) ?_
    refine gl_icmp_eq 46 d_Law_34 (by decide) ⟨by omega, by omega⟩ ⟨by decide, by decide⟩ (fun hq => absurd hq (by omega)) (fun _ => ?_)
    refine gl_iload_n 3 d_Law_37 rfl rfl ?_
    refine gl_bipush d_Law_38 (by decide +kernel) ?_
    refine gl_iand d_Law_40 ?_
    refine gl_bipush d_Law_41 (by decide +kernel) ?_
    refine gl_icmp_ne 74 d_Law_43 (by decide) ⟨by omega, by omega⟩ ⟨by decide, by decide⟩ (fun _ => ?_) (fun hq => absurd hq (by omega))
    refine gl_iconst d_Law_74 ?_
    refine gl_istore 6 d_Law_75 (Nat.le_of_ble_eq_true rfl) rfl rfl ?_
    exact gl_le (lw_77 (eff := 0) hy hA hp (fun hm2 => absurd hm2 hm) K hx) (by exact ⟨rfl, ⟨rfl, ⟨rfl, ⟨rfl, ⟨rfl, ⟨rfl, trivial⟩⟩⟩⟩⟩⟩)
theorem lw_10 (hL : ga_L G < 100000) (K : ∀ (J : ga_I) (A1 : na_A), rx J A1 → ni_a A1 → np_s A1.1 → gl_W G 7 mt_Law 340 [some (gR 1000), some (gR 0), none, none, none, none, none, none, none, none, none, none, none] [] J E) : ∀ (f t : Nat) (I : ga_I) (A : na_A), t + f = 15 → rx I A → ni_a A → np_s A.1 → gl_W G 7 mt_Law 10 [some (gR 1000), some (gR 0), some (gI (t : Int)), none, none, none, none, none, none, none, none, none, none] [] I E := by
  intro f
  induction f with
  | zero =>
    intro t I A hk hx hA hp
    have hk2 : t = 15 := hk
    subst hk2
    refine gl_iload_n 2 d_Law_10 rfl rfl ?_
    refine gl_bipush d_Law_11 (by decide +kernel) ?_
    refine gl_icmp_ge 340 d_Law_13 (by decide) ⟨by omega, by omega⟩ ⟨by decide, by decide⟩ (fun _ => ?_) (fun hq => absurd (by omega) hq)
    exact gl_le (K I A hx hA hp) (by exact ⟨rfl, ⟨rfl, trivial⟩⟩)
  | succ f ih =>
    intro t I A hk hx hA hp
    refine gl_iload_n 2 d_Law_10 rfl rfl ?_
    refine gl_bipush d_Law_11 (by decide +kernel) ?_
    refine gl_icmp_ge 340 d_Law_13 (by decide) ⟨by omega, by omega⟩ ⟨by decide, by decide⟩ (fun hq => absurd hq (by omega)) (fun _ => ?_)
    refine gl_aload_n 0 d_Law_16 rfl rfl ?_
    refine gl_iload_n 2 d_Law_17 rfl rfl ?_
    refine gl_invS (as := [.inr 1000, .inl (t : Int)]) (rest := []) (d' := 6) d_Law_18 lk_Law_85 rfl (Nat.le_of_ble_eq_true rfl) (Nat.le_of_ble_eq_true rfl) rfl rfl (w_cell hL (by omega) (fun y hy => ?_))
    refine gl_istore_n 3 d_Law_21 rfl (Nat.le_of_ble_eq_true rfl) rfl rfl ?_
    refine gl_aload_n 1 d_Law_22 rfl rfl ?_
    refine gl_invL (as := [.inr 0]) (rest := []) (d' := 6) d_Law_23 lk_Law_89 rfl rfl (Nat.le_of_ble_eq_true rfl) (Nat.le_of_ble_eq_true rfl) rfl rfl (w_digest hx hA (fun I hx => ?_))
    refine gl_lstore 4 d_Law_26 (Nat.le_of_ble_eq_true rfl) rfl rfl ?_
    refine gl_le (lw_28 hy hA hp (fun J A1 j1 j2 j3 => ?_) hx) (by exact ⟨rfl, ⟨rfl, ⟨rfl, ⟨rfl, ⟨rfl, trivial⟩⟩⟩⟩⟩)
    refine gl_iinc 2 d_Law_334 rfl rfl rfl ?_
    refine gl_goto 10 d_Law_337 (by decide) ?_
    exact gl_le (ih (t + 1) J A1 (by omega) j1 j2 j3) (by exact ⟨rfl, ⟨rfl, ⟨rfl, trivial⟩⟩⟩)
theorem lw_340 (hE : ∀ J, E (some (gI 1)) J) (hx : rx I A) (hA : ni_a A) : gl_W G 7 mt_Law 340 [some (gR 1000), some (gR 0), none, none, none, none, none, none, none, none, none, none, none] [] I E := by
  have hpt := hA.1.2.1
  have n0 := ni_n hA.1.1 (ax := 0) (by omega)
  have n1 := ni_n hA.1.1 (ax := 1) (by omega)
  have c1 := chat1 hA.1
  have s1 := stp1 hA.1
  have v1 := (val1 hA.1).2
  refine gl_aload_n 1 d_Law_340 rfl rfl ?_
  refine gl_invL (as := [.inr 0]) (rest := []) (d' := 6) d_Law_341 lk_Law_89 rfl rfl (Nat.le_of_ble_eq_true rfl) (Nat.le_of_ble_eq_true rfl) rfl rfl (w_digest hx hA (fun I hx => ?_))
  refine gl_lstore_n 2 d_Law_344 rfl (Nat.le_of_ble_eq_true rfl) rfl rfl ?_
  refine gl_aload_n 1 d_Law_345 rfl rfl ?_
  refine gl_iconst d_Law_346 ?_
  refine gl_invV (as := [.inl 2]) (k := 0) (rest := []) (d' := 6) d_Law_347 lk_Law_12 (ga_rcv ga_oG rfl rfl) rfl (Nat.le_of_ble_eq_true rfl) (Nat.le_of_ble_eq_true rfl) rfl rfl (l_count (v := A.1 234) ⟨by decide, by decide⟩ hx hA cnv.2.2.2.2.2.1 (fun I hx => ?_))
  refine gl_istore 4 d_Law_350 (Nat.le_of_ble_eq_true rfl) rfl rfl ?_
  refine gl_aload_n 1 d_Law_352 rfl rfl ?_
  refine gl_iconst d_Law_353 ?_
  refine gl_invV (as := [.inl 3]) (k := 0) (rest := []) (d' := 6) d_Law_354 lk_Law_12 (ga_rcv ga_oG rfl rfl) rfl (Nat.le_of_ble_eq_true rfl) (Nat.le_of_ble_eq_true rfl) rfl rfl (l_count (v := A.1 235) ⟨by decide, by decide⟩ hx hA cnv.2.2.2.2.2.2 (fun I hx => ?_))
  refine gl_istore 5 d_Law_357 (Nat.le_of_ble_eq_true rfl) rfl rfl ?_
  refine gl_aload_n 1 d_Law_359 rfl rfl ?_
  refine gl_iconst d_Law_360 ?_
  refine gl_sipush d_Law_361 (by decide +kernel) ?_
  refine gl_iconst d_Law_364 ?_
  refine gl_iconst d_Law_365 ?_
  refine gl_invV (as := [.inl 0, .inl 1000, .inl 0, .inl 0]) (k := 0) (rest := []) (d' := 6) d_Law_366 lk_Law_46 (ga_rcv ga_oG rfl rfl) rfl (Nat.le_of_ble_eq_true rfl) (Nat.le_of_ble_eq_true rfl) rfl rfl (x_addBorder (d := 1) ⟨by decide, by decide⟩ ⟨by decide, by decide⟩ ⟨by decide, by decide⟩ ⟨by decide, by decide⟩ hx hA (nx_e (A := A) (if_pos (by omega)) (fun I hx => ?_)))
  refine gl_ldc (n := (-2000000001)) d_Law_369 kw_Law_109 (by decide +kernel) ?_
  refine gl_icmp_ne 463 d_Law_371 (by decide) ⟨by decide, by decide⟩ ⟨by decide, by decide⟩ (fun hq => absurd hq (by omega)) (fun _ => ?_)
  refine gl_aload_n 1 d_Law_374 rfl rfl ?_
  refine gl_iconst d_Law_375 ?_
  refine gl_sipush d_Law_376 (by decide +kernel) ?_
  refine gl_iconst d_Law_379 ?_
  refine gl_iconst d_Law_380 ?_
  refine gl_invV (as := [.inl 0, .inl 500, .inl 1, .inl 0]) (k := 0) (rest := []) (d' := 6) d_Law_381 lk_Law_46 (ga_rcv ga_oG rfl rfl) rfl (Nat.le_of_ble_eq_true rfl) (Nat.le_of_ble_eq_true rfl) rfl rfl (x_addBorder (d := 1) ⟨by decide, by decide⟩ ⟨by decide, by decide⟩ ⟨by decide, by decide⟩ ⟨by decide, by decide⟩ hx hA (nx_e (A := A) (if_pos (by omega)) (fun I hx => ?_)))
  refine gl_ldc (n := (-2000000001)) d_Law_384 kw_Law_109 (by decide +kernel) ?_
  refine gl_icmp_ne 463 d_Law_386 (by decide) ⟨by decide, by decide⟩ ⟨by decide, by decide⟩ (fun hq => absurd hq (by omega)) (fun _ => ?_)
  refine gl_aload_n 1 d_Law_389 rfl rfl ?_
  refine gl_bipush d_Law_390 (by decide +kernel) ?_
  refine gl_invV (as := [.inl 51]) (k := 0) (rest := []) (d' := 6) d_Law_392 lk_Law_69 (ga_rcv ga_oG rfl rfl) rfl (Nat.le_of_ble_eq_true rfl) (Nat.le_of_ble_eq_true rfl) rfl rfl (x_setMargin (d := 1) ⟨by decide, by decide⟩ hx hA (nx_e (A := A) (if_pos (by omega)) (fun I hx => ?_)))
  refine gl_ldc (n := (-2000000001)) d_Law_395 kw_Law_109 (by decide +kernel) ?_
  refine gl_icmp_ne 463 d_Law_397 (by decide) ⟨by decide, by decide⟩ ⟨by decide, by decide⟩ (fun hq => absurd hq (by omega)) (fun _ => ?_)
  refine gl_aload_n 1 d_Law_400 rfl rfl ?_
  refine gl_sipush d_Law_401 (by decide +kernel) ?_
  refine gl_iconst d_Law_404 ?_
  refine gl_invV (as := [.inl 1001, .inl 0]) (k := 0) (rest := []) (d' := 6) d_Law_405 lk_Law_72 (ga_rcv ga_oG rfl rfl) rfl (Nat.le_of_ble_eq_true rfl) (Nat.le_of_ble_eq_true rfl) rfl rfl (x_move (d := 1) ⟨by decide, by decide⟩ ⟨by decide, by decide⟩ hx hA (nx_e (A := A) (if_pos (by omega)) (fun I hx => ?_)))
  refine gl_ldc (n := (-2000000001)) d_Law_408 kw_Law_109 (by decide +kernel) ?_
  refine gl_icmp_ne 463 d_Law_410 (by decide) ⟨by decide, by decide⟩ ⟨by decide, by decide⟩ (fun hq => absurd hq (by omega)) (fun _ => ?_)
  refine gl_aload_n 1 d_Law_413 rfl rfl ?_
  refine gl_iconst d_Law_414 ?_
  refine gl_iload 4 d_Law_415 rfl ?_
  refine gl_iconst d_Law_417 ?_
  refine gl_invV (as := [.inl 0, .inl (A.1 234), .inl 5]) (k := 0) (rest := []) (d' := 6) d_Law_418 lk_Law_75 (ga_rcv ga_oG rfl rfl) rfl (Nat.le_of_ble_eq_true rfl) (Nat.le_of_ble_eq_true rfl) rfl rfl (x_sweep (d := 1) ⟨by decide, by decide⟩ ⟨by omega, by omega⟩ ⟨by decide, by decide⟩ hx hA (nx_e (A := A) ((if_neg (by omega)).trans (if_pos rfl)) (fun I hx => ?_)))
  refine gl_ldc (n := (-2000000002)) d_Law_421 kw_Law_110 (by decide +kernel) ?_
  refine gl_icmp_ne 463 d_Law_423 (by decide) ⟨by decide, by decide⟩ ⟨by decide, by decide⟩ (fun hq => absurd hq (by omega)) (fun _ => ?_)
  refine gl_aload_n 1 d_Law_426 rfl rfl ?_
  refine gl_iconst d_Law_427 ?_
  refine gl_iconst d_Law_428 ?_
  refine gl_iconst d_Law_429 ?_
  refine gl_iconst d_Law_430 ?_
  refine gl_invV (as := [.inl 1, .inl 0, .inl 1, .inl 1]) (k := 0) (rest := []) (d' := 6) d_Law_431 lk_Law_111 (ga_rcv ga_oG rfl rfl) rfl (Nat.le_of_ble_eq_true rfl) (Nat.le_of_ble_eq_true rfl) rfl rfl (l_chatter (v := -2000000001) ⟨by decide, by decide⟩ ⟨by decide, by decide⟩ ⟨by decide, by decide⟩ ⟨by decide, by decide⟩ hx hA (if_pos (by omega)) (fun I hx => ?_))
  refine gl_ldc (n := (-2000000001)) d_Law_434 kw_Law_109 (by decide +kernel) ?_
  refine gl_icmp_ne 463 d_Law_436 (by decide) ⟨by decide, by decide⟩ ⟨by decide, by decide⟩ (fun hq => absurd hq (by omega)) (fun _ => ?_)
  refine gl_aload_n 1 d_Law_439 rfl rfl ?_
  refine gl_iconst d_Law_440 ?_
  refine gl_bipush d_Law_441 (by decide +kernel) ?_
  refine gl_iconst d_Law_443 ?_
  refine gl_iconst d_Law_444 ?_
  refine gl_iconst d_Law_445 ?_
  refine gl_invV (as := [.inl 0, .inl 7, .inl 0, .inl 0, .inl 0]) (k := 0) (rest := []) (d' := 6) d_Law_446 lk_Law_59 (ga_rcv ga_oG rfl rfl) rfl (Nat.le_of_ble_eq_true rfl) (Nat.le_of_ble_eq_true rfl) rfl rfl (x_edit (d := 1) ⟨by decide, by decide⟩ ⟨by decide, by decide⟩ ⟨by decide, by decide⟩ ⟨by decide, by decide⟩ ⟨by decide, by decide⟩ hx hA (nx_e (A := A) (if_pos (by omega)) (fun I hx => ?_)))
  refine gl_ldc (n := (-2000000001)) d_Law_449 kw_Law_109 (by decide +kernel) ?_
  refine gl_icmp_ne 463 d_Law_451 (by decide) ⟨by decide, by decide⟩ ⟨by decide, by decide⟩ (fun hq => absurd hq (by omega)) (fun _ => ?_)
  refine gl_aload_n 1 d_Law_454 rfl rfl ?_
  refine gl_invL (as := [.inr 0]) (rest := []) (d' := 6) d_Law_455 lk_Law_89 rfl rfl (Nat.le_of_ble_eq_true rfl) (Nat.le_of_ble_eq_true rfl) rfl rfl (w_digest hx hA (fun I hx => ?_))
  refine gl_lload_n 2 d_Law_458 rfl rfl ?_
  refine gl_lcmp d_Law_459 rfl ?_
  refine gl_if_eq 465 d_Law_460 (by decide) ⟨by decide, by decide⟩ (fun _ => ?_) (fun hq => absurd (by omega) hq)
  refine gl_aload_n 1 d_Law_465 rfl rfl ?_
  refine gl_iload 4 d_Law_466 rfl ?_
  refine gl_iload 5 d_Law_468 rfl ?_
  refine gl_iconst d_Law_470 ?_
  refine gl_invV (as := [.inl (A.1 234), .inl (A.1 235), .inl 0]) (k := 0) (rest := []) (d' := 6) d_Law_471 lk_Law_114 (ga_rcv ga_oG rfl rfl) rfl (Nat.le_of_ble_eq_true rfl) (Nat.le_of_ble_eq_true rfl) rfl rfl (l_valueAt (v := mp_vt A.1 (A.1 234) (A.1 235) 0) ⟨by omega, by omega⟩ ⟨by omega, by omega⟩ ⟨by decide, by decide⟩ hx hA (val1 hA.1).1 (fun I hx => ?_))
  refine gl_istore 6 d_Law_474 (Nat.le_of_ble_eq_true rfl) rfl rfl ?_
  refine gl_iload 6 d_Law_476 rfl ?_
  refine gl_if_lt 550 d_Law_478 (by decide) ⟨by omega, by omega⟩ (fun hq => absurd hq (by omega)) (fun _ => ?_)
  refine gl_iload 6 d_Law_481 rfl ?_
  refine gl_sipush d_Law_483 (by decide +kernel) ?_
  refine gl_icmp_gt 550 d_Law_486 (by decide) ⟨by omega, by omega⟩ ⟨by decide, by decide⟩ (fun hq => absurd hq (by omega)) (fun _ => ?_)
  refine gl_aload_n 1 d_Law_489 rfl rfl ?_
  refine gl_iconst d_Law_490 ?_
  refine gl_iconst d_Law_491 ?_
  refine gl_iconst d_Law_492 ?_
  refine gl_invV (as := [.inl 0, .inl 0, .inl 0]) (k := 0) (rest := []) (d' := 6) d_Law_493 lk_Law_117 (ga_rcv ga_oG rfl rfl) rfl (Nat.le_of_ble_eq_true rfl) (Nat.le_of_ble_eq_true rfl) rfl rfl (l_steepest (v := na_steepest A 0 0 0) ⟨by decide, by decide⟩ ⟨by decide, by decide⟩ ⟨by decide, by decide⟩ hx hA rfl (fun I hx => ?_))
  refine gl_if_lt 550 d_Law_496 (by decide) ⟨by omega, by omega⟩ (fun hq => absurd hq (by omega)) (fun _ => ?_)
  refine gl_aload_n 1 d_Law_499 rfl rfl ?_
  refine gl_iconst d_Law_500 ?_
  refine gl_sipush d_Law_501 (by decide +kernel) ?_
  refine gl_iconst d_Law_504 ?_
  refine gl_bipush d_Law_505 (by decide +kernel) ?_
  refine gl_invV (as := [.inl 0, .inl 500, .inl 0, .inl 100]) (k := 0) (rest := []) (d' := 6) d_Law_507 lk_Law_111 (ga_rcv ga_oG rfl rfl) rfl (Nat.le_of_ble_eq_true rfl) (Nat.le_of_ble_eq_true rfl) rfl rfl (l_chatter (v := na_chatter A 0 500 0 100) ⟨by decide, by decide⟩ ⟨by decide, by decide⟩ ⟨by decide, by decide⟩ ⟨by decide, by decide⟩ hx hA rfl (fun I hx => ?_))
  refine gl_iconst d_Law_510 ?_
  refine gl_icmp_gt 550 d_Law_511 (by decide) ⟨by omega, by omega⟩ ⟨by decide, by decide⟩ (fun hq => absurd hq (by omega)) (fun _ => ?_)
  refine gl_aload_n 1 d_Law_514 rfl rfl ?_
  refine gl_invL (as := [.inr 0]) (rest := []) (d' := 6) d_Law_515 lk_Law_89 rfl rfl (Nat.le_of_ble_eq_true rfl) (Nat.le_of_ble_eq_true rfl) rfl rfl (w_digest hx hA (fun I hx => ?_))
  refine gl_lload_n 2 d_Law_518 rfl rfl ?_
  refine gl_lcmp d_Law_519 rfl ?_
  refine gl_if_ne 550 d_Law_520 (by decide) ⟨by decide, by decide⟩ (fun hq => absurd hq (by omega)) (fun _ => ?_)
  refine gl_aload_n 1 d_Law_523 rfl rfl ?_
  refine gl_bipush d_Law_524 (by decide +kernel) ?_
  refine gl_invV (as := [.inl 12]) (k := 0) (rest := []) (d' := 6) d_Law_526 lk_Law_12 (ga_rcv ga_oG rfl rfl) rfl (Nat.le_of_ble_eq_true rfl) (Nat.le_of_ble_eq_true rfl) rfl rfl (l_count (v := -2000000001) ⟨by decide, by decide⟩ hx hA rfl (fun I hx => ?_))
  refine gl_ldc (n := (-2000000001)) d_Law_529 kw_Law_109 (by decide +kernel) ?_
  refine gl_icmp_ne 550 d_Law_531 (by decide) ⟨by decide, by decide⟩ ⟨by decide, by decide⟩ (fun hq => absurd hq (by omega)) (fun _ => ?_)
  refine gl_aload_n 1 d_Law_534 rfl rfl ?_
  refine gl_sipush d_Law_535 (by decide +kernel) ?_
  refine gl_invV (as := [.inl 256]) (k := 0) (rest := []) (d' := 6) d_Law_538 lk_Law_120 (ga_rcv ga_oG rfl rfl) rfl (Nat.le_of_ble_eq_true rfl) (Nat.le_of_ble_eq_true rfl) rfl rfl (x_append (d := 5) ⟨by decide, by decide⟩ hx hA (nx_e (A := A) (if_pos (by omega)) (fun I hx => ?_)))
  refine gl_ldc (n := (-2000000001)) d_Law_541 kw_Law_109 (by decide +kernel) ?_
  refine gl_icmp_ne 550 d_Law_543 (by decide) ⟨by decide, by decide⟩ ⟨by decide, by decide⟩ (fun hq => absurd hq (by omega)) (fun _ => ?_)
  refine gl_iconst d_Law_546 ?_
  refine gl_goto 551 d_Law_547 (by decide) ?_
  exact gl_zreturn d_Law_551 rfl (Or.inr rfl) (hE I)
end LB
