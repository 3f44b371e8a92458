/-! the law: digest -/
def gl_lk : List (Option gl_V) → List (Option gl_V) → Prop
  | [], [] => True
  | none :: a, _ :: b => gl_lk a b
  | some v :: a, w :: b => w = some v ∧ gl_lk a b
  | _, _ => False
theorem gl_lk_ok : ∀ {a b : List (Option gl_V)}, gl_lk a b → a.length = b.length ∧ ∀ (i : Nat) (v : gl_V), a[i]? = some (some v) → b[i]? = some (some v)
  | [], [], _ => ⟨rfl, fun i v h => by simp at h⟩
  | none :: a, w :: b, h => by
    obtain ⟨h1, h2⟩ := gl_lk_ok (a := a) (b := b) h
    refine ⟨by simp [h1], fun i v hv => ?_⟩
    cases i with
    | zero => simp at hv
    | succ i => simpa using h2 i v (by simpa using hv)
  | some x :: a, w :: b, h => by
    obtain ⟨h1, h2⟩ := gl_lk_ok (a := a) (b := b) h.2
    refine ⟨by simp [h1], fun i v hv => ?_⟩
    cases i with
    | zero =>
      have e : x = v := by simpa using hv
      rw [h.1, e]; rfl
    | succ i => simpa using h2 i v (by simpa using hv)
  | [], _ :: _, h => h.elim
  | none :: _, [], h => h.elim
  | some _ :: _, [], h => h.elim
theorem gl_le {G : ga_G} {d : Nat} {mt : ga_M} {pc : Nat} {lst lst' : List (Option gl_V)} {st : List gl_V} {I : ga_I} {E : Option gl_V → ga_I → Prop} (K : gl_W G d mt pc lst' st I E) (h : gl_lk lst' lst) : gl_W G d mt pc lst st I E := gl_less K (gl_lk_ok h).1 (gl_lk_ok h).2
-- the questions, as they are asked
section LQ
variable {G : ga_G} {I : ga_I} {E : Option ga_V → ga_I → Prop} {A : na_A} {v : Int}
theorem q_count {w : Int} (r0 : ga_rg w) (hx : rx I A) (hA : ni_a A) (e : na_count A w = v) (K : ∀ J, rx J A → E (some (.inl v)) J) : ga_W G 5 mt_GT_count 0 (ga_en 2 [.inr 0, .inl w]) [] I E :=
  x_count (d := 4) r0 hx hA (fun J j1 _ => by
    have k := K J j1
    rw [← e] at k
    exact k)
theorem q_axis {ax w : Int} (r0 : ga_rg ax) (r1 : ga_rg w) (hx : rx I A) (hA : ni_a A) (e : na_axis A ax w = v) (K : ∀ J, rx J A → E (some (.inl v)) J) : ga_W G 5 mt_GT_axis 0 (ga_en 4 [.inr 0, .inl ax, .inl w]) [] I E :=
  x_axis (d := 1) r0 r1 hx hA (fun J j1 _ => by
    have k := K J j1
    rw [← e] at k
    exact k)
theorem q_border {ax b w : Int} (r0 : ga_rg ax) (r1 : ga_rg b) (r2 : ga_rg w) (hx : rx I A) (hA : ni_a A) (e : na_border A ax b w = v) (K : ∀ J, rx J A → E (some (.inl v)) J) : ga_W G 5 mt_GT_border 0 (ga_en 5 [.inr 0, .inl ax, .inl b, .inl w]) [] I E :=
  x_border (d := 3) r0 r1 r2 hx hA (fun J j1 _ => by
    have k := K J j1
    rw [← e] at k
    exact k)
theorem q_region {c r w : Int} (r0 : ga_rg c) (r1 : ga_rg r) (r2 : ga_rg w) (hx : rx I A) (hA : ni_a A) (e : na_region A c r w = v) (K : ∀ J, rx J A → E (some (.inl v)) J) : ga_W G 5 mt_GT_region 0 (ga_en 5 [.inr 0, .inl c, .inl r, .inl w]) [] I E :=
  x_region (d := 3) r0 r1 r2 hx hA (fun J j1 _ => by
    have k := K J j1
    rw [← e] at k
    exact k)
theorem q_operator {op w : Int} (r0 : ga_rg op) (r1 : ga_rg w) (hx : rx I A) (hA : ni_a A) (e : na_operator A op w = v) (K : ∀ J, rx J A → E (some (.inl v)) J) : ga_W G 5 mt_GT_operator 0 (ga_en 3 [.inr 0, .inl op, .inl w]) [] I E :=
  x_operator (d := 3) r0 r1 hx hA (fun J j1 _ => by
    have k := K J j1
    rw [← e] at k
    exact k)
theorem q_account {w : Int} (r0 : ga_rg w) (hx : rx I A) (hA : ni_a A) (e : na_account A w = v) (K : ∀ J, rx J A → E (some (.inl v)) J) : ga_W G 5 mt_GT_account 0 (ga_en 2 [.inr 0, .inl w]) [] I E :=
  x_account (d := 4) r0 hx hA (fun J j1 _ => by
    have k := K J j1
    rw [← e] at k
    exact k)
theorem q_gain {g w : Int} (r0 : ga_rg g) (r1 : ga_rg w) (hx : rx I A) (hA : ni_a A) (e : na_gain A g w = v) (K : ∀ J, rx J A → E (some (.inl v)) J) : ga_W G 5 mt_GT_gain 0 (ga_en 3 [.inr 0, .inl g, .inl w]) [] I E :=
  x_gain (d := 1) r0 r1 hx hA (fun J j1 _ => by
    have k := K J j1
    rw [← e] at k
    exact k)
theorem q_trail {b w : Int} (r0 : ga_rg b) (r1 : ga_rg w) (hx : rx I A) (hA : ni_a A) (e : na_trail A b w = v) (K : ∀ J, rx J A → E (some (.inl v)) J) : ga_W G 5 mt_GT_trail 0 (ga_en 3 [.inr 0, .inl b, .inl w]) [] I E :=
  x_trail (d := 3) r0 r1 hx hA (fun J j1 _ => by
    have k := K J j1
    rw [← e] at k
    exact k)
end LQ
def dB (s : Nat → Int) : na_A := (s, nX0)
theorem cB {A : na_A} {w : Int} (h : (0 ≤ w ∧ w ≤ 8) ∨ w = 11) : na_count A w = na_count (dB A.1) w := by
  unfold na_count dB
  by_cases q : w = 11
  · subst q; rfl
  · by_cases e8 : w ≤ 6
    · by_cases e0 : w = 0
      · rw [if_pos e0, if_pos e0]
      · by_cases e1 : w = 1
        · rw [if_neg e0, if_neg e0, if_pos e1, if_pos e1]
        · by_cases e2 : 2 ≤ w ∧ w ≤ 5
          · rw [if_neg e0, if_neg e0, if_neg e1, if_neg e1, if_pos e2, if_pos e2]
          · rw [if_neg e0, if_neg e0, if_neg e1, if_neg e1, if_neg e2, if_neg e2, if_pos (by omega), if_pos (by omega)]
    · rcases (show w = 7 ∨ w = 8 by omega) with e | e <;> subst e <;> rfl
theorem ax0 {A : na_A} {ax : Int} (h : 0 ≤ ax ∧ ax ≤ 1) : na_axis A ax 0 = ms_n A.1 ax := by
  unfold na_axis
  rw [if_neg (by omega), if_pos rfl]
def dh (h : Int64) (v : Int) : Int64 := 31 * h + (Int32.ofInt v).toInt64
def dl (f : Nat → Int64 → Int64) : Nat → Int64 → Int64
  | 0, h => h
  | n + 1, h => f n (dl f n h)
theorem dl0 (f : Nat → Int64 → Int64) (h : Int64) : h = dl f 0 h := rfl
theorem dl_st {f : Nat → Int64 → Int64} {n : Nat} {h g g' : Int64} (hg : g = dl f n h) (e : g' = f n g) : g' = dl f (n + 1) h := by
  rw [e, hg]; rfl
def d1 (s : Nat → Int) (w : Nat) (h : Int64) : Int64 := dh h (na_count (dB s) w)
def d2 (s : Nat → Int) (ax w : Nat) (h : Int64) : Int64 := dh h (na_axis (dB s) ax w)
def d3 (s : Nat → Int) (ax k w : Nat) (h : Int64) : Int64 := dh h (na_border (dB s) ax k w)
def d4 (s : Nat → Int) (ax k : Nat) (h : Int64) : Int64 := dl (d3 s ax k) 3 h
def d5 (s : Nat → Int) (ax : Nat) (h : Int64) : Int64 := dl (d4 s ax) 6 (dl (d2 s ax) 6 h)
def d6 (s : Nat → Int) (c r w : Nat) (h : Int64) : Int64 := dh h (na_region (dB s) c r w)
def d7 (s : Nat → Int) (c r : Nat) (h : Int64) : Int64 := dl (d6 s c r) 4 h
def d8 (s : Nat → Int) (c : Nat) (h : Int64) : Int64 := dl (d7 s c) ((ms_n s 1).toNat + 1) h
def d9 (s : Nat → Int) (k w : Nat) (h : Int64) : Int64 := dh h (na_operator (dB s) k w)
def d10 (s : Nat → Int) (k : Nat) (h : Int64) : Int64 := dh (dh (dl (d9 s k) 4 h) (na_account (dB s) k)) (na_gain (dB s) k 0)
def d11 (s : Nat → Int) (k : Nat) (h : Int64) : Int64 := dh (dh h (na_trail (dB s) k 0)) (na_trail (dB s) k 7)
def dgA (s : Nat → Int) : Int64 := dh (dl (d1 s) 9 7) (na_count (dB s) 11)
def dgB (s : Nat → Int) : Int64 := dl (d10 s) 3 (dl (d8 s) ((ms_n s 0).toNat + 1) (dl (d5 s) 2 (dgA s)))
/-- the digest of a row -/
def dg (s : Nat → Int) : Int64 := dh (dl (d11 s) 20 (dgB s)) (na_account (dB s) 3)
section LD
variable {G : ga_G} {E : Option gl_V → ga_I → Prop} {A : na_A}
theorem dg_6 {h : Int64} (hA : ni_a A)  (K : ∀ (J : ga_I) (g : Int64), g = dl (d1 A.1) 9 h → rx J A → gl_W G 6 mt_Law_digest 31 [some (gR 0), some (gJ g), none, none, none, none] [] J E) : ∀ (f w : Nat) (I : ga_I) (g : Int64), w + f = 9 → g = dl (d1 A.1) w h → rx I A → gl_W G 6 mt_Law_digest 6 [some (gR 0), some (gJ g), none, some (gI (w : Int)), none, none] [] I E := by
  have n0 := ni_n hA.1.1 (ax := 0) (by omega)
  have n1 := ni_n hA.1.1 (ax := 1) (by omega)
  intro f
  induction f with
  | zero =>
    intro w I g hk hg hx
    have hk2 : w = 9 := hk
    subst hk2
    refine gl_iload_n 3 d_Law_digest_6 rfl rfl ?_
    refine gl_bipush d_Law_digest_7 (by decide +kernel) ?_
    refine gl_icmp_ge 31 d_Law_digest_9 (by decide) ⟨by omega, by omega⟩ ⟨by decide, by decide⟩ (fun _ => ?_) (fun hq => absurd (by omega) hq)
    exact gl_le (K I g hg hx) (by exact ⟨rfl, ⟨rfl, trivial⟩⟩)
  | succ f ih =>
    intro w I g hk hg hx
    refine gl_iload_n 3 d_Law_digest_6 rfl rfl ?_
    refine gl_bipush d_Law_digest_7 (by decide +kernel) ?_
    refine gl_icmp_ge 31 d_Law_digest_9 (by decide) ⟨by omega, by omega⟩ ⟨by decide, by decide⟩ (fun hq => absurd hq (by omega)) (fun _ => ?_)
    refine gl_ldc2 d_Law_digest_12 kl_Law_10 ?_
    refine gl_lload_n 1 d_Law_digest_15 rfl rfl ?_
    refine gl_lmul d_Law_digest_16 ?_
    refine gl_aload_n 0 d_Law_digest_17 rfl rfl ?_
    refine gl_iload_n 3 d_Law_digest_18 rfl rfl ?_
    refine gl_invV (as := [.inl (w : Int)]) (k := 0) (rest := [gJ (31 * g)]) (d' := 5) d_Law_digest_19 lk_Law_12 (ga_rcv ga_oG rfl rfl) rfl (Nat.le_of_ble_eq_true rfl) (Nat.le_of_ble_eq_true rfl) rfl rfl (q_count (v := na_count (dB A.1) (w : Int)) ⟨by omega, by omega⟩ hx hA (cB (by omega)) (fun I hx => ?_))
    refine gl_i2l d_Law_digest_22 ?_
    refine gl_ladd d_Law_digest_23 ?_
    refine gl_lstore_n 1 d_Law_digest_24 rfl (Nat.le_of_ble_eq_true rfl) rfl rfl ?_
    refine gl_iinc 3 d_Law_digest_25 rfl rfl rfl ?_
    refine gl_goto 6 d_Law_digest_28 (by decide) ?_
    exact gl_le (ih (w + 1) I ((31 * g) + ((Int32.ofInt (na_count (dB A.1) (w : Int))).toInt64)) (by omega) (dl_st hg (by rw [d1, dh])) hx) (by exact ⟨rfl, ⟨rfl, ⟨rfl, trivial⟩⟩⟩)
theorem dg_55 {h : Int64} {ax : Nat} (hA : ni_a A) (hax : ax < 2) (K : ∀ (J : ga_I) (g : Int64), g = dl (d2 A.1 ax) 6 h → rx J A → gl_W G 6 mt_Law_digest 83 [some (gR 0), some (gJ g), none, some (gI (ax : Int)), none, none] [] J E) : ∀ (f w : Nat) (I : ga_I) (g : Int64), w + f = 6 → g = dl (d2 A.1 ax) w h → rx I A → gl_W G 6 mt_Law_digest 55 [some (gR 0), some (gJ g), none, some (gI (ax : Int)), some (gI (w : Int)), none] [] I E := by
  have n0 := ni_n hA.1.1 (ax := 0) (by omega)
  have n1 := ni_n hA.1.1 (ax := 1) (by omega)
  intro f
  induction f with
  | zero =>
    intro w I g hk hg hx
    have hk2 : w = 6 := hk
    subst hk2
    refine gl_iload 4 d_Law_digest_55 rfl ?_
    refine gl_bipush d_Law_digest_57 (by decide +kernel) ?_
    refine gl_icmp_ge 83 d_Law_digest_59 (by decide) ⟨by omega, by omega⟩ ⟨by decide, by decide⟩ (fun _ => ?_) (fun hq => absurd (by omega) hq)
    exact gl_le (K I g hg hx) (by exact ⟨rfl, ⟨rfl, ⟨rfl, trivial⟩⟩⟩)
  | succ f ih =>
    intro w I g hk hg hx
    refine gl_iload 4 d_Law_digest_55 rfl ?_
    refine gl_bipush d_Law_digest_57 (by decide +kernel) ?_
    refine gl_icmp_ge 83 d_Law_digest_59 (by decide) ⟨by omega, by omega⟩ ⟨by decide, by decide⟩ (fun hq => absurd hq (by omega)) (fun _ => ?_)
    refine gl_ldc2 d_Law_digest_62 kl_Law_10 ?_
    refine gl_lload_n 1 d_Law_digest_65 rfl rfl ?_
    refine gl_lmul d_Law_digest_66 ?_
    refine gl_aload_n 0 d_Law_digest_67 rfl rfl ?_
    refine gl_iload_n 3 d_Law_digest_68 rfl rfl ?_
    refine gl_iload 4 d_Law_digest_69 rfl ?_
    refine gl_invV (as := [.inl (ax : Int), .inl (w : Int)]) (k := 0) (rest := [gJ (31 * g)]) (d' := 5) d_Law_digest_71 lk_Law_18 (ga_rcv ga_oG rfl rfl) rfl (Nat.le_of_ble_eq_true rfl) (Nat.le_of_ble_eq_true rfl) rfl rfl (q_axis (v := na_axis (dB A.1) (ax : Int) (w : Int)) ⟨by omega, by omega⟩ ⟨by omega, by omega⟩ hx hA rfl (fun I hx => ?_))
    refine gl_i2l d_Law_digest_74 ?_
    refine gl_ladd d_Law_digest_75 ?_
    refine gl_lstore_n 1 d_Law_digest_76 rfl (Nat.le_of_ble_eq_true rfl) rfl rfl ?_
    refine gl_iinc 4 d_Law_digest_77 rfl rfl rfl ?_
    refine gl_goto 55 d_Law_digest_80 (by decide) ?_
    exact gl_le (ih (w + 1) I ((31 * g) + ((Int32.ofInt (na_axis (dB A.1) (ax : Int) (w : Int))).toInt64)) (by omega) (dl_st hg (by rw [d2, dh])) hx) (by exact ⟨rfl, ⟨rfl, ⟨rfl, ⟨rfl, trivial⟩⟩⟩⟩)
theorem dg_96 {h : Int64} {ax k : Nat} (hA : ni_a A) (hax : ax < 2) (hk : k < 6) (K : ∀ (J : ga_I) (g : Int64), g = dl (d3 A.1 ax k) 3 h → rx J A → gl_W G 6 mt_Law_digest 125 [some (gR 0), some (gJ g), none, some (gI (ax : Int)), some (gI (k : Int)), none] [] J E) : ∀ (f w : Nat) (I : ga_I) (g : Int64), w + f = 3 → g = dl (d3 A.1 ax k) w h → rx I A → gl_W G 6 mt_Law_digest 96 [some (gR 0), some (gJ g), none, some (gI (ax : Int)), some (gI (k : Int)), some (gI (w : Int))] [] I E := by
  have n0 := ni_n hA.1.1 (ax := 0) (by omega)
  have n1 := ni_n hA.1.1 (ax := 1) (by omega)
  intro f
  induction f with
  | zero =>
    intro w I g hk hg hx
    have hk2 : w = 3 := hk
    subst hk2
    refine gl_iload 5 d_Law_digest_96 rfl ?_
    refine gl_iconst d_Law_digest_98 ?_
    refine gl_icmp_ge 125 d_Law_digest_99 (by decide) ⟨by omega, by omega⟩ ⟨by decide, by decide⟩ (fun _ => ?_) (fun hq => absurd (by omega) hq)
    exact gl_le (K I g hg hx) (by exact ⟨rfl, ⟨rfl, ⟨rfl, ⟨rfl, trivial⟩⟩⟩⟩)
  | succ f ih =>
    intro w I g hk hg hx
    refine gl_iload 5 d_Law_digest_96 rfl ?_
    refine gl_iconst d_Law_digest_98 ?_
    refine gl_icmp_ge 125 d_Law_digest_99 (by decide) ⟨by omega, by omega⟩ ⟨by decide, by decide⟩ (fun hq => absurd hq (by omega)) (fun _ => ?_)
    refine gl_ldc2 d_Law_digest_102 kl_Law_10 ?_
    refine gl_lload_n 1 d_Law_digest_105 rfl rfl ?_
    refine gl_lmul d_Law_digest_106 ?_
    refine gl_aload_n 0 d_Law_digest_107 rfl rfl ?_
    refine gl_iload_n 3 d_Law_digest_108 rfl rfl ?_
    refine gl_iload 4 d_Law_digest_109 rfl ?_
    refine gl_iload 5 d_Law_digest_111 rfl ?_
    refine gl_invV (as := [.inl (ax : Int), .inl (k : Int), .inl (w : Int)]) (k := 0) (rest := [gJ (31 * g)]) (d' := 5) d_Law_digest_113 lk_Law_22 (ga_rcv ga_oG rfl rfl) rfl (Nat.le_of_ble_eq_true rfl) (Nat.le_of_ble_eq_true rfl) rfl rfl (q_border (v := na_border (dB A.1) (ax : Int) (k : Int) (w : Int)) ⟨by omega, by omega⟩ ⟨by omega, by omega⟩ ⟨by omega, by omega⟩ hx hA rfl (fun I hx => ?_))
    refine gl_i2l d_Law_digest_116 ?_
    refine gl_ladd d_Law_digest_117 ?_
    refine gl_lstore_n 1 d_Law_digest_118 rfl (Nat.le_of_ble_eq_true rfl) rfl rfl ?_
    refine gl_iinc 5 d_Law_digest_119 rfl rfl rfl ?_
    refine gl_goto 96 d_Law_digest_122 (by decide) ?_
    exact gl_le (ih (w + 1) I ((31 * g) + ((Int32.ofInt (na_border (dB A.1) (ax : Int) (k : Int) (w : Int))).toInt64)) (by omega) (dl_st hg (by rw [d3, dh])) hx) (by exact ⟨rfl, ⟨rfl, ⟨rfl, ⟨rfl, ⟨rfl, trivial⟩⟩⟩⟩⟩)
theorem dg_86 {h : Int64} {ax : Nat} (hA : ni_a A) (hax : ax < 2) (K : ∀ (J : ga_I) (g : Int64), g = dl (d4 A.1 ax) 6 h → rx J A → gl_W G 6 mt_Law_digest 131 [some (gR 0), some (gJ g), none, some (gI (ax : Int)), none, none] [] J E) : ∀ (f k : Nat) (I : ga_I) (g : Int64), k + f = 6 → g = dl (d4 A.1 ax) k h → rx I A → gl_W G 6 mt_Law_digest 86 [some (gR 0), some (gJ g), none, some (gI (ax : Int)), some (gI (k : Int)), none] [] I E := by
  have n0 := ni_n hA.1.1 (ax := 0) (by omega)
  have n1 := ni_n hA.1.1 (ax := 1) (by omega)
  intro f
  induction f with
  | zero =>
    intro k I g hk hg hx
    have hk2 : k = 6 := hk
    subst hk2
    refine gl_iload 4 d_Law_digest_86 rfl ?_
    refine gl_bipush d_Law_digest_88 (by decide +kernel) ?_
    refine gl_icmp_ge 131 d_Law_digest_90 (by decide) ⟨by omega, by omega⟩ ⟨by decide, by decide⟩ (fun _ => ?_) (fun hq => absurd (by omega) hq)
    exact gl_le (K I g hg hx) (by exact ⟨rfl, ⟨rfl, ⟨rfl, trivial⟩⟩⟩)
  | succ f ih =>
    intro k I g hk hg hx
    refine gl_iload 4 d_Law_digest_86 rfl ?_
    refine gl_bipush d_Law_digest_88 (by decide +kernel) ?_
    refine gl_icmp_ge 131 d_Law_digest_90 (by decide) ⟨by omega, by omega⟩ ⟨by decide, by decide⟩ (fun hq => absurd hq (by omega)) (fun _ => ?_)
    refine gl_iconst d_Law_digest_93 ?_
    refine gl_istore 5 d_Law_digest_94 (Nat.le_of_ble_eq_true rfl) rfl rfl ?_
    refine gl_le (dg_96 (h := g) (ax := ax) (k := k) hA (by omega) (by omega) (fun I g1 hg1 hx => ?_) 3 0 I g (by omega) (dl0 _ _) hx) (by exact ⟨rfl, ⟨rfl, ⟨rfl, ⟨rfl, ⟨rfl, trivial⟩⟩⟩⟩⟩)
    refine gl_iinc 4 d_Law_digest_125 rfl rfl rfl ?_
    refine gl_goto 86 d_Law_digest_128 (by decide) ?_
    exact gl_le (ih (k + 1) I g1 (by omega) (dl_st hg (by rw [hg1, d4])) hx) (by exact ⟨rfl, ⟨rfl, ⟨rfl, ⟨rfl, trivial⟩⟩⟩⟩)
theorem dg_47 {h : Int64} (hA : ni_a A)  (K : ∀ (J : ga_I) (g : Int64), g = dl (d5 A.1) 2 h → rx J A → gl_W G 6 mt_Law_digest 137 [some (gR 0), some (gJ g), none, none, none, none] [] J E) : ∀ (f ax : Nat) (I : ga_I) (g : Int64), ax + f = 2 → g = dl (d5 A.1) ax h → rx I A → gl_W G 6 mt_Law_digest 47 [some (gR 0), some (gJ g), none, some (gI (ax : Int)), none, none] [] I E := by
  have n0 := ni_n hA.1.1 (ax := 0) (by omega)
  have n1 := ni_n hA.1.1 (ax := 1) (by omega)
  intro f
  induction f with
  | zero =>
    intro ax I g hk hg hx
    have hk2 : ax = 2 := hk
    subst hk2
    refine gl_iload_n 3 d_Law_digest_47 rfl rfl ?_
    refine gl_iconst d_Law_digest_48 ?_
    refine gl_icmp_ge 137 d_Law_digest_49 (by decide) ⟨by omega, by omega⟩ ⟨by decide, by decide⟩ (fun _ => ?_) (fun hq => absurd (by omega) hq)
    exact gl_le (K I g hg hx) (by exact ⟨rfl, ⟨rfl, trivial⟩⟩)
  | succ f ih =>
    intro ax I g hk hg hx
    refine gl_iload_n 3 d_Law_digest_47 rfl rfl ?_
    refine gl_iconst d_Law_digest_48 ?_
    refine gl_icmp_ge 137 d_Law_digest_49 (by decide) ⟨by omega, by omega⟩ ⟨by decide, by decide⟩ (fun hq => absurd hq (by omega)) (fun _ => ?_)
    refine gl_iconst d_Law_digest_52 ?_
    refine gl_istore 4 d_Law_digest_53 (Nat.le_of_ble_eq_true rfl) rfl rfl ?_
    refine gl_le (dg_55 (h := g) (ax := ax) hA (by omega) (fun I g1 hg1 hx => ?_) 6 0 I g (by omega) (dl0 _ _) hx) (by exact ⟨rfl, ⟨rfl, ⟨rfl, ⟨rfl, trivial⟩⟩⟩⟩)
    refine gl_iconst d_Law_digest_83 ?_
    refine gl_istore 4 d_Law_digest_84 (Nat.le_of_ble_eq_true rfl) rfl rfl ?_
    refine gl_le (dg_86 (h := g1) (ax := ax) hA (by omega) (fun I g2 hg2 hx => ?_) 6 0 I g1 (by omega) (dl0 _ _) hx) (by exact ⟨rfl, ⟨rfl, ⟨rfl, ⟨rfl, trivial⟩⟩⟩⟩)
    refine gl_iinc 3 d_Law_digest_131 rfl rfl rfl ?_
    refine gl_goto 47 d_Law_digest_134 (by decide) ?_
    exact gl_le (ih (ax + 1) I g2 (by omega) (dl_st hg (by rw [hg2, hg1, d5])) hx) (by exact ⟨rfl, ⟨rfl, ⟨rfl, trivial⟩⟩⟩)
theorem dg_166 {h : Int64} {c r : Nat} (hA : ni_a A) (hc : c < ((ms_n A.1 0).toNat + 1)) (hr : r < ((ms_n A.1 1).toNat + 1)) (K : ∀ (J : ga_I) (g : Int64), g = dl (d6 A.1 c r) 4 h → rx J A → gl_W G 6 mt_Law_digest 195 [some (gR 0), some (gJ g), none, some (gI (c : Int)), some (gI (r : Int)), none] [] J E) : ∀ (f w : Nat) (I : ga_I) (g : Int64), w + f = 4 → g = dl (d6 A.1 c r) w h → rx I A → gl_W G 6 mt_Law_digest 166 [some (gR 0), some (gJ g), none, some (gI (c : Int)), some (gI (r : Int)), some (gI (w : Int))] [] I E := by
  have n0 := ni_n hA.1.1 (ax := 0) (by omega)
  have n1 := ni_n hA.1.1 (ax := 1) (by omega)
  intro f
  induction f with
  | zero =>
    intro w I g hk hg hx
    have hk2 : w = 4 := hk
    subst hk2
    refine gl_iload 5 d_Law_digest_166 rfl ?_
    refine gl_iconst d_Law_digest_168 ?_
    refine gl_icmp_ge 195 d_Law_digest_169 (by decide) ⟨by omega, by omega⟩ ⟨by decide, by decide⟩ (fun _ => ?_) (fun hq => absurd (by omega) hq)
    exact gl_le (K I g hg hx) (by exact ⟨rfl, ⟨rfl, ⟨rfl, ⟨rfl, trivial⟩⟩⟩⟩)
  | succ f ih =>
    intro w I g hk hg hx
    refine gl_iload 5 d_Law_digest_166 rfl ?_
    refine gl_iconst d_Law_digest_168 ?_
    refine gl_icmp_ge 195 d_Law_digest_169 (by decide) ⟨by omega, by omega⟩ ⟨by decide, by decide⟩ (fun hq => absurd hq (by omega)) (fun _ => ?_)
    refine gl_ldc2 d_Law_digest_172 kl_Law_10 ?_
    refine gl_lload_n 1 d_Law_digest_175 rfl rfl ?_
    refine gl_lmul d_Law_digest_176 ?_
    refine gl_aload_n 0 d_Law_digest_177 rfl rfl ?_
    refine gl_iload_n 3 d_Law_digest_178 rfl rfl ?_
    refine gl_iload 4 d_Law_digest_179 rfl ?_
    refine gl_iload 5 d_Law_digest_181 rfl ?_
    refine gl_invV (as := [.inl (c : Int), .inl (r : Int), .inl (w : Int)]) (k := 0) (rest := [gJ (31 * g)]) (d' := 5) d_Law_digest_183 lk_Law_26 (ga_rcv ga_oG rfl rfl) rfl (Nat.le_of_ble_eq_true rfl) (Nat.le_of_ble_eq_true rfl) rfl rfl (q_region (v := na_region (dB A.1) (c : Int) (r : Int) (w : Int)) ⟨by omega, by omega⟩ ⟨by omega, by omega⟩ ⟨by omega, by omega⟩ hx hA rfl (fun I hx => ?_))
    refine gl_i2l d_Law_digest_186 ?_
    refine gl_ladd d_Law_digest_187 ?_
    refine gl_lstore_n 1 d_Law_digest_188 rfl (Nat.le_of_ble_eq_true rfl) rfl rfl ?_
    refine gl_iinc 5 d_Law_digest_189 rfl rfl rfl ?_
    refine gl_goto 166 d_Law_digest_192 (by decide) ?_
    exact gl_le (ih (w + 1) I ((31 * g) + ((Int32.ofInt (na_region (dB A.1) (c : Int) (r : Int) (w : Int))).toInt64)) (by omega) (dl_st hg (by rw [d6, dh])) hx) (by exact ⟨rfl, ⟨rfl, ⟨rfl, ⟨rfl, ⟨rfl, trivial⟩⟩⟩⟩⟩)
theorem dg_152 {h : Int64} {c : Nat} (hA : ni_a A) (hc : c < ((ms_n A.1 0).toNat + 1)) (K : ∀ (J : ga_I) (g : Int64), g = dl (d7 A.1 c) ((ms_n A.1 1).toNat + 1) h → rx J A → gl_W G 6 mt_Law_digest 201 [some (gR 0), some (gJ g), none, some (gI (c : Int)), none, none] [] J E) : ∀ (f r : Nat) (I : ga_I) (g : Int64), r + f = ((ms_n A.1 1).toNat + 1) → g = dl (d7 A.1 c) r h → rx I A → gl_W G 6 mt_Law_digest 152 [some (gR 0), some (gJ g), none, some (gI (c : Int)), some (gI (r : Int)), none] [] I E := by
  have n0 := ni_n hA.1.1 (ax := 0) (by omega)
  have n1 := ni_n hA.1.1 (ax := 1) (by omega)
  intro f
  induction f with
  | zero =>
    intro r I g hk hg hx
    have hk2 : r = ((ms_n A.1 1).toNat + 1) := hk
    subst hk2
    refine gl_iload 4 d_Law_digest_152 rfl ?_
    refine gl_aload_n 0 d_Law_digest_154 rfl rfl ?_
    refine gl_iconst d_Law_digest_155 ?_
    refine gl_iconst d_Law_digest_156 ?_
    refine gl_invV (as := [.inl 1, .inl 0]) (k := 0) (rest := [gI ((((ms_n A.1 1).toNat + 1) : Nat) : Int)]) (d' := 5) d_Law_digest_157 lk_Law_18 (ga_rcv ga_oG rfl rfl) rfl (Nat.le_of_ble_eq_true rfl) (Nat.le_of_ble_eq_true rfl) rfl rfl (q_axis ⟨by decide, by decide⟩ ⟨by decide, by decide⟩ hx hA (ax0 (by omega)) (fun I hx => ?_))
    refine gl_icmp_gt 201 d_Law_digest_160 (by decide) ⟨by omega, by omega⟩ ⟨by omega, by omega⟩ (fun _ => ?_) (fun hq => absurd (by omega) hq)
    exact gl_le (K I g hg hx) (by exact ⟨rfl, ⟨rfl, ⟨rfl, trivial⟩⟩⟩)
  | succ f ih =>
    intro r I g hk hg hx
    refine gl_iload 4 d_Law_digest_152 rfl ?_
    refine gl_aload_n 0 d_Law_digest_154 rfl rfl ?_
    refine gl_iconst d_Law_digest_155 ?_
    refine gl_iconst d_Law_digest_156 ?_
    refine gl_invV (as := [.inl 1, .inl 0]) (k := 0) (rest := [gI (r : Int)]) (d' := 5) d_Law_digest_157 lk_Law_18 (ga_rcv ga_oG rfl rfl) rfl (Nat.le_of_ble_eq_true rfl) (Nat.le_of_ble_eq_true rfl) rfl rfl (q_axis ⟨by decide, by decide⟩ ⟨by decide, by decide⟩ hx hA (ax0 (by omega)) (fun I hx => ?_))
    refine gl_icmp_gt 201 d_Law_digest_160 (by decide) ⟨by omega, by omega⟩ ⟨by omega, by omega⟩ (fun hq => absurd hq (by omega)) (fun _ => ?_)
    refine gl_iconst d_Law_digest_163 ?_
    refine gl_istore 5 d_Law_digest_164 (Nat.le_of_ble_eq_true rfl) rfl rfl ?_
    refine gl_le (dg_166 (h := g) (c := c) (r := r) hA (by omega) (by omega) (fun I g1 hg1 hx => ?_) 4 0 I g (by omega) (dl0 _ _) hx) (by exact ⟨rfl, ⟨rfl, ⟨rfl, ⟨rfl, ⟨rfl, trivial⟩⟩⟩⟩⟩)
    refine gl_iinc 4 d_Law_digest_195 rfl rfl rfl ?_
    refine gl_goto 152 d_Law_digest_198 (by decide) ?_
    exact gl_le (ih (r + 1) I g1 (by omega) (dl_st hg (by rw [hg1, d7])) hx) (by exact ⟨rfl, ⟨rfl, ⟨rfl, ⟨rfl, trivial⟩⟩⟩⟩)
theorem dg_139 {h : Int64} (hA : ni_a A)  (K : ∀ (J : ga_I) (g : Int64), g = dl (d8 A.1) ((ms_n A.1 0).toNat + 1) h → rx J A → gl_W G 6 mt_Law_digest 207 [some (gR 0), some (gJ g), none, none, none, none] [] J E) : ∀ (f c : Nat) (I : ga_I) (g : Int64), c + f = ((ms_n A.1 0).toNat + 1) → g = dl (d8 A.1) c h → rx I A → gl_W G 6 mt_Law_digest 139 [some (gR 0), some (gJ g), none, some (gI (c : Int)), none, none] [] I E := by
  have n0 := ni_n hA.1.1 (ax := 0) (by omega)
  have n1 := ni_n hA.1.1 (ax := 1) (by omega)
  intro f
  induction f with
  | zero =>
    intro c I g hk hg hx
    have hk2 : c = ((ms_n A.1 0).toNat + 1) := hk
    subst hk2
    refine gl_iload_n 3 d_Law_digest_139 rfl rfl ?_
    refine gl_aload_n 0 d_Law_digest_140 rfl rfl ?_
    refine gl_iconst d_Law_digest_141 ?_
    refine gl_iconst d_Law_digest_142 ?_
    refine gl_invV (as := [.inl 0, .inl 0]) (k := 0) (rest := [gI ((((ms_n A.1 0).toNat + 1) : Nat) : Int)]) (d' := 5) d_Law_digest_143 lk_Law_18 (ga_rcv ga_oG rfl rfl) rfl (Nat.le_of_ble_eq_true rfl) (Nat.le_of_ble_eq_true rfl) rfl rfl (q_axis ⟨by decide, by decide⟩ ⟨by decide, by decide⟩ hx hA (ax0 (by omega)) (fun I hx => ?_))
    refine gl_icmp_gt 207 d_Law_digest_146 (by decide) ⟨by omega, by omega⟩ ⟨by omega, by omega⟩ (fun _ => ?_) (fun hq => absurd (by omega) hq)
    exact gl_le (K I g hg hx) (by exact ⟨rfl, ⟨rfl, trivial⟩⟩)
  | succ f ih =>
    intro c I g hk hg hx
    refine gl_iload_n 3 d_Law_digest_139 rfl rfl ?_
    refine gl_aload_n 0 d_Law_digest_140 rfl rfl ?_
    refine gl_iconst d_Law_digest_141 ?_
    refine gl_iconst d_Law_digest_142 ?_
    refine gl_invV (as := [.inl 0, .inl 0]) (k := 0) (rest := [gI (c : Int)]) (d' := 5) d_Law_digest_143 lk_Law_18 (ga_rcv ga_oG rfl rfl) rfl (Nat.le_of_ble_eq_true rfl) (Nat.le_of_ble_eq_true rfl) rfl rfl (q_axis ⟨by decide, by decide⟩ ⟨by decide, by decide⟩ hx hA (ax0 (by omega)) (fun I hx => ?_))
    refine gl_icmp_gt 207 d_Law_digest_146 (by decide) ⟨by omega, by omega⟩ ⟨by omega, by omega⟩ (fun hq => absurd hq (by omega)) (fun _ => ?_)
    refine gl_iconst d_Law_digest_149 ?_
    refine gl_istore 4 d_Law_digest_150 (Nat.le_of_ble_eq_true rfl) rfl rfl ?_
    refine gl_le (dg_152 (h := g) (c := c) hA (by omega) (fun I g1 hg1 hx => ?_) ((ms_n A.1 1).toNat + 1) 0 I g (by omega) (dl0 _ _) hx) (by exact ⟨rfl, ⟨rfl, ⟨rfl, ⟨rfl, trivial⟩⟩⟩⟩)
    refine gl_iinc 3 d_Law_digest_201 rfl rfl rfl ?_
    refine gl_goto 139 d_Law_digest_204 (by decide) ?_
    exact gl_le (ih (c + 1) I g1 (by omega) (dl_st hg (by rw [hg1, d8])) hx) (by exact ⟨rfl, ⟨rfl, ⟨rfl, trivial⟩⟩⟩)
theorem dg_217 {h : Int64} {k : Nat} (hA : ni_a A) (hk : k < 3) (K : ∀ (J : ga_I) (g : Int64), g = dl (d9 A.1 k) 4 h → rx J A → gl_W G 6 mt_Law_digest 244 [some (gR 0), some (gJ g), none, some (gI (k : Int)), none, none] [] J E) : ∀ (f w : Nat) (I : ga_I) (g : Int64), w + f = 4 → g = dl (d9 A.1 k) w h → rx I A → gl_W G 6 mt_Law_digest 217 [some (gR 0), some (gJ g), none, some (gI (k : Int)), some (gI (w : Int)), none] [] I E := by
  have n0 := ni_n hA.1.1 (ax := 0) (by omega)
  have n1 := ni_n hA.1.1 (ax := 1) (by omega)
  intro f
  induction f with
  | zero =>
    intro w I g hk hg hx
    have hk2 : w = 4 := hk
    subst hk2
    refine gl_iload 4 d_Law_digest_217 rfl ?_
    refine gl_iconst d_Law_digest_219 ?_
    refine gl_icmp_ge 244 d_Law_digest_220 (by decide) ⟨by omega, by omega⟩ ⟨by decide, by decide⟩ (fun _ => ?_) (fun hq => absurd (by omega) hq)
    exact gl_le (K I g hg hx) (by exact ⟨rfl, ⟨rfl, ⟨rfl, trivial⟩⟩⟩)
  | succ f ih =>
    intro w I g hk hg hx
    refine gl_iload 4 d_Law_digest_217 rfl ?_
    refine gl_iconst d_Law_digest_219 ?_
    refine gl_icmp_ge 244 d_Law_digest_220 (by decide) ⟨by omega, by omega⟩ ⟨by decide, by decide⟩ (fun hq => absurd hq (by omega)) (fun _ => ?_)
    refine gl_ldc2 d_Law_digest_223 kl_Law_10 ?_
    refine gl_lload_n 1 d_Law_digest_226 rfl rfl ?_
    refine gl_lmul d_Law_digest_227 ?_
    refine gl_aload_n 0 d_Law_digest_228 rfl rfl ?_
    refine gl_iload_n 3 d_Law_digest_229 rfl rfl ?_
    refine gl_iload 4 d_Law_digest_230 rfl ?_
    refine gl_invV (as := [.inl (k : Int), .inl (w : Int)]) (k := 0) (rest := [gJ (31 * g)]) (d' := 5) d_Law_digest_232 lk_Law_29 (ga_rcv ga_oG rfl rfl) rfl (Nat.le_of_ble_eq_true rfl) (Nat.le_of_ble_eq_true rfl) rfl rfl (q_operator (v := na_operator (dB A.1) (k : Int) (w : Int)) ⟨by omega, by omega⟩ ⟨by omega, by omega⟩ hx hA rfl (fun I hx => ?_))
    refine gl_i2l d_Law_digest_235 ?_
    refine gl_ladd d_Law_digest_236 ?_
    refine gl_lstore_n 1 d_Law_digest_237 rfl (Nat.le_of_ble_eq_true rfl) rfl rfl ?_
    refine gl_iinc 4 d_Law_digest_238 rfl rfl rfl ?_
    refine gl_goto 217 d_Law_digest_241 (by decide) ?_
    exact gl_le (ih (w + 1) I ((31 * g) + ((Int32.ofInt (na_operator (dB A.1) (k : Int) (w : Int))).toInt64)) (by omega) (dl_st hg (by rw [d9, dh])) hx) (by exact ⟨rfl, ⟨rfl, ⟨rfl, ⟨rfl, trivial⟩⟩⟩⟩)
theorem dg_209 {h : Int64} (hA : ni_a A)  (K : ∀ (J : ga_I) (g : Int64), g = dl (d10 A.1) 3 h → rx J A → gl_W G 6 mt_Law_digest 277 [some (gR 0), some (gJ g), none, none, none, none] [] J E) : ∀ (f k : Nat) (I : ga_I) (g : Int64), k + f = 3 → g = dl (d10 A.1) k h → rx I A → gl_W G 6 mt_Law_digest 209 [some (gR 0), some (gJ g), none, some (gI (k : Int)), none, none] [] I E := by
  have n0 := ni_n hA.1.1 (ax := 0) (by omega)
  have n1 := ni_n hA.1.1 (ax := 1) (by omega)
  intro f
  induction f with
  | zero =>
    intro k I g hk hg hx
    have hk2 : k = 3 := hk
    subst hk2
    refine gl_iload_n 3 d_Law_digest_209 rfl rfl ?_
    refine gl_iconst d_Law_digest_210 ?_
    refine gl_icmp_ge 277 d_Law_digest_211 (by decide) ⟨by omega, by omega⟩ ⟨by decide, by decide⟩ (fun _ => ?_) (fun hq => absurd (by omega) hq)
    exact gl_le (K I g hg hx) (by exact ⟨rfl, ⟨rfl, trivial⟩⟩)
  | succ f ih =>
    intro k I g hk hg hx
    refine gl_iload_n 3 d_Law_digest_209 rfl rfl ?_
    refine gl_iconst d_Law_digest_210 ?_
    refine gl_icmp_ge 277 d_Law_digest_211 (by decide) ⟨by omega, by omega⟩ ⟨by decide, by decide⟩ (fun hq => absurd hq (by omega)) (fun _ => ?_)
    refine gl_iconst d_Law_digest_214 ?_
    refine gl_istore 4 d_Law_digest_215 (Nat.le_of_ble_eq_true rfl) rfl rfl ?_
    refine gl_le (dg_217 (h := g) (k := k) hA (by omega) (fun I g1 hg1 hx => ?_) 4 0 I g (by omega) (dl0 _ _) hx) (by exact ⟨rfl, ⟨rfl, ⟨rfl, ⟨rfl, trivial⟩⟩⟩⟩)
    refine gl_ldc2 d_Law_digest_244 kl_Law_10 ?_
    refine gl_lload_n 1 d_Law_digest_247 rfl rfl ?_
    refine gl_lmul d_Law_digest_248 ?_
    refine gl_aload_n 0 d_Law_digest_249 rfl rfl ?_
    refine gl_iload_n 3 d_Law_digest_250 rfl rfl ?_
    refine gl_invV (as := [.inl (k : Int)]) (k := 0) (rest := [gJ (31 * g1)]) (d' := 5) d_Law_digest_251 lk_Law_32 (ga_rcv ga_oG rfl rfl) rfl (Nat.le_of_ble_eq_true rfl) (Nat.le_of_ble_eq_true rfl) rfl rfl (q_account (v := na_account (dB A.1) (k : Int)) ⟨by omega, by omega⟩ hx hA rfl (fun I hx => ?_))
    refine gl_i2l d_Law_digest_254 ?_
    refine gl_ladd d_Law_digest_255 ?_
    refine gl_lstore_n 1 d_Law_digest_256 rfl (Nat.le_of_ble_eq_true rfl) rfl rfl ?_
    refine gl_ldc2 d_Law_digest_257 kl_Law_10 ?_
    refine gl_lload_n 1 d_Law_digest_260 rfl rfl ?_
    refine gl_lmul d_Law_digest_261 ?_
    refine gl_aload_n 0 d_Law_digest_262 rfl rfl ?_
    refine gl_iload_n 3 d_Law_digest_263 rfl rfl ?_
    refine gl_iconst d_Law_digest_264 ?_
    refine gl_invV (as := [.inl (k : Int), .inl 0]) (k := 0) (rest := [gJ (31 * ((31 * g1) + ((Int32.ofInt (na_account (dB A.1) (k : Int))).toInt64)))]) (d' := 5) d_Law_digest_265 lk_Law_35 (ga_rcv ga_oG rfl rfl) rfl (Nat.le_of_ble_eq_true rfl) (Nat.le_of_ble_eq_true rfl) rfl rfl (q_gain (v := na_gain (dB A.1) (k : Int) 0) ⟨by omega, by omega⟩ ⟨by decide, by decide⟩ hx hA rfl (fun I hx => ?_))
    refine gl_i2l d_Law_digest_268 ?_
    refine gl_ladd d_Law_digest_269 ?_
    refine gl_lstore_n 1 d_Law_digest_270 rfl (Nat.le_of_ble_eq_true rfl) rfl rfl ?_
    refine gl_iinc 3 d_Law_digest_271 rfl rfl rfl ?_
    refine gl_goto 209 d_Law_digest_274 (by decide) ?_
    exact gl_le (ih (k + 1) I ((31 * ((31 * g1) + ((Int32.ofInt (na_account (dB A.1) (k : Int))).toInt64))) + ((Int32.ofInt (na_gain (dB A.1) (k : Int) 0)).toInt64)) (by omega) (dl_st hg (by rw [d10, ← hg1, dh, dh])) hx) (by exact ⟨rfl, ⟨rfl, ⟨rfl, trivial⟩⟩⟩)
theorem dg_279 {h : Int64} (hA : ni_a A)  (K : ∀ (J : ga_I) (g : Int64), g = dl (d11 A.1) 20 h → rx J A → gl_W G 6 mt_Law_digest 320 [some (gR 0), some (gJ g), none, none, none, none] [] J E) : ∀ (f k : Nat) (I : ga_I) (g : Int64), k + f = 20 → g = dl (d11 A.1) k h → rx I A → gl_W G 6 mt_Law_digest 279 [some (gR 0), some (gJ g), none, some (gI (k : Int)), none, none] [] I E := by
  have n0 := ni_n hA.1.1 (ax := 0) (by omega)
  have n1 := ni_n hA.1.1 (ax := 1) (by omega)
  intro f
  induction f with
  | zero =>
    intro k I g hk hg hx
    have hk2 : k = 20 := hk
    subst hk2
    refine gl_iload_n 3 d_Law_digest_279 rfl rfl ?_
    refine gl_bipush d_Law_digest_280 (by decide +kernel) ?_
    refine gl_icmp_ge 320 d_Law_digest_282 (by decide) ⟨by omega, by omega⟩ ⟨by decide, by decide⟩ (fun _ => ?_) (fun hq => absurd (by omega) hq)
    exact gl_le (K I g hg hx) (by exact ⟨rfl, ⟨rfl, trivial⟩⟩)
  | succ f ih =>
    intro k I g hk hg hx
    refine gl_iload_n 3 d_Law_digest_279 rfl rfl ?_
    refine gl_bipush d_Law_digest_280 (by decide +kernel) ?_
    refine gl_icmp_ge 320 d_Law_digest_282 (by decide) ⟨by omega, by omega⟩ ⟨by decide, by decide⟩ (fun hq => absurd hq (by omega)) (fun _ => ?_)
    refine gl_ldc2 d_Law_digest_285 kl_Law_10 ?_
    refine gl_lload_n 1 d_Law_digest_288 rfl rfl ?_
    refine gl_lmul d_Law_digest_289 ?_
    refine gl_aload_n 0 d_Law_digest_290 rfl rfl ?_
    refine gl_iload_n 3 d_Law_digest_291 rfl rfl ?_
    refine gl_iconst d_Law_digest_292 ?_
    refine gl_invV (as := [.inl (k : Int), .inl 0]) (k := 0) (rest := [gJ (31 * g)]) (d' := 5) d_Law_digest_293 lk_Law_38 (ga_rcv ga_oG rfl rfl) rfl (Nat.le_of_ble_eq_true rfl) (Nat.le_of_ble_eq_true rfl) rfl rfl (q_trail (v := na_trail (dB A.1) (k : Int) 0) ⟨by omega, by omega⟩ ⟨by decide, by decide⟩ hx hA rfl (fun I hx => ?_))
    refine gl_i2l d_Law_digest_296 ?_
    refine gl_ladd d_Law_digest_297 ?_
    refine gl_lstore_n 1 d_Law_digest_298 rfl (Nat.le_of_ble_eq_true rfl) rfl rfl ?_
    refine gl_ldc2 d_Law_digest_299 kl_Law_10 ?_
    refine gl_lload_n 1 d_Law_digest_302 rfl rfl ?_
    refine gl_lmul d_Law_digest_303 ?_
    refine gl_aload_n 0 d_Law_digest_304 rfl rfl ?_
    refine gl_iload_n 3 d_Law_digest_305 rfl rfl ?_
    refine gl_bipush d_Law_digest_306 (by decide +kernel) ?_
    refine gl_invV (as := [.inl (k : Int), .inl 7]) (k := 0) (rest := [gJ (31 * ((31 * g) + ((Int32.ofInt (na_trail (dB A.1) (k : Int) 0)).toInt64)))]) (d' := 5) d_Law_digest_308 lk_Law_38 (ga_rcv ga_oG rfl rfl) rfl (Nat.le_of_ble_eq_true rfl) (Nat.le_of_ble_eq_true rfl) rfl rfl (q_trail (v := na_trail (dB A.1) (k : Int) 7) ⟨by omega, by omega⟩ ⟨by decide, by decide⟩ hx hA rfl (fun I hx => ?_))
    refine gl_i2l d_Law_digest_311 ?_
    refine gl_ladd d_Law_digest_312 ?_
    refine gl_lstore_n 1 d_Law_digest_313 rfl (Nat.le_of_ble_eq_true rfl) rfl rfl ?_
    refine gl_iinc 3 d_Law_digest_314 rfl rfl rfl ?_
    refine gl_goto 279 d_Law_digest_317 (by decide) ?_
    exact gl_le (ih (k + 1) I ((31 * ((31 * g) + ((Int32.ofInt (na_trail (dB A.1) (k : Int) 0)).toInt64))) + ((Int32.ofInt (na_trail (dB A.1) (k : Int) 7)).toInt64)) (by omega) (dl_st hg (by rw [d11, dh, dh])) hx) (by exact ⟨rfl, ⟨rfl, ⟨rfl, trivial⟩⟩⟩)
theorem w_digest {I : ga_I} (hx : rx I A) (hA : ni_a A) (K : ∀ J, rx J A → E (some (gJ (dg A.1))) J) : gl_W G 6 mt_Law_digest 0 ((ga_en 6 [.inr 0]).map (fun o => o.map Sum.inl)) [] I E := by
  have n0 := ni_n hA.1.1 (ax := 0) (by omega)
  have n1 := ni_n hA.1.1 (ax := 1) (by omega)
  show gl_W G 6 mt_Law_digest 0 [some (gR 0), none, none, none, none, none] [] I E
  refine gl_ldc2 d_Law_digest_0 kl_Law_8 ?_
  refine gl_lstore_n 1 d_Law_digest_3 rfl (Nat.le_of_ble_eq_true rfl) rfl rfl ?_
  refine gl_iconst d_Law_digest_4 ?_
  refine gl_istore_n 3 d_Law_digest_5 rfl (Nat.le_of_ble_eq_true rfl) rfl rfl ?_
  refine gl_le (dg_6 (h := 7)  hA  (fun I g1 hg1 hx => ?_) 9 0 I 7 (by omega) (dl0 _ _) hx) (by exact ⟨rfl, ⟨rfl, ⟨rfl, trivial⟩⟩⟩)
  refine gl_ldc2 d_Law_digest_31 kl_Law_10 ?_
  refine gl_lload_n 1 d_Law_digest_34 rfl rfl ?_
  refine gl_lmul d_Law_digest_35 ?_
  refine gl_aload_n 0 d_Law_digest_36 rfl rfl ?_
  refine gl_bipush d_Law_digest_37 (by decide +kernel) ?_
  refine gl_invV (as := [.inl 11]) (k := 0) (rest := [gJ (31 * g1)]) (d' := 5) d_Law_digest_39 lk_Law_12 (ga_rcv ga_oG rfl rfl) rfl (Nat.le_of_ble_eq_true rfl) (Nat.le_of_ble_eq_true rfl) rfl rfl (q_count (v := na_count (dB A.1) 11) ⟨by decide, by decide⟩ hx hA (cB (by omega)) (fun I hx => ?_))
  refine gl_i2l d_Law_digest_42 ?_
  refine gl_ladd d_Law_digest_43 ?_
  refine gl_lstore_n 1 d_Law_digest_44 rfl (Nat.le_of_ble_eq_true rfl) rfl rfl ?_
  refine gl_iconst d_Law_digest_45 ?_
  refine gl_istore_n 3 d_Law_digest_46 rfl (Nat.le_of_ble_eq_true rfl) rfl rfl ?_
  refine gl_le (dg_47 (h := (31 * g1) + ((Int32.ofInt (na_count (dB A.1) 11)).toInt64))  hA  (fun I g2 hg2 hx => ?_) 2 0 I ((31 * g1) + ((Int32.ofInt (na_count (dB A.1) 11)).toInt64)) (by omega) (dl0 _ _) hx) (by exact ⟨rfl, ⟨rfl, ⟨rfl, trivial⟩⟩⟩)
  refine gl_iconst d_Law_digest_137 ?_
  refine gl_istore_n 3 d_Law_digest_138 rfl (Nat.le_of_ble_eq_true rfl) rfl rfl ?_
  refine gl_le (dg_139 (h := g2)  hA  (fun I g3 hg3 hx => ?_) ((ms_n A.1 0).toNat + 1) 0 I g2 (by omega) (dl0 _ _) hx) (by exact ⟨rfl, ⟨rfl, ⟨rfl, trivial⟩⟩⟩)
  refine gl_iconst d_Law_digest_207 ?_
  refine gl_istore_n 3 d_Law_digest_208 rfl (Nat.le_of_ble_eq_true rfl) rfl rfl ?_
  refine gl_le (dg_209 (h := g3)  hA  (fun I g4 hg4 hx => ?_) 3 0 I g3 (by omega) (dl0 _ _) hx) (by exact ⟨rfl, ⟨rfl, ⟨rfl, trivial⟩⟩⟩)
  refine gl_iconst d_Law_digest_277 ?_
  refine gl_istore_n 3 d_Law_digest_278 rfl (Nat.le_of_ble_eq_true rfl) rfl rfl ?_
  refine gl_le (dg_279 (h := g4)  hA  (fun I g5 hg5 hx => ?_) 20 0 I g4 (by omega) (dl0 _ _) hx) (by exact ⟨rfl, ⟨rfl, ⟨rfl, trivial⟩⟩⟩)
  refine gl_ldc2 d_Law_digest_320 kl_Law_10 ?_
  refine gl_lload_n 1 d_Law_digest_323 rfl rfl ?_
  refine gl_lmul d_Law_digest_324 ?_
  refine gl_aload_n 0 d_Law_digest_325 rfl rfl ?_
  refine gl_iconst d_Law_digest_326 ?_
  refine gl_invV (as := [.inl 3]) (k := 0) (rest := [gJ (31 * g5)]) (d' := 5) d_Law_digest_327 lk_Law_32 (ga_rcv ga_oG rfl rfl) rfl (Nat.le_of_ble_eq_true rfl) (Nat.le_of_ble_eq_true rfl) rfl rfl (q_account (v := na_account (dB A.1) 3) ⟨by decide, by decide⟩ hx hA rfl (fun I hx => ?_))
  refine gl_i2l d_Law_digest_330 ?_
  refine gl_ladd d_Law_digest_331 ?_
  have ee : 31 * g5 + (Int32.ofInt (na_account (dB A.1) 3)).toInt64 = dg A.1 := by rw [hg5, hg4, hg3, hg2, hg1, dg, dgB, dgA, dh, dh]
  exact gl_lreturn d_Law_digest_332 rfl (by rw [ee]; exact K I hx)
end LD
