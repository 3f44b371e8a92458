/-! what stands where in the world; rows of Math; switches -/
def ga_isB (k : Nat) : Prop := ga_obj k 1 [none, some (k + 1), some (k + 2), some (k + 3)] ∧ ga_arr (k + 1) 0 6 ∧ ga_arr (k + 2) 0 6 ∧ ga_arr (k + 3) 0 6
def ga_isT (k : Nat) : Prop := ga_obj k 5 [some (k + 1), some (k + 5), some (k + 9), some (k + 10)] ∧ ga_isB (k + 1) ∧ ga_isB (k + 5) ∧ ga_arr (k + 9) 0 147 ∧ ga_arr (k + 10) 0 49
def ga_isP (k : Nat) : Prop := ga_obj k 3 [none, none, some (k + 1)] ∧ ga_arr (k + 1) 0 160
def ga_isS (k : Nat) : Prop := ga_obj k 4 [some (k + 1), some (k + 12), some (k + 23), some (k + 34), some (k + 45), some (k + 46), some (k + 47), none, some (k + 48), none, none, some (k + 50), some (k + 51), some (k + 52), some (k + 53)] ∧ ga_isT (k + 1) ∧ ga_isT (k + 12) ∧ ga_isT (k + 23) ∧ ga_isT (k + 34) ∧ ga_arr (k + 45) 1 3 ∧ ga_arr (k + 46) 0 2 ∧ ga_arr (k + 47) 0 2 ∧ ga_isP (k + 48) ∧ ga_arr (k + 50) 0 3 ∧ ga_arr (k + 51) 0 3 ∧ ga_arr (k + 52) 0 3 ∧ ga_arr (k + 53) 0 4
def ga_isL (k : Nat) : Prop := ga_obj k 0 [none, none, none, none]
theorem ga_oG : ga_obj 0 7 [some 1, some 55, some 327, some 329, some 340, some 344, some 345, some 346, some 347] := by decide +kernel
theorem ga_oH : ga_obj 55 2 [none, none, some 56] := by decide +kernel
theorem ga_rH : 56 < 348 ∧ ga_sh 56 = .inr (.inr [57, 111, 165, 219, 273]) := by decide +kernel
theorem ga_oX : ga_obj 327 6 [none, none, none, some 328] := by decide +kernel
theorem ga_aX : ga_arr 328 2 160 := by decide +kernel
theorem ga_s1 : ga_isS 1 := ⟨by decide +kernel, ⟨by decide +kernel, ⟨by decide +kernel, by decide +kernel, by decide +kernel, by decide +kernel⟩, ⟨by decide +kernel, by decide +kernel, by decide +kernel, by decide +kernel⟩, by decide +kernel, by decide +kernel⟩, ⟨by decide +kernel, ⟨by decide +kernel, by decide +kernel, by decide +kernel, by decide +kernel⟩, ⟨by decide +kernel, by decide +kernel, by decide +kernel, by decide +kernel⟩, by decide +kernel, by decide +kernel⟩, ⟨by decide +kernel, ⟨by decide +kernel, by decide +kernel, by decide +kernel, by decide +kernel⟩, ⟨by decide +kernel, by decide +kernel, by decide +kernel, by decide +kernel⟩, by decide +kernel, by decide +kernel⟩, ⟨by decide +kernel, ⟨by decide +kernel, by decide +kernel, by decide +kernel, by decide +kernel⟩, ⟨by decide +kernel, by decide +kernel, by decide +kernel, by decide +kernel⟩, by decide +kernel, by decide +kernel⟩, by decide +kernel, by decide +kernel, by decide +kernel, ⟨by decide +kernel, by decide +kernel⟩, by decide +kernel, by decide +kernel, by decide +kernel, by decide +kernel⟩
theorem ga_sH (i : Nat) (h : i < 5) : ga_isS (57 + 54 * i) := by
  rcases (show i = 0 ∨ i = 1 ∨ i = 2 ∨ i = 3 ∨ i = 4 by omega) with rfl | rfl | rfl | rfl | rfl <;> exact ⟨by decide +kernel, ⟨by decide +kernel, ⟨by decide +kernel, by decide +kernel, by decide +kernel, by decide +kernel⟩, ⟨by decide +kernel, by decide +kernel, by decide +kernel, by decide +kernel⟩, by decide +kernel, by decide +kernel⟩, ⟨by decide +kernel, ⟨by decide +kernel, by decide +kernel, by decide +kernel, by decide +kernel⟩, ⟨by decide +kernel, by decide +kernel, by decide +kernel, by decide +kernel⟩, by decide +kernel, by decide +kernel⟩, ⟨by decide +kernel, ⟨by decide +kernel, by decide +kernel, by decide +kernel, by decide +kernel⟩, ⟨by decide +kernel, by decide +kernel, by decide +kernel, by decide +kernel⟩, by decide +kernel, by decide +kernel⟩, ⟨by decide +kernel, ⟨by decide +kernel, by decide +kernel, by decide +kernel, by decide +kernel⟩, ⟨by decide +kernel, by decide +kernel, by decide +kernel, by decide +kernel⟩, by decide +kernel, by decide +kernel⟩, by decide +kernel, by decide +kernel, by decide +kernel, ⟨by decide +kernel, by decide +kernel⟩, by decide +kernel, by decide +kernel, by decide +kernel, by decide +kernel⟩
theorem ga_hat (i : Nat) (h : i < 5) : ([57, 111, 165, 219, 273] : List Nat)[i]? = some (57 + 54 * i) := by
  rcases (show i = 0 ∨ i = 1 ∨ i = 2 ∨ i = 3 ∨ i = 4 by omega) with rfl | rfl | rfl | rfl | rfl <;> rfl
theorem ga_t329 : ga_isT 329 := ⟨by decide +kernel, ⟨by decide +kernel, by decide +kernel, by decide +kernel, by decide +kernel⟩, ⟨by decide +kernel, by decide +kernel, by decide +kernel, by decide +kernel⟩, by decide +kernel, by decide +kernel⟩
theorem ga_b340 : ga_isB 340 := ⟨by decide +kernel, by decide +kernel, by decide +kernel, by decide +kernel⟩
theorem ga_l344 : ga_isL 344 := (by decide +kernel : ga_obj 344 0 [none, none, none, none])
theorem ga_l345 : ga_isL 345 := (by decide +kernel : ga_obj 345 0 [none, none, none, none])
theorem ga_a346 : ga_arr 346 0 3 := by decide +kernel
theorem ga_a347 : ga_arr 347 0 3 := by decide +kernel
/-- the borders of an axis of the table at k -/
def ga_bo (k : Nat) (axis : Int) : Nat := if axis = 0 then k + 1 else k + 5
theorem ga_bo_B {k : Nat} (h : ga_isT k) (axis : Int) : ga_isB (ga_bo k axis) := by
  unfold ga_bo
  by_cases e : axis = 0
  · rw [if_pos e]; exact h.2.1
  · rw [if_neg e]; exact h.2.2.1
/-- the snapshot at a place of the state at k -/
def ga_sn (k : Nat) (place : Int) : Nat := if place = 0 then k + 12 else if place = 1 then k + 23 else k + 34
theorem ga_sn_T {k : Nat} (h : ga_isS k) (place : Int) : ga_isT (ga_sn k place) := by
  unfold ga_sn
  by_cases e : place = 0
  · rw [if_pos e]; exact h.2.2.1
  · rw [if_neg e]
    by_cases e2 : place = 1
    · rw [if_pos e2]; exact h.2.2.2.1
    · rw [if_neg e2]; exact h.2.2.2.2.1
theorem ga_rcv {k ci : Nat} {fs : List (Option Nat)} {q : vw_C} {C : String} (h : ga_obj k ci fs) (hq : ga_cl[ci]? = some q) (hC : q.1 = C) : k < 348 ∧ ∃ ci fs q, ga_sh k = .inl (ci, fs) ∧ ga_cl[ci]? = some q ∧ q.1 = C := ⟨h.1, ci, fs, q, h.2, hq, hC⟩
theorem ga_min_rg {a b : Int} (ha : ga_rg a) (hb : ga_rg b) : ga_rg (min a b) := by constructor <;> omega
section GM
variable {G : ga_G} {d : Nat} {mt : ga_M} {pc : Nat} {lst : List (Option ga_V)} {st : List ga_V} {I : ga_I} {E : Option ga_V → ga_I → Prop}
theorem gw_alenZ {k t n : Nat} {z : Int} (hd : decode mt.2.1 pc = .ok (.arraylength, 1)) (ha : ga_arr k t n) (ht : t < 3) (hz : (n : Int) = z) (K : ga_W G d mt (pc + 1) lst (.inl z :: st) I E) : ga_W G d mt pc lst (.inr k :: st) I E := by
  subst hz
  exact gw_alen hd ha ht K
theorem gw_mmin {idx : Nat} {a b : Int} (hd : decode mt.2.1 pc = .ok (.invokestatic idx, 3)) (hl : ga_LS mt.1.cls idx mt_Math_min 2) (ha : ga_rg a) (hb : ga_rg b) (hdd : 1 ≤ d) (hrs : st.length ≤ 8) (K : ga_W G d mt (pc + 3) lst (.inl (min a b) :: st) I E) : ga_W G d mt pc lst (.inl b :: .inl a :: st) I E := by
  intro p e R s m args below meth c cells slots Q C hr hI H locs ls hP hS hL
  obtain ⟨hin, hml, hst, -⟩ := hl
  refine va_mmin C.1 C.2.1 (C.2.2.1.trans hL.1.symm) C.2.2.2.1 (C.2.2.2.2.1 _ hml) (C.2.2.2.2.1 _ hst) (C.2.2.2.2.1 _ hin.2.2.2.1) (C.2.2.2.2.1 _ hin.1) (by have := C.2.2.2.2.2.2.2.2.2.1.1; omega) (by rw [ga_cats]; have := C.2.2.2.2.2.2.2.2.2.1.2; omega) C.2.2.2.2.2.2.2.2.2.2.1 C.2.2.2.2.2.2.2.2.2.2.2.1 hd ?_
  have e9 : (if Int32.ofInt b < Int32.ofInt a then Int32.ofInt b else Int32.ofInt a) = Int32.ofInt (min a b) := by
    by_cases q : b < a
    · rw [if_pos ((ga_lt hb ha).mpr q), Int.min_eq_right (by omega)]
    · rw [if_neg (fun h => q ((ga_lt hb ha).mp h)), Int.min_eq_left (by omega)]
  rw [e9]
  exact K p e R s m args below meth c cells slots Q C hr hI H locs ls hP hS hL
theorem gw_mmax {idx : Nat} {a b : Int} (hd : decode mt.2.1 pc = .ok (.invokestatic idx, 3)) (hl : ga_LS mt.1.cls idx mt_Math_max 2) (ha : ga_rg a) (hb : ga_rg b) (hdd : 1 ≤ d) (hrs : st.length ≤ 8) (K : ga_W G d mt (pc + 3) lst (.inl (max a b) :: st) I E) : ga_W G d mt pc lst (.inl b :: .inl a :: st) I E := by
  intro p e R s m args below meth c cells slots Q C hr hI H locs ls hP hS hL
  obtain ⟨hin, hml, hst, -⟩ := hl
  refine va_mmax C.1 C.2.1 (C.2.2.1.trans hL.1.symm) C.2.2.2.1 (C.2.2.2.2.1 _ hml) (C.2.2.2.2.1 _ hst) (C.2.2.2.2.1 _ hin.2.2.2.1) (C.2.2.2.2.1 _ hin.1) (by have := C.2.2.2.2.2.2.2.2.2.1.1; omega) (by rw [ga_cats]; have := C.2.2.2.2.2.2.2.2.2.1.2; omega) C.2.2.2.2.2.2.2.2.2.2.1 C.2.2.2.2.2.2.2.2.2.2.2.1 hd ?_
  have e9 : (if Int32.ofInt a < Int32.ofInt b then Int32.ofInt b else Int32.ofInt a) = Int32.ofInt (max a b) := by
    by_cases q : a < b
    · rw [if_pos ((ga_lt ha hb).mpr q), Int.max_eq_right (by omega)]
    · rw [if_neg (fun h => q ((ga_lt ha hb).mp h)), Int.max_eq_left (by omega)]
  first | rw [e9] | skip
  exact K p e R s m args below meth c cells slots Q C hr hI H locs ls hP hS hL
theorem gw_mabs {idx : Nat} {a : Int} (hd : decode mt.2.1 pc = .ok (.invokestatic idx, 3)) (hl : ga_LS mt.1.cls idx mt_Math_abs 1) (ha : ga_rg a) (hdd : 1 ≤ d) (hrs : st.length ≤ 8) (K : ga_W G d mt (pc + 3) lst (.inl (a.natAbs : Int) :: st) I E) : ga_W G d mt pc lst (.inl a :: st) I E := by
  intro p e R s m args below meth c cells slots Q C hr hI H locs ls hP hS hL
  obtain ⟨hin, hml, hst, -⟩ := hl
  refine va_mabs C.1 C.2.1 (C.2.2.1.trans hL.1.symm) C.2.2.2.1 (C.2.2.2.2.1 _ hml) (C.2.2.2.2.1 _ hst) (C.2.2.2.2.1 _ hin.2.2.2.1) (C.2.2.2.2.1 _ hin.1) (by have := C.2.2.2.2.2.2.2.2.2.1.1; omega) (by rw [ga_cats]; have := C.2.2.2.2.2.2.2.2.2.1.2; omega) C.2.2.2.2.2.2.2.2.2.2.1 C.2.2.2.2.2.2.2.2.2.2.2.1 hd ?_
  have hz : ga_rg 0 := ⟨by omega, by omega⟩
  have e9 : (if 0 ≤ Int32.ofInt a then Int32.ofInt a else 0 - Int32.ofInt a) = Int32.ofInt (a.natAbs : Int) := by
    rw [show (0 : Int32) = Int32.ofInt 0 from rfl]
    by_cases q : 0 ≤ a
    · rw [if_pos ((ga_le hz ha).mpr q), Int.natAbs_of_nonneg q]
    · rw [if_neg (fun h => q ((ga_le hz ha).mp h)), ga_osub, show (0 : Int) - a = (a.natAbs : Int) by omega]
  rw [e9]
  exact K p e R s m args below meth c cells slots Q C hr hI H locs ls hP hS hL
theorem gw_tsw {dflt lo hi : Int} {offs : Array Int} {len : Nat} {x : Int} (hd : decode mt.2.1 pc = .ok (.tableswitch dflt lo hi offs, len)) (hx : ga_rg x) (Kin : lo ≤ x → x ≤ hi → ∃ (tgt : Nat) (off : Int), offs[(x - lo).toNat]? = some off ∧ (pc : Int) + off = (tgt : Int) ∧ ga_W G d mt tgt lst st I E) (Kout : (x < lo ∨ hi < x) → ∃ tgt : Nat, (pc : Int) + dflt = (tgt : Int) ∧ ga_W G d mt tgt lst st I E) : ga_W G d mt pc lst (.inl x :: st) I E := by
  intro p e R s m args below meth c cells slots Q C hr hI H locs ls hP hS hL
  by_cases q : x < lo ∨ hi < x
  · obtain ⟨tgt, ht, K⟩ := Kout q
    exact lv_tableOut C.1 C.2.1 hd (by rw [ga_toI hx]; exact q) ht (K p e R s m args below meth c cells slots Q C hr hI H locs ls hP hS hL)
  · obtain ⟨tgt, off, ho, ht, K⟩ := Kin (by omega) (by omega)
    exact lv_tableIn C.1 C.2.1 hd (by rw [ga_toI hx]; omega) (by rw [ga_toI hx]; omega) (by rw [ga_toI hx]; exact ho) ht (K p e R s m args below meth c cells slots Q C hr hI H locs ls hP hS hL)
theorem gw_lsw {dflt : Int} {ps : Array (Int × Int)} {len : Nat} {x off : Int} {tgt : Nat} (hd : decode mt.2.1 pc = .ok (.lookupswitch dflt ps, len)) (hp : (ps.toList.zip (ps.toList.drop 1)).all (fun (a, next) => a.1 < next.1) = true) (hx : ga_rg x) (ho : Op.lookupswitch.offset ps.toList dflt x = off) (ht : (pc : Int) + off = (tgt : Int)) (K : ga_W G d mt tgt lst st I E) : ga_W G d mt pc lst (.inl x :: st) I E := by
  intro p e R s m args below meth c cells slots Q C hr hI H locs ls hP hS hL
  exact lv_lookup C.1 C.2.1 hd hp (by rw [ga_toI hx]; exact ho) ht (K p e R s m args below meth c cells slots Q C hr hI H locs ls hP hS hL)
end GM
