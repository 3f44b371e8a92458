/-! the law: rows of its own -/
abbrev mt_Law : ga_M := (x, code, 4, ret)
section LW
variable {G : ga_G} {d : Nat} {mt : ga_M} {pc : Nat} {lst : List (Option ga_V)} {st : List ga_V} {I : ga_I} {E : Option ga_V → ga_I → Prop}
theorem ga_bA {G : ga_G} (h : ga_ok G) : ¬ ga_A G (ga_b G) := fun q => by have := h.2.1; unfold ga_A at q; omega
theorem gw_slen (hL : ga_L G < 100000) (hd : decode mt.2.1 pc = .ok (.arraylength, 1)) (K : ga_W G d mt (pc + 1) lst (.inl (ga_L G : Int) :: st) I E) : ga_W G d mt pc lst (.inr 1000 :: st) I E := by
  intro p e R s m args below meth c cells slots Q C hr hI H locs ls hP hS hL
  obtain ⟨hx, hb, hm, hown, hts, hK, hX, hbl, hok, hroom, hce, hsl, hNx⟩ := id C
  have e1 : ga_cz G (.inr 1000) = .ref (ga_b G) := by show Value.ref (ga_ad G 1000) = _; rw [hok.2.2]
  show W p (ga_l G) e R s m args below meth c H locs cells slots Q (F0 m pc ls (ga_cz G (.inr 1000) :: st.map (ga_cz G)))
  rw [e1]
  exact va_slen hx hb hX hbl (ga_bA hok) hS hd (K p e R s m args below meth c cells slots Q C hr hI H locs ls hP hS hL)
theorem gw_sld {i : Nat} (hL : ga_L G < 100000) (hi : i < ga_L G) (hd : decode mt.2.1 pc = .ok (.iaload, 1)) (K : ga_W G d mt (pc + 1) lst (.inl (ga_xs G i).toInt :: st) I E) : ga_W G d mt pc lst (.inl (i : Int) :: .inr 1000 :: st) I E := by
  intro p e R s m args below meth c cells slots Q C hr hI H locs ls hP hS hL'
  obtain ⟨hx, hb, hm, hown, hts, hK, hX, hbl, hok, hroom, hce, hsl, hNx⟩ := id C
  have e1 : ga_cz G (.inr 1000) = .ref (ga_b G) := by show Value.ref (ga_ad G 1000) = _; rw [hok.2.2]
  show W p (ga_l G) e R s m args below meth c H locs cells slots Q (F0 m pc ls (.int (Int32.ofInt (i : Int)) :: ga_cz G (.inr 1000) :: st.map (ga_cz G)))
  rw [e1]
  refine va_sld hx hb hX hbl (ga_bA hok) hS (ga_in (by omega) (by omega) (by omega)) hd ?_
  have hNN : (Int32.ofInt (i : Int)).toNatClampNeg = i := by rw [ga_nat ⟨by omega, by omega⟩]; omega
  rw [hNN]
  have k := K p e R s m args below meth c cells slots Q C hr hI H locs ls hP hS hL'
  have e2 : ga_cz G (.inl (ga_xs G i).toInt) = .int (ga_xs G i) := by show Value.int (Int32.ofInt (ga_xs G i).toInt) = _; rw [ga_of_I]
  rw [List.map_cons, e2] at k
  exact k
theorem gw_iand31 {a : Int} (hd : decode mt.2.1 pc = .ok (.iand, 1)) (K : ∀ j : Nat, j < 32 → ga_W G d mt (pc + 1) lst (.inl (j : Int) :: st) I E) : ga_W G d mt pc lst (.inl 31 :: .inl a :: st) I E := by
  intro p e R s m args below meth c cells slots Q C hr hI H locs ls hP hS hL
  obtain ⟨j, hj, ej⟩ := pk_andE (Int32.ofInt a) (m := Int32.ofInt 31) 5 (by decide +kernel)
  refine lv_iand C.1 C.2.1 hd ?_
  rw [ej]
  exact K j hj p e R s m args below meth c cells slots Q C hr hI H locs ls hP hS hL
theorem gw_icmp_rf {a : Int} {off : Int} (tgt : Nat) (hd : decode mt.2.1 pc = .ok (.if_icmp .eq off, 3)) (ht : (pc : Int) + off = (tgt : Int)) (K : ga_W G d mt tgt lst st I E) : ga_W G d mt pc lst (.inl a :: .inl a :: st) I E := by
  intro p e R s m args below meth c cells slots Q C hr hI H locs ls hP hS hL
  exact lv_icmp_eq C.1 C.2.1 hd ht (fun _ => K p e R s m args below meth c cells slots Q C hr hI H locs ls hP hS hL) (fun h => absurd rfl h)
/-- an int of the script is pushed -/
theorem gw_arg {i : Nat} {j : Nat} {v1 v2 : Option ga_V} (hL : ga_L G < 100000) (hi : i + j < ga_L G) (h0 : decode mt.2.1 pc = .ok (.aload_n 0, 1)) (h1 : decode mt.2.1 (pc + 1) = .ok (.iload_n 3, 1)) (h2 : decode mt.2.1 (pc + 2) = .ok (.iconst (j : Int), 1)) (h3 : decode mt.2.1 (pc + 3) = .ok (.iadd, 1)) (h4 : decode mt.2.1 (pc + 4) = .ok (.iaload, 1))
    (K : ga_W G d mt (pc + 5) [some (.inr 1000), v1, v2, some (.inl (i : Int))] (.inl (ga_xs G (i + j)).toInt :: st) I E) : ga_W G d mt pc [some (.inr 1000), v1, v2, some (.inl (i : Int))] st I E := by
  refine gw_aload_n 0 h0 rfl rfl (gw_iload_n 3 h1 rfl rfl (gw_iconst h2 (gw_iadd h3 ?_)))
  rw [show (i : Int) + (j : Int) = ((i + j : Nat) : Int) by omega]
  exact gw_sld hL hi h4 K
end LW
