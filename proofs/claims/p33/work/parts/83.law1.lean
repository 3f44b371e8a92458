/-! the law: cell, low, act -/
def lo (v n : Int) : Int := Int.tmod (an v 2147483647) n
theorem an_bd (v : Int) (k : Nat) {m : Int} (hm : (Int32.ofInt m).toBitVec.toNat = 2 ^ k - 1) (hk : k ≤ 31) : 0 ≤ an v m ∧ an v m < 2 ^ k := by
  obtain ⟨j, hj, e⟩ := pk_andE (Int32.ofInt v) (m := Int32.ofInt m) k hm
  have h31 : (2 : Nat) ^ k ≤ 2 ^ 31 := Nat.pow_le_pow_right (by omega) hk
  unfold an
  rw [e, nI_toInt (by omega)]
  refine ⟨by omega, ?_⟩
  have : ((2 : Nat) ^ k : Nat) = ((2 : Int) ^ k) := by simp
  omega
theorem an_1 (v : Int) : 0 ≤ an v 1 ∧ an v 1 ≤ 1 := by have := an_bd v 1 (m := 1) (by decide +kernel) (by omega); omega
theorem an_15 (v : Int) : 0 ≤ an v 15 ∧ an v 15 ≤ 15 := by have := an_bd v 4 (m := 15) (by decide +kernel) (by omega); omega
theorem an_m (v : Int) : 0 ≤ an v 2147483647 ∧ an v 2147483647 < 2147483648 := by have := an_bd v 31 (m := 2147483647) (by decide +kernel) (by omega); omega
theorem lo_bd (v : Int) (n : Int) (hn : 0 < n) : 0 ≤ lo v n ∧ lo v n < n := by
  have h := an_m v
  unfold lo
  rw [Int.tmod_eq_emod_of_nonneg h.1]
  exact ⟨Int.emod_nonneg _ (by omega), Int.emod_lt_of_pos _ hn⟩
theorem sh_rg (y k : Int) : ga_rg (sh y k) := ga_rgI _
section LW
variable {G : ga_G} {d : Nat} {mt : ga_M} {pc : Nat} {lst : List (Option ga_V)} {st : List ga_V} {I : ga_I} {E : Option ga_V → ga_I → Prop}
theorem ga_bA {G : ga_G} (h : ga_ok G) : ¬ ga_A G (ga_b G) := fun q => by have := h.2.1; unfold ga_A at q; omega
theorem gw_slen (hL : ga_L G < 100000) (hd : decode mt.2.1 pc = .ok (.arraylength, 1)) (K : ga_W G d mt (pc + 1) lst (.inl (ga_L G : Int) :: st) I E) : ga_W G d mt pc lst (.inr 1000 :: st) I E := by
  intro p e R s m args below meth c cells slots Q C hr hI H locs ls hP hS hL
  obtain ⟨hx, hb, hm, hown, hts, hK, hX, hbl, hok, hroom, hce, hsl, hNx⟩ := id C
  have e1 : ga_cz G (.inr 1000) = .ref (ga_b G) := by show Value.ref (ga_ad G 1000) = _; rw [hok.2.2]
  show W p (ga_l G) e R s m args below meth c H locs cells slots Q (F0 m pc ls (ga_cz G (.inr 1000) :: st.map (ga_cz G)))
  rw [e1]
  exact va_slen hx hb hX hbl (ga_bA hok) hS hd (K p e R s m args below meth c cells slots Q C hr hI H locs ls hP hS hL)
theorem gw_sld {i : Nat} (hL : ga_L G < 100000) (hi : i < ga_L G) (hd : decode mt.2.1 pc = .ok (.iaload, 1)) (K : ga_W G d mt (pc + 1) lst (.inl (ga_xs G i).toInt :: st) I E) : ga_W G d mt pc lst (.inl (i : Int) :: .inr 1000 :: st) I E := by
  intro p e R s m args below meth c cells slots Q C hr hI H locs ls hP hS hL'
  obtain ⟨hx, hb, hm, hown, hts, hK, hX, hbl, hok, hroom, hce, hsl, hNx⟩ := id C
  have e1 : ga_cz G (.inr 1000) = .ref (ga_b G) := by show Value.ref (ga_ad G 1000) = _; rw [hok.2.2]
  show W p (ga_l G) e R s m args below meth c H locs cells slots Q (F0 m pc ls (.int (Int32.ofInt (i : Int)) :: ga_cz G (.inr 1000) :: st.map (ga_cz G)))
  rw [e1]
  refine va_sld hx hb hX hbl (ga_bA hok) hS (ga_in (by omega) (by omega) (by omega)) hd ?_
  have hNN : (Int32.ofInt (i : Int)).toNatClampNeg = i := by rw [ga_nat ⟨by omega, by omega⟩]; omega
  rw [hNN]
  have k := K p e R s m args below meth c cells slots Q C hr hI H locs ls hP hS hL'
  have e2 : ga_cz G (.inl (ga_xs G i).toInt) = .int (ga_xs G i) := by show Value.int (Int32.ofInt (ga_xs G i).toInt) = _; rw [ga_of_I]
  rw [List.map_cons, e2] at k
  exact k
theorem gw_icmp_nes {a b : Int} {off : Int} (hd : decode mt.2.1 pc = .ok (.if_icmp .ne off, 3)) (tgt : Nat) (ht : (pc : Int) + off = (tgt : Int)) (ew : Int32.ofInt a = Int32.ofInt b) (K : ga_W G d mt (pc + 3) lst st I E) : ga_W G d mt pc lst (.inl b :: .inl a :: st) I E := by
  intro p e R s m args below meth c cells slots Q C hr hI H locs ls hP hS hL
  exact lv_icmp_ne C.1 C.2.1 hd ht (fun h => absurd ew h) (fun _ => K p e R s m args below meth c cells slots Q C hr hI H locs ls hP hS hL)
theorem gw_iand {a b : Int} (hd : decode mt.2.1 pc = .ok (.iand, 1)) (K : ga_W G d mt (pc + 1) lst (.inl (an a b) :: st) I E) : ga_W G d mt pc lst (.inl b :: .inl a :: st) I E := by
  intro p e R s m args below meth c cells slots Q C hr hI H locs ls hP hS hL
  refine lv_iand C.1 C.2.1 hd ?_
  have k := K p e R s m args below meth c cells slots Q C hr hI H locs ls hP hS hL
  have e2 : ga_cz G (.inl (an a b)) = .int (Int32.ofInt a &&& Int32.ofInt b) := by show Value.int (Int32.ofInt (Int32.ofInt a &&& Int32.ofInt b).toInt) = _; rw [ga_of_I]
  rw [List.map_cons, e2] at k
  exact k
theorem gw_ishr {a b : Int} (hd : decode mt.2.1 pc = .ok (.ishr, 1)) (K : ga_W G d mt (pc + 1) lst (.inl (sh a b) :: st) I E) : ga_W G d mt pc lst (.inl b :: .inl a :: st) I E := by
  intro p e R s m args below meth c cells slots Q C hr hI H locs ls hP hS hL
  refine lv_ishr C.1 C.2.1 hd ?_
  have k := K p e R s m args below meth c cells slots Q C hr hI H locs ls hP hS hL
  have e2 : ga_cz G (.inl (sh a b)) = .int (Int32.ofInt a >>> (Int32.ofInt b &&& 31)) := by show Value.int (Int32.ofInt (Int32.ofInt a >>> (Int32.ofInt b &&& 31)).toInt) = _; rw [ga_of_I]
  rw [List.map_cons, e2] at k
  exact k
theorem w_low {v n : Int} (hn : 0 < n) (hn2 : n < 10000) (K : E (some (.inl (lo v n))) I) : ga_W G d mt_Law_low 0 (ga_en 2 [.inl v, .inl n]) [] I E := by
  have h := an_m v
  refine gw_iload_n 0 d_Law_low_0 rfl rfl (gw_ldc (n := 2147483647) d_Law_low_1 kw_Law_7 (by decide +kernel) (gw_iand d_Law_low_3 (gw_iload_n 1 d_Law_low_4 rfl rfl (gw_irem d_Law_low_5 ⟨by omega, by omega⟩ ⟨by omega, by omega⟩ hn (gw_ireturn d_Law_low_6 rfl K)))))
theorem w_cell {t : Nat} (hL : ga_L G < 100000) (ht : t < 15) (K : ∀ z, ga_rg z → E (some (.inl z)) I) : ga_W G d mt_Law_cell 0 (ga_en 2 [.inr 1000, .inl (t : Int)]) [] I E := by
  refine gw_iload_n 1 d_Law_cell_0 rfl rfl (gw_aload_n 0 d_Law_cell_1 rfl rfl (gw_slen hL d_Law_cell_2 (gw_icmp_ge 12 d_Law_cell_3 (by decide) ⟨by omega, by omega⟩ ⟨by omega, by omega⟩ (fun _ => ?_) (fun h => ?_))))
  · refine gw_sipush d_Law_cell_12 (by decide +kernel) (gw_iload_n 1 d_Law_cell_15 rfl rfl (gw_iconst d_Law_cell_16 (gw_iadd d_Law_cell_17 (gw_imul d_Law_cell_18 (gw_iload_n 1 d_Law_cell_19 rfl rfl (gw_bipush d_Law_cell_20 (by decide +kernel) (gw_iadd d_Law_cell_22 (gw_imul d_Law_cell_23 (gw_ireturn d_Law_cell_24 rfl (K _ ?_))))))))))
    have hb : (t : Int) * t ≤ 14 * 14 := Int.mul_le_mul (by omega) (by omega) (by omega) (by omega)
    have hb0 : 0 ≤ (t : Int) * t := Int.mul_nonneg (by omega) (by omega)
    have e : 7919 * ((t : Int) + 3) * ((t : Int) + 11) = 7919 * ((t : Int) * t) + 110866 * (t : Int) + 261327 := by
      rw [Int.mul_assoc, Int.add_mul, Int.mul_add, Int.mul_add]; omega
    rw [e]
    exact ⟨by omega, by omega⟩
  · refine gw_aload_n 0 d_Law_cell_6 rfl rfl (gw_iload_n 1 d_Law_cell_7 rfl rfl (gw_sld hL (by omega) d_Law_cell_8 (gw_goto 24 d_Law_cell_9 (by decide) (gw_ireturn d_Law_cell_24 rfl (K _ (ga_rgI _))))))
end LW
section LA
variable {G : ga_G} {I : ga_I} {E : Option ga_V → ga_I → Prop} {A : na_A} {y : Int}
theorem w_act_100 (hy : ga_rg y) (hx : rx I A) (hA : ni_a A) (h : nx_E E I (no_addBorder A (lo (sh y 4) 2) (50 + (lo (sh y 5) 900)) (an (sh y 9) 1) (lo (sh y 4) 60))) : ga_W G 6 mt_Law_act 100 [some (.inr 0), some (.inl y), some (.inl (sh y 4)), some (.inl (lo (sh y 6) 3)), some (.inl (lo (sh y 8) 3))] [] I E := by
  have b90 := lo_bd (sh y 6) 3 (by omega)
  have b91 := lo_bd (sh y 8) 3 (by omega)
  refine gw_aload_n 0 d_Law_act_100 rfl rfl ?_
  refine gw_iload_n 2 d_Law_act_101 rfl rfl ?_
  refine gw_iconst d_Law_act_102 ?_
  have b1 := lo_bd (sh y 4) 2 (by omega)
  refine gw_invS (as := [.inl (sh y 4), .inl 2]) (rest := [.inr 0]) (d' := 5) d_Law_act_103 lk_Law_41 rfl (Nat.le_of_ble_eq_true rfl) (Nat.le_of_ble_eq_true rfl) rfl rfl (w_low (by omega) (by omega) ?_)
  refine gw_bipush d_Law_act_106 (by decide +kernel) ?_
  refine gw_iload_n 1 d_Law_act_108 rfl rfl ?_
  refine gw_iconst d_Law_act_109 ?_
  refine gw_ishr d_Law_act_110 ?_
  refine gw_sipush d_Law_act_111 (by decide +kernel) ?_
  have b2 := lo_bd (sh y 5) 900 (by omega)
  refine gw_invS (as := [.inl (sh y 5), .inl 900]) (rest := [.inl 50, .inl (lo (sh y 4) 2), .inr 0]) (d' := 5) d_Law_act_114 lk_Law_41 rfl (Nat.le_of_ble_eq_true rfl) (Nat.le_of_ble_eq_true rfl) rfl rfl (w_low (by omega) (by omega) ?_)
  refine gw_iadd d_Law_act_117 ?_
  refine gw_iload_n 1 d_Law_act_118 rfl rfl ?_
  refine gw_bipush d_Law_act_119 (by decide +kernel) ?_
  refine gw_ishr d_Law_act_121 ?_
  refine gw_iconst d_Law_act_122 ?_
  refine gw_iand d_Law_act_123 ?_
  refine gw_iload_n 1 d_Law_act_124 rfl rfl ?_
  refine gw_iconst d_Law_act_125 ?_
  refine gw_ishr d_Law_act_126 ?_
  refine gw_bipush d_Law_act_127 (by decide +kernel) ?_
  have b3 := lo_bd (sh y 4) 60 (by omega)
  refine gw_invS (as := [.inl (sh y 4), .inl 60]) (rest := [.inl (an (sh y 9) 1), .inl (50 + (lo (sh y 5) 900)), .inl (lo (sh y 4) 2), .inr 0]) (d' := 5) d_Law_act_129 lk_Law_41 rfl (Nat.le_of_ble_eq_true rfl) (Nat.le_of_ble_eq_true rfl) rfl rfl (w_low (by omega) (by omega) ?_)
  have c2 := an_1 (sh y 9)
  refine gw_invV (as := [.inl (lo (sh y 4) 2), .inl (50 + (lo (sh y 5) 900)), .inl (an (sh y 9) 1), .inl (lo (sh y 4) 60)]) (k := 0) (rest := []) (d' := 5) d_Law_act_132 lk_Law_46 (ga_rcv ga_oG rfl rfl) rfl (Nat.le_of_ble_eq_true rfl) (Nat.le_of_ble_eq_true rfl) rfl rfl (x_addBorder (d := 0) ⟨by omega, by omega⟩ ⟨by omega, by omega⟩ ⟨by omega, by omega⟩ ⟨by omega, by omega⟩ hx hA (fun J j1 j2 => ?_))
  exact gw_ireturn d_Law_act_135 rfl (h J j1 j2)
theorem w_act_136 (hy : ga_rg y) (hx : rx I A) (hA : ni_a A) (h : nx_E E I (no_removeBorder A (lo (sh y 4) 2) (lo (sh y 6) 3))) : ga_W G 6 mt_Law_act 136 [some (.inr 0), some (.inl y), some (.inl (sh y 4)), some (.inl (lo (sh y 6) 3)), some (.inl (lo (sh y 8) 3))] [] I E := by
  have b90 := lo_bd (sh y 6) 3 (by omega)
  have b91 := lo_bd (sh y 8) 3 (by omega)
  refine gw_aload_n 0 d_Law_act_136 rfl rfl ?_
  refine gw_iload_n 2 d_Law_act_137 rfl rfl ?_
  refine gw_iconst d_Law_act_138 ?_
  have b1 := lo_bd (sh y 4) 2 (by omega)
  refine gw_invS (as := [.inl (sh y 4), .inl 2]) (rest := [.inr 0]) (d' := 5) d_Law_act_139 lk_Law_41 rfl (Nat.le_of_ble_eq_true rfl) (Nat.le_of_ble_eq_true rfl) rfl rfl (w_low (by omega) (by omega) ?_)
  refine gw_iload_n 1 d_Law_act_142 rfl rfl ?_
  refine gw_bipush d_Law_act_143 (by decide +kernel) ?_
  refine gw_ishr d_Law_act_145 ?_
  refine gw_iconst d_Law_act_146 ?_
  have b2 := lo_bd (sh y 6) 3 (by omega)
  refine gw_invS (as := [.inl (sh y 6), .inl 3]) (rest := [.inl (lo (sh y 4) 2), .inr 0]) (d' := 5) d_Law_act_147 lk_Law_41 rfl (Nat.le_of_ble_eq_true rfl) (Nat.le_of_ble_eq_true rfl) rfl rfl (w_low (by omega) (by omega) ?_)
  refine gw_invV (as := [.inl (lo (sh y 4) 2), .inl (lo (sh y 6) 3)]) (k := 0) (rest := []) (d' := 5) d_Law_act_150 lk_Law_50 (ga_rcv ga_oG rfl rfl) rfl (Nat.le_of_ble_eq_true rfl) (Nat.le_of_ble_eq_true rfl) rfl rfl (x_removeBorder (d := 0) ⟨by omega, by omega⟩ ⟨by omega, by omega⟩ hx hA (fun J j1 j2 => ?_))
  exact gw_ireturn d_Law_act_153 rfl (h J j1 j2)
theorem w_act_154 (hy : ga_rg y) (hx : rx I A) (hA : ni_a A) (h : nx_E E I (no_setReach A (lo (sh y 4) 2) (lo (sh y 6) 3) (lo (sh y 5) 90))) : ga_W G 6 mt_Law_act 154 [some (.inr 0), some (.inl y), some (.inl (sh y 4)), some (.inl (lo (sh y 6) 3)), some (.inl (lo (sh y 8) 3))] [] I E := by
  have b90 := lo_bd (sh y 6) 3 (by omega)
  have b91 := lo_bd (sh y 8) 3 (by omega)
  refine gw_aload_n 0 d_Law_act_154 rfl rfl ?_
  refine gw_iload_n 2 d_Law_act_155 rfl rfl ?_
  refine gw_iconst d_Law_act_156 ?_
  have b1 := lo_bd (sh y 4) 2 (by omega)
  refine gw_invS (as := [.inl (sh y 4), .inl 2]) (rest := [.inr 0]) (d' := 5) d_Law_act_157 lk_Law_41 rfl (Nat.le_of_ble_eq_true rfl) (Nat.le_of_ble_eq_true rfl) rfl rfl (w_low (by omega) (by omega) ?_)
  refine gw_iload_n 1 d_Law_act_160 rfl rfl ?_
  refine gw_bipush d_Law_act_161 (by decide +kernel) ?_
  refine gw_ishr d_Law_act_163 ?_
  refine gw_iconst d_Law_act_164 ?_
  have b2 := lo_bd (sh y 6) 3 (by omega)
  refine gw_invS (as := [.inl (sh y 6), .inl 3]) (rest := [.inl (lo (sh y 4) 2), .inr 0]) (d' := 5) d_Law_act_165 lk_Law_41 rfl (Nat.le_of_ble_eq_true rfl) (Nat.le_of_ble_eq_true rfl) rfl rfl (w_low (by omega) (by omega) ?_)
  refine gw_iload_n 1 d_Law_act_168 rfl rfl ?_
  refine gw_iconst d_Law_act_169 ?_
  refine gw_ishr d_Law_act_170 ?_
  refine gw_bipush d_Law_act_171 (by decide +kernel) ?_
  have b3 := lo_bd (sh y 5) 90 (by omega)
  refine gw_invS (as := [.inl (sh y 5), .inl 90]) (rest := [.inl (lo (sh y 6) 3), .inl (lo (sh y 4) 2), .inr 0]) (d' := 5) d_Law_act_173 lk_Law_41 rfl (Nat.le_of_ble_eq_true rfl) (Nat.le_of_ble_eq_true rfl) rfl rfl (w_low (by omega) (by omega) ?_)
  refine gw_invV (as := [.inl (lo (sh y 4) 2), .inl (lo (sh y 6) 3), .inl (lo (sh y 5) 90)]) (k := 0) (rest := []) (d' := 5) d_Law_act_176 lk_Law_53 (ga_rcv ga_oG rfl rfl) rfl (Nat.le_of_ble_eq_true rfl) (Nat.le_of_ble_eq_true rfl) rfl rfl (x_setReach (d := 0) ⟨by omega, by omega⟩ ⟨by omega, by omega⟩ ⟨by omega, by omega⟩ hx hA (fun J j1 j2 => ?_))
  exact gw_ireturn d_Law_act_179 rfl (h J j1 j2)
theorem w_act_180 (hy : ga_rg y) (hx : rx I A) (hA : ni_a A) (h : nx_E E I (no_setOperator A (lo (sh y 4) 3) (lo (sh y 6) 2) (1 + (lo (sh y 3) 3000)))) : ga_W G 6 mt_Law_act 180 [some (.inr 0), some (.inl y), some (.inl (sh y 4)), some (.inl (lo (sh y 6) 3)), some (.inl (lo (sh y 8) 3))] [] I E := by
  have b90 := lo_bd (sh y 6) 3 (by omega)
  have b91 := lo_bd (sh y 8) 3 (by omega)
  refine gw_aload_n 0 d_Law_act_180 rfl rfl ?_
  refine gw_iload_n 2 d_Law_act_181 rfl rfl ?_
  refine gw_iconst d_Law_act_182 ?_
  have b1 := lo_bd (sh y 4) 3 (by omega)
  refine gw_invS (as := [.inl (sh y 4), .inl 3]) (rest := [.inr 0]) (d' := 5) d_Law_act_183 lk_Law_41 rfl (Nat.le_of_ble_eq_true rfl) (Nat.le_of_ble_eq_true rfl) rfl rfl (w_low (by omega) (by omega) ?_)
  refine gw_iload_n 1 d_Law_act_186 rfl rfl ?_
  refine gw_bipush d_Law_act_187 (by decide +kernel) ?_
  refine gw_ishr d_Law_act_189 ?_
  refine gw_iconst d_Law_act_190 ?_
  have b2 := lo_bd (sh y 6) 2 (by omega)
  refine gw_invS (as := [.inl (sh y 6), .inl 2]) (rest := [.inl (lo (sh y 4) 3), .inr 0]) (d' := 5) d_Law_act_191 lk_Law_41 rfl (Nat.le_of_ble_eq_true rfl) (Nat.le_of_ble_eq_true rfl) rfl rfl (w_low (by omega) (by omega) ?_)
  refine gw_iconst d_Law_act_194 ?_
  refine gw_iload_n 1 d_Law_act_195 rfl rfl ?_
  refine gw_iconst d_Law_act_196 ?_
  refine gw_ishr d_Law_act_197 ?_
  refine gw_sipush d_Law_act_198 (by decide +kernel) ?_
  have b3 := lo_bd (sh y 3) 3000 (by omega)
  refine gw_invS (as := [.inl (sh y 3), .inl 3000]) (rest := [.inl 1, .inl (lo (sh y 6) 2), .inl (lo (sh y 4) 3), .inr 0]) (d' := 5) d_Law_act_201 lk_Law_41 rfl (Nat.le_of_ble_eq_true rfl) (Nat.le_of_ble_eq_true rfl) rfl rfl (w_low (by omega) (by omega) ?_)
  refine gw_iadd d_Law_act_204 ?_
  refine gw_invV (as := [.inl (lo (sh y 4) 3), .inl (lo (sh y 6) 2), .inl (1 + (lo (sh y 3) 3000))]) (k := 0) (rest := []) (d' := 5) d_Law_act_205 lk_Law_56 (ga_rcv ga_oG rfl rfl) rfl (Nat.le_of_ble_eq_true rfl) (Nat.le_of_ble_eq_true rfl) rfl rfl (x_setOperator (d := 0) ⟨by omega, by omega⟩ ⟨by omega, by omega⟩ ⟨by omega, by omega⟩ hx hA (fun J j1 j2 => ?_))
  exact gw_ireturn d_Law_act_208 rfl (h J j1 j2)
theorem w_act_209 (hy : ga_rg y) (hx : rx I A) (hA : ni_a A) (h : nx_E E I (no_edit A (lo (sh y 4) 3) (lo (sh y 6) 3) (lo (sh y 8) 3) (lo (sh y 5) 3) (lo (sh y 3) 500))) : ga_W G 6 mt_Law_act 209 [some (.inr 0), some (.inl y), some (.inl (sh y 4)), some (.inl (lo (sh y 6) 3)), some (.inl (lo (sh y 8) 3))] [] I E := by
  have b90 := lo_bd (sh y 6) 3 (by omega)
  have b91 := lo_bd (sh y 8) 3 (by omega)
  refine gw_aload_n 0 d_Law_act_209 rfl rfl ?_
  refine gw_iload_n 2 d_Law_act_210 rfl rfl ?_
  refine gw_iconst d_Law_act_211 ?_
  have b1 := lo_bd (sh y 4) 3 (by omega)
  refine gw_invS (as := [.inl (sh y 4), .inl 3]) (rest := [.inr 0]) (d' := 5) d_Law_act_212 lk_Law_41 rfl (Nat.le_of_ble_eq_true rfl) (Nat.le_of_ble_eq_true rfl) rfl rfl (w_low (by omega) (by omega) ?_)
  refine gw_iload_n 3 d_Law_act_215 rfl rfl ?_
  refine gw_iload 4 d_Law_act_216 rfl ?_
  refine gw_iload_n 1 d_Law_act_218 rfl rfl ?_
  refine gw_iconst d_Law_act_219 ?_
  refine gw_ishr d_Law_act_220 ?_
  refine gw_iconst d_Law_act_221 ?_
  have b2 := lo_bd (sh y 5) 3 (by omega)
  refine gw_invS (as := [.inl (sh y 5), .inl 3]) (rest := [.inl (lo (sh y 8) 3), .inl (lo (sh y 6) 3), .inl (lo (sh y 4) 3), .inr 0]) (d' := 5) d_Law_act_222 lk_Law_41 rfl (Nat.le_of_ble_eq_true rfl) (Nat.le_of_ble_eq_true rfl) rfl rfl (w_low (by omega) (by omega) ?_)
  refine gw_iload_n 1 d_Law_act_225 rfl rfl ?_
  refine gw_iconst d_Law_act_226 ?_
  refine gw_ishr d_Law_act_227 ?_
  refine gw_sipush d_Law_act_228 (by decide +kernel) ?_
  have b3 := lo_bd (sh y 3) 500 (by omega)
  refine gw_invS (as := [.inl (sh y 3), .inl 500]) (rest := [.inl (lo (sh y 5) 3), .inl (lo (sh y 8) 3), .inl (lo (sh y 6) 3), .inl (lo (sh y 4) 3), .inr 0]) (d' := 5) d_Law_act_231 lk_Law_41 rfl (Nat.le_of_ble_eq_true rfl) (Nat.le_of_ble_eq_true rfl) rfl rfl (w_low (by omega) (by omega) ?_)
  refine gw_invV (as := [.inl (lo (sh y 4) 3), .inl (lo (sh y 6) 3), .inl (lo (sh y 8) 3), .inl (lo (sh y 5) 3), .inl (lo (sh y 3) 500)]) (k := 0) (rest := []) (d' := 5) d_Law_act_234 lk_Law_59 (ga_rcv ga_oG rfl rfl) rfl (Nat.le_of_ble_eq_true rfl) (Nat.le_of_ble_eq_true rfl) rfl rfl (x_edit (d := 0) ⟨by omega, by omega⟩ ⟨by omega, by omega⟩ ⟨by omega, by omega⟩ ⟨by omega, by omega⟩ ⟨by omega, by omega⟩ hx hA (fun J j1 j2 => ?_))
  exact gw_ireturn d_Law_act_237 rfl (h J j1 j2)
theorem w_act_238 (hy : ga_rg y) (hx : rx I A) (hA : ni_a A) (h : nx_E E I (no_scale A (lo (sh y 4) 3) (lo (sh y 6) 3) (lo (sh y 3) 300))) : ga_W G 6 mt_Law_act 238 [some (.inr 0), some (.inl y), some (.inl (sh y 4)), some (.inl (lo (sh y 6) 3)), some (.inl (lo (sh y 8) 3))] [] I E := by
  have b90 := lo_bd (sh y 6) 3 (by omega)
  have b91 := lo_bd (sh y 8) 3 (by omega)
  refine gw_aload_n 0 d_Law_act_238 rfl rfl ?_
  refine gw_iload_n 2 d_Law_act_239 rfl rfl ?_
  refine gw_iconst d_Law_act_240 ?_
  have b1 := lo_bd (sh y 4) 3 (by omega)
  refine gw_invS (as := [.inl (sh y 4), .inl 3]) (rest := [.inr 0]) (d' := 5) d_Law_act_241 lk_Law_41 rfl (Nat.le_of_ble_eq_true rfl) (Nat.le_of_ble_eq_true rfl) rfl rfl (w_low (by omega) (by omega) ?_)
  refine gw_iload_n 1 d_Law_act_244 rfl rfl ?_
  refine gw_bipush d_Law_act_245 (by decide +kernel) ?_
  refine gw_ishr d_Law_act_247 ?_
  refine gw_iconst d_Law_act_248 ?_
  have b2 := lo_bd (sh y 6) 3 (by omega)
  refine gw_invS (as := [.inl (sh y 6), .inl 3]) (rest := [.inl (lo (sh y 4) 3), .inr 0]) (d' := 5) d_Law_act_249 lk_Law_41 rfl (Nat.le_of_ble_eq_true rfl) (Nat.le_of_ble_eq_true rfl) rfl rfl (w_low (by omega) (by omega) ?_)
  refine gw_iload_n 1 d_Law_act_252 rfl rfl ?_
  refine gw_iconst d_Law_act_253 ?_
  refine gw_ishr d_Law_act_254 ?_
  refine gw_sipush d_Law_act_255 (by decide +kernel) ?_
  have b3 := lo_bd (sh y 3) 300 (by omega)
  refine gw_invS (as := [.inl (sh y 3), .inl 300]) (rest := [.inl (lo (sh y 6) 3), .inl (lo (sh y 4) 3), .inr 0]) (d' := 5) d_Law_act_258 lk_Law_41 rfl (Nat.le_of_ble_eq_true rfl) (Nat.le_of_ble_eq_true rfl) rfl rfl (w_low (by omega) (by omega) ?_)
  refine gw_invV (as := [.inl (lo (sh y 4) 3), .inl (lo (sh y 6) 3), .inl (lo (sh y 3) 300)]) (k := 0) (rest := []) (d' := 5) d_Law_act_261 lk_Law_63 (ga_rcv ga_oG rfl rfl) rfl (Nat.le_of_ble_eq_true rfl) (Nat.le_of_ble_eq_true rfl) rfl rfl (x_scale (d := 0) ⟨by omega, by omega⟩ ⟨by omega, by omega⟩ ⟨by omega, by omega⟩ hx hA (fun J j1 j2 => ?_))
  exact gw_ireturn d_Law_act_264 rfl (h J j1 j2)
theorem w_act_265 (hy : ga_rg y) (hx : rx I A) (hA : ni_a A) (h : nx_E E I (no_lock A (lo (sh y 4) 3) (lo (sh y 6) 3) (lo (sh y 8) 3) (an (sh y 9) 1))) : ga_W G 6 mt_Law_act 265 [some (.inr 0), some (.inl y), some (.inl (sh y 4)), some (.inl (lo (sh y 6) 3)), some (.inl (lo (sh y 8) 3))] [] I E := by
  have b90 := lo_bd (sh y 6) 3 (by omega)
  have b91 := lo_bd (sh y 8) 3 (by omega)
  refine gw_aload_n 0 d_Law_act_265 rfl rfl ?_
  refine gw_iload_n 2 d_Law_act_266 rfl rfl ?_
  refine gw_iconst d_Law_act_267 ?_
  have b1 := lo_bd (sh y 4) 3 (by omega)
  refine gw_invS (as := [.inl (sh y 4), .inl 3]) (rest := [.inr 0]) (d' := 5) d_Law_act_268 lk_Law_41 rfl (Nat.le_of_ble_eq_true rfl) (Nat.le_of_ble_eq_true rfl) rfl rfl (w_low (by omega) (by omega) ?_)
  refine gw_iload_n 3 d_Law_act_271 rfl rfl ?_
  refine gw_iload 4 d_Law_act_272 rfl ?_
  refine gw_iload_n 1 d_Law_act_274 rfl rfl ?_
  refine gw_bipush d_Law_act_275 (by decide +kernel) ?_
  refine gw_ishr d_Law_act_277 ?_
  refine gw_iconst d_Law_act_278 ?_
  refine gw_iand d_Law_act_279 ?_
  have c3 := an_1 (sh y 9)
  refine gw_invV (as := [.inl (lo (sh y 4) 3), .inl (lo (sh y 6) 3), .inl (lo (sh y 8) 3), .inl (an (sh y 9) 1)]) (k := 0) (rest := []) (d' := 5) d_Law_act_280 lk_Law_66 (ga_rcv ga_oG rfl rfl) rfl (Nat.le_of_ble_eq_true rfl) (Nat.le_of_ble_eq_true rfl) rfl rfl (x_lock (d := 0) ⟨by omega, by omega⟩ ⟨by omega, by omega⟩ ⟨by omega, by omega⟩ ⟨by omega, by omega⟩ hx hA (fun J j1 j2 => ?_))
  exact gw_ireturn d_Law_act_283 rfl (h J j1 j2)
theorem w_act_284 (hy : ga_rg y) (hx : rx I A) (hA : ni_a A) (h : nx_E E I (no_setMargin A (lo (sh y 4) 40))) : ga_W G 6 mt_Law_act 284 [some (.inr 0), some (.inl y), some (.inl (sh y 4)), some (.inl (lo (sh y 6) 3)), some (.inl (lo (sh y 8) 3))] [] I E := by
  have b90 := lo_bd (sh y 6) 3 (by omega)
  have b91 := lo_bd (sh y 8) 3 (by omega)
  refine gw_aload_n 0 d_Law_act_284 rfl rfl ?_
  refine gw_iload_n 2 d_Law_act_285 rfl rfl ?_
  refine gw_bipush d_Law_act_286 (by decide +kernel) ?_
  have b1 := lo_bd (sh y 4) 40 (by omega)
  refine gw_invS (as := [.inl (sh y 4), .inl 40]) (rest := [.inr 0]) (d' := 5) d_Law_act_288 lk_Law_41 rfl (Nat.le_of_ble_eq_true rfl) (Nat.le_of_ble_eq_true rfl) rfl rfl (w_low (by omega) (by omega) ?_)
  refine gw_invV (as := [.inl (lo (sh y 4) 40)]) (k := 0) (rest := []) (d' := 5) d_Law_act_291 lk_Law_69 (ga_rcv ga_oG rfl rfl) rfl (Nat.le_of_ble_eq_true rfl) (Nat.le_of_ble_eq_true rfl) rfl rfl (x_setMargin (d := 0) ⟨by omega, by omega⟩ hx hA (fun J j1 j2 => ?_))
  exact gw_ireturn d_Law_act_294 rfl (h J j1 j2)
theorem w_act_295 (hy : ga_rg y) (hx : rx I A) (hA : ni_a A) (h : nx_E E I (no_move A (lo (sh y 3) 1001) (lo (sh (y * 7) 4) 1001))) : ga_W G 6 mt_Law_act 295 [some (.inr 0), some (.inl y), some (.inl (sh y 4)), some (.inl (lo (sh y 6) 3)), some (.inl (lo (sh y 8) 3))] [] I E := by
  have b90 := lo_bd (sh y 6) 3 (by omega)
  have b91 := lo_bd (sh y 8) 3 (by omega)
  refine gw_aload_n 0 d_Law_act_295 rfl rfl ?_
  refine gw_iload_n 1 d_Law_act_296 rfl rfl ?_
  refine gw_iconst d_Law_act_297 ?_
  refine gw_ishr d_Law_act_298 ?_
  refine gw_sipush d_Law_act_299 (by decide +kernel) ?_
  have b1 := lo_bd (sh y 3) 1001 (by omega)
  refine gw_invS (as := [.inl (sh y 3), .inl 1001]) (rest := [.inr 0]) (d' := 5) d_Law_act_302 lk_Law_41 rfl (Nat.le_of_ble_eq_true rfl) (Nat.le_of_ble_eq_true rfl) rfl rfl (w_low (by omega) (by omega) ?_)
  refine gw_iload_n 1 d_Law_act_305 rfl rfl ?_
  refine gw_bipush d_Law_act_306 (by decide +kernel) ?_
  refine gw_imul d_Law_act_308 ?_
  refine gw_iconst d_Law_act_309 ?_
  refine gw_ishr d_Law_act_310 ?_
  refine gw_sipush d_Law_act_311 (by decide +kernel) ?_
  have b2 := lo_bd (sh (y * 7) 4) 1001 (by omega)
  refine gw_invS (as := [.inl (sh (y * 7) 4), .inl 1001]) (rest := [.inl (lo (sh y 3) 1001), .inr 0]) (d' := 5) d_Law_act_314 lk_Law_41 rfl (Nat.le_of_ble_eq_true rfl) (Nat.le_of_ble_eq_true rfl) rfl rfl (w_low (by omega) (by omega) ?_)
  refine gw_invV (as := [.inl (lo (sh y 3) 1001), .inl (lo (sh (y * 7) 4) 1001)]) (k := 0) (rest := []) (d' := 5) d_Law_act_317 lk_Law_72 (ga_rcv ga_oG rfl rfl) rfl (Nat.le_of_ble_eq_true rfl) (Nat.le_of_ble_eq_true rfl) rfl rfl (x_move (d := 0) ⟨by omega, by omega⟩ ⟨by omega, by omega⟩ hx hA (fun J j1 j2 => ?_))
  exact gw_ireturn d_Law_act_320 rfl (h J j1 j2)
theorem w_act_321 (hy : ga_rg y) (hx : rx I A) (hA : ni_a A) (h : nx_E E I (no_sweep A (lo (sh y 4) 2) (lo (sh y 3) 1001) (20 + (lo (sh y 5) 300)))) : ga_W G 6 mt_Law_act 321 [some (.inr 0), some (.inl y), some (.inl (sh y 4)), some (.inl (lo (sh y 6) 3)), some (.inl (lo (sh y 8) 3))] [] I E := by
  have b90 := lo_bd (sh y 6) 3 (by omega)
  have b91 := lo_bd (sh y 8) 3 (by omega)
  refine gw_aload_n 0 d_Law_act_321 rfl rfl ?_
  refine gw_iload_n 2 d_Law_act_322 rfl rfl ?_
  refine gw_iconst d_Law_act_323 ?_
  have b1 := lo_bd (sh y 4) 2 (by omega)
  refine gw_invS (as := [.inl (sh y 4), .inl 2]) (rest := [.inr 0]) (d' := 5) d_Law_act_324 lk_Law_41 rfl (Nat.le_of_ble_eq_true rfl) (Nat.le_of_ble_eq_true rfl) rfl rfl (w_low (by omega) (by omega) ?_)
  refine gw_iload_n 1 d_Law_act_327 rfl rfl ?_
  refine gw_iconst d_Law_act_328 ?_
  refine gw_ishr d_Law_act_329 ?_
  refine gw_sipush d_Law_act_330 (by decide +kernel) ?_
  have b2 := lo_bd (sh y 3) 1001 (by omega)
  refine gw_invS (as := [.inl (sh y 3), .inl 1001]) (rest := [.inl (lo (sh y 4) 2), .inr 0]) (d' := 5) d_Law_act_333 lk_Law_41 rfl (Nat.le_of_ble_eq_true rfl) (Nat.le_of_ble_eq_true rfl) rfl rfl (w_low (by omega) (by omega) ?_)
  refine gw_bipush d_Law_act_336 (by decide +kernel) ?_
  refine gw_iload_n 1 d_Law_act_338 rfl rfl ?_
  refine gw_iconst d_Law_act_339 ?_
  refine gw_ishr d_Law_act_340 ?_
  refine gw_sipush d_Law_act_341 (by decide +kernel) ?_
  have b3 := lo_bd (sh y 5) 300 (by omega)
  refine gw_invS (as := [.inl (sh y 5), .inl 300]) (rest := [.inl 20, .inl (lo (sh y 3) 1001), .inl (lo (sh y 4) 2), .inr 0]) (d' := 5) d_Law_act_344 lk_Law_41 rfl (Nat.le_of_ble_eq_true rfl) (Nat.le_of_ble_eq_true rfl) rfl rfl (w_low (by omega) (by omega) ?_)
  refine gw_iadd d_Law_act_347 ?_
  refine gw_invV (as := [.inl (lo (sh y 4) 2), .inl (lo (sh y 3) 1001), .inl (20 + (lo (sh y 5) 300))]) (k := 0) (rest := []) (d' := 5) d_Law_act_348 lk_Law_75 (ga_rcv ga_oG rfl rfl) rfl (Nat.le_of_ble_eq_true rfl) (Nat.le_of_ble_eq_true rfl) rfl rfl (x_sweep (d := 0) ⟨by omega, by omega⟩ ⟨by omega, by omega⟩ ⟨by omega, by omega⟩ hx hA (fun J j1 j2 => ?_))
  exact gw_ireturn d_Law_act_351 rfl (h J j1 j2)
theorem w_act_352 (hy : ga_rg y) (hx : rx I A) (hA : ni_a A) (h : nx_E E I (no_take A (lo (sh y 4) 3))) : ga_W G 6 mt_Law_act 352 [some (.inr 0), some (.inl y), some (.inl (sh y 4)), some (.inl (lo (sh y 6) 3)), some (.inl (lo (sh y 8) 3))] [] I E := by
  have b90 := lo_bd (sh y 6) 3 (by omega)
  have b91 := lo_bd (sh y 8) 3 (by omega)
  refine gw_aload_n 0 d_Law_act_352 rfl rfl ?_
  refine gw_iload_n 2 d_Law_act_353 rfl rfl ?_
  refine gw_iconst d_Law_act_354 ?_
  have b1 := lo_bd (sh y 4) 3 (by omega)
  refine gw_invS (as := [.inl (sh y 4), .inl 3]) (rest := [.inr 0]) (d' := 5) d_Law_act_355 lk_Law_41 rfl (Nat.le_of_ble_eq_true rfl) (Nat.le_of_ble_eq_true rfl) rfl rfl (w_low (by omega) (by omega) ?_)
  refine gw_invV (as := [.inl (lo (sh y 4) 3)]) (k := 0) (rest := []) (d' := 5) d_Law_act_358 lk_Law_78 (ga_rcv ga_oG rfl rfl) rfl (Nat.le_of_ble_eq_true rfl) (Nat.le_of_ble_eq_true rfl) rfl rfl (x_take (d := 0) ⟨by omega, by omega⟩ hx hA (fun J j1 j2 => ?_))
  exact gw_ireturn d_Law_act_361 rfl (h J j1 j2)
theorem w_act_362 (hy : ga_rg y) (hx : rx I A) (hA : ni_a A) (h : nx_E E I (no_restore A (lo (sh y 4) 3))) : ga_W G 6 mt_Law_act 362 [some (.inr 0), some (.inl y), some (.inl (sh y 4)), some (.inl (lo (sh y 6) 3)), some (.inl (lo (sh y 8) 3))] [] I E := by
  have b90 := lo_bd (sh y 6) 3 (by omega)
  have b91 := lo_bd (sh y 8) 3 (by omega)
  refine gw_aload_n 0 d_Law_act_362 rfl rfl ?_
  refine gw_iload_n 2 d_Law_act_363 rfl rfl ?_
  refine gw_iconst d_Law_act_364 ?_
  have b1 := lo_bd (sh y 4) 3 (by omega)
  refine gw_invS (as := [.inl (sh y 4), .inl 3]) (rest := [.inr 0]) (d' := 5) d_Law_act_365 lk_Law_41 rfl (Nat.le_of_ble_eq_true rfl) (Nat.le_of_ble_eq_true rfl) rfl rfl (w_low (by omega) (by omega) ?_)
  refine gw_invV (as := [.inl (lo (sh y 4) 3)]) (k := 0) (rest := []) (d' := 5) d_Law_act_368 lk_Law_81 (ga_rcv ga_oG rfl rfl) rfl (Nat.le_of_ble_eq_true rfl) (Nat.le_of_ble_eq_true rfl) rfl rfl (x_restore (d := 0) ⟨by omega, by omega⟩ hx hA (fun J j1 j2 => ?_))
  exact gw_ireturn d_Law_act_371 rfl (h J j1 j2)
theorem w_act_372 (hy : ga_rg y) (hx : rx I A) (hA : ni_a A) (h : nx_E E I (no_edit A (lo (sh y 4) 3) 0 0 (lo (sh y 5) 3) (lo (sh y 4) 300))) : ga_W G 6 mt_Law_act 372 [some (.inr 0), some (.inl y), some (.inl (sh y 4)), some (.inl (lo (sh y 6) 3)), some (.inl (lo (sh y 8) 3))] [] I E := by
  have b90 := lo_bd (sh y 6) 3 (by omega)
  have b91 := lo_bd (sh y 8) 3 (by omega)
  refine gw_aload_n 0 d_Law_act_372 rfl rfl ?_
  refine gw_iload_n 2 d_Law_act_373 rfl rfl ?_
  refine gw_iconst d_Law_act_374 ?_
  have b1 := lo_bd (sh y 4) 3 (by omega)
  refine gw_invS (as := [.inl (sh y 4), .inl 3]) (rest := [.inr 0]) (d' := 5) d_Law_act_375 lk_Law_41 rfl (Nat.le_of_ble_eq_true rfl) (Nat.le_of_ble_eq_true rfl) rfl rfl (w_low (by omega) (by omega) ?_)
  refine gw_iconst d_Law_act_378 ?_
  refine gw_iconst d_Law_act_379 ?_
  refine gw_iload_n 1 d_Law_act_380 rfl rfl ?_
  refine gw_iconst d_Law_act_381 ?_
  refine gw_ishr d_Law_act_382 ?_
  refine gw_iconst d_Law_act_383 ?_
  have b2 := lo_bd (sh y 5) 3 (by omega)
  refine gw_invS (as := [.inl (sh y 5), .inl 3]) (rest := [.inl 0, .inl 0, .inl (lo (sh y 4) 3), .inr 0]) (d' := 5) d_Law_act_384 lk_Law_41 rfl (Nat.le_of_ble_eq_true rfl) (Nat.le_of_ble_eq_true rfl) rfl rfl (w_low (by omega) (by omega) ?_)
  refine gw_iload_n 1 d_Law_act_387 rfl rfl ?_
  refine gw_iconst d_Law_act_388 ?_
  refine gw_ishr d_Law_act_389 ?_
  refine gw_sipush d_Law_act_390 (by decide +kernel) ?_
  have b3 := lo_bd (sh y 4) 300 (by omega)
  refine gw_invS (as := [.inl (sh y 4), .inl 300]) (rest := [.inl (lo (sh y 5) 3), .inl 0, .inl 0, .inl (lo (sh y 4) 3), .inr 0]) (d' := 5) d_Law_act_393 lk_Law_41 rfl (Nat.le_of_ble_eq_true rfl) (Nat.le_of_ble_eq_true rfl) rfl rfl (w_low (by omega) (by omega) ?_)
  refine gw_invV (as := [.inl (lo (sh y 4) 3), .inl 0, .inl 0, .inl (lo (sh y 5) 3), .inl (lo (sh y 4) 300)]) (k := 0) (rest := []) (d' := 5) d_Law_act_396 lk_Law_59 (ga_rcv ga_oG rfl rfl) rfl (Nat.le_of_ble_eq_true rfl) (Nat.le_of_ble_eq_true rfl) rfl rfl (x_edit (d := 0) ⟨by omega, by omega⟩ ⟨by omega, by omega⟩ ⟨by omega, by omega⟩ ⟨by omega, by omega⟩ ⟨by omega, by omega⟩ hx hA (fun J j1 j2 => ?_))
  exact gw_ireturn d_Law_act_399 rfl (h J j1 j2)
/-- what a number of the script does -/
def nz (A : na_A) (y : Int) : na_A × Int :=
  if an y 15 ≤ 1 then no_addBorder A (lo (sh y 4) 2) (50 + (lo (sh y 5) 900)) (an (sh y 9) 1) (lo (sh y 4) 60)
  else if an y 15 = 2 then no_removeBorder A (lo (sh y 4) 2) (lo (sh y 6) 3)
  else if an y 15 = 3 then no_setReach A (lo (sh y 4) 2) (lo (sh y 6) 3) (lo (sh y 5) 90)
  else if an y 15 = 4 then no_setOperator A (lo (sh y 4) 3) (lo (sh y 6) 2) (1 + (lo (sh y 3) 3000))
  else if an y 15 ≤ 6 then no_edit A (lo (sh y 4) 3) (lo (sh y 6) 3) (lo (sh y 8) 3) (lo (sh y 5) 3) (lo (sh y 3) 500)
  else if an y 15 = 7 then no_scale A (lo (sh y 4) 3) (lo (sh y 6) 3) (lo (sh y 3) 300)
  else if an y 15 = 8 then no_lock A (lo (sh y 4) 3) (lo (sh y 6) 3) (lo (sh y 8) 3) (an (sh y 9) 1)
  else if an y 15 = 9 then no_setMargin A (lo (sh y 4) 40)
  else if an y 15 ≤ 11 then no_move A (lo (sh y 3) 1001) (lo (sh (y * 7) 4) 1001)
  else if an y 15 = 12 then no_sweep A (lo (sh y 4) 2) (lo (sh y 3) 1001) (20 + (lo (sh y 5) 300))
  else if an y 15 = 13 then no_take A (lo (sh y 4) 3)
  else if an y 15 = 14 then no_restore A (lo (sh y 4) 3)
  else no_edit A (lo (sh y 4) 3) 0 0 (lo (sh y 5) 3) (lo (sh y 4) 300)
theorem nz_at {A : na_A} {y : Int} :
    (an y 15 = 0 → nz A y = no_addBorder A (lo (sh y 4) 2) (50 + (lo (sh y 5) 900)) (an (sh y 9) 1) (lo (sh y 4) 60)) ∧
    (an y 15 = 1 → nz A y = no_addBorder A (lo (sh y 4) 2) (50 + (lo (sh y 5) 900)) (an (sh y 9) 1) (lo (sh y 4) 60)) ∧
    (an y 15 = 2 → nz A y = no_removeBorder A (lo (sh y 4) 2) (lo (sh y 6) 3)) ∧
    (an y 15 = 3 → nz A y = no_setReach A (lo (sh y 4) 2) (lo (sh y 6) 3) (lo (sh y 5) 90)) ∧
    (an y 15 = 4 → nz A y = no_setOperator A (lo (sh y 4) 3) (lo (sh y 6) 2) (1 + (lo (sh y 3) 3000))) ∧
    (an y 15 = 5 → nz A y = no_edit A (lo (sh y 4) 3) (lo (sh y 6) 3) (lo (sh y 8) 3) (lo (sh y 5) 3) (lo (sh y 3) 500)) ∧
    (an y 15 = 6 → nz A y = no_edit A (lo (sh y 4) 3) (lo (sh y 6) 3) (lo (sh y 8) 3) (lo (sh y 5) 3) (lo (sh y 3) 500)) ∧
    (an y 15 = 7 → nz A y = no_scale A (lo (sh y 4) 3) (lo (sh y 6) 3) (lo (sh y 3) 300)) ∧
    (an y 15 = 8 → nz A y = no_lock A (lo (sh y 4) 3) (lo (sh y 6) 3) (lo (sh y 8) 3) (an (sh y 9) 1)) ∧
    (an y 15 = 9 → nz A y = no_setMargin A (lo (sh y 4) 40)) ∧
    (an y 15 = 10 → nz A y = no_move A (lo (sh y 3) 1001) (lo (sh (y * 7) 4) 1001)) ∧
    (an y 15 = 11 → nz A y = no_move A (lo (sh y 3) 1001) (lo (sh (y * 7) 4) 1001)) ∧
    (an y 15 = 12 → nz A y = no_sweep A (lo (sh y 4) 2) (lo (sh y 3) 1001) (20 + (lo (sh y 5) 300))) ∧
    (an y 15 = 13 → nz A y = no_take A (lo (sh y 4) 3)) ∧
    (an y 15 = 14 → nz A y = no_restore A (lo (sh y 4) 3)) ∧
    (an y 15 = 15 → nz A y = no_edit A (lo (sh y 4) 3) 0 0 (lo (sh y 5) 3) (lo (sh y 4) 300)) := by
  unfold nz
  refine ⟨fun h => ?_, fun h => ?_, fun h => ?_, fun h => ?_, fun h => ?_, fun h => ?_, fun h => ?_, fun h => ?_, fun h => ?_, fun h => ?_, fun h => ?_, fun h => ?_, fun h => ?_, fun h => ?_, fun h => ?_, fun h => ?_⟩
  · rw [if_pos (by omega)]
  · rw [if_pos (by omega)]
  · rw [if_neg (by omega), if_pos (by omega)]
  · rw [if_neg (by omega), if_neg (by omega), if_pos (by omega)]
  · rw [if_neg (by omega), if_neg (by omega), if_neg (by omega), if_pos (by omega)]
  · rw [if_neg (by omega), if_neg (by omega), if_neg (by omega), if_neg (by omega), if_pos (by omega)]
  · rw [if_neg (by omega), if_neg (by omega), if_neg (by omega), if_neg (by omega), if_pos (by omega)]
  · rw [if_neg (by omega), if_neg (by omega), if_neg (by omega), if_neg (by omega), if_neg (by omega), if_pos (by omega)]
  · rw [if_neg (by omega), if_neg (by omega), if_neg (by omega), if_neg (by omega), if_neg (by omega), if_neg (by omega), if_pos (by omega)]
  · rw [if_neg (by omega), if_neg (by omega), if_neg (by omega), if_neg (by omega), if_neg (by omega), if_neg (by omega), if_neg (by omega), if_pos (by omega)]
  · rw [if_neg (by omega), if_neg (by omega), if_neg (by omega), if_neg (by omega), if_neg (by omega), if_neg (by omega), if_neg (by omega), if_neg (by omega), if_pos (by omega)]
  · rw [if_neg (by omega), if_neg (by omega), if_neg (by omega), if_neg (by omega), if_neg (by omega), if_neg (by omega), if_neg (by omega), if_neg (by omega), if_pos (by omega)]
  · rw [if_neg (by omega), if_neg (by omega), if_neg (by omega), if_neg (by omega), if_neg (by omega), if_neg (by omega), if_neg (by omega), if_neg (by omega), if_neg (by omega), if_pos (by omega)]
  · rw [if_neg (by omega), if_neg (by omega), if_neg (by omega), if_neg (by omega), if_neg (by omega), if_neg (by omega), if_neg (by omega), if_neg (by omega), if_neg (by omega), if_neg (by omega), if_pos (by omega)]
  · rw [if_neg (by omega), if_neg (by omega), if_neg (by omega), if_neg (by omega), if_neg (by omega), if_neg (by omega), if_neg (by omega), if_neg (by omega), if_neg (by omega), if_neg (by omega), if_neg (by omega), if_pos (by omega)]
  · rw [if_neg (by omega), if_neg (by omega), if_neg (by omega), if_neg (by omega), if_neg (by omega), if_neg (by omega), if_neg (by omega), if_neg (by omega), if_neg (by omega), if_neg (by omega), if_neg (by omega), if_neg (by omega)]
theorem w_act (hy : ga_rg y) (hx : rx I A) (hA : ni_a A) (h : nx_E E I (nz A y)) : ga_W G 6 mt_Law_act 0 (ga_en 5 [.inr 0, .inl y]) [] I E := by
  have b15 := an_15 y
  obtain ⟨z0, z1, z2, z3, z4, z5, z6, z7, z8, z9, z10, z11, z12, z13, z14, z15⟩ := nz_at (A := A) (y := y)
  refine gw_iload_n 1 d_Law_act_0 rfl rfl ?_
  refine gw_iconst d_Law_act_1 ?_
  refine gw_ishr d_Law_act_2 ?_
  refine gw_istore_n 2 d_Law_act_3 rfl (Nat.le_of_ble_eq_true rfl) rfl ?_
  refine gw_iload_n 1 d_Law_act_4 rfl rfl ?_
  refine gw_bipush d_Law_act_5 (by decide +kernel) ?_
  refine gw_ishr d_Law_act_7 ?_
  refine gw_iconst d_Law_act_8 ?_
  have b1 := lo_bd (sh y 6) 3 (by omega)
  refine gw_invS (as := [.inl (sh y 6), .inl 3]) (rest := []) (d' := 5) d_Law_act_9 lk_Law_41 rfl (Nat.le_of_ble_eq_true rfl) (Nat.le_of_ble_eq_true rfl) rfl rfl (w_low (by omega) (by omega) ?_)
  refine gw_istore_n 3 d_Law_act_12 rfl (Nat.le_of_ble_eq_true rfl) rfl ?_
  refine gw_iload_n 1 d_Law_act_13 rfl rfl ?_
  refine gw_bipush d_Law_act_14 (by decide +kernel) ?_
  refine gw_ishr d_Law_act_16 ?_
  refine gw_iconst d_Law_act_17 ?_
  have b2 := lo_bd (sh y 8) 3 (by omega)
  refine gw_invS (as := [.inl (sh y 8), .inl 3]) (rest := []) (d' := 5) d_Law_act_18 lk_Law_41 rfl (Nat.le_of_ble_eq_true rfl) (Nat.le_of_ble_eq_true rfl) rfl rfl (w_low (by omega) (by omega) ?_)
  refine gw_istore 4 d_Law_act_21 (Nat.le_of_ble_eq_true rfl) rfl ?_
  refine gw_iload_n 1 d_Law_act_23 rfl rfl ?_
  refine gw_bipush d_Law_act_24 (by decide +kernel) ?_
  refine gw_iand d_Law_act_26 ?_
  refine gw_tsw d_Law_act_27 ⟨by omega, by omega⟩ (fun a b => ?_) (fun a => ?_)
  · rcases (show an y 15 = 0 ∨ an y 15 = 1 ∨ an y 15 = 2 ∨ an y 15 = 3 ∨ an y 15 = 4 ∨ an y 15 = 5 ∨ an y 15 = 6 ∨ an y 15 = 7 ∨ an y 15 = 8 ∨ an y 15 = 9 ∨ an y 15 = 10 ∨ an y 15 = 11 ∨ an y 15 = 12 ∨ an y 15 = 13 ∨ an y 15 = 14 by omega) with e | e | e | e | e | e | e | e | e | e | e | e | e | e | e <;> rw [e]
    · exact ⟨100, 73, rfl, by decide, w_act_100 hy hx hA (by rw [← z0 e]; exact h)⟩
    · exact ⟨100, 73, rfl, by decide, w_act_100 hy hx hA (by rw [← z1 e]; exact h)⟩
    · exact ⟨136, 109, rfl, by decide, w_act_136 hy hx hA (by rw [← z2 e]; exact h)⟩
    · exact ⟨154, 127, rfl, by decide, w_act_154 hy hx hA (by rw [← z3 e]; exact h)⟩
    · exact ⟨180, 153, rfl, by decide, w_act_180 hy hx hA (by rw [← z4 e]; exact h)⟩
    · exact ⟨209, 182, rfl, by decide, w_act_209 hy hx hA (by rw [← z5 e]; exact h)⟩
    · exact ⟨209, 182, rfl, by decide, w_act_209 hy hx hA (by rw [← z6 e]; exact h)⟩
    · exact ⟨238, 211, rfl, by decide, w_act_238 hy hx hA (by rw [← z7 e]; exact h)⟩
    · exact ⟨265, 238, rfl, by decide, w_act_265 hy hx hA (by rw [← z8 e]; exact h)⟩
    · exact ⟨284, 257, rfl, by decide, w_act_284 hy hx hA (by rw [← z9 e]; exact h)⟩
    · exact ⟨295, 268, rfl, by decide, w_act_295 hy hx hA (by rw [← z10 e]; exact h)⟩
    · exact ⟨295, 268, rfl, by decide, w_act_295 hy hx hA (by rw [← z11 e]; exact h)⟩
    · exact ⟨321, 294, rfl, by decide, w_act_321 hy hx hA (by rw [← z12 e]; exact h)⟩
    · exact ⟨352, 325, rfl, by decide, w_act_352 hy hx hA (by rw [← z13 e]; exact h)⟩
    · exact ⟨362, 335, rfl, by decide, w_act_362 hy hx hA (by rw [← z14 e]; exact h)⟩
  · exact ⟨372, by decide, w_act_372 hy hx hA (by rw [← z15 (by omega)]; exact h)⟩
end LA
