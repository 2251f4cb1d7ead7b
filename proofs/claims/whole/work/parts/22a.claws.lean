/-! the class makes laws -/
theorem hm_set {h l : zH} {a b : va_E} : (h ++ (a :: l)).set h.length b = h ++ (b :: l) := by simp
theorem hm_get {h l : zH} {a : va_E} : (h ++ (a :: l))[h.length]? = some a := by simp
theorem he_old {h l : zH} {e : va_E} {i : Nat} (he : h[i]? = some e) : (h ++ l)[i]? = some e := by
  rw [List.getElem?_append_left (hp_lt he)]
  exact he
def hgt (cs : List Nat) : Nat := (max 1 (dft cs).2).toNat
section ZLw
variable {g : zG} {d : Nat} {h0 h h' : zH} {r r' : Nat → Value} {A A' : Nat → Nat → Int32} {Q Q' : Nat → zS3} {X : zX} {i : Nat} {cs : List Nat}
theorem c_copyOf {a N : Nat} {f : Nat → Int32} (hA : h[a]? = some (inA 900 f)) (hN : N < 900) : Zm g (d + 1) 1 N mJ7_copyOf_59c91 [.ref a, .int (nI N)] h (fun v h' => v = some (.ref h.length) ∧ ∃ f', h' = h ++ [inA N f'] ∧ ∀ j, j < N → f' j = f j) := by
  show Zw g (d + 1) 1 N mJ7_copyOf_59c91 0 [some (.ref a), some (.int (nI N)), none] [] h _
  refine Zw.room (κ' := 0 + 1) (σ' := 0 + N) ?_ (by omega) (by omega)
  refine x_il1 dJ7_copyOf_59c91_0 ?_
  refine x_al0 rfl dJ7_copyOf_59c91_1 ?_
  refine x_alen rfl hA rfl dJ7_copyOf_59c91_2 ?_
  rw [show Int32.ofNat 900 = nI 900 from rfl]
  refine x_icmp_ne (tgt := 14) dJ7_copyOf_59c91_3 rfl (fun q3 => ?_) (fun q3 => ?_)
  · skip
    first | (simp only [cmp_lt, cmp_gt, cmp_eq, zN_cge, zN_cle, Decidable.not_not] at q3) | (simp (disch := omega) only [zN_le, zN_lt, zN_0, zN_1, nI_toInt, zN_eq, zN_eq0, b2_z, b2_nz, Decidable.not_not, Int.not_lt, Int.not_le, zK0, zK1, zK2, zK3, zK5, zK7, zK8, zK9, zK10, zK19, zK20, zK40, zK99, zK100, zK199] at q3) | skip
    refine x_il1 dJ7_copyOf_59c91_14 ?_
    refine x_newa_int ka_int (by rw [Int32.lt_iff_toInt_lt, nI_toInt (by omega)]; exact Int.not_lt.mpr (Int.natCast_nonneg N)) (nI_clamp (by omega)) (by omega) dJ7_copyOf_59c91_15 ?_
    refine x_as2 rfl rfl dJ7_copyOf_59c91_17 ?_
    refine x_al0 rfl dJ7_copyOf_59c91_18 ?_
    refine x_iconst (v := nI 0) dJ7_copyOf_59c91_19 rfl ?_
    refine x_al2 rfl dJ7_copyOf_59c91_20 ?_
    refine x_iconst (v := nI 0) dJ7_copyOf_59c91_21 rfl ?_
    refine x_al0 rfl dJ7_copyOf_59c91_22 ?_
    refine x_alen rfl (hp_old hA) rfl dJ7_copyOf_59c91_23 ?_
    refine x_il1 dJ7_copyOf_59c91_24 ?_
    refine x_mmin kjJ7_304 (Nat.le_of_ble_eq_true rfl) (show (if nI N < Int32.ofNat 900 then nI N else Int32.ofNat 900) = nI N from if_pos (by rw [Int32.lt_iff_toInt_lt, nI_toInt (by omega), show (Int32.ofNat 900).toInt = 900 from rfl]; omega)) dJ7_copyOf_59c91_25 ?_
    refine x_copy kjJ7_150 (Nat.le_of_ble_eq_true rfl) (hp_old hA) hp_new (by omega) (by omega) (by omega) (by omega) (by omega) dJ7_copyOf_59c91_28 ?_
    refine x_al2 rfl dJ7_copyOf_59c91_31 ?_
    exact x_aret rfl (by first | exact Or.inl ⟨_, rfl⟩ | exact Or.inr ⟨_, rfl⟩) dJ7_copyOf_59c91_32 ⟨rfl, va_cpy f (fun _ => 0) 0 0 N, hm_set, fun j hj => by unfold va_cpy; rw [if_pos (by omega)]; congr 1; omega⟩
  · skip
    first | (simp only [cmp_lt, cmp_gt, cmp_eq, zN_cge, zN_cle, Decidable.not_not] at q3) | (simp (disch := omega) only [zN_le, zN_lt, zN_0, zN_1, nI_toInt, zN_eq, zN_eq0, b2_z, b2_nz, Decidable.not_not, Int.not_lt, Int.not_le, zK0, zK1, zK2, zK3, zK5, zK7, zK8, zK9, zK10, zK19, zK20, zK40, zK99, zK100, zK199] at q3) | skip
    omega
theorem c_lawI {st H : Nat} {x : Int32} (hl : h[i]? = some (.inr (2, [.null, .null]))) (hH : imx 1 x = nI H) (h1 : H ≤ 1000) : Zm g (d + 1) 1 H mX2_init [.ref i, .ref st, .int x] h (rVp (fun h' => h' = (h.set i (.inr (2, [.ref st, .ref h.length]))) ++ [inA H (fun _ => 0)])) := by
  show Zw g (d + 1) 1 H mX2_init 0 [some (.ref i), some (.ref st), some (.int x)] [] h _
  refine Zw.room (κ' := 0 + 1) (σ' := 0 + H) ?_ (by omega) (by omega)
  refine x_al0 rfl dX2_init_0 ?_
  refine x_obj koX2_1 (Nat.le_of_ble_eq_true rfl) dX2_init_1 ?_
  refine x_al0 rfl dX2_init_4 ?_
  refine x_al1 rfl dX2_init_5 ?_
  refine x_putF fpX2_7 rfl hl zf_a (by simp) dX2_init_6 ?_
  refine x_al0 rfl dX2_init_9 ?_
  refine x_iconst (v := nI 1) dX2_init_10 rfl ?_
  refine x_il2 dX2_init_11 ?_
  refine x_mmax kjX2_13 (Nat.le_of_ble_eq_true rfl) hH dX2_init_12 ?_
  refine x_newa_int ka_int (by rw [Int32.lt_iff_toInt_lt, nI_toInt (by omega)]; exact Int.not_lt.mpr (Int.natCast_nonneg H)) (nI_clamp (by omega)) (by omega) dX2_init_15 ?_
  refine x_putF fpX2_19 rfl (hp_old (hs_eq hl)) zf_a (by simp) dX2_init_17 ?_
  refine x_vret rfl dX2_init_20 ⟨rfl, ?_⟩
  rw [List.length_set, List.set_append_left _ _ (by rw [List.length_set]; exact hp_lt hl), List.set_set]
  rfl
theorem c_asN (R : RW h0 h r A Q) (hi : i = 5 ∨ i = 7) (D : DR A Q i []) : Zm g (d + 2) 0 0 mX1_asLaw [.ref i] h (fun v h' => v = some .null ∧ h' = h) := by
  have hD := (R.dq hi).1
  have e1 : (Q i).1 = nI 0 := D.1
  show Zw g (d + 2) 0 0 mX1_asLaw 0 [some (.ref i)] [] h _
  refine x_al0 rfl dX1_asLaw_0 ?_
  refine x_get fdX1_15 hD rfl dX1_asLaw_1 ?_
  rw [e1]
  refine x_if_ne (tgt := 11) dX1_asLaw_4 rfl (fun q4 => ?_) (fun q4 => ?_)
  · skip
    first | (simp only [cmp_lt, cmp_gt, cmp_eq, zN_cge, zN_cle, Decidable.not_not] at q4) | (simp (disch := omega) only [zN_le, zN_lt, zN_0, zN_1, nI_toInt, zN_eq, zN_eq0, b2_z, b2_nz, Decidable.not_not, Int.not_lt, Int.not_le, zK0, zK1, zK2, zK3, zK5, zK7, zK8, zK9, zK10, zK19, zK20, zK40, zK99, zK100, zK199] at q4) | skip
    exact absurd trivial q4
  · skip
    first | (simp only [cmp_lt, cmp_gt, cmp_eq, zN_cge, zN_cle, Decidable.not_not] at q4) | (simp (disch := omega) only [zN_le, zN_lt, zN_0, zN_1, nI_toInt, zN_eq, zN_eq0, b2_z, b2_nz, Decidable.not_not, Int.not_lt, Int.not_le, zK0, zK1, zK2, zK3, zK5, zK7, zK8, zK9, zK10, zK19, zK20, zK40, zK99, zK100, zK199] at q4) | skip
    refine x_null dX1_asLaw_7 ?_
    refine x_goto (tgt := 33) dX1_asLaw_8 rfl ?_
    exact x_aretN rfl (Or.inl ⟨_, rfl⟩) dX1_asLaw_33  ⟨rfl, rfl⟩
theorem c_asL (R : RW h0 h r A Q) (hi : i = 5 ∨ i = 7) (D : DR A Q i cs) (hc : cs ≠ []) (hl : cs.length < 900) : Zm g (d + 2) 3 (cs.length + 2 + hgt cs) mX1_asLaw [.ref i] h (fun v h' => v = some (.ref h.length) ∧ ∃ fs, h' = h ++ [.inr (2, [.ref (h.length + 1), .ref (h.length + 2)]), inA cs.length fs, inA (hgt cs) (fun _ => 0)] ∧ ∀ j c, cs[j]? = some c → fs j = cl c) := by
  obtain ⟨hD, hA⟩ := R.dq hi
  obtain ⟨d1, d2, d3, d4⟩ := D
  have pl : 0 < cs.length := List.length_pos_iff.mpr hc
  have db := dft_b (cs := cs)
  have hH : imx 1 (Q i).2.2 = nI (hgt cs) := by
    rw [d3, show (1 : Int32) = zI 1 from rfl, imx_z (by omega) (by omega) (by omega) (by omega)]
    unfold hgt
    rw [← zI_n, Int.toNat_of_nonneg (by omega)]
  have hg : hgt cs ≤ 1000 := by unfold hgt; omega
  show Zw g (d + 2) 3 (cs.length + 2 + hgt cs) mX1_asLaw 0 [some (.ref i)] [] h _
  refine Zw.room (κ' := 2 + 1) (σ' := (cs.length + hgt cs) + 2) ?_ (by omega) (by omega)
  refine x_al0 rfl dX1_asLaw_0 ?_
  refine x_get fdX1_15 hD rfl dX1_asLaw_1 ?_
  rw [d1]
  refine x_if_ne (tgt := 11) dX1_asLaw_4 rfl (fun q4 => ?_) (fun q4 => ?_)
  · skip
    first | (simp only [cmp_lt, cmp_gt, cmp_eq, zN_cge, zN_cle, Decidable.not_not] at q4) | (simp (disch := omega) only [zN_le, zN_lt, zN_0, zN_1, nI_toInt, zN_eq, zN_eq0, b2_z, b2_nz, Decidable.not_not, Int.not_lt, Int.not_le, zK0, zK1, zK2, zK3, zK5, zK7, zK8, zK9, zK10, zK19, zK20, zK40, zK99, zK100, zK199] at q4) | skip
    refine x_new (ci := 2) (fs := [.null, .null]) rfl inX2 tyX2_ok klX1_35 kiX2 knX2 (fun j hj => by match j, hj with | 0, _ => rfl | 1, _ => rfl | _ + 2, h9 => exact absurd h9 (by omega)) (fun _ => rfl) (by simp) dX1_asLaw_11 ?_
    have hA := hp_old (e := .inr (2, [.null, .null])) hA
    have hD := hp_old (e := .inr (2, [.null, .null])) hD
    refine x_dup rfl dX1_asLaw_14 ?_
    refine x_al0 rfl dX1_asLaw_15 ?_
    refine x_get fdX1_9 hD rfl dX1_asLaw_16 ?_
    refine x_al0 rfl dX1_asLaw_19 ?_
    refine x_get fdX1_15 hD rfl dX1_asLaw_20 ?_
    rw [d1]
    refine x_callS (as := [.ref (i + 1), .int (nI cs.length)]) (κ1 := 1) (κ2 := 1) (σ1 := cs.length) (σ2 := hgt cs) mJ7_copyOf_59c91_ok lkX1_37 rfl (Nat.le_of_ble_eq_true rfl) (Nat.le_of_ble_eq_true rfl) dX1_asLaw_23 (by omega) (by omega) (c_copyOf hA hl) (fun v h' q => ?_)
    obtain ⟨rfl, f', rfl, hf⟩ := q
    have hD := hp_old (e := inA cs.length f') hD
    have hL : ((h ++ [Sum.inr (2, [.null, .null])]) ++ [inA cs.length f'] : zH)[h.length]? = some (.inr (2, [.null, .null])) := by simp
    refine x_al0 rfl dX1_asLaw_26 ?_
    refine x_get fdX1_22 hD rfl dX1_asLaw_27 ?_
    refine x_ci2 (κ1 := 1) (κ2 := 0) (σ1 := hgt cs) (σ2 := 0) mX2_init_ok rfl lkX1_43 (Nat.le_of_ble_eq_true rfl) (Nat.le_of_ble_eq_true rfl) dX1_asLaw_30 (by omega) (by omega) (c_lawI hL hH hg) (fun v h' q => ?_)
    obtain ⟨rfl, rfl⟩ := q
    refine x_aret rfl (by first | exact Or.inl ⟨_, rfl⟩ | exact Or.inr ⟨_, rfl⟩) dX1_asLaw_33 ⟨rfl, f', by simp, fun j c hj => (hf j (List.getElem?_eq_some_iff.mp hj).1).trans (d4 j c hj)⟩
  · skip
    first | (simp only [cmp_lt, cmp_gt, cmp_eq, zN_cge, zN_cle, Decidable.not_not] at q4) | (simp (disch := omega) only [zN_le, zN_lt, zN_0, zN_1, nI_toInt, zN_eq, zN_eq0, b2_z, b2_nz, Decidable.not_not, Int.not_lt, Int.not_le, zK0, zK1, zK2, zK3, zK5, zK7, zK8, zK9, zK10, zK19, zK20, zK40, zK99, zK100, zK199] at q4) | skip
    omega
end ZLw

