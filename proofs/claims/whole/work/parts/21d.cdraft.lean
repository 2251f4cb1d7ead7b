/-! the class's drafts -/
def gw (x : Int32) : Int32 := if ¬ x < -5 then 1 else if x = -14 then 0 else if x = -15 then -2 else -1
def imx (a b : Int32) : Int32 := if a < b then b else a
def vcd (c : Nat) : Prop := c < 1005 ∨ (3000 ≤ c ∧ c ≤ 3009)
def zI (z : Int) : Int32 := Int32.ofInt z
theorem zI_t {z : Int} (h1 : -2000 ≤ z) (h2 : z ≤ 2000) : (zI z).toInt = z := Int32.toInt_ofInt_of_le (by omega) (by omega)
theorem zI_n {k : Nat} : zI (k : Int) = nI k := rfl
theorem gw_cl {c : Nat} (h : vcd c) : gw (cl c) = zI (gr c) := by
  rcases h with h | h
  · have e : gr c = 1 := by unfold gr; rw [if_pos h]
    rw [e]
    unfold gw
    rw [if_pos]
    · rfl
    · rcases Nat.lt_or_ge c 1000 with z | z
      · unfold cl
        rw [if_pos z, Int32.lt_iff_toInt_lt, nI_toInt (by omega), show (-5 : Int32).toInt = -5 from by decide]
        omega
      · have : ∀ k, k < 5 → ¬ cl (1000 + k) < -5 := by decide
        have := this (c - 1000) (by omega)
        rwa [show 1000 + (c - 1000) = c by omega] at this
  · have : ∀ k, k < 10 → gw (cl (3000 + k)) = zI (gr (3000 + k)) := by decide
    have := this (c - 3000) (by omega)
    rwa [show 3000 + (c - 3000) = c by omega] at this
theorem imx_z {a b : Int} (h1 : -2000 ≤ a) (h2 : a ≤ 2000) (h3 : -2000 ≤ b) (h4 : b ≤ 2000) : imx (zI a) (zI b) = zI (max a b) := by
  unfold imx
  have e : zI a < zI b ↔ a < b := by rw [Int32.lt_iff_toInt_lt, zI_t h1 h2, zI_t h3 h4]
  by_cases z : a < b
  · rw [if_pos (e.mpr z), Int.max_eq_right (by omega)]
  · rw [if_neg (fun y => z (e.mp y)), Int.max_eq_left (by omega)]
theorem zI_add {a b : Int} : zI a + zI b = zI (a + b) := by unfold zI; rw [Int32.ofInt_add]
/-- a draft holds these codes -/
def DR (A : Nat → Nat → Int32) (Q : Nat → zS3) (i : Nat) (cs : List Nat) : Prop := (Q i).1 = nI cs.length ∧ (Q i).2.1 = zI (dft cs).1 ∧ (Q i).2.2 = zI (dft cs).2 ∧ ∀ j c, cs[j]? = some c → A (i + 1) j = cl c
def DX (Q : Nat → zS3) (i : Nat) : Prop := ∃ k, k ≤ 900 ∧ (Q i).1 = nI k
/-- beside one draft nothing has changed -/
def CA (i : Nat) (A A' : Nat → Nat → Int32) (Q Q' : Nat → zS3) : Prop := (∀ j, j ≠ i + 1 → A' j = A j) ∧ ∀ j, j ≠ i → Q' j = Q j
theorem CA.rf {i : Nat} {A : Nat → Nat → Int32} {Q : Nat → zS3} : CA i A A Q Q := ⟨fun _ _ => rfl, fun _ _ => rfl⟩
theorem CA.tr {i : Nat} {A A' A2 : Nat → Nat → Int32} {Q Q' Q2 : Nat → zS3} (a : CA i A A' Q Q') (b : CA i A' A2 Q' Q2) : CA i A A2 Q Q2 := ⟨fun j hj => (b.1 j hj).trans (a.1 j hj), fun j hj => (b.2 j hj).trans (a.2 j hj)⟩
section ZDr
variable {g : zG} {d : Nat} {h0 h : zH} {r r' : Nat → Value} {A : Nat → Nat → Int32} {Q : Nat → zS3} {X : zX} {a b k p q i : Nat} {e : Nat × Nat} {cs : List Nat}
theorem c_growth {x : Int32} : Zm g d 0 0 mX1_growth [.int x] h (rI (gw x) h) := by
  show Zw g d 0 0 mX1_growth 0 [some (.int x)] [] h _
  refine x_il0 dX1_growth_0 ?_
  refine x_bipush (v := (-5)) dX1_growth_1 rfl ?_
  refine x_icmp_lt (tgt := 8) dX1_growth_3 rfl (fun q3 => ?_) (fun q3 => ?_)
  · skip
    refine x_il0 dX1_growth_8 ?_
    refine x_bipush (v := (-14)) dX1_growth_9 rfl ?_
    refine x_icmp_ne (tgt := 16) dX1_growth_11 rfl (fun q11 => ?_) (fun q11 => ?_)
    · skip
      refine x_il0 dX1_growth_16 ?_
      refine x_bipush (v := (-15)) dX1_growth_17 rfl ?_
      refine x_icmp_ne (tgt := 27) dX1_growth_19 rfl (fun q19 => ?_) (fun q19 => ?_)
      · skip
        refine x_iconst (v := (-1)) dX1_growth_27 rfl ?_
        exact x_iret rfl rfl dX1_growth_28 ⟨by unfold gw; rw [if_neg (fun z => z q3), if_neg q11, if_neg q19], rfl⟩
      · skip
        refine x_bipush (v := (-2)) dX1_growth_22 rfl ?_
        refine x_goto (tgt := 28) dX1_growth_24 rfl ?_
        exact x_iret rfl rfl dX1_growth_28 ⟨by unfold gw; rw [if_neg (fun z => z q3), if_neg q11, if_pos q19], rfl⟩
    · skip
      refine x_iconst (v := nI 0) dX1_growth_14 rfl ?_
      exact x_iret rfl rfl dX1_growth_15 ⟨by unfold gw; rw [if_neg (fun z => z q3), if_pos q11]; rfl, rfl⟩
  · skip
    refine x_iconst (v := nI 1) dX1_growth_6 rfl ?_
    exact x_iret rfl rfl dX1_growth_7 ⟨by unfold gw; rw [if_pos q3]; rfl, rfl⟩
theorem c_dclear (R : RW h0 h r A Q) (hi : i = 5 ∨ i = 7) : Zm g d 0 0 mX1_clear [.ref i] h (rVp (fun h' => RW h0 h' r A (upM Q i (0, 0, 0)))) := by
  have hD := (R.dq hi).1
  show Zw g d 0 0 mX1_clear 0 [some (.ref i)] [] h _
  refine x_al0 rfl dX1_clear_0 ?_
  refine x_iconst (v := nI 0) dX1_clear_1 rfl ?_
  refine x_put fdX1_15 hD zf_i (by simp) dX1_clear_2 ?_
  refine x_al0 rfl dX1_clear_5 ?_
  refine x_iconst (v := nI 0) dX1_clear_6 rfl ?_
  refine x_put fdX1_19 (hs_eq hD) zf_i (by simp) dX1_clear_7 ?_
  refine x_al0 rfl dX1_clear_10 ?_
  refine x_iconst (v := nI 0) dX1_clear_11 rfl ?_
  refine x_put fdX1_22 (hs_eq (hs_eq hD)) zf_i (by simp) dX1_clear_12 ?_
  rw [List.set_set, List.set_set]
  exact x_vret rfl dX1_clear_15 ⟨rfl, R.sq (q := (0, 0, 0)) hi⟩
theorem c_add {x : Int32} (R : RW h0 h r A Q) (hi : i = 5 ∨ i = 7) (hk : k ≤ 900) (hQ : (Q i).1 = nI k) : Zm g (d + 1) 0 0 mX1_add [.ref i, .int x] h (rVp (fun h' => ∃ A' Q', RW h0 h' r A' Q' ∧ CA i A A' Q Q' ∧ (k < 900 → A' (i + 1) = upd (A (i + 1)) k x ∧ (Q' i).1 = nI (k + 1)) ∧ DX Q' i ∧ (Q' i).2.1 = (Q i).2.1 + gw x ∧ (Q' i).2.2 = imx (Q i).2.2 ((Q i).2.1 + gw x))) := by
  obtain ⟨hD, hA⟩ := R.dq hi
  have ii : i ≠ i + 1 := by omega
  show Zw g (d + 1) 0 0 mX1_add 0 [some (.ref i), some (.int x)] [] h _
  refine x_al0 rfl dX1_add_0 ?_
  refine x_get fdX1_15 hD rfl dX1_add_1 ?_
  refine x_al0 rfl dX1_add_4 ?_
  refine x_get fdX1_9 hD rfl dX1_add_5 ?_
  refine x_alen rfl hA rfl dX1_add_8 ?_
  rw [show Int32.ofNat 900 = nI 900 from rfl, hQ]
  refine x_icmp_ge (tgt := 32) dX1_add_9 rfl (fun q9 => ?_) (fun q9 => ?_)
  · skip
    first | (simp only [cmp_lt, cmp_gt, cmp_eq, zN_cge, zN_cle, Decidable.not_not] at q9) | (simp (disch := omega) only [zN_le, zN_lt, zN_0, zN_1, nI_toInt, zN_eq, zN_eq0, b2_z, b2_nz, Decidable.not_not, Int.not_lt, Int.not_le, zK0, zK1, zK2, zK3, zK5, zK7, zK8, zK9, zK10, zK19, zK20, zK40, zK99, zK100, zK199] at q9) | skip
    have z : k = 900 := by omega
    refine x_al0 rfl dX1_add_32 ?_
    refine x_dup rfl dX1_add_33 ?_
    refine x_get fdX1_19 hD rfl dX1_add_34 ?_
    refine x_il1 dX1_add_37 ?_
    refine x_cs1I mX1_growth_ok lkX1_25 (Nat.le_of_ble_eq_true rfl) (Nat.le_of_ble_eq_true rfl) dX1_add_38 c_growth ?_
    refine x_iadd (rfl) dX1_add_41 ?_
    refine x_put fdX1_19 hD zf_i (by simp) dX1_add_42 ?_
    refine x_al0 rfl dX1_add_45 ?_
    refine x_al0 rfl dX1_add_46 ?_
    refine x_get fdX1_22 (hs_eq hD) rfl dX1_add_47 ?_
    refine x_al0 rfl dX1_add_50 ?_
    refine x_get fdX1_19 (hs_eq hD) rfl dX1_add_51 ?_
    refine x_mmax kjX1_29 (Nat.le_of_ble_eq_true rfl) rfl dX1_add_54 ?_
    refine x_put fdX1_22 (hs_eq hD) zf_i (by simp) dX1_add_57 ?_
    rw [List.set_set]
    exact x_vret rfl dX1_add_60 ⟨rfl, A, _, R.sq (q := ((Q i).1, (Q i).2.1 + gw x, imx (Q i).2.2 ((Q i).2.1 + gw x))) hi, ⟨fun _ _ => rfl, fun j hj => upM_ne hj⟩, fun y => by omega, ⟨900, by omega, by rw [upM_eq, hQ, z]⟩, by rw [upM_eq], by rw [upM_eq]⟩
  · skip
    first | (simp only [cmp_lt, cmp_gt, cmp_eq, zN_cge, zN_cle, Decidable.not_not] at q9) | (simp (disch := omega) only [zN_le, zN_lt, zN_0, zN_1, nI_toInt, zN_eq, zN_eq0, b2_z, b2_nz, Decidable.not_not, Int.not_lt, Int.not_le, zK0, zK1, zK2, zK3, zK5, zK7, zK8, zK9, zK10, zK19, zK20, zK40, zK99, zK100, zK199] at q9) | skip
    refine x_al0 rfl dX1_add_12 ?_
    refine x_get fdX1_9 hD rfl dX1_add_13 ?_
    refine x_al0 rfl dX1_add_16 ?_
    refine x_get fdX1_15 hD rfl dX1_add_17 ?_
    rw [hQ]
    refine x_il1 dX1_add_20 ?_
    refine x_iast hA (vp_in_nI (by omega) (by decide)) dX1_add_21 ?_
    rw [nI_clamp (by omega)]
    refine x_al0 rfl dX1_add_22 ?_
    refine x_dup rfl dX1_add_23 ?_
    refine x_get fdX1_15 (by rw [hs_ne (Ne.symm ii)]; exact hD) rfl dX1_add_24 ?_
    rw [hQ]
    refine x_iconst (v := nI 1) dX1_add_27 rfl ?_
    first | refine x_iadd (nI_add _ _) dX1_add_28 ?_ | refine x_iadd rfl dX1_add_28 ?_
    refine x_put fdX1_15 (by rw [hs_ne (Ne.symm ii)]; exact hD) zf_i (by simp) dX1_add_29 ?_
    have R2 := (R.sa (f := upd (A (i + 1)) k x) hi).sq (q := (nI (k + 1), (Q i).2)) hi
    have hD2 := (R2.dq hi).1
    rw [upM_eq] at hD2
    refine x_al0 rfl dX1_add_32 ?_
    refine x_dup rfl dX1_add_33 ?_
    refine x_get fdX1_19 hD2 rfl dX1_add_34 ?_
    refine x_il1 dX1_add_37 ?_
    refine x_cs1I mX1_growth_ok lkX1_25 (Nat.le_of_ble_eq_true rfl) (Nat.le_of_ble_eq_true rfl) dX1_add_38 c_growth ?_
    refine x_iadd (rfl) dX1_add_41 ?_
    refine x_put fdX1_19 hD2 zf_i (by simp) dX1_add_42 ?_
    refine x_al0 rfl dX1_add_45 ?_
    refine x_al0 rfl dX1_add_46 ?_
    refine x_get fdX1_22 (hs_eq hD2) rfl dX1_add_47 ?_
    refine x_al0 rfl dX1_add_50 ?_
    refine x_get fdX1_19 (hs_eq hD2) rfl dX1_add_51 ?_
    refine x_mmax kjX1_29 (Nat.le_of_ble_eq_true rfl) rfl dX1_add_54 ?_
    refine x_put fdX1_22 (hs_eq hD2) zf_i (by simp) dX1_add_57 ?_
    rw [List.set_set]
    exact x_vret rfl dX1_add_60 ⟨rfl, _, _, R2.sq (q := (nI (k + 1), (Q i).2.1 + gw x, imx (Q i).2.2 ((Q i).2.1 + gw x))) hi, ⟨fun j hj => upM_ne hj, fun j hj => (upM_ne hj).trans (upM_ne hj)⟩, fun y => ⟨upM_eq, by rw [upM_eq]⟩, ⟨k + 1, by omega, by rw [upM_eq]⟩, by rw [upM_eq], by rw [upM_eq]⟩
/-- a code comes to a draft -/
theorem c_addO {c : Nat} (R : RW h0 h r A Q) (hi : i = 5 ∨ i = 7) (D : DR A Q i cs) (hl : cs.length < 900) (hc : vcd c) : Zm g (d + 1) 0 0 mX1_add [.ref i, .int (cl c)] h (rVp (fun h' => ∃ A' Q', RW h0 h' r A' Q' ∧ CA i A A' Q Q' ∧ DR A' Q' i (cs ++ [c]))) := by
  obtain ⟨d1, d2, d3, d4⟩ := D
  refine (c_add (x := cl c) R hi (by omega) d1).mono (fun v h' q => ?_)
  obtain ⟨rfl, A', Q', R', C, f, -, y1, y2⟩ := q
  obtain ⟨f1, f2⟩ := f hl
  have b := dft_b (cs := cs)
  have gb := gr_r (c := c)
  have es : (Q i).2.1 + gw (cl c) = zI ((dft cs).1 + gr c) := by rw [d2, gw_cl hc, zI_add]
  refine ⟨rfl, A', Q', R', C, by rw [f2, List.length_append]; rfl, by rw [y1, es, dft_s]; rfl, ?_, fun j x hj => ?_⟩
  · rw [y2, es, d3, imx_z (by omega) (by omega) (by omega) (by omega), dft_s]
    rfl
  · rw [f1]
    rcases Nat.lt_or_ge j cs.length with z | z
    · rw [List.getElem?_append_left z] at hj
      rw [pk_un (by omega)]
      exact d4 j x hj
    · rw [List.getElem?_append_right z] at hj
      have jz : j - cs.length = 0 := by
        have := (List.getElem?_eq_some_iff.mp hj).1
        simp at this
        omega
      rw [jz] at hj
      obtain rfl := Option.some.inj hj
      rw [show j = cs.length by omega]
      exact pk_us
theorem c_addE {x : Int32} (R : RW h0 h r A Q) (hi : i = 5 ∨ i = 7) (D : DX Q i) : Zm g (d + 1) 0 0 mX1_add [.ref i, .int x] h (rVp (fun h' => ∃ A' Q', RW h0 h' r A' Q' ∧ CA i A A' Q Q' ∧ DX Q' i)) := by
  obtain ⟨k, hk, hQ⟩ := D
  refine (c_add (x := x) R hi hk hQ).mono (fun v h' q => ?_)
  obtain ⟨rfl, A', Q', R', C, -, f, -⟩ := q
  exact ⟨rfl, A', Q', R', C, f⟩
end ZDr

