/-! the model reads what stands within others: atoms, ifs, units, by levels -/
section ZLe
variable {g : zG} {d : Nat} {h0 h h' : zH} {s s' s2 : Nat → Value} {M M' M2 : Nat → Nat → Int32} {L : Nat → Nat → Int64} {X : zX} {p p' p1 base dp : Nat} {cs c1 : List Nat} {r S : zR} {e : Nat × Nat} {f u φ ψ : Nat → zR}
theorem st_e (hE : S = apR c1 (sqR (φ p1) ψ)) (h : φ p1 = .inl e) : S = .inl e := by rw [hE, h]; rfl
theorem st_o {q : Nat × List Nat} (hE : S = apR c1 (sqR (φ p1) ψ)) (h : φ p1 = .inr q) : S = apR (c1 ++ q.2) (ψ q.1) := by rw [hE, h, sqR_ap, apR_ap]
theorem st_w {k : Nat} (hE : S = apR c1 (sqR (waR X k p1) ψ)) (h : tkK X p1 = k) : S = apR c1 (ψ (tkB X p1)) := by rw [hE, waR, if_pos h, sqR_n]
theorem st_x {k : Nat} (hE : S = apR c1 (sqR (waR X k p1) ψ)) (h : tkK X p1 ≠ k) : S = .inl (erK X p1, tkA X p1) := by rw [hE, waR, if_neg h]; rfl
theorem sw_w {k : Nat} (hE : S = apR c1 (waR X k p1)) (h : tkK X p1 = k) : S = .inr (tkB X p1, c1) := by rw [hE, waR, if_pos h, apR_n]
theorem sw_x {k : Nat} (hE : S = apR c1 (waR X k p1)) (h : tkK X p1 ≠ k) : S = .inl (erK X p1, tkA X p1) := by rw [hE, waR, if_neg h]; rfl
theorem apR_nil : apR [] r = r := by cases r <;> rfl
def fI5 (X : zX) (p : Nat) : zR := sqR (waR X 11 p) (emR 3009)
def fI4 (X : zX) (f : Nat → zR) (p : Nat) : zR := sqR (fSm X f p) (fI5 X)
def fI3 (X : zX) (f : Nat → zR) (p : Nat) : zR := sqR (waR X 10 p) (fI4 X f)
def fI2 (X : zX) (f : Nat → zR) (p : Nat) : zR := sqR (fSm X f p) (fI3 X f)
def fI1 (X : zX) (f : Nat → zR) (p : Nat) : zR := sqR (waR X 9 p) (fI2 X f)
theorem fIf_e : fIf X f u p = sqR (fTr X u p) (fI1 X f) := rfl
theorem o_goes0 (W : MW h0 h s M L) (O : PO X s M p base) (hK : tkK X p ≠ 25) : Zm g (d + 1) 0 0 mX12_goesIn [.ref 59, .int (nI 6)] h (rIp (fun r h' => r = 0 ∧ ∃ s', MW h0 h' s' M L ∧ PW s s' M M ∧ PE s' (4, tkA X p))) := by
  show Zw g (d + 1) 0 0 mX12_goesIn 0 [some (.ref 59), some (.int (nI 6))] [] h _
  refine x_il1 dX12_goesIn_0 ?_
  refine x_bipush (v := nI 6) dX12_goesIn_1 rfl ?_
  refine x_icmp_ne (tgt := 11) dX12_goesIn_3 rfl (fun q3 => ?_) (fun q3 => ?_)
  · skip
    first | (simp only [cmp_lt, cmp_gt, cmp_eq, zN_cge, zN_cle, Decidable.not_not] at q3) | (simp (disch := omega) only [zN_le, zN_lt, zN_0, zN_1, nI_toInt, zN_eq, zN_eq0, b2_z, b2_nz, Decidable.not_not, Int.not_lt, Int.not_le, zK0, zK1, zK2, zK3, zK5, zK7, zK8, zK9, zK10, zK19, zK20, zK40, zK99, zK100, zK199] at q3) | skip
    exact absurd trivial q3
  · skip
    first | (simp only [cmp_lt, cmp_gt, cmp_eq, zN_cge, zN_cle, Decidable.not_not] at q3) | (simp (disch := omega) only [zN_le, zN_lt, zN_0, zN_1, nI_toInt, zN_eq, zN_eq0, b2_z, b2_nz, Decidable.not_not, Int.not_lt, Int.not_le, zK0, zK1, zK2, zK3, zK5, zK7, zK8, zK9, zK10, zK19, zK20, zK40, zK99, zK100, zK199] at q3) | skip
    refine x_al0 rfl dX12_goesIn_6 ?_
    refine x_iconst (v := nI 4) dX12_goesIn_7 rfl ?_
    refine x_cv1Vp mX12_fails_ok lkX12_153 rfl (Nat.le_of_ble_eq_true rfl) (Nat.le_of_ble_eq_true rfl) dX12_goesIn_8 W.hM  (o_fails (fa := 4) (by decide) (by decide) W O) (fun h hq => ?_)
    obtain ⟨s1, W, U, E⟩ := hq
    rw [if_neg hK] at E
    refine x_al0 rfl dX12_goesIn_11 ?_
    refine x_gm fdX12_141 W.hM (by decide) (E.1) dX12_goesIn_12 ?_
    refine x_if_ne (tgt := 22) dX12_goesIn_15 rfl (fun q15 => ?_) (fun q15 => ?_)
    · skip
      first | (simp only [cmp_lt, cmp_gt, cmp_eq, zN_cge, zN_cle, Decidable.not_not] at q15) | (simp (disch := omega) only [zN_le, zN_lt, zN_0, zN_1, nI_toInt, zN_eq, zN_eq0, b2_z, b2_nz, Decidable.not_not, Int.not_lt, Int.not_le, zK0, zK1, zK2, zK3, zK5, zK7, zK8, zK9, zK10, zK19, zK20, zK40, zK99, zK100, zK199] at q15) | skip
      refine x_al0 rfl dX12_goesIn_22 ?_
      refine x_gm fdX12_141 W.hM (by decide) (E.1) dX12_goesIn_23 ?_
      refine x_if_ne (tgt := 33) dX12_goesIn_26 rfl (fun q26 => ?_) (fun q26 => ?_)
      · skip
        first | (simp only [cmp_lt, cmp_gt, cmp_eq, zN_cge, zN_cle, Decidable.not_not] at q26) | (simp (disch := omega) only [zN_le, zN_lt, zN_0, zN_1, nI_toInt, zN_eq, zN_eq0, b2_z, b2_nz, Decidable.not_not, Int.not_lt, Int.not_le, zK0, zK1, zK2, zK3, zK5, zK7, zK8, zK9, zK10, zK19, zK20, zK40, zK99, zK100, zK199] at q26) | skip
        refine x_iconst (v := nI 0) dX12_goesIn_33 rfl ?_
        exact x_iret rfl  rfl dX12_goesIn_34 ⟨_, rfl, rfl, s1, W, U, E⟩
      · skip
        first | (simp only [cmp_lt, cmp_gt, cmp_eq, zN_cge, zN_cle, Decidable.not_not] at q26) | (simp (disch := omega) only [zN_le, zN_lt, zN_0, zN_1, nI_toInt, zN_eq, zN_eq0, b2_z, b2_nz, Decidable.not_not, Int.not_lt, Int.not_le, zK0, zK1, zK2, zK3, zK5, zK7, zK8, zK9, zK10, zK19, zK20, zK40, zK99, zK100, zK199] at q26) | skip
        exact absurd q26 (by decide)
    · skip
      first | (simp only [cmp_lt, cmp_gt, cmp_eq, zN_cge, zN_cle, Decidable.not_not] at q15) | (simp (disch := omega) only [zN_le, zN_lt, zN_0, zN_1, nI_toInt, zN_eq, zN_eq0, b2_z, b2_nz, Decidable.not_not, Int.not_lt, Int.not_le, zK0, zK1, zK2, zK3, zK5, zK7, zK8, zK9, zK10, zK19, zK20, zK40, zK99, zK100, zK199] at q15) | skip
      exact absurd q15 (by decide)
theorem o_goes1 (W : MW h0 h s M L) (O : PO X s M p base) (hdp : dp < 6) : Zm g (d + 6) 0 0 mX12_goesIn [.ref 59, .int (nI dp)] h (rIp (fun r h' => r = 1 ∧ ∃ s', MW h0 h' s' M L ∧ PU s s' ∧ TKm X s' (tkB X p))) := by
  have lB := (tk_le O.2.1.1).2.2.1
  have e11 := O.2.2.1
  obtain ⟨nu, e10, -⟩ := O.2.1.2.2.2.2
  show Zw g (d + 6) 0 0 mX12_goesIn 0 [some (.ref 59), some (.int (nI dp))] [] h _
  refine x_il1 dX12_goesIn_0 ?_
  refine x_bipush (v := nI 6) dX12_goesIn_1 rfl ?_
  refine x_icmp_ne (tgt := 11) dX12_goesIn_3 rfl (fun q3 => ?_) (fun q3 => ?_)
  · skip
    first | (simp only [cmp_lt, cmp_gt, cmp_eq, zN_cge, zN_cle, Decidable.not_not] at q3) | (simp (disch := omega) only [zN_le, zN_lt, zN_0, zN_1, nI_toInt, zN_eq, zN_eq0, b2_z, b2_nz, Decidable.not_not, Int.not_lt, Int.not_le, zK0, zK1, zK2, zK3, zK5, zK7, zK8, zK9, zK10, zK19, zK20, zK40, zK99, zK100, zK199] at q3) | skip
    refine x_al0 rfl dX12_goesIn_11 ?_
    refine x_gm fdX12_141 W.hM (by decide) (by first | assumption | rfl) dX12_goesIn_12 ?_
    refine x_if_ne (tgt := 22) dX12_goesIn_15 rfl (fun q15 => ?_) (fun q15 => ?_)
    · skip
      first | (simp only [cmp_lt, cmp_gt, cmp_eq, zN_cge, zN_cle, Decidable.not_not] at q15) | (simp (disch := omega) only [zN_le, zN_lt, zN_0, zN_1, nI_toInt, zN_eq, zN_eq0, b2_z, b2_nz, Decidable.not_not, Int.not_lt, Int.not_le, zK0, zK1, zK2, zK3, zK5, zK7, zK8, zK9, zK10, zK19, zK20, zK40, zK99, zK100, zK199] at q15) | skip
      exact absurd trivial q15
    · skip
      first | (simp only [cmp_lt, cmp_gt, cmp_eq, zN_cge, zN_cle, Decidable.not_not] at q15) | (simp (disch := omega) only [zN_le, zN_lt, zN_0, zN_1, nI_toInt, zN_eq, zN_eq0, b2_z, b2_nz, Decidable.not_not, Int.not_lt, Int.not_le, zK0, zK1, zK2, zK3, zK5, zK7, zK8, zK9, zK10, zK19, zK20, zK40, zK99, zK100, zK199] at q15) | skip
      refine x_al0 rfl dX12_goesIn_18 ?_
      refine x_cv0Vp mX12_next_ok lkX12_150 rfl (Nat.le_of_ble_eq_true rfl) (Nat.le_of_ble_eq_true rfl) dX12_goesIn_19 W.hM  (j_next W O.1 lB O.2.1.2.2.1 e10) (fun h hq => ?_)
      obtain ⟨s1, W, U, K⟩ := hq
      refine x_al0 rfl dX12_goesIn_22 ?_
      refine x_gm fdX12_141 W.hM (by decide) ((U 11 (by decide) (by decide) (by decide) (by decide)).trans e11) dX12_goesIn_23 ?_
      refine x_if_ne (tgt := 33) dX12_goesIn_26 rfl (fun q26 => ?_) (fun q26 => ?_)
      · skip
        first | (simp only [cmp_lt, cmp_gt, cmp_eq, zN_cge, zN_cle, Decidable.not_not] at q26) | (simp (disch := omega) only [zN_le, zN_lt, zN_0, zN_1, nI_toInt, zN_eq, zN_eq0, b2_z, b2_nz, Decidable.not_not, Int.not_lt, Int.not_le, zK0, zK1, zK2, zK3, zK5, zK7, zK8, zK9, zK10, zK19, zK20, zK40, zK99, zK100, zK199] at q26) | skip
        exact absurd trivial q26
      · skip
        first | (simp only [cmp_lt, cmp_gt, cmp_eq, zN_cge, zN_cle, Decidable.not_not] at q26) | (simp (disch := omega) only [zN_le, zN_lt, zN_0, zN_1, nI_toInt, zN_eq, zN_eq0, b2_z, b2_nz, Decidable.not_not, Int.not_lt, Int.not_le, zK0, zK1, zK2, zK3, zK5, zK7, zK8, zK9, zK10, zK19, zK20, zK40, zK99, zK100, zK199] at q26) | skip
        refine x_iconst (v := nI 1) dX12_goesIn_29 rfl ?_
        refine x_goto (tgt := 34) dX12_goesIn_30 rfl ?_
        exact x_iret rfl  rfl dX12_goesIn_34 ⟨_, rfl, rfl, s1, W, U, K⟩
  · skip
    first | (simp only [cmp_lt, cmp_gt, cmp_eq, zN_cge, zN_cle, Decidable.not_not] at q3) | (simp (disch := omega) only [zN_le, zN_lt, zN_0, zN_1, nI_toInt, zN_eq, zN_eq0, b2_z, b2_nz, Decidable.not_not, Int.not_lt, Int.not_le, zK0, zK1, zK2, zK3, zK5, zK7, zK8, zK9, zK10, zK19, zK20, zK40, zK99, zK100, zK199] at q3) | skip
    omega
theorem ef16 {Q : Option Value → zH → Prop} (W : MW h0 h s M L) (E : PE s e) (C : CtE g (d + 1) h0 L mX12_readSum (dp + 1)) (hQ : Q none h) : Zw g (d + 2) 0 0 mX12_readIf 16 [some (.ref 59), some (.int (nI dp))] [] h Q := by
  refine x_al0 rfl dX12_readIf_16 ?_
  refine x_bipush (v := nI 9) dX12_readIf_17 rfl ?_
  refine x_cv1I mX12_eats_ok lkX12_173 rfl (Nat.le_of_ble_eq_true rfl) (Nat.le_of_ble_eq_true rfl) dX12_readIf_19 W.hM  (e_eats W E (by decide)) ?_
  refine x_if_ne (tgt := 30) dX12_readIf_22 rfl (fun q22 => ?_) (fun q22 => ?_)
  · skip
    first | (simp only [cmp_lt, cmp_gt, cmp_eq, zN_cge, zN_cle, Decidable.not_not] at q22) | (simp (disch := omega) only [zN_le, zN_lt, zN_0, zN_1, nI_toInt, zN_eq, zN_eq0, b2_z, b2_nz, Decidable.not_not, Int.not_lt, Int.not_le, zK0, zK1, zK2, zK3, zK5, zK7, zK8, zK9, zK10, zK19, zK20, zK40, zK99, zK100, zK199] at q22) | skip
    exact absurd trivial q22
  · skip
    first | (simp only [cmp_lt, cmp_gt, cmp_eq, zN_cge, zN_cle, Decidable.not_not] at q22) | (simp (disch := omega) only [zN_le, zN_lt, zN_0, zN_1, nI_toInt, zN_eq, zN_eq0, b2_z, b2_nz, Decidable.not_not, Int.not_lt, Int.not_le, zK0, zK1, zK2, zK3, zK5, zK7, zK8, zK9, zK10, zK19, zK20, zK40, zK99, zK100, zK199] at q22) | skip
    refine x_al0 rfl dX12_readIf_25 ?_
    refine x_iconst (v := nI 2) dX12_readIf_26 rfl ?_
    refine x_cv1V mX12_fails_ok lkX12_153 rfl (Nat.le_of_ble_eq_true rfl) (Nat.le_of_ble_eq_true rfl) dX12_readIf_27 W.hM  (e_fails W E) ?_
    refine x_al0 rfl dX12_readIf_30 ?_
    refine x_il1 dX12_readIf_31 ?_
    refine x_iconst (v := nI 1) dX12_readIf_32 rfl ?_
    first | refine x_iadd (nI_add _ _) dX12_readIf_33 ?_ | refine x_iadd rfl dX12_readIf_33 ?_
    refine x_cv1V mX12_readSum_ok lkX12_170 rfl (Nat.le_of_ble_eq_true rfl) (Nat.le_of_ble_eq_true rfl) dX12_readIf_34 W.hM  (C _ _ _ _ W E) ?_
    refine x_al0 rfl dX12_readIf_37 ?_
    refine x_bipush (v := nI 10) dX12_readIf_38 rfl ?_
    refine x_cv1I mX12_eats_ok lkX12_173 rfl (Nat.le_of_ble_eq_true rfl) (Nat.le_of_ble_eq_true rfl) dX12_readIf_40 W.hM  (e_eats W E (by decide)) ?_
    refine x_if_ne (tgt := 51) dX12_readIf_43 rfl (fun q43 => ?_) (fun q43 => ?_)
    · skip
      first | (simp only [cmp_lt, cmp_gt, cmp_eq, zN_cge, zN_cle, Decidable.not_not] at q43) | (simp (disch := omega) only [zN_le, zN_lt, zN_0, zN_1, nI_toInt, zN_eq, zN_eq0, b2_z, b2_nz, Decidable.not_not, Int.not_lt, Int.not_le, zK0, zK1, zK2, zK3, zK5, zK7, zK8, zK9, zK10, zK19, zK20, zK40, zK99, zK100, zK199] at q43) | skip
      exact absurd trivial q43
    · skip
      first | (simp only [cmp_lt, cmp_gt, cmp_eq, zN_cge, zN_cle, Decidable.not_not] at q43) | (simp (disch := omega) only [zN_le, zN_lt, zN_0, zN_1, nI_toInt, zN_eq, zN_eq0, b2_z, b2_nz, Decidable.not_not, Int.not_lt, Int.not_le, zK0, zK1, zK2, zK3, zK5, zK7, zK8, zK9, zK10, zK19, zK20, zK40, zK99, zK100, zK199] at q43) | skip
      refine x_al0 rfl dX12_readIf_46 ?_
      refine x_iconst (v := nI 2) dX12_readIf_47 rfl ?_
      refine x_cv1V mX12_fails_ok lkX12_153 rfl (Nat.le_of_ble_eq_true rfl) (Nat.le_of_ble_eq_true rfl) dX12_readIf_48 W.hM  (e_fails W E) ?_
      refine x_al0 rfl dX12_readIf_51 ?_
      refine x_il1 dX12_readIf_52 ?_
      refine x_iconst (v := nI 1) dX12_readIf_53 rfl ?_
      first | refine x_iadd (nI_add _ _) dX12_readIf_54 ?_ | refine x_iadd rfl dX12_readIf_54 ?_
      refine x_cv1V mX12_readSum_ok lkX12_170 rfl (Nat.le_of_ble_eq_true rfl) (Nat.le_of_ble_eq_true rfl) dX12_readIf_55 W.hM  (C _ _ _ _ W E) ?_
      refine x_al0 rfl dX12_readIf_58 ?_
      refine x_bipush (v := nI 11) dX12_readIf_59 rfl ?_
      refine x_cv1I mX12_eats_ok lkX12_173 rfl (Nat.le_of_ble_eq_true rfl) (Nat.le_of_ble_eq_true rfl) dX12_readIf_61 W.hM  (e_eats W E (by decide)) ?_
      refine x_if_ne (tgt := 72) dX12_readIf_64 rfl (fun q64 => ?_) (fun q64 => ?_)
      · skip
        first | (simp only [cmp_lt, cmp_gt, cmp_eq, zN_cge, zN_cle, Decidable.not_not] at q64) | (simp (disch := omega) only [zN_le, zN_lt, zN_0, zN_1, nI_toInt, zN_eq, zN_eq0, b2_z, b2_nz, Decidable.not_not, Int.not_lt, Int.not_le, zK0, zK1, zK2, zK3, zK5, zK7, zK8, zK9, zK10, zK19, zK20, zK40, zK99, zK100, zK199] at q64) | skip
        exact absurd trivial q64
      · skip
        first | (simp only [cmp_lt, cmp_gt, cmp_eq, zN_cge, zN_cle, Decidable.not_not] at q64) | (simp (disch := omega) only [zN_le, zN_lt, zN_0, zN_1, nI_toInt, zN_eq, zN_eq0, b2_z, b2_nz, Decidable.not_not, Int.not_lt, Int.not_le, zK0, zK1, zK2, zK3, zK5, zK7, zK8, zK9, zK10, zK19, zK20, zK40, zK99, zK100, zK199] at q64) | skip
        refine x_al0 rfl dX12_readIf_67 ?_
        refine x_iconst (v := nI 2) dX12_readIf_68 rfl ?_
        refine x_cv1V mX12_fails_ok lkX12_153 rfl (Nat.le_of_ble_eq_true rfl) (Nat.le_of_ble_eq_true rfl) dX12_readIf_69 W.hM  (e_fails W E) ?_
        refine x_al0 rfl dX12_readIf_72 ?_
        refine x_sipush (v := nI 3009) dX12_readIf_73 (by decide) ?_
        refine x_cv1V mX12_codes_ok lkX12_161 rfl (Nat.le_of_ble_eq_true rfl) (Nat.le_of_ble_eq_true rfl) dX12_readIf_76 W.hM  (e_codes W E) ?_
        exact x_vret rfl dX12_readIf_79 hQ
theorem ef30 {Q : Option Value → zH → Prop} (W : MW h0 h s M L) (E : PE s e) (C : CtE g (d + 1) h0 L mX12_readSum (dp + 1)) (hQ : Q none h) : Zw g (d + 2) 0 0 mX12_readIf 30 [some (.ref 59), some (.int (nI dp))] [] h Q := by
  refine x_al0 rfl dX12_readIf_30 ?_
  refine x_il1 dX12_readIf_31 ?_
  refine x_iconst (v := nI 1) dX12_readIf_32 rfl ?_
  first | refine x_iadd (nI_add _ _) dX12_readIf_33 ?_ | refine x_iadd rfl dX12_readIf_33 ?_
  refine x_cv1V mX12_readSum_ok lkX12_170 rfl (Nat.le_of_ble_eq_true rfl) (Nat.le_of_ble_eq_true rfl) dX12_readIf_34 W.hM  (C _ _ _ _ W E) ?_
  refine x_al0 rfl dX12_readIf_37 ?_
  refine x_bipush (v := nI 10) dX12_readIf_38 rfl ?_
  refine x_cv1I mX12_eats_ok lkX12_173 rfl (Nat.le_of_ble_eq_true rfl) (Nat.le_of_ble_eq_true rfl) dX12_readIf_40 W.hM  (e_eats W E (by decide)) ?_
  refine x_if_ne (tgt := 51) dX12_readIf_43 rfl (fun q43 => ?_) (fun q43 => ?_)
  · skip
    first | (simp only [cmp_lt, cmp_gt, cmp_eq, zN_cge, zN_cle, Decidable.not_not] at q43) | (simp (disch := omega) only [zN_le, zN_lt, zN_0, zN_1, nI_toInt, zN_eq, zN_eq0, b2_z, b2_nz, Decidable.not_not, Int.not_lt, Int.not_le, zK0, zK1, zK2, zK3, zK5, zK7, zK8, zK9, zK10, zK19, zK20, zK40, zK99, zK100, zK199] at q43) | skip
    exact absurd trivial q43
  · skip
    first | (simp only [cmp_lt, cmp_gt, cmp_eq, zN_cge, zN_cle, Decidable.not_not] at q43) | (simp (disch := omega) only [zN_le, zN_lt, zN_0, zN_1, nI_toInt, zN_eq, zN_eq0, b2_z, b2_nz, Decidable.not_not, Int.not_lt, Int.not_le, zK0, zK1, zK2, zK3, zK5, zK7, zK8, zK9, zK10, zK19, zK20, zK40, zK99, zK100, zK199] at q43) | skip
    refine x_al0 rfl dX12_readIf_46 ?_
    refine x_iconst (v := nI 2) dX12_readIf_47 rfl ?_
    refine x_cv1V mX12_fails_ok lkX12_153 rfl (Nat.le_of_ble_eq_true rfl) (Nat.le_of_ble_eq_true rfl) dX12_readIf_48 W.hM  (e_fails W E) ?_
    refine x_al0 rfl dX12_readIf_51 ?_
    refine x_il1 dX12_readIf_52 ?_
    refine x_iconst (v := nI 1) dX12_readIf_53 rfl ?_
    first | refine x_iadd (nI_add _ _) dX12_readIf_54 ?_ | refine x_iadd rfl dX12_readIf_54 ?_
    refine x_cv1V mX12_readSum_ok lkX12_170 rfl (Nat.le_of_ble_eq_true rfl) (Nat.le_of_ble_eq_true rfl) dX12_readIf_55 W.hM  (C _ _ _ _ W E) ?_
    refine x_al0 rfl dX12_readIf_58 ?_
    refine x_bipush (v := nI 11) dX12_readIf_59 rfl ?_
    refine x_cv1I mX12_eats_ok lkX12_173 rfl (Nat.le_of_ble_eq_true rfl) (Nat.le_of_ble_eq_true rfl) dX12_readIf_61 W.hM  (e_eats W E (by decide)) ?_
    refine x_if_ne (tgt := 72) dX12_readIf_64 rfl (fun q64 => ?_) (fun q64 => ?_)
    · skip
      first | (simp only [cmp_lt, cmp_gt, cmp_eq, zN_cge, zN_cle, Decidable.not_not] at q64) | (simp (disch := omega) only [zN_le, zN_lt, zN_0, zN_1, nI_toInt, zN_eq, zN_eq0, b2_z, b2_nz, Decidable.not_not, Int.not_lt, Int.not_le, zK0, zK1, zK2, zK3, zK5, zK7, zK8, zK9, zK10, zK19, zK20, zK40, zK99, zK100, zK199] at q64) | skip
      exact absurd trivial q64
    · skip
      first | (simp only [cmp_lt, cmp_gt, cmp_eq, zN_cge, zN_cle, Decidable.not_not] at q64) | (simp (disch := omega) only [zN_le, zN_lt, zN_0, zN_1, nI_toInt, zN_eq, zN_eq0, b2_z, b2_nz, Decidable.not_not, Int.not_lt, Int.not_le, zK0, zK1, zK2, zK3, zK5, zK7, zK8, zK9, zK10, zK19, zK20, zK40, zK99, zK100, zK199] at q64) | skip
      refine x_al0 rfl dX12_readIf_67 ?_
      refine x_iconst (v := nI 2) dX12_readIf_68 rfl ?_
      refine x_cv1V mX12_fails_ok lkX12_153 rfl (Nat.le_of_ble_eq_true rfl) (Nat.le_of_ble_eq_true rfl) dX12_readIf_69 W.hM  (e_fails W E) ?_
      refine x_al0 rfl dX12_readIf_72 ?_
      refine x_sipush (v := nI 3009) dX12_readIf_73 (by decide) ?_
      refine x_cv1V mX12_codes_ok lkX12_161 rfl (Nat.le_of_ble_eq_true rfl) (Nat.le_of_ble_eq_true rfl) dX12_readIf_76 W.hM  (e_codes W E) ?_
      exact x_vret rfl dX12_readIf_79 hQ
theorem ef37 {Q : Option Value → zH → Prop} (W : MW h0 h s M L) (E : PE s e) (C : CtE g (d + 1) h0 L mX12_readSum (dp + 1)) (hQ : Q none h) : Zw g (d + 2) 0 0 mX12_readIf 37 [some (.ref 59), some (.int (nI dp))] [] h Q := by
  refine x_al0 rfl dX12_readIf_37 ?_
  refine x_bipush (v := nI 10) dX12_readIf_38 rfl ?_
  refine x_cv1I mX12_eats_ok lkX12_173 rfl (Nat.le_of_ble_eq_true rfl) (Nat.le_of_ble_eq_true rfl) dX12_readIf_40 W.hM  (e_eats W E (by decide)) ?_
  refine x_if_ne (tgt := 51) dX12_readIf_43 rfl (fun q43 => ?_) (fun q43 => ?_)
  · skip
    first | (simp only [cmp_lt, cmp_gt, cmp_eq, zN_cge, zN_cle, Decidable.not_not] at q43) | (simp (disch := omega) only [zN_le, zN_lt, zN_0, zN_1, nI_toInt, zN_eq, zN_eq0, b2_z, b2_nz, Decidable.not_not, Int.not_lt, Int.not_le, zK0, zK1, zK2, zK3, zK5, zK7, zK8, zK9, zK10, zK19, zK20, zK40, zK99, zK100, zK199] at q43) | skip
    exact absurd trivial q43
  · skip
    first | (simp only [cmp_lt, cmp_gt, cmp_eq, zN_cge, zN_cle, Decidable.not_not] at q43) | (simp (disch := omega) only [zN_le, zN_lt, zN_0, zN_1, nI_toInt, zN_eq, zN_eq0, b2_z, b2_nz, Decidable.not_not, Int.not_lt, Int.not_le, zK0, zK1, zK2, zK3, zK5, zK7, zK8, zK9, zK10, zK19, zK20, zK40, zK99, zK100, zK199] at q43) | skip
    refine x_al0 rfl dX12_readIf_46 ?_
    refine x_iconst (v := nI 2) dX12_readIf_47 rfl ?_
    refine x_cv1V mX12_fails_ok lkX12_153 rfl (Nat.le_of_ble_eq_true rfl) (Nat.le_of_ble_eq_true rfl) dX12_readIf_48 W.hM  (e_fails W E) ?_
    refine x_al0 rfl dX12_readIf_51 ?_
    refine x_il1 dX12_readIf_52 ?_
    refine x_iconst (v := nI 1) dX12_readIf_53 rfl ?_
    first | refine x_iadd (nI_add _ _) dX12_readIf_54 ?_ | refine x_iadd rfl dX12_readIf_54 ?_
    refine x_cv1V mX12_readSum_ok lkX12_170 rfl (Nat.le_of_ble_eq_true rfl) (Nat.le_of_ble_eq_true rfl) dX12_readIf_55 W.hM  (C _ _ _ _ W E) ?_
    refine x_al0 rfl dX12_readIf_58 ?_
    refine x_bipush (v := nI 11) dX12_readIf_59 rfl ?_
    refine x_cv1I mX12_eats_ok lkX12_173 rfl (Nat.le_of_ble_eq_true rfl) (Nat.le_of_ble_eq_true rfl) dX12_readIf_61 W.hM  (e_eats W E (by decide)) ?_
    refine x_if_ne (tgt := 72) dX12_readIf_64 rfl (fun q64 => ?_) (fun q64 => ?_)
    · skip
      first | (simp only [cmp_lt, cmp_gt, cmp_eq, zN_cge, zN_cle, Decidable.not_not] at q64) | (simp (disch := omega) only [zN_le, zN_lt, zN_0, zN_1, nI_toInt, zN_eq, zN_eq0, b2_z, b2_nz, Decidable.not_not, Int.not_lt, Int.not_le, zK0, zK1, zK2, zK3, zK5, zK7, zK8, zK9, zK10, zK19, zK20, zK40, zK99, zK100, zK199] at q64) | skip
      exact absurd trivial q64
    · skip
      first | (simp only [cmp_lt, cmp_gt, cmp_eq, zN_cge, zN_cle, Decidable.not_not] at q64) | (simp (disch := omega) only [zN_le, zN_lt, zN_0, zN_1, nI_toInt, zN_eq, zN_eq0, b2_z, b2_nz, Decidable.not_not, Int.not_lt, Int.not_le, zK0, zK1, zK2, zK3, zK5, zK7, zK8, zK9, zK10, zK19, zK20, zK40, zK99, zK100, zK199] at q64) | skip
      refine x_al0 rfl dX12_readIf_67 ?_
      refine x_iconst (v := nI 2) dX12_readIf_68 rfl ?_
      refine x_cv1V mX12_fails_ok lkX12_153 rfl (Nat.le_of_ble_eq_true rfl) (Nat.le_of_ble_eq_true rfl) dX12_readIf_69 W.hM  (e_fails W E) ?_
      refine x_al0 rfl dX12_readIf_72 ?_
      refine x_sipush (v := nI 3009) dX12_readIf_73 (by decide) ?_
      refine x_cv1V mX12_codes_ok lkX12_161 rfl (Nat.le_of_ble_eq_true rfl) (Nat.le_of_ble_eq_true rfl) dX12_readIf_76 W.hM  (e_codes W E) ?_
      exact x_vret rfl dX12_readIf_79 hQ
theorem ef51 {Q : Option Value → zH → Prop} (W : MW h0 h s M L) (E : PE s e) (C : CtE g (d + 1) h0 L mX12_readSum (dp + 1)) (hQ : Q none h) : Zw g (d + 2) 0 0 mX12_readIf 51 [some (.ref 59), some (.int (nI dp))] [] h Q := by
  refine x_al0 rfl dX12_readIf_51 ?_
  refine x_il1 dX12_readIf_52 ?_
  refine x_iconst (v := nI 1) dX12_readIf_53 rfl ?_
  first | refine x_iadd (nI_add _ _) dX12_readIf_54 ?_ | refine x_iadd rfl dX12_readIf_54 ?_
  refine x_cv1V mX12_readSum_ok lkX12_170 rfl (Nat.le_of_ble_eq_true rfl) (Nat.le_of_ble_eq_true rfl) dX12_readIf_55 W.hM  (C _ _ _ _ W E) ?_
  refine x_al0 rfl dX12_readIf_58 ?_
  refine x_bipush (v := nI 11) dX12_readIf_59 rfl ?_
  refine x_cv1I mX12_eats_ok lkX12_173 rfl (Nat.le_of_ble_eq_true rfl) (Nat.le_of_ble_eq_true rfl) dX12_readIf_61 W.hM  (e_eats W E (by decide)) ?_
  refine x_if_ne (tgt := 72) dX12_readIf_64 rfl (fun q64 => ?_) (fun q64 => ?_)
  · skip
    first | (simp only [cmp_lt, cmp_gt, cmp_eq, zN_cge, zN_cle, Decidable.not_not] at q64) | (simp (disch := omega) only [zN_le, zN_lt, zN_0, zN_1, nI_toInt, zN_eq, zN_eq0, b2_z, b2_nz, Decidable.not_not, Int.not_lt, Int.not_le, zK0, zK1, zK2, zK3, zK5, zK7, zK8, zK9, zK10, zK19, zK20, zK40, zK99, zK100, zK199] at q64) | skip
    exact absurd trivial q64
  · skip
    first | (simp only [cmp_lt, cmp_gt, cmp_eq, zN_cge, zN_cle, Decidable.not_not] at q64) | (simp (disch := omega) only [zN_le, zN_lt, zN_0, zN_1, nI_toInt, zN_eq, zN_eq0, b2_z, b2_nz, Decidable.not_not, Int.not_lt, Int.not_le, zK0, zK1, zK2, zK3, zK5, zK7, zK8, zK9, zK10, zK19, zK20, zK40, zK99, zK100, zK199] at q64) | skip
    refine x_al0 rfl dX12_readIf_67 ?_
    refine x_iconst (v := nI 2) dX12_readIf_68 rfl ?_
    refine x_cv1V mX12_fails_ok lkX12_153 rfl (Nat.le_of_ble_eq_true rfl) (Nat.le_of_ble_eq_true rfl) dX12_readIf_69 W.hM  (e_fails W E) ?_
    refine x_al0 rfl dX12_readIf_72 ?_
    refine x_sipush (v := nI 3009) dX12_readIf_73 (by decide) ?_
    refine x_cv1V mX12_codes_ok lkX12_161 rfl (Nat.le_of_ble_eq_true rfl) (Nat.le_of_ble_eq_true rfl) dX12_readIf_76 W.hM  (e_codes W E) ?_
    exact x_vret rfl dX12_readIf_79 hQ
theorem ef58 {Q : Option Value → zH → Prop} (W : MW h0 h s M L) (E : PE s e) (C : CtE g (d + 1) h0 L mX12_readSum (dp + 1)) (hQ : Q none h) : Zw g (d + 2) 0 0 mX12_readIf 58 [some (.ref 59), some (.int (nI dp))] [] h Q := by
  refine x_al0 rfl dX12_readIf_58 ?_
  refine x_bipush (v := nI 11) dX12_readIf_59 rfl ?_
  refine x_cv1I mX12_eats_ok lkX12_173 rfl (Nat.le_of_ble_eq_true rfl) (Nat.le_of_ble_eq_true rfl) dX12_readIf_61 W.hM  (e_eats W E (by decide)) ?_
  refine x_if_ne (tgt := 72) dX12_readIf_64 rfl (fun q64 => ?_) (fun q64 => ?_)
  · skip
    first | (simp only [cmp_lt, cmp_gt, cmp_eq, zN_cge, zN_cle, Decidable.not_not] at q64) | (simp (disch := omega) only [zN_le, zN_lt, zN_0, zN_1, nI_toInt, zN_eq, zN_eq0, b2_z, b2_nz, Decidable.not_not, Int.not_lt, Int.not_le, zK0, zK1, zK2, zK3, zK5, zK7, zK8, zK9, zK10, zK19, zK20, zK40, zK99, zK100, zK199] at q64) | skip
    exact absurd trivial q64
  · skip
    first | (simp only [cmp_lt, cmp_gt, cmp_eq, zN_cge, zN_cle, Decidable.not_not] at q64) | (simp (disch := omega) only [zN_le, zN_lt, zN_0, zN_1, nI_toInt, zN_eq, zN_eq0, b2_z, b2_nz, Decidable.not_not, Int.not_lt, Int.not_le, zK0, zK1, zK2, zK3, zK5, zK7, zK8, zK9, zK10, zK19, zK20, zK40, zK99, zK100, zK199] at q64) | skip
    refine x_al0 rfl dX12_readIf_67 ?_
    refine x_iconst (v := nI 2) dX12_readIf_68 rfl ?_
    refine x_cv1V mX12_fails_ok lkX12_153 rfl (Nat.le_of_ble_eq_true rfl) (Nat.le_of_ble_eq_true rfl) dX12_readIf_69 W.hM  (e_fails W E) ?_
    refine x_al0 rfl dX12_readIf_72 ?_
    refine x_sipush (v := nI 3009) dX12_readIf_73 (by decide) ?_
    refine x_cv1V mX12_codes_ok lkX12_161 rfl (Nat.le_of_ble_eq_true rfl) (Nat.le_of_ble_eq_true rfl) dX12_readIf_76 W.hM  (e_codes W E) ?_
    exact x_vret rfl dX12_readIf_79 hQ
theorem ef72 {Q : Option Value → zH → Prop} (W : MW h0 h s M L) (E : PE s e) (C : CtE g (d + 1) h0 L mX12_readSum (dp + 1)) (hQ : Q none h) : Zw g (d + 2) 0 0 mX12_readIf 72 [some (.ref 59), some (.int (nI dp))] [] h Q := by
  refine x_al0 rfl dX12_readIf_72 ?_
  refine x_sipush (v := nI 3009) dX12_readIf_73 (by decide) ?_
  refine x_cv1V mX12_codes_ok lkX12_161 rfl (Nat.le_of_ble_eq_true rfl) (Nat.le_of_ble_eq_true rfl) dX12_readIf_76 W.hM  (e_codes W E) ?_
  exact x_vret rfl dX12_readIf_79 hQ
theorem o_readIf (hf : ∀ p, p ≤ X.2 → Gl X p (f p)) (hu : ∀ p, p ≤ X.2 → Gl X p (u p)) (hdp : dp < 6) (CS : CtM g (d + 6) X h0 L mX12_readSum (dp + 1) (fSm X f)) (CT : CtM g (d + 6) X h0 L mX12_readTruth (dp + 1) (fTr X u)) (CE : CtE g (d + 6) h0 L mX12_readSum (dp + 1)) (W : MW h0 h s M L) (O : PO X s M p base) (hK : tkK X p ≠ 24) : Zm g (d + 7) 0 0 mX12_readIf [.ref 59, .int (nI dp)] h (rVp (fun h' => PR X h0 h' s M L base (fIf X f u (tkB X p)))) := by
  have b0 := tkA_B O.2.1.1 hK
  have l0 := O.2.2.2.2
  have hE : fIf X f u (tkB X p) = apR [] (sqR (fTr X u (tkB X p)) (fI1 X f)) := by rw [apR_nil]; rfl
  have hG := Gl.fi hf hu O.2.1.1 hK
  generalize fIf X f u (tkB X p) = S at hE hG ⊢
  show Zw g (d + 7) 0 0 mX12_readIf 0 [some (.ref 59), some (.int (nI dp))] [] h _
  refine x_al0 rfl dX12_readIf_0 ?_
  refine x_il1 dX12_readIf_1 ?_
  refine x_cv1Ip mX12_goesIn_ok lkX12_167 rfl (Nat.le_of_ble_eq_true rfl) (Nat.le_of_ble_eq_true rfl) dX12_readIf_2 W.hM  (o_goes1 W O hdp) (fun r h hq => ?_)
  obtain ⟨rfl, s2, W2, U2, K2⟩ := hq
  have A := (PA.rf W O).nx W2 U2 K2 (by omega)
  refine x_if_ne (tgt := 9) dX12_readIf_5 rfl (fun q5 => ?_) (fun q5 => ?_)
  · skip
    first | (simp only [cmp_lt, cmp_gt, cmp_eq, zN_cge, zN_cle, Decidable.not_not] at q5) | (simp (disch := omega) only [zN_le, zN_lt, zN_0, zN_1, nI_toInt, zN_eq, zN_eq0, b2_z, b2_nz, Decidable.not_not, Int.not_lt, Int.not_le, zK0, zK1, zK2, zK3, zK5, zK7, zK8, zK9, zK10, zK19, zK20, zK40, zK99, zK100, zK199] at q5) | skip
    refine x_al0 rfl dX12_readIf_9 ?_
    refine x_il1 dX12_readIf_10 ?_
    refine x_iconst (v := nI 1) dX12_readIf_11 rfl ?_
    first | refine x_iadd (nI_add _ _) dX12_readIf_12 ?_ | refine x_iadd rfl dX12_readIf_12 ?_
    refine x_cv1Vp mX12_readTruth_ok lkX12_179 rfl (Nat.le_of_ble_eq_true rfl) (Nat.le_of_ble_eq_true rfl) dX12_readIf_13 W2.hM  (CT _ _ _ _ _ W2 A.2.2.1) (fun h hq => ?_)
    have R := A.tn hq
    cases e1 : fTr X u (tkB X p) with
    | inl e9 =>
      rw [e1] at R
      obtain ⟨s3, M3, W, U, E⟩ := R
      exact ef16 W E CE ⟨rfl, by rw [st_e hE e1]; exact ⟨s3, M3, W, U, E⟩⟩
    | inr q1 =>
      rw [e1] at R
      obtain ⟨s3, M3, A⟩ := R
      change PA _ _ _ _ _ _ _ q1.1 ([] ++ q1.2) _ _ at A
      replace hE := st_o hE e1
      have W := A.1
      have O := A.2.2.1
      refine x_al0 rfl dX12_readIf_16 ?_
      refine x_bipush (v := nI 9) dX12_readIf_17 rfl ?_
      refine x_cv1Ip mX12_eats_ok lkX12_173 rfl (Nat.le_of_ble_eq_true rfl) (Nat.le_of_ble_eq_true rfl) dX12_readIf_19 W.hM  (o_eats W O (by decide)) (fun r h hq => ?_)
      rcases hq with ⟨z, rfl, s4, W4, U4, K4⟩ | ⟨z, rfl, rfl⟩
      · have bz := tkA_B O.2.1.1 (by omega)
        replace hE := st_w hE z
        have A := A.nx W4 U4 K4 (by omega)
        have W := A.1
        have O := A.2.2.1
        refine x_if_ne (tgt := 30) dX12_readIf_22 rfl (fun q22 => ?_) (fun q22 => ?_)
        · skip
          first | (simp only [cmp_lt, cmp_gt, cmp_eq, zN_cge, zN_cle, Decidable.not_not] at q22) | (simp (disch := omega) only [zN_le, zN_lt, zN_0, zN_1, nI_toInt, zN_eq, zN_eq0, b2_z, b2_nz, Decidable.not_not, Int.not_lt, Int.not_le, zK0, zK1, zK2, zK3, zK5, zK7, zK8, zK9, zK10, zK19, zK20, zK40, zK99, zK100, zK199] at q22) | skip
          refine x_al0 rfl dX12_readIf_30 ?_
          refine x_il1 dX12_readIf_31 ?_
          refine x_iconst (v := nI 1) dX12_readIf_32 rfl ?_
          first | refine x_iadd (nI_add _ _) dX12_readIf_33 ?_ | refine x_iadd rfl dX12_readIf_33 ?_
          refine x_cv1Vp mX12_readSum_ok lkX12_170 rfl (Nat.le_of_ble_eq_true rfl) (Nat.le_of_ble_eq_true rfl) dX12_readIf_34 W.hM  (CS _ _ _ _ _ W O) (fun h hq => ?_)
          have R := A.tn hq
          cases e2 : fSm X f (tkB X q1.1) with
          | inl e9 =>
            rw [e2] at R
            obtain ⟨s3, M3, W, U, E⟩ := R
            exact ef37 W E CE ⟨rfl, by rw [st_e hE e2]; exact ⟨s3, M3, W, U, E⟩⟩
          | inr q2 =>
            rw [e2] at R
            obtain ⟨s3, M3, A⟩ := R
            change PA _ _ _ _ _ _ _ q2.1 (([] ++ q1.2) ++ q2.2) _ _ at A
            replace hE := st_o hE e2
            have W := A.1
            have O := A.2.2.1
            refine x_al0 rfl dX12_readIf_37 ?_
            refine x_bipush (v := nI 10) dX12_readIf_38 rfl ?_
            refine x_cv1Ip mX12_eats_ok lkX12_173 rfl (Nat.le_of_ble_eq_true rfl) (Nat.le_of_ble_eq_true rfl) dX12_readIf_40 W.hM  (o_eats W O (by decide)) (fun r h hq => ?_)
            rcases hq with ⟨z, rfl, s4, W4, U4, K4⟩ | ⟨z, rfl, rfl⟩
            · have bz := tkA_B O.2.1.1 (by omega)
              replace hE := st_w hE z
              have A := A.nx W4 U4 K4 (by omega)
              have W := A.1
              have O := A.2.2.1
              refine x_if_ne (tgt := 51) dX12_readIf_43 rfl (fun q43 => ?_) (fun q43 => ?_)
              · skip
                first | (simp only [cmp_lt, cmp_gt, cmp_eq, zN_cge, zN_cle, Decidable.not_not] at q43) | (simp (disch := omega) only [zN_le, zN_lt, zN_0, zN_1, nI_toInt, zN_eq, zN_eq0, b2_z, b2_nz, Decidable.not_not, Int.not_lt, Int.not_le, zK0, zK1, zK2, zK3, zK5, zK7, zK8, zK9, zK10, zK19, zK20, zK40, zK99, zK100, zK199] at q43) | skip
                refine x_al0 rfl dX12_readIf_51 ?_
                refine x_il1 dX12_readIf_52 ?_
                refine x_iconst (v := nI 1) dX12_readIf_53 rfl ?_
                first | refine x_iadd (nI_add _ _) dX12_readIf_54 ?_ | refine x_iadd rfl dX12_readIf_54 ?_
                refine x_cv1Vp mX12_readSum_ok lkX12_170 rfl (Nat.le_of_ble_eq_true rfl) (Nat.le_of_ble_eq_true rfl) dX12_readIf_55 W.hM  (CS _ _ _ _ _ W O) (fun h hq => ?_)
                have R := A.tn hq
                cases e3 : fSm X f (tkB X q2.1) with
                | inl e9 =>
                  rw [e3] at R
                  obtain ⟨s3, M3, W, U, E⟩ := R
                  exact ef58 W E CE ⟨rfl, by rw [st_e hE e3]; exact ⟨s3, M3, W, U, E⟩⟩
                | inr q3 =>
                  rw [e3] at R
                  obtain ⟨s3, M3, A⟩ := R
                  change PA _ _ _ _ _ _ _ q3.1 (([] ++ q1.2 ++ q2.2) ++ q3.2) _ _ at A
                  replace hE := st_o hE e3
                  have W := A.1
                  have O := A.2.2.1
                  refine x_al0 rfl dX12_readIf_58 ?_
                  refine x_bipush (v := nI 11) dX12_readIf_59 rfl ?_
                  refine x_cv1Ip mX12_eats_ok lkX12_173 rfl (Nat.le_of_ble_eq_true rfl) (Nat.le_of_ble_eq_true rfl) dX12_readIf_61 W.hM  (o_eats W O (by decide)) (fun r h hq => ?_)
                  rcases hq with ⟨z, rfl, s4, W4, U4, K4⟩ | ⟨z, rfl, rfl⟩
                  · have bz := tkA_B O.2.1.1 (by omega)
                    replace hE := st_w hE z
                    have A := A.nx W4 U4 K4 (by omega)
                    have W := A.1
                    have O := A.2.2.1
                    refine x_if_ne (tgt := 72) dX12_readIf_64 rfl (fun q64 => ?_) (fun q64 => ?_)
                    · skip
                      first | (simp only [cmp_lt, cmp_gt, cmp_eq, zN_cge, zN_cle, Decidable.not_not] at q64) | (simp (disch := omega) only [zN_le, zN_lt, zN_0, zN_1, nI_toInt, zN_eq, zN_eq0, b2_z, b2_nz, Decidable.not_not, Int.not_lt, Int.not_le, zK0, zK1, zK2, zK3, zK5, zK7, zK8, zK9, zK10, zK19, zK20, zK40, zK99, zK100, zK199] at q64) | skip
                      have eS : S = .inr (tkB X q3.1, [] ++ q1.2 ++ q2.2 ++ q3.2 ++ [3009]) := hE
                      rw [eS] at hG
                      have hl := hG.2
                      simp only [List.length_append, List.length_cons, List.length_nil] at hl
                      refine x_al0 rfl dX12_readIf_72 ?_
                      refine x_sipush (v := nI 3009) dX12_readIf_73 (by decide) ?_
                      refine x_cv1Vp mX12_codes_ok lkX12_161 rfl (Nat.le_of_ble_eq_true rfl) (Nat.le_of_ble_eq_true rfl) dX12_readIf_76 W.hM  (o_codes A (by simp only [List.length_append, List.length_nil]; omega)) (fun h hq => ?_)
                      obtain ⟨M6, A6⟩ := hq
                      exact x_vret rfl dX12_readIf_79 ⟨rfl, by rw [eS]; exact ⟨_, M6, A6⟩⟩
                    · skip
                      first | (simp only [cmp_lt, cmp_gt, cmp_eq, zN_cge, zN_cle, Decidable.not_not] at q64) | (simp (disch := omega) only [zN_le, zN_lt, zN_0, zN_1, nI_toInt, zN_eq, zN_eq0, b2_z, b2_nz, Decidable.not_not, Int.not_lt, Int.not_le, zK0, zK1, zK2, zK3, zK5, zK7, zK8, zK9, zK10, zK19, zK20, zK40, zK99, zK100, zK199] at q64) | skip
                      exact absurd q64 (by decide)
                  · refine x_if_ne (tgt := 72) dX12_readIf_64 rfl (fun q64 => ?_) (fun q64 => ?_)
                    · skip
                      first | (simp only [cmp_lt, cmp_gt, cmp_eq, zN_cge, zN_cle, Decidable.not_not] at q64) | (simp (disch := omega) only [zN_le, zN_lt, zN_0, zN_1, nI_toInt, zN_eq, zN_eq0, b2_z, b2_nz, Decidable.not_not, Int.not_lt, Int.not_le, zK0, zK1, zK2, zK3, zK5, zK7, zK8, zK9, zK10, zK19, zK20, zK40, zK99, zK100, zK199] at q64) | skip
                      exact absurd trivial q64
                    · skip
                      first | (simp only [cmp_lt, cmp_gt, cmp_eq, zN_cge, zN_cle, Decidable.not_not] at q64) | (simp (disch := omega) only [zN_le, zN_lt, zN_0, zN_1, nI_toInt, zN_eq, zN_eq0, b2_z, b2_nz, Decidable.not_not, Int.not_lt, Int.not_le, zK0, zK1, zK2, zK3, zK5, zK7, zK8, zK9, zK10, zK19, zK20, zK40, zK99, zK100, zK199] at q64) | skip
                      refine x_al0 rfl dX12_readIf_67 ?_
                      refine x_iconst (v := nI 2) dX12_readIf_68 rfl ?_
                      refine x_cv1Vp mX12_fails_ok lkX12_153 rfl (Nat.le_of_ble_eq_true rfl) (Nat.le_of_ble_eq_true rfl) dX12_readIf_69 W.hM  (o_fails (fa := 2) (by decide) (by decide) W O) (fun h hq => ?_)
                      obtain ⟨s5, W5, U5, E5⟩ := hq
                      exact ef72 W5 E5 CE ⟨rfl, by rw [st_x hE z]; exact ⟨s5, _, W5, A.2.1.tr U5, E5⟩⟩
              · skip
                first | (simp only [cmp_lt, cmp_gt, cmp_eq, zN_cge, zN_cle, Decidable.not_not] at q43) | (simp (disch := omega) only [zN_le, zN_lt, zN_0, zN_1, nI_toInt, zN_eq, zN_eq0, b2_z, b2_nz, Decidable.not_not, Int.not_lt, Int.not_le, zK0, zK1, zK2, zK3, zK5, zK7, zK8, zK9, zK10, zK19, zK20, zK40, zK99, zK100, zK199] at q43) | skip
                exact absurd q43 (by decide)
            · refine x_if_ne (tgt := 51) dX12_readIf_43 rfl (fun q43 => ?_) (fun q43 => ?_)
              · skip
                first | (simp only [cmp_lt, cmp_gt, cmp_eq, zN_cge, zN_cle, Decidable.not_not] at q43) | (simp (disch := omega) only [zN_le, zN_lt, zN_0, zN_1, nI_toInt, zN_eq, zN_eq0, b2_z, b2_nz, Decidable.not_not, Int.not_lt, Int.not_le, zK0, zK1, zK2, zK3, zK5, zK7, zK8, zK9, zK10, zK19, zK20, zK40, zK99, zK100, zK199] at q43) | skip
                exact absurd trivial q43
              · skip
                first | (simp only [cmp_lt, cmp_gt, cmp_eq, zN_cge, zN_cle, Decidable.not_not] at q43) | (simp (disch := omega) only [zN_le, zN_lt, zN_0, zN_1, nI_toInt, zN_eq, zN_eq0, b2_z, b2_nz, Decidable.not_not, Int.not_lt, Int.not_le, zK0, zK1, zK2, zK3, zK5, zK7, zK8, zK9, zK10, zK19, zK20, zK40, zK99, zK100, zK199] at q43) | skip
                refine x_al0 rfl dX12_readIf_46 ?_
                refine x_iconst (v := nI 2) dX12_readIf_47 rfl ?_
                refine x_cv1Vp mX12_fails_ok lkX12_153 rfl (Nat.le_of_ble_eq_true rfl) (Nat.le_of_ble_eq_true rfl) dX12_readIf_48 W.hM  (o_fails (fa := 2) (by decide) (by decide) W O) (fun h hq => ?_)
                obtain ⟨s5, W5, U5, E5⟩ := hq
                exact ef51 W5 E5 CE ⟨rfl, by rw [st_x hE z]; exact ⟨s5, _, W5, A.2.1.tr U5, E5⟩⟩
        · skip
          first | (simp only [cmp_lt, cmp_gt, cmp_eq, zN_cge, zN_cle, Decidable.not_not] at q22) | (simp (disch := omega) only [zN_le, zN_lt, zN_0, zN_1, nI_toInt, zN_eq, zN_eq0, b2_z, b2_nz, Decidable.not_not, Int.not_lt, Int.not_le, zK0, zK1, zK2, zK3, zK5, zK7, zK8, zK9, zK10, zK19, zK20, zK40, zK99, zK100, zK199] at q22) | skip
          exact absurd q22 (by decide)
      · refine x_if_ne (tgt := 30) dX12_readIf_22 rfl (fun q22 => ?_) (fun q22 => ?_)
        · skip
          first | (simp only [cmp_lt, cmp_gt, cmp_eq, zN_cge, zN_cle, Decidable.not_not] at q22) | (simp (disch := omega) only [zN_le, zN_lt, zN_0, zN_1, nI_toInt, zN_eq, zN_eq0, b2_z, b2_nz, Decidable.not_not, Int.not_lt, Int.not_le, zK0, zK1, zK2, zK3, zK5, zK7, zK8, zK9, zK10, zK19, zK20, zK40, zK99, zK100, zK199] at q22) | skip
          exact absurd trivial q22
        · skip
          first | (simp only [cmp_lt, cmp_gt, cmp_eq, zN_cge, zN_cle, Decidable.not_not] at q22) | (simp (disch := omega) only [zN_le, zN_lt, zN_0, zN_1, nI_toInt, zN_eq, zN_eq0, b2_z, b2_nz, Decidable.not_not, Int.not_lt, Int.not_le, zK0, zK1, zK2, zK3, zK5, zK7, zK8, zK9, zK10, zK19, zK20, zK40, zK99, zK100, zK199] at q22) | skip
          refine x_al0 rfl dX12_readIf_25 ?_
          refine x_iconst (v := nI 2) dX12_readIf_26 rfl ?_
          refine x_cv1Vp mX12_fails_ok lkX12_153 rfl (Nat.le_of_ble_eq_true rfl) (Nat.le_of_ble_eq_true rfl) dX12_readIf_27 W.hM  (o_fails (fa := 2) (by decide) (by decide) W O) (fun h hq => ?_)
          obtain ⟨s5, W5, U5, E5⟩ := hq
          exact ef30 W5 E5 CE ⟨rfl, by rw [st_x hE z]; exact ⟨s5, _, W5, A.2.1.tr U5, E5⟩⟩
  · skip
    first | (simp only [cmp_lt, cmp_gt, cmp_eq, zN_cge, zN_cle, Decidable.not_not] at q5) | (simp (disch := omega) only [zN_le, zN_lt, zN_0, zN_1, nI_toInt, zN_eq, zN_eq0, b2_z, b2_nz, Decidable.not_not, Int.not_lt, Int.not_le, zK0, zK1, zK2, zK3, zK5, zK7, zK8, zK9, zK10, zK19, zK20, zK40, zK99, zK100, zK199] at q5) | skip
    exact absurd q5 (by decide)
end ZLe

