/-! the class's comparisons and units, by levels -/
def fC1 (X : zX) (f : Nat → zR) (p1 : Nat) : zR := if opC (tkK X p1) = 0 then erR X p1 else sqR (fSm X f (tkB X p1)) (emR (opC (tkK X p1)))
section ZCu
variable {g : zG} {d : Nat} {h0 h h' : zH} {r r' r2 : Nat → Value} {A A' : Nat → Nat → Int32} {Q Q' : Nat → zS3} {X : zX} {k p p1 q i dp dq : Nat} {e : Nat × Nat} {cs c1 : List Nat} {S : zR} {f u φ ψ : Nat → zR}
theorem BA.cc1 : BA X (fC1 X f) := fun p hp => by
  unfold fC1 erR
  rw [if_pos (by rw [hp]; rfl), erK_25 hp]
theorem e_cmpC (C : CcE g (d + 1) h0 i mX4_sum) : CcE g (d + 2) h0 i mX4_comparison := by
  intro h r A Q e R E
  have e13 := E.1.2.2.1
  show Zw g (d + 2) 0 0 mX4_comparison 0 [some (.ref 2), none] [] h _
  refine x_al0 rfl dX4_comparison_0 ?_
  refine x_cv0V mX4_sum_ok lkX4_113 rfl (Nat.le_of_ble_eq_true rfl) (Nat.le_of_ble_eq_true rfl) dX4_comparison_1 R.get  (C _ _ _ _ _ R E) ?_
  refine x_al0 rfl dX4_comparison_4 ?_
  refine x_cv0I mX4_stepOfSign_ok lkX4_148 rfl (Nat.le_of_ble_eq_true rfl) (Nat.le_of_ble_eq_true rfl) dX4_comparison_5 R.get  (o_sign (k := 25) R e13 (by decide) (by decide)) ?_
  refine x_is1 rfl dX4_comparison_8 ?_
  refine x_il1 dX4_comparison_9 ?_
  refine x_if_ne (tgt := 19) dX4_comparison_10 rfl (fun q10 => ?_) (fun q10 => ?_)
  · skip
    exact absurd rfl q10
  · skip
    refine x_al0 rfl dX4_comparison_13 ?_
    refine x_iconst (v := nI 2) dX4_comparison_14 rfl ?_
    refine x_cv1V mX4_fail_ok lkX4_98 rfl (Nat.le_of_ble_eq_true rfl) (Nat.le_of_ble_eq_true rfl) dX4_comparison_15 R.get  (e_fail R E.1) ?_
    exact x_vret rfl dX4_comparison_18 ⟨rfl, rfl⟩
theorem tp4 {Y : Option Value → zH → Prop} (hi : i = 5 ∨ i = 7) (P : PCe h0 h r A Q i e r' A' Q') (hY : ∀ h r' A' Q', PCe h0 h r A Q i e r' A' Q' → Y none h) : Zw g (d + 2) 0 0 mX4_comparison 4 [some (.ref 2), none] [] h Y := by
  have R := P.1
  have E := P.2.2.2
  have e13 := E.1.2.2.1
  refine x_al0 rfl dX4_comparison_4 ?_
  refine x_cv0I mX4_stepOfSign_ok lkX4_148 rfl (Nat.le_of_ble_eq_true rfl) (Nat.le_of_ble_eq_true rfl) dX4_comparison_5 R.get  (o_sign (k := 25) R e13 (by decide) (by decide)) ?_
  refine x_is1 rfl dX4_comparison_8 ?_
  refine x_il1 dX4_comparison_9 ?_
  refine x_if_ne (tgt := 19) dX4_comparison_10 rfl (fun q10 => ?_) (fun q10 => ?_)
  · skip
    exact absurd rfl q10
  · skip
    refine x_al0 rfl dX4_comparison_13 ?_
    refine x_iconst (v := nI 2) dX4_comparison_14 rfl ?_
    refine x_cv1V mX4_fail_ok lkX4_98 rfl (Nat.le_of_ble_eq_true rfl) (Nat.le_of_ble_eq_true rfl) dX4_comparison_15 R.get  (e_fail R E.1) ?_
    exact x_vret rfl dX4_comparison_18 (hY _ _ _ _ P)
theorem tp27 {x : Int32} {Y : Option Value → zH → Prop} (hi : i = 5 ∨ i = 7) (P : PCe h0 h r A Q i e r' A' Q') (hY : ∀ h r' A' Q', PCe h0 h r A Q i e r' A' Q' → Y none h) : Zw g (d + 2) 0 0 mX4_comparison 27 [some (.ref 2), some (.int x)] [] h Y := by
  have R := P.1
  have e17 := P.2.2.2.2.2.1
  refine x_al0 rfl dX4_comparison_27 ?_
  refine x_rg R fdX4_69 (by decide) (by first | assumption | rfl) dX4_comparison_28 ?_
  refine x_il1 dX4_comparison_31 ?_
  refine x_cv1Vp mX1_add_ok lkX4_124 rfl (Nat.le_of_ble_eq_true rfl) (Nat.le_of_ble_eq_true rfl) dX4_comparison_32 (R.dq  hi).1 (e_add hi P) (fun h hq => ?_)
  obtain ⟨A2, Q2, P2⟩ := hq
  exact x_vret rfl dX4_comparison_35 (hY _ _ _ _ P2)
theorem tp23 {x : Int32} {Y : Option Value → zH → Prop} (hi : i = 5 ∨ i = 7) (P : PCe h0 h r A Q i e r' A' Q') (CS : CcE g (d + 1) h0 i mX4_sum) (hY : ∀ h r' A' Q', PCe h0 h r A Q i e r' A' Q' → Y none h) : Zw g (d + 2) 0 0 mX4_comparison 23 [some (.ref 2), some (.int x)] [] h Y := by
  have R := P.1
  have E := P.2.2.2
  refine x_al0 rfl dX4_comparison_23 ?_
  refine x_cv0V mX4_sum_ok lkX4_113 rfl (Nat.le_of_ble_eq_true rfl) (Nat.le_of_ble_eq_true rfl) dX4_comparison_24 R.get  (CS _ _ _ _ _ R E) ?_
  exact tp27 hi P hY
theorem sos_n {k : Nat} (h : ¬ opC k = 0) : sos k = cl (opC k) ∧ ¬ cl (opC k) = 0 ∧ vcd (opC k) := by
  unfold sos
  rw [if_neg h]
  have hc : opC k = 3003 ∨ opC k = 3004 ∨ opC k = 3005 := by
    unfold opC at h ⊢
    (repeat' split) <;> simp_all
  rcases hc with z | z | z <;> rw [z] <;> exact ⟨rfl, by simp [cl], Or.inr (by decide)⟩
theorem o_cmpC (hi : i = 5 ∨ i = 7) (hf : ∀ p, p ≤ X.2 → Gl X p (f p)) (hBf : BA X f) (CS : CcM g (d + 6) X h0 i mX4_sum dp (fSm X f)) (CES : CcE g (d + 6) h0 i mX4_sum) : CcM g (d + 7) X h0 i mX4_comparison dp (fCm X f) := by
  intro h r A Q p cs R O
  have l0 := O.2.2.2.2.2
  have hE : nR X (fCm X f p) = apR [] (nR X (sqR (fSm X f p) (fC1 X f))) := by rw [apR_nil]; rfl
  have hG := Gl.cm hf O.2.1.2.1
  have hGn : ∀ q, nR X (fCm X f p) = .inr q → q.2.length + tkA X p ≤ tkA X q.1 := fun q z => by
    rw [(nR_o z).1] at hG
    exact hG.2
  generalize nR X (fCm X f p) = S at hE hGn ⊢
  have P := PCa.rf R O
  show Zw g (d + 7) 0 0 mX4_comparison 0 [some (.ref 2), none] [] h _
  refine x_al0 rfl dX4_comparison_0 ?_
  refine x_cv0Vp mX4_sum_ok lkX4_113 rfl (Nat.le_of_ble_eq_true rfl) (Nat.le_of_ble_eq_true rfl) dX4_comparison_1 R.get  (CS _ _ _ _ _ _ R O) (fun h hq => ?_)
  have PR : PC X h0 h r A Q i dp cs (apR [] (nR X (fSm X f p))) := by rw [apR_nil]; exact hq
  cases e1 : nR X (fSm X f p) with
  | inl e9 =>
    rw [e1] at PR
    obtain ⟨r2, A2, Q2, P2⟩ := PR
    exact tp4 (d := d + 5) hi P2 (fun h r' A' Q' z => ⟨rfl, by rw [stN_e hE BA.cc1.bd e1]; exact ⟨r', A', Q', z⟩⟩)
  | inr q1 =>
    rw [e1] at PR
    obtain ⟨r2, A2, Q2, P⟩ := PR
    change PCa _ _ _ _ _ _ _ _ q1.1 (cs ++ ([] ++ q1.2)) _ _ _ at P
    replace hE := stN_o hE e1
    have R := P.1
    have O := P.2.2.2
    refine x_al0 rfl dX4_comparison_4 ?_
    refine x_cv0I mX4_stepOfSign_ok lkX4_148 rfl (Nat.le_of_ble_eq_true rfl) (Nat.le_of_ble_eq_true rfl) dX4_comparison_5 R.get  (o_sign R O.2.1.2.2.2.1 tkK_dom.2 tkK_dom.1) ?_
    refine x_is1 rfl dX4_comparison_8 ?_
    refine x_il1 dX4_comparison_9 ?_
    refine x_if_ne (tgt := 19) dX4_comparison_10 rfl (fun q10 => ?_) (fun q10 => ?_)
    · skip
      have n0 : ¬ opC (tkK X q1.1) = 0 := fun z => q10 (if_pos z)
      have hb := tkA_B O.2.1.2.1 (fun z => n0 (by rw [z]; rfl))
      obtain ⟨s1, s2, s3⟩ := sos_n n0
      refine x_al0 rfl dX4_comparison_19 ?_
      refine x_cv0Vp mX4_advance_ok lkX4_81 rfl (Nat.le_of_ble_eq_true rfl) (Nat.le_of_ble_eq_true rfl) dX4_comparison_20 R.get  (o_adv R O) (fun h hq => ?_)
      have PR := P.tn hq
      rw [fC1, if_neg n0] at hE
      cases e2 : nR X (.inr (tkB X q1.1, [])) with
      | inl e9 =>
        rw [e2] at PR
        obtain ⟨r2, A2, Q2, P2⟩ := PR
        obtain ⟨kb, rfl⟩ := nR_bt e2
        have eS : S = .inl (1, tkA X (tkB X q1.1)) := stN_e hE BD.em (hBf.sm.bd _ kb)
        exact tp23 (d := d + 5) hi P2 CES (fun h r' A' Q' z => ⟨rfl, by rw [eS]; exact ⟨r', A', Q', z⟩⟩)
      | inr q0 =>
        rw [e2] at PR
        obtain ⟨rfl, k0⟩ := nR_ot e2
        obtain ⟨r2, A2, Q2, P⟩ := PR
        change PCa _ _ _ _ _ _ _ _ (tkB X q1.1) (cs ++ ([] ++ q1.2 ++ [])) _ _ _ at P
        rw [List.append_nil] at P
        have R := P.1
        have O := P.2.2.2
        refine x_al0 rfl dX4_comparison_23 ?_
        refine x_cv0Vp mX4_sum_ok lkX4_113 rfl (Nat.le_of_ble_eq_true rfl) (Nat.le_of_ble_eq_true rfl) dX4_comparison_24 R.get  (CS _ _ _ _ _ _ R O) (fun h hq => ?_)
        have PR := P.tn hq
        cases e3 : nR X (fSm X f (tkB X q1.1)) with
        | inl e9 =>
          rw [e3] at PR
          obtain ⟨r2, A2, Q2, P2⟩ := PR
          exact tp27 (d := d + 5) hi P2 (fun h r' A' Q' z => ⟨rfl, by rw [stN_e hE BD.em e3]; exact ⟨r', A', Q', z⟩⟩)
        | inr q3 =>
          rw [e3] at PR
          obtain ⟨r2, A2, Q2, P⟩ := PR
          change PCa _ _ _ _ _ _ _ _ q3.1 (cs ++ (([] ++ q1.2) ++ q3.2)) _ _ _ at P
          replace hE := stN_o hE e3
          have R := P.1
          have O := P.2.2.2
          refine x_al0 rfl dX4_comparison_27 ?_
          refine x_rg R fdX4_69 (by decide) (O.2.2.2.1) dX4_comparison_28 ?_
          have eS : S = .inr (q3.1, ([] ++ q1.2 ++ q3.2) ++ [opC (tkK X q1.1)]) := by rw [hE, show emR (opC (tkK X q1.1)) q3.1 = .inr (q3.1, [opC (tkK X q1.1)]) from rfl, nR_r (q := (q3.1, [opC (tkK X q1.1)])) (nR_o e3).2]; rfl
          have hl := hGn _ eS
          simp only [List.length_append, List.length_cons, List.length_nil] at hl
          refine x_il1 dX4_comparison_31 ?_
          refine x_cv1Vp mX1_add_ok lkX4_124 rfl (Nat.le_of_ble_eq_true rfl) (Nat.le_of_ble_eq_true rfl) dX4_comparison_32 (R.dq  hi).1 (o_add (c := opC (tkK X q1.1)) s1.symm hi P (by simp only [List.length_append, List.length_nil]; omega) s3) (fun h hq => ?_)
          obtain ⟨A9, Q9, P9⟩ := hq
          exact x_vret rfl dX4_comparison_35 ⟨rfl, by rw [eS]; exact ⟨_, A9, Q9, by rw [← List.append_assoc]; exact P9⟩⟩
    · skip
      have n0 : opC (tkK X q1.1) = 0 := Decidable.byContradiction (fun z => (sos_n z).2.1 (by rw [← (sos_n z).1]; exact q10))
      refine x_al0 rfl dX4_comparison_13 ?_
      refine x_iconst (v := nI 2) dX4_comparison_14 rfl ?_
      refine x_cv1Vp mX4_fail_ok lkX4_98 rfl (Nat.le_of_ble_eq_true rfl) (Nat.le_of_ble_eq_true rfl) dX4_comparison_15 R.get  (o_fail (fa := 2) (by decide) (by decide) R O) (fun h hq => ?_)
      have PR := P.tn hq
      exact x_vret rfl dX4_comparison_18 ⟨rfl, by rw [hE, fC1, if_pos n0, erR, erK_2 O.2.1.2.2.2.2.2.2]; exact PR⟩
theorem e_unitC (C : CcE g (d + 1) h0 i mX4_comparison) : CcE g (d + 2) h0 i mX4_unit := by
  intro h r A Q e R E
  have e13 := E.1.2.2.1
  show Zw g (d + 2) 0 0 mX4_unit 0 [some (.ref 2)] [] h _
  refine x_al0 rfl dX4_unit_0 ?_
  refine x_rg R fdX4_57 (by decide) (by first | assumption | rfl) dX4_unit_1 ?_
  refine x_sipush (v := nI 318) dX4_unit_4 (by decide) ?_
  refine x_icmp_ne (tgt := 40) dX4_unit_7 rfl (fun q7 => ?_) (fun q7 => ?_)
  · skip
    first | (simp only [cmp_lt, cmp_gt, cmp_eq, zN_cge, zN_cle, Decidable.not_not] at q7) | (simp (disch := omega) only [zN_le, zN_lt, zN_0, zN_1, nI_toInt, zN_eq, zN_eq0, b2_z, b2_nz, Decidable.not_not, Int.not_lt, Int.not_le, zK0, zK1, zK2, zK3, zK5, zK7, zK8, zK9, zK10, zK19, zK20, zK40, zK99, zK100, zK199] at q7) | skip
    refine x_al0 rfl dX4_unit_40 ?_
    refine x_rg R fdX4_57 (by decide) (by first | assumption | rfl) dX4_unit_41 ?_
    refine x_bipush (v := nI 91) dX4_unit_44 rfl ?_
    refine x_icmp_ne (tgt := 76) dX4_unit_46 rfl (fun q46 => ?_) (fun q46 => ?_)
    · skip
      first | (simp only [cmp_lt, cmp_gt, cmp_eq, zN_cge, zN_cle, Decidable.not_not] at q46) | (simp (disch := omega) only [zN_le, zN_lt, zN_0, zN_1, nI_toInt, zN_eq, zN_eq0, b2_z, b2_nz, Decidable.not_not, Int.not_lt, Int.not_le, zK0, zK1, zK2, zK3, zK5, zK7, zK8, zK9, zK10, zK19, zK20, zK40, zK99, zK100, zK199] at q46) | skip
      refine x_al0 rfl dX4_unit_76 ?_
      refine x_cv0V mX4_comparison_ok lkX4_145 rfl (Nat.le_of_ble_eq_true rfl) (Nat.le_of_ble_eq_true rfl) dX4_unit_77 R.get  (C _ _ _ _ _ R E) ?_
      exact x_vret rfl dX4_unit_80 ⟨rfl, rfl⟩
    · skip
      first | (simp only [cmp_lt, cmp_gt, cmp_eq, zN_cge, zN_cle, Decidable.not_not] at q46) | (simp (disch := omega) only [zN_le, zN_lt, zN_0, zN_1, nI_toInt, zN_eq, zN_eq0, b2_z, b2_nz, Decidable.not_not, Int.not_lt, Int.not_le, zK0, zK1, zK2, zK3, zK5, zK7, zK8, zK9, zK10, zK19, zK20, zK40, zK99, zK100, zK199] at q46) | skip
      exact absurd q46 (by decide)
  · skip
    first | (simp only [cmp_lt, cmp_gt, cmp_eq, zN_cge, zN_cle, Decidable.not_not] at q7) | (simp (disch := omega) only [zN_le, zN_lt, zN_0, zN_1, nI_toInt, zN_eq, zN_eq0, b2_z, b2_nz, Decidable.not_not, Int.not_lt, Int.not_le, zK0, zK1, zK2, zK3, zK5, zK7, zK8, zK9, zK10, zK19, zK20, zK40, zK99, zK100, zK199] at q7) | skip
    exact absurd q7 (by decide)
theorem tu14 {Y : Option Value → zH → Prop} (hi : i = 5 ∨ i = 7) (P : PCe h0 h r A Q i e r' A' Q') (CU : CcE g (d + 1) h0 i mX4_unit) (hY : ∀ h r' A' Q', PCe h0 h r A Q i e r' A' Q' → Y none h) : Zw g (d + 2) 0 0 mX4_unit 14 [some (.ref 2)] [] h Y := by
  have R := P.1
  have E := P.2.2.2
  obtain ⟨v, e16⟩ := E.2.1
  have e17 := E.2.2.1
  refine x_al0 rfl dX4_unit_14 ?_
  refine x_cv0V mX4_unit_ok lkX4_142 rfl (Nat.le_of_ble_eq_true rfl) (Nat.le_of_ble_eq_true rfl) dX4_unit_15 R.get  (CU _ _ _ _ _ R E) ?_
  refine x_al0 rfl dX4_unit_18 ?_
  refine x_dup rfl dX4_unit_19 ?_
  refine x_rg R fdX4_66 (by decide) (by first | assumption | rfl) dX4_unit_20 ?_
  refine x_iconst (v := nI 1) dX4_unit_23 rfl ?_
  refine x_isub (rfl) dX4_unit_24 ?_
  refine x_rp R fdX4_66 (by decide) (by decide) (by first | exact fun _ => ⟨_, rfl⟩ | exact fun z => absurd z (by decide)) zf_i dX4_unit_25 (fun h R => ?_)
  refine x_al0 rfl dX4_unit_28 ?_
  refine x_rg R fdX4_69 (by decide) (by first | assumption | rfl) dX4_unit_29 ?_
  refine x_bipush (v := (-14)) dX4_unit_32 rfl ?_
  refine x_cv1Vp mX1_add_ok lkX4_124 rfl (Nat.le_of_ble_eq_true rfl) (Nat.le_of_ble_eq_true rfl) dX4_unit_34 (R.dq  hi).1 (e_add hi (P.dep R)) (fun h hq => ?_)
  refine x_goto (tgt := 80) dX4_unit_37 rfl ?_
  obtain ⟨A2, Q2, P2⟩ := hq
  exact x_vret rfl dX4_unit_80 (hY _ _ _ _ P2)
theorem tu18 {Y : Option Value → zH → Prop} (hi : i = 5 ∨ i = 7) (P : PCe h0 h r A Q i e r' A' Q') (CU : CcE g (d + 1) h0 i mX4_unit) (hY : ∀ h r' A' Q', PCe h0 h r A Q i e r' A' Q' → Y none h) : Zw g (d + 2) 0 0 mX4_unit 18 [some (.ref 2)] [] h Y := by
  have R := P.1
  have E := P.2.2.2
  obtain ⟨v, e16⟩ := E.2.1
  have e17 := E.2.2.1
  refine x_al0 rfl dX4_unit_18 ?_
  refine x_dup rfl dX4_unit_19 ?_
  refine x_rg R fdX4_66 (by decide) (by first | assumption | rfl) dX4_unit_20 ?_
  refine x_iconst (v := nI 1) dX4_unit_23 rfl ?_
  refine x_isub (rfl) dX4_unit_24 ?_
  refine x_rp R fdX4_66 (by decide) (by decide) (by first | exact fun _ => ⟨_, rfl⟩ | exact fun z => absurd z (by decide)) zf_i dX4_unit_25 (fun h R => ?_)
  refine x_al0 rfl dX4_unit_28 ?_
  refine x_rg R fdX4_69 (by decide) (by first | assumption | rfl) dX4_unit_29 ?_
  refine x_bipush (v := (-14)) dX4_unit_32 rfl ?_
  refine x_cv1Vp mX1_add_ok lkX4_124 rfl (Nat.le_of_ble_eq_true rfl) (Nat.le_of_ble_eq_true rfl) dX4_unit_34 (R.dq  hi).1 (e_add hi (P.dep R)) (fun h hq => ?_)
  refine x_goto (tgt := 80) dX4_unit_37 rfl ?_
  obtain ⟨A2, Q2, P2⟩ := hq
  exact x_vret rfl dX4_unit_80 (hY _ _ _ _ P2)
theorem tu53 {Y : Option Value → zH → Prop} (hi : i = 5 ∨ i = 7) (P : PCe h0 h r A Q i e r' A' Q') (CT : CcE g (d + 1) h0 i mX4_truth) (hY : ∀ h r' A' Q', PCe h0 h r A Q i e r' A' Q' → Y none h) : Zw g (d + 2) 0 0 mX4_unit 53 [some (.ref 2)] [] h Y := by
  have R := P.1
  have E := P.2.2.2
  obtain ⟨v, e16⟩ := E.2.1
  refine x_al0 rfl dX4_unit_53 ?_
  refine x_cv0V mX4_truth_ok lkX4_116 rfl (Nat.le_of_ble_eq_true rfl) (Nat.le_of_ble_eq_true rfl) dX4_unit_54 R.get  (CT _ _ _ _ _ R E) ?_
  refine x_al0 rfl dX4_unit_57 ?_
  refine x_bipush (v := nI 93) dX4_unit_58 rfl ?_
  refine x_cv1V mX4_expect_ok lkX4_90 rfl (Nat.le_of_ble_eq_true rfl) (Nat.le_of_ble_eq_true rfl) dX4_unit_60 R.get  (e_expect (k := 38) (by decide) (by decide) (by decide) R E) ?_
  refine x_al0 rfl dX4_unit_63 ?_
  refine x_dup rfl dX4_unit_64 ?_
  refine x_rg R fdX4_66 (by decide) (by first | assumption | rfl) dX4_unit_65 ?_
  refine x_iconst (v := nI 1) dX4_unit_68 rfl ?_
  refine x_isub (rfl) dX4_unit_69 ?_
  refine x_rp R fdX4_66 (by decide) (by decide) (by first | exact fun _ => ⟨_, rfl⟩ | exact fun z => absurd z (by decide)) zf_i dX4_unit_70 (fun h R => ?_)
  refine x_goto (tgt := 80) dX4_unit_73 rfl ?_
  exact x_vret rfl dX4_unit_80 (hY _ _ _ _ (P.dep R))
theorem tu57 {Y : Option Value → zH → Prop} (hi : i = 5 ∨ i = 7) (P : PCe h0 h r A Q i e r' A' Q') (CT : CcE g (d + 1) h0 i mX4_truth) (hY : ∀ h r' A' Q', PCe h0 h r A Q i e r' A' Q' → Y none h) : Zw g (d + 2) 0 0 mX4_unit 57 [some (.ref 2)] [] h Y := by
  have R := P.1
  have E := P.2.2.2
  obtain ⟨v, e16⟩ := E.2.1
  refine x_al0 rfl dX4_unit_57 ?_
  refine x_bipush (v := nI 93) dX4_unit_58 rfl ?_
  refine x_cv1V mX4_expect_ok lkX4_90 rfl (Nat.le_of_ble_eq_true rfl) (Nat.le_of_ble_eq_true rfl) dX4_unit_60 R.get  (e_expect (k := 38) (by decide) (by decide) (by decide) R E) ?_
  refine x_al0 rfl dX4_unit_63 ?_
  refine x_dup rfl dX4_unit_64 ?_
  refine x_rg R fdX4_66 (by decide) (by first | assumption | rfl) dX4_unit_65 ?_
  refine x_iconst (v := nI 1) dX4_unit_68 rfl ?_
  refine x_isub (rfl) dX4_unit_69 ?_
  refine x_rp R fdX4_66 (by decide) (by decide) (by first | exact fun _ => ⟨_, rfl⟩ | exact fun z => absurd z (by decide)) zf_i dX4_unit_70 (fun h R => ?_)
  refine x_goto (tgt := 80) dX4_unit_73 rfl ?_
  exact x_vret rfl dX4_unit_80 (hY _ _ _ _ (P.dep R))
theorem tu63 {Y : Option Value → zH → Prop} (hi : i = 5 ∨ i = 7) (P : PCe h0 h r A Q i e r' A' Q') (CT : CcE g (d + 1) h0 i mX4_truth) (hY : ∀ h r' A' Q', PCe h0 h r A Q i e r' A' Q' → Y none h) : Zw g (d + 2) 0 0 mX4_unit 63 [some (.ref 2)] [] h Y := by
  have R := P.1
  have E := P.2.2.2
  obtain ⟨v, e16⟩ := E.2.1
  refine x_al0 rfl dX4_unit_63 ?_
  refine x_dup rfl dX4_unit_64 ?_
  refine x_rg R fdX4_66 (by decide) (by first | assumption | rfl) dX4_unit_65 ?_
  refine x_iconst (v := nI 1) dX4_unit_68 rfl ?_
  refine x_isub (rfl) dX4_unit_69 ?_
  refine x_rp R fdX4_66 (by decide) (by decide) (by first | exact fun _ => ⟨_, rfl⟩ | exact fun z => absurd z (by decide)) zf_i dX4_unit_70 (fun h R => ?_)
  refine x_goto (tgt := 80) dX4_unit_73 rfl ?_
  exact x_vret rfl dX4_unit_80 (hY _ _ _ _ (P.dep R))
theorem o_unit0 (hi : i = 5 ∨ i = 7) (CC : CcM g (d + 7) X h0 i mX4_comparison 6 (fCm X (fAt0 X))) (CEU : CcE g (d + 7) h0 i mX4_unit) (CET : CcE g (d + 7) h0 i mX4_truth) : CcM g (d + 8) X h0 i mX4_unit 6 (fUn0 X) := by
  intro h r A Q p cs R O
  have e13 := O.2.1.2.2.2.1
  have tl := tok_lt _ (tkK_dom (X := X) (p := p)).2
  have t8 : tok (tkK X p) = 318 ↔ tkK X p = 18 := tok_e (k := 18) (by decide) (by decide)
  have t37 : tok (tkK X p) = 91 ↔ tkK X p = 37 := tok_e (k := 37) (by decide) (by decide)
  show Zw g (d + 8) 0 0 mX4_unit 0 [some (.ref 2)] [] h _
  refine x_al0 rfl dX4_unit_0 ?_
  refine x_rg R fdX4_57 (by decide) (by first | assumption | rfl) dX4_unit_1 ?_
  refine x_sipush (v := nI 318) dX4_unit_4 (by decide) ?_
  refine x_icmp_ne (tgt := 40) dX4_unit_7 rfl (fun q7 => ?_) (fun q7 => ?_)
  · skip
    first | (simp only [cmp_lt, cmp_gt, cmp_eq, zN_cge, zN_cle, Decidable.not_not] at q7) | (simp (disch := omega) only [zN_le, zN_lt, zN_0, zN_1, nI_toInt, zN_eq, zN_eq0, b2_z, b2_nz, Decidable.not_not, Int.not_lt, Int.not_le, zK0, zK1, zK2, zK3, zK5, zK7, zK8, zK9, zK10, zK19, zK20, zK40, zK99, zK100, zK199] at q7) | skip
    refine x_al0 rfl dX4_unit_40 ?_
    refine x_rg R fdX4_57 (by decide) (by first | assumption | rfl) dX4_unit_41 ?_
    refine x_bipush (v := nI 91) dX4_unit_44 rfl ?_
    refine x_icmp_ne (tgt := 76) dX4_unit_46 rfl (fun q46 => ?_) (fun q46 => ?_)
    · skip
      first | (simp only [cmp_lt, cmp_gt, cmp_eq, zN_cge, zN_cle, Decidable.not_not] at q46) | (simp (disch := omega) only [zN_le, zN_lt, zN_0, zN_1, nI_toInt, zN_eq, zN_eq0, b2_z, b2_nz, Decidable.not_not, Int.not_lt, Int.not_le, zK0, zK1, zK2, zK3, zK5, zK7, zK8, zK9, zK10, zK19, zK20, zK40, zK99, zK100, zK199] at q46) | skip
      refine x_al0 rfl dX4_unit_76 ?_
      refine x_cv0Vp mX4_comparison_ok lkX4_145 rfl (Nat.le_of_ble_eq_true rfl) (Nat.le_of_ble_eq_true rfl) dX4_unit_77 R.get  (CC _ _ _ _ _ _ R O) (fun h hq => ?_)
      exact x_vret rfl dX4_unit_80 ⟨rfl, by rw [show fUn0 X p = fCm X (fAt0 X) p by unfold fUn0; rw [if_neg (fun z => by rcases z with z | z; exact q7 (t8.mpr z); exact q46 (t37.mpr z))]]; exact hq⟩
    · skip
      first | (simp only [cmp_lt, cmp_gt, cmp_eq, zN_cge, zN_cle, Decidable.not_not] at q46) | (simp (disch := omega) only [zN_le, zN_lt, zN_0, zN_1, nI_toInt, zN_eq, zN_eq0, b2_z, b2_nz, Decidable.not_not, Int.not_lt, Int.not_le, zK0, zK1, zK2, zK3, zK5, zK7, zK8, zK9, zK10, zK19, zK20, zK40, zK99, zK100, zK199] at q46) | skip
      refine x_al0 rfl dX4_unit_49 ?_
      refine x_cv0Vp mX4_enter_ok lkX4_133 rfl (Nat.le_of_ble_eq_true rfl) (Nat.le_of_ble_eq_true rfl) dX4_unit_50 R.get  (o_enter0 (dp := 6) R O) (fun h hq => ?_)
      obtain ⟨r2, A2, Q2, P2⟩ := hq
      have eS : nR X (fUn0 X p) = .inl (4, tkA X p) := by unfold fUn0; rw [if_pos (Or.inr (t37.mp q46))]; rfl
      exact tu53 (d := d + 6) hi P2 CET (fun h r' A' Q' z => ⟨rfl, by rw [eS]; exact ⟨r', A', Q', z⟩⟩)
  · skip
    first | (simp only [cmp_lt, cmp_gt, cmp_eq, zN_cge, zN_cle, Decidable.not_not] at q7) | (simp (disch := omega) only [zN_le, zN_lt, zN_0, zN_1, nI_toInt, zN_eq, zN_eq0, b2_z, b2_nz, Decidable.not_not, Int.not_lt, Int.not_le, zK0, zK1, zK2, zK3, zK5, zK7, zK8, zK9, zK10, zK19, zK20, zK40, zK99, zK100, zK199] at q7) | skip
    refine x_al0 rfl dX4_unit_10 ?_
    refine x_cv0Vp mX4_enter_ok lkX4_133 rfl (Nat.le_of_ble_eq_true rfl) (Nat.le_of_ble_eq_true rfl) dX4_unit_11 R.get  (o_enter0 (dp := 6) R O) (fun h hq => ?_)
    obtain ⟨r2, A2, Q2, P2⟩ := hq
    have eS : nR X (fUn0 X p) = .inl (4, tkA X p) := by unfold fUn0; rw [if_pos (Or.inl (t8.mp q7))]; rfl
    exact tu14 (d := d + 6) hi P2 CEU (fun h r' A' Q' z => ⟨rfl, by rw [eS]; exact ⟨r', A', Q', z⟩⟩)
theorem o_unit1 (hi : i = 5 ∨ i = 7) (hu : ∀ p, p ≤ X.2 → Gl X p (u p)) (hBu : BA X u) (hdp : dp < 6) (CC : CcM g (d + 7) X h0 i mX4_comparison dp (fCm X (fAt1 X f u))) (CU : CcM g (d + 7) X h0 i mX4_unit (dp + 1) u) (CT : CcM g (d + 7) X h0 i mX4_truth (dp + 1) (fTr X u)) (CEU : CcE g (d + 7) h0 i mX4_unit) (CET : CcE g (d + 7) h0 i mX4_truth) : CcM g (d + 8) X h0 i mX4_unit dp (fUn1 X f u) := by
  intro h r A Q p cs R O
  have l0 := O.2.2.2.2.2
  have e13 := O.2.1.2.2.2.1
  have tl := tok_lt _ (tkK_dom (X := X) (p := p)).2
  have t8 : tok (tkK X p) = 318 ↔ tkK X p = 18 := tok_e (k := 18) (by decide) (by decide)
  have t37 : tok (tkK X p) = 91 ↔ tkK X p = 37 := tok_e (k := 37) (by decide) (by decide)
  show Zw g (d + 8) 0 0 mX4_unit 0 [some (.ref 2)] [] h _
  refine x_al0 rfl dX4_unit_0 ?_
  refine x_rg R fdX4_57 (by decide) (by first | assumption | rfl) dX4_unit_1 ?_
  refine x_sipush (v := nI 318) dX4_unit_4 (by decide) ?_
  refine x_icmp_ne (tgt := 40) dX4_unit_7 rfl (fun q7 => ?_) (fun q7 => ?_)
  · skip
    first | (simp only [cmp_lt, cmp_gt, cmp_eq, zN_cge, zN_cle, Decidable.not_not] at q7) | (simp (disch := omega) only [zN_le, zN_lt, zN_0, zN_1, nI_toInt, zN_eq, zN_eq0, b2_z, b2_nz, Decidable.not_not, Int.not_lt, Int.not_le, zK0, zK1, zK2, zK3, zK5, zK7, zK8, zK9, zK10, zK19, zK20, zK40, zK99, zK100, zK199] at q7) | skip
    refine x_al0 rfl dX4_unit_40 ?_
    refine x_rg R fdX4_57 (by decide) (by first | assumption | rfl) dX4_unit_41 ?_
    refine x_bipush (v := nI 91) dX4_unit_44 rfl ?_
    refine x_icmp_ne (tgt := 76) dX4_unit_46 rfl (fun q46 => ?_) (fun q46 => ?_)
    · skip
      first | (simp only [cmp_lt, cmp_gt, cmp_eq, zN_cge, zN_cle, Decidable.not_not] at q46) | (simp (disch := omega) only [zN_le, zN_lt, zN_0, zN_1, nI_toInt, zN_eq, zN_eq0, b2_z, b2_nz, Decidable.not_not, Int.not_lt, Int.not_le, zK0, zK1, zK2, zK3, zK5, zK7, zK8, zK9, zK10, zK19, zK20, zK40, zK99, zK100, zK199] at q46) | skip
      refine x_al0 rfl dX4_unit_76 ?_
      refine x_cv0Vp mX4_comparison_ok lkX4_145 rfl (Nat.le_of_ble_eq_true rfl) (Nat.le_of_ble_eq_true rfl) dX4_unit_77 R.get  (CC _ _ _ _ _ _ R O) (fun h hq => ?_)
      exact x_vret rfl dX4_unit_80 ⟨rfl, by rw [show fUn1 X f u p = fCm X (fAt1 X f u) p by unfold fUn1; rw [if_neg (fun z => q7 (t8.mpr z)), if_neg (fun z => q46 (t37.mpr z))]]; exact hq⟩
    · skip
      first | (simp only [cmp_lt, cmp_gt, cmp_eq, zN_cge, zN_cle, Decidable.not_not] at q46) | (simp (disch := omega) only [zN_le, zN_lt, zN_0, zN_1, nI_toInt, zN_eq, zN_eq0, b2_z, b2_nz, Decidable.not_not, Int.not_lt, Int.not_le, zK0, zK1, zK2, zK3, zK5, zK7, zK8, zK9, zK10, zK19, zK20, zK40, zK99, zK100, zK199] at q46) | skip
      refine x_al0 rfl dX4_unit_49 ?_
      refine x_cv0Vp mX4_enter_ok lkX4_133 rfl (Nat.le_of_ble_eq_true rfl) (Nat.le_of_ble_eq_true rfl) dX4_unit_50 R.get  (o_enter1 hdp R O) (fun h hq => ?_)
      have k37 := t37.mp q46
      have hE : nR X (fUn1 X f u p) = apR [] (nR X (sqR (fTr X u (tkB X p)) (waR X 38))) := by unfold fUn1; rw [if_neg (by omega), if_pos k37, apR_nil]
      have hbad : tkK X (tkB X p) = 25 → nR X (fUn1 X f u p) = .inl (1, tkA X (tkB X p)) := fun z => by rw [hE, apR_nil]; exact (BA.sq hBu.tr).bd _ z
      generalize nR X (fUn1 X f u p) = S at hE hbad ⊢
      cases e0 : nR X (.inr (tkB X p, [])) with
      | inl e9 =>
        rw [e0] at hq
        obtain ⟨r2, A2, Q2, P2⟩ := hq
        obtain ⟨kb, rfl⟩ := nR_bt e0
        exact tu53 (d := d + 6) hi P2 CET (fun h r' A' Q' z => ⟨rfl, by rw [hbad kb]; exact ⟨r', A', Q', z⟩⟩)
      | inr q0 =>
        rw [e0] at hq
        obtain ⟨rfl, k0⟩ := nR_ot e0
        obtain ⟨r2, A2, Q2, P⟩ := hq
        change PCa _ _ _ _ _ _ _ _ (tkB X p) (cs ++ []) _ _ _ at P
        have R := P.1
        have O := P.2.2.2
        refine x_al0 rfl dX4_unit_53 ?_
        refine x_cv0Vp mX4_truth_ok lkX4_116 rfl (Nat.le_of_ble_eq_true rfl) (Nat.le_of_ble_eq_true rfl) dX4_unit_54 R.get  (CT _ _ _ _ _ _ R O) (fun h hq => ?_)
        have PR := P.tn hq
        cases e1 : nR X (fTr X u (tkB X p)) with
        | inl e9 =>
          rw [e1] at PR
          obtain ⟨r2, A2, Q2, P2⟩ := PR
          exact tu57 (d := d + 6) hi P2 CET (fun h r' A' Q' z => ⟨rfl, by rw [stN_e hE (BA.wa (by decide)).bd e1]; exact ⟨r', A', Q', z⟩⟩)
        | inr q1 =>
          rw [e1] at PR
          obtain ⟨r2, A2, Q2, P⟩ := PR
          change PCa _ _ _ _ _ _ _ _ q1.1 (cs ++ ([] ++ q1.2)) _ _ _ at P
          replace hE := stN_o hE e1
          have R := P.1
          have O := P.2.2.2
          refine x_al0 rfl dX4_unit_57 ?_
          refine x_bipush (v := nI 93) dX4_unit_58 rfl ?_
          refine x_cv1Vp mX4_expect_ok lkX4_90 rfl (Nat.le_of_ble_eq_true rfl) (Nat.le_of_ble_eq_true rfl) dX4_unit_60 R.get  (o_expect (k := 38) (by decide) (by decide) (by decide) R O) (fun h hq => ?_)
          have PR := P.tn hq
          cases e2 : nR X (waR X 38 q1.1) with
          | inl e9 =>
            rw [e2] at PR
            obtain ⟨r2, A2, Q2, P2⟩ := PR
            exact tu63 (d := d + 6) hi P2 CET (fun h r' A' Q' z => ⟨rfl, by rw [hE, e2]; exact ⟨r', A', Q', z⟩⟩)
          | inr q2 =>
            rw [e2] at PR
            obtain ⟨r2, A2, Q2, P⟩ := PR
            change PCa _ _ _ _ _ _ _ _ q2.1 (cs ++ ([] ++ q1.2 ++ q2.2)) _ _ _ at P
            have R := P.1
            have O := P.2.2.2
            refine x_al0 rfl dX4_unit_63 ?_
            refine x_dup rfl dX4_unit_64 ?_
            refine x_rg R fdX4_66 (by decide) (O.2.2.1) dX4_unit_65 ?_
            refine x_iconst (v := nI 1) dX4_unit_68 rfl ?_
            refine x_isub ((show nI (dp + 1) - nI 1 = nI dp by rw [pk_sub (by omega)]; rfl)) dX4_unit_69 ?_
            refine x_rp R fdX4_66 (by decide) (by decide) (by first | exact fun _ => ⟨_, rfl⟩ | exact fun z => absurd z (by decide)) zf_i dX4_unit_70 (fun h R => ?_)
            refine x_goto (tgt := 80) dX4_unit_73 rfl ?_
            exact x_vret rfl dX4_unit_80 ⟨rfl, by rw [hE, e2]; exact ⟨_, A2, Q2, P.dep R⟩⟩
  · skip
    first | (simp only [cmp_lt, cmp_gt, cmp_eq, zN_cge, zN_cle, Decidable.not_not] at q7) | (simp (disch := omega) only [zN_le, zN_lt, zN_0, zN_1, nI_toInt, zN_eq, zN_eq0, b2_z, b2_nz, Decidable.not_not, Int.not_lt, Int.not_le, zK0, zK1, zK2, zK3, zK5, zK7, zK8, zK9, zK10, zK19, zK20, zK40, zK99, zK100, zK199] at q7) | skip
    refine x_al0 rfl dX4_unit_10 ?_
    refine x_cv0Vp mX4_enter_ok lkX4_133 rfl (Nat.le_of_ble_eq_true rfl) (Nat.le_of_ble_eq_true rfl) dX4_unit_11 R.get  (o_enter1 hdp R O) (fun h hq => ?_)
    have k18 := t8.mp q7
    have hE : nR X (fUn1 X f u p) = apR [] (nR X (sqR (u (tkB X p)) (emR 3006))) := by unfold fUn1; rw [if_pos k18, apR_nil]
    have hbad : tkK X (tkB X p) = 25 → nR X (fUn1 X f u p) = .inl (1, tkA X (tkB X p)) := fun z => by rw [hE, apR_nil]; exact (BA.sq hBu).bd _ z
    have b := tkA_B O.2.1.2.1 (by omega)
    have hGn : ∀ q, nR X (fUn1 X f u p) = .inr q → q.2.length + tkA X p ≤ tkA X q.1 := fun q z => by
      have hG : Gl X p (fUn1 X f u p) := by unfold fUn1; rw [if_pos k18]; exact (hu _ b.2).bump b.1
      rw [(nR_o z).1] at hG
      exact hG.2
    generalize nR X (fUn1 X f u p) = S at hE hbad hGn ⊢
    cases e0 : nR X (.inr (tkB X p, [])) with
    | inl e9 =>
      rw [e0] at hq
      obtain ⟨r2, A2, Q2, P2⟩ := hq
      obtain ⟨kb, rfl⟩ := nR_bt e0
      exact tu14 (d := d + 6) hi P2 CEU (fun h r' A' Q' z => ⟨rfl, by rw [hbad kb]; exact ⟨r', A', Q', z⟩⟩)
    | inr q0 =>
      rw [e0] at hq
      obtain ⟨rfl, k0⟩ := nR_ot e0
      obtain ⟨r2, A2, Q2, P⟩ := hq
      change PCa _ _ _ _ _ _ _ _ (tkB X p) (cs ++ []) _ _ _ at P
      have R := P.1
      have O := P.2.2.2
      refine x_al0 rfl dX4_unit_14 ?_
      refine x_cv0Vp mX4_unit_ok lkX4_142 rfl (Nat.le_of_ble_eq_true rfl) (Nat.le_of_ble_eq_true rfl) dX4_unit_15 R.get  (CU _ _ _ _ _ _ R O) (fun h hq => ?_)
      have PR := P.tn hq
      cases e1 : nR X (u (tkB X p)) with
      | inl e9 =>
        rw [e1] at PR
        obtain ⟨r2, A2, Q2, P2⟩ := PR
        exact tu18 (d := d + 6) hi P2 CEU (fun h r' A' Q' z => ⟨rfl, by rw [stN_e hE BD.em e1]; exact ⟨r', A', Q', z⟩⟩)
      | inr q1 =>
        rw [e1] at PR
        obtain ⟨r2, A2, Q2, P⟩ := PR
        change PCa _ _ _ _ _ _ _ _ q1.1 (cs ++ ([] ++ q1.2)) _ _ _ at P
        replace hE := stN_o hE e1
        have R := P.1
        have O := P.2.2.2
        refine x_al0 rfl dX4_unit_18 ?_
        refine x_dup rfl dX4_unit_19 ?_
        refine x_rg R fdX4_66 (by decide) (O.2.2.1) dX4_unit_20 ?_
        refine x_iconst (v := nI 1) dX4_unit_23 rfl ?_
        refine x_isub ((show nI (dp + 1) - nI 1 = nI dp by rw [pk_sub (by omega)]; rfl)) dX4_unit_24 ?_
        refine x_rp R fdX4_66 (by decide) (by decide) (by first | exact fun _ => ⟨_, rfl⟩ | exact fun z => absurd z (by decide)) zf_i dX4_unit_25 (fun h R => ?_)
        have P := P.dep R
        have eS : S = .inr (q1.1, ([] ++ q1.2) ++ [3006]) := by rw [hE, show emR 3006 q1.1 = .inr (q1.1, [3006]) from rfl, nR_r (q := (q1.1, [3006])) (nR_o e1).2]; rfl
        have hl := hGn _ eS
        simp only [List.length_append, List.length_cons, List.length_nil] at hl
        refine x_al0 rfl dX4_unit_28 ?_
        refine x_rg R fdX4_69 (by decide) (O.2.2.2.1) dX4_unit_29 ?_
        refine x_bipush (v := (-14)) dX4_unit_32 rfl ?_
        refine x_cv1Vp mX1_add_ok lkX4_124 rfl (Nat.le_of_ble_eq_true rfl) (Nat.le_of_ble_eq_true rfl) dX4_unit_34 (R.dq  hi).1 (o_add (c := 3006) (by simp [cl]) hi P (by simp only [List.length_append, List.length_nil]; omega) (Or.inr (by decide))) (fun h hq => ?_)
        refine x_goto (tgt := 80) dX4_unit_37 rfl ?_
        obtain ⟨A9, Q9, P9⟩ := hq
        exact x_vret rfl dX4_unit_80 ⟨rfl, by rw [eS]; exact ⟨_, A9, Q9, by rw [← List.append_assoc]; exact P9⟩⟩
theorem e_sumA : CcE g (d + 3) h0 i mX4_sum := e_sum (e_term e_atom)
theorem e_unitA : CcE g (d + 5) h0 i mX4_unit := e_unitC (d := d + 3) (e_cmpC (d := d + 2) e_sumA)
theorem e_truthA : CcE g (d + 7) h0 i mX4_truth := e_truth (d := d + 5) (e_both (d := d + 4) e_unitA)
theorem lvC (hi : i = 5 ∨ i = 7) : ∀ k, k ≤ 6 → CcM g (d + 12 + 8 * k) X h0 i mX4_sum (6 - k) (fSm X (fLv X k).1) ∧ CcM g (d + 16 + 8 * k) X h0 i mX4_truth (6 - k) (fTr X (fLv X k).2) ∧ CcM g (d + 14 + 8 * k) X h0 i mX4_unit (6 - k) (fLv X k).2 := by
  intro k
  induction k with
  | zero =>
    intro _
    have hf : ∀ p, p ≤ X.2 → Gl X p (fAt0 X p) := fun p hp => Gl.a1 (k := 0) hp
    have hu : ∀ p, p ≤ X.2 → Gl X p (fUn0 X p) := fun p hp => Gl.u1 (k := 0) hp
    have a0 : CcM g (d + 10) X h0 i mX4_atom 6 (fAt0 X) := o_atom0 (d := d + 2) hi (e_sumA (d := d + 5)) (e_truthA (d := d + 1))
    have t0 : CcM g (d + 11) X h0 i mX4_term 6 (fTm X (fAt0 X)) := o_term (d := d + 4) hi hf BA.a0 a0 (e_atom (d := d + 9))
    have s0 : CcM g (d + 12) X h0 i mX4_sum 6 (fSm X (fAt0 X)) := o_sum (d := d + 5) hi (fun p hp => Gl.tm hf hp) BA.a0.tm t0 (e_term (d := d + 9) e_atom)
    have c0 : CcM g (d + 13) X h0 i mX4_comparison 6 (fCm X (fAt0 X)) := o_cmpC (d := d + 6) hi hf BA.a0 s0 (e_sumA (d := d + 9))
    have u0 : CcM g (d + 14) X h0 i mX4_unit 6 (fUn0 X) := o_unit0 (d := d + 6) hi c0 (e_unitA (d := d + 8)) (e_truthA (d := d + 6))
    have b0 : CcM g (d + 15) X h0 i mX4_both 6 (fBo X (fUn0 X)) := o_both (d := d + 8) hi hu BA.u0 u0 (e_unitA (d := d + 9))
    exact ⟨s0, o_truth (d := d + 9) hi (fun p hp => Gl.bo hu hp) BA.u0.bo b0 (e_both (d := d + 13) (e_unitA (d := d + 9))), u0⟩
  | succ k ih =>
    intro hk
    obtain ⟨i1, i2, i3⟩ := ih (by omega)
    have hf : ∀ p, p ≤ X.2 → Gl X p ((fLv X k).1 p) := fun p hp => Gl.a1 hp
    have hu : ∀ p, p ≤ X.2 → Gl X p ((fLv X k).2 p) := fun p hp => Gl.u1 hp
    have hf1 : ∀ p, p ≤ X.2 → Gl X p ((fLv X (k + 1)).1 p) := fun p hp => Gl.a1 hp
    have hu1 : ∀ p, p ≤ X.2 → Gl X p ((fLv X (k + 1)).2 p) := fun p hp => Gl.u1 hp
    have hbf := (BA.lv (X := X) k).1
    have hbu := (BA.lv (X := X) k).2
    have hbf1 := (BA.lv (X := X) (k + 1)).1
    have hbu1 := (BA.lv (X := X) (k + 1)).2
    have e6 : 6 - (k + 1) + 1 = 6 - k := by omega
    rw [← e6] at i1 i2 i3
    generalize 6 - (k + 1) = dp at i1 i2 i3 e6 ⊢
    have hdp : dp < 6 := by omega
    have a1 : CcM g (d + 8 * k + 18) X h0 i mX4_atom dp (fLv X (k + 1)).1 := o_atom1 (d := d + 8 * k + 10) hi hf hu hbf hbu hdp (i1.deep (by omega)) (i2.deep (by omega)) ((e_sumA (d := 0)).deep (by omega)) ((e_truthA (d := 0)).deep (by omega))
    have t1 : CcM g (d + 8 * k + 19) X h0 i mX4_term dp (fTm X (fLv X (k + 1)).1) := o_term (d := d + 8 * k + 12) hi hf1 hbf1 a1 ((e_atom (d := 0)).deep (by omega))
    have s1 : CcM g (d + 8 * k + 20) X h0 i mX4_sum dp (fSm X (fLv X (k + 1)).1) := o_sum (d := d + 8 * k + 13) hi (fun p hp => Gl.tm hf1 hp) hbf1.tm t1 ((e_term (d := 0) e_atom).deep (by omega))
    have c1 : CcM g (d + 8 * k + 21) X h0 i mX4_comparison dp (fCm X (fLv X (k + 1)).1) := o_cmpC (d := d + 8 * k + 14) hi hf1 hbf1 s1 ((e_sumA (d := 0)).deep (by omega))
    have u1 : CcM g (d + 8 * k + 22) X h0 i mX4_unit dp (fLv X (k + 1)).2 := o_unit1 (d := d + 8 * k + 14) hi hu hbu hdp c1 (i3.deep (by omega)) (i2.deep (by omega)) ((e_unitA (d := 0)).deep (by omega)) ((e_truthA (d := 0)).deep (by omega))
    have b1 : CcM g (d + 8 * k + 23) X h0 i mX4_both dp (fBo X (fLv X (k + 1)).2) := o_both (d := d + 8 * k + 16) hi hu1 hbu1 u1 ((e_unitA (d := 0)).deep (by omega))
    have r1 : CcM g (d + 8 * k + 24) X h0 i mX4_truth dp (fTr X (fLv X (k + 1)).2) := o_truth (d := d + 8 * k + 17) hi (fun p hp => Gl.bo hu1 hp) hbu1.bo b1 ((e_both (d := 4) (e_unitA (d := 0))).deep (by omega))
    exact ⟨s1.deep (by omega), r1.deep (by omega), u1.deep (by omega)⟩
end ZCu

