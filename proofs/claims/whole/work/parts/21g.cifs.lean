/-! the class reads what stands within others -/
section ZCi
variable {g : zG} {d : Nat} {h0 h h' : zH} {r r' r2 : Nat → Value} {A A' : Nat → Nat → Int32} {Q Q' : Nat → zS3} {X : zX} {k p p1 q i dp dq : Nat} {e : Nat × Nat} {cs c1 : List Nat} {S : zR} {f u φ ψ : Nat → zR}
theorem stN_e (hE : S = apR c1 (nR X (sqR (φ p1) ψ))) (hB : BD X ψ) (h : nR X (φ p1) = .inl e) : S = .inl e := by rw [hE, nR_e hB h]; rfl
theorem stN_o {q : Nat × List Nat} (hE : S = apR c1 (nR X (sqR (φ p1) ψ))) (h : nR X (φ p1) = .inr q) : S = apR (c1 ++ q.2) (nR X (ψ q.1)) := by rw [hE, nR_s h, apR_ap]
theorem BA.i1 : BA X (fI1 X f) := (BA.wa (by decide)).sq
theorem BA.i2 (h : BA X f) : BA X (fI2 X f) := h.sm.sq
theorem BA.i3 : BA X (fI3 X f) := (BA.wa (by decide)).sq
theorem BA.i4 (h : BA X f) : BA X (fI4 X f) := h.sm.sq
theorem BA.i5 : BA X (fI5 X) := (BA.wa (by decide)).sq
theorem BA.fi (h : BA X u) : BA X (fIf X f u) := h.tr.sq
theorem nR_bt (z1 : nR X (.inr (p, [])) = .inl e) : tkK X p = 25 ∧ e = (1, tkA X p) := by
  have kb : tkK X p = 25 := Decidable.byContradiction (fun y => by rw [nR_r y] at z1; cases z1)
  rw [nR_b kb] at z1
  exact ⟨kb, (Sum.inl.inj z1).symm⟩
theorem nR_ot {q : Nat × List Nat} (z1 : nR X (.inr (p, [])) = .inr q) : q = (p, []) ∧ tkK X p ≠ 25 := by
  obtain ⟨a, b⟩ := nR_o z1
  obtain rfl := Sum.inr.inj a
  exact ⟨rfl, b⟩
theorem o_leafX {c : Nat} {x : Int32} (hx : cl c = x) (hi : i = 5 ∨ i = 7) (hK : tkK X p ≠ 24) (hc : vcd c) (R : RW h0 h r A Q) (O : CO X h0 r A Q i dp p cs) : Zm g (d + 6) 0 0 mX4_leaf [.ref 2, .int x] h (rVp (fun h' => PC X h0 h' r A Q i dp cs (nR X (.inr (tkB X p, [c]))))) := by
  subst hx
  exact o_leaf hi hK hc R O
theorem tc4 {Y : Option Value → zH → Prop} (hi : i = 5 ∨ i = 7) (P : PCe h0 h r A Q i e r' A' Q') (CS : CcE g (d + 1) h0 i mX4_sum) (CT : CcE g (d + 1) h0 i mX4_truth) (hY : ∀ h r' A' Q', PCe h0 h r A Q i e r' A' Q' → Y none h) : Zw g (d + 2) 0 0 mX4_choice 4 [some (.ref 2)] [] h Y := by
  have R := P.1
  have E := P.2.2.2
  obtain ⟨v, e16⟩ := E.2.1
  have e17 := E.2.2.1
  refine x_al0 rfl dX4_choice_4 ?_
  refine x_cv0V mX4_truth_ok lkX4_116 rfl (Nat.le_of_ble_eq_true rfl) (Nat.le_of_ble_eq_true rfl) dX4_choice_5 R.get  (CT _ _ _ _ _ R E) ?_
  refine x_al0 rfl dX4_choice_8 ?_
  refine x_sipush (v := nI 309) dX4_choice_9 (by decide) ?_
  refine x_cv1V mX4_expect_ok lkX4_90 rfl (Nat.le_of_ble_eq_true rfl) (Nat.le_of_ble_eq_true rfl) dX4_choice_12 R.get  (e_expect (k := 9) (by decide) (by decide) (by decide) R E) ?_
  refine x_al0 rfl dX4_choice_15 ?_
  refine x_cv0V mX4_sum_ok lkX4_113 rfl (Nat.le_of_ble_eq_true rfl) (Nat.le_of_ble_eq_true rfl) dX4_choice_16 R.get  (CS _ _ _ _ _ R E) ?_
  refine x_al0 rfl dX4_choice_19 ?_
  refine x_sipush (v := nI 310) dX4_choice_20 (by decide) ?_
  refine x_cv1V mX4_expect_ok lkX4_90 rfl (Nat.le_of_ble_eq_true rfl) (Nat.le_of_ble_eq_true rfl) dX4_choice_23 R.get  (e_expect (k := 10) (by decide) (by decide) (by decide) R E) ?_
  refine x_al0 rfl dX4_choice_26 ?_
  refine x_cv0V mX4_sum_ok lkX4_113 rfl (Nat.le_of_ble_eq_true rfl) (Nat.le_of_ble_eq_true rfl) dX4_choice_27 R.get  (CS _ _ _ _ _ R E) ?_
  refine x_al0 rfl dX4_choice_30 ?_
  refine x_sipush (v := nI 311) dX4_choice_31 (by decide) ?_
  refine x_cv1V mX4_expect_ok lkX4_90 rfl (Nat.le_of_ble_eq_true rfl) (Nat.le_of_ble_eq_true rfl) dX4_choice_34 R.get  (e_expect (k := 11) (by decide) (by decide) (by decide) R E) ?_
  refine x_al0 rfl dX4_choice_37 ?_
  refine x_dup rfl dX4_choice_38 ?_
  refine x_rg R fdX4_66 (by decide) (by first | assumption | rfl) dX4_choice_39 ?_
  refine x_iconst (v := nI 1) dX4_choice_42 rfl ?_
  refine x_isub (rfl) dX4_choice_43 ?_
  refine x_rp R fdX4_66 (by decide) (by decide) (by first | exact fun _ => ⟨_, rfl⟩ | exact fun z => absurd z (by decide)) zf_i dX4_choice_44 (fun h R => ?_)
  refine x_al0 rfl dX4_choice_47 ?_
  refine x_rg R fdX4_69 (by decide) (by first | assumption | rfl) dX4_choice_48 ?_
  refine x_bipush (v := (-15)) dX4_choice_51 rfl ?_
  refine x_cv1Vp mX1_add_ok lkX4_124 rfl (Nat.le_of_ble_eq_true rfl) (Nat.le_of_ble_eq_true rfl) dX4_choice_53 (R.dq  hi).1 (e_add hi (P.dep R)) (fun h hq => ?_)
  obtain ⟨A2, Q2, P2⟩ := hq
  exact x_vret rfl dX4_choice_56 (hY _ _ _ _ P2)
theorem tc8 {Y : Option Value → zH → Prop} (hi : i = 5 ∨ i = 7) (P : PCe h0 h r A Q i e r' A' Q') (CS : CcE g (d + 1) h0 i mX4_sum) (CT : CcE g (d + 1) h0 i mX4_truth) (hY : ∀ h r' A' Q', PCe h0 h r A Q i e r' A' Q' → Y none h) : Zw g (d + 2) 0 0 mX4_choice 8 [some (.ref 2)] [] h Y := by
  have R := P.1
  have E := P.2.2.2
  obtain ⟨v, e16⟩ := E.2.1
  have e17 := E.2.2.1
  refine x_al0 rfl dX4_choice_8 ?_
  refine x_sipush (v := nI 309) dX4_choice_9 (by decide) ?_
  refine x_cv1V mX4_expect_ok lkX4_90 rfl (Nat.le_of_ble_eq_true rfl) (Nat.le_of_ble_eq_true rfl) dX4_choice_12 R.get  (e_expect (k := 9) (by decide) (by decide) (by decide) R E) ?_
  refine x_al0 rfl dX4_choice_15 ?_
  refine x_cv0V mX4_sum_ok lkX4_113 rfl (Nat.le_of_ble_eq_true rfl) (Nat.le_of_ble_eq_true rfl) dX4_choice_16 R.get  (CS _ _ _ _ _ R E) ?_
  refine x_al0 rfl dX4_choice_19 ?_
  refine x_sipush (v := nI 310) dX4_choice_20 (by decide) ?_
  refine x_cv1V mX4_expect_ok lkX4_90 rfl (Nat.le_of_ble_eq_true rfl) (Nat.le_of_ble_eq_true rfl) dX4_choice_23 R.get  (e_expect (k := 10) (by decide) (by decide) (by decide) R E) ?_
  refine x_al0 rfl dX4_choice_26 ?_
  refine x_cv0V mX4_sum_ok lkX4_113 rfl (Nat.le_of_ble_eq_true rfl) (Nat.le_of_ble_eq_true rfl) dX4_choice_27 R.get  (CS _ _ _ _ _ R E) ?_
  refine x_al0 rfl dX4_choice_30 ?_
  refine x_sipush (v := nI 311) dX4_choice_31 (by decide) ?_
  refine x_cv1V mX4_expect_ok lkX4_90 rfl (Nat.le_of_ble_eq_true rfl) (Nat.le_of_ble_eq_true rfl) dX4_choice_34 R.get  (e_expect (k := 11) (by decide) (by decide) (by decide) R E) ?_
  refine x_al0 rfl dX4_choice_37 ?_
  refine x_dup rfl dX4_choice_38 ?_
  refine x_rg R fdX4_66 (by decide) (by first | assumption | rfl) dX4_choice_39 ?_
  refine x_iconst (v := nI 1) dX4_choice_42 rfl ?_
  refine x_isub (rfl) dX4_choice_43 ?_
  refine x_rp R fdX4_66 (by decide) (by decide) (by first | exact fun _ => ⟨_, rfl⟩ | exact fun z => absurd z (by decide)) zf_i dX4_choice_44 (fun h R => ?_)
  refine x_al0 rfl dX4_choice_47 ?_
  refine x_rg R fdX4_69 (by decide) (by first | assumption | rfl) dX4_choice_48 ?_
  refine x_bipush (v := (-15)) dX4_choice_51 rfl ?_
  refine x_cv1Vp mX1_add_ok lkX4_124 rfl (Nat.le_of_ble_eq_true rfl) (Nat.le_of_ble_eq_true rfl) dX4_choice_53 (R.dq  hi).1 (e_add hi (P.dep R)) (fun h hq => ?_)
  obtain ⟨A2, Q2, P2⟩ := hq
  exact x_vret rfl dX4_choice_56 (hY _ _ _ _ P2)
theorem tc15 {Y : Option Value → zH → Prop} (hi : i = 5 ∨ i = 7) (P : PCe h0 h r A Q i e r' A' Q') (CS : CcE g (d + 1) h0 i mX4_sum) (CT : CcE g (d + 1) h0 i mX4_truth) (hY : ∀ h r' A' Q', PCe h0 h r A Q i e r' A' Q' → Y none h) : Zw g (d + 2) 0 0 mX4_choice 15 [some (.ref 2)] [] h Y := by
  have R := P.1
  have E := P.2.2.2
  obtain ⟨v, e16⟩ := E.2.1
  have e17 := E.2.2.1
  refine x_al0 rfl dX4_choice_15 ?_
  refine x_cv0V mX4_sum_ok lkX4_113 rfl (Nat.le_of_ble_eq_true rfl) (Nat.le_of_ble_eq_true rfl) dX4_choice_16 R.get  (CS _ _ _ _ _ R E) ?_
  refine x_al0 rfl dX4_choice_19 ?_
  refine x_sipush (v := nI 310) dX4_choice_20 (by decide) ?_
  refine x_cv1V mX4_expect_ok lkX4_90 rfl (Nat.le_of_ble_eq_true rfl) (Nat.le_of_ble_eq_true rfl) dX4_choice_23 R.get  (e_expect (k := 10) (by decide) (by decide) (by decide) R E) ?_
  refine x_al0 rfl dX4_choice_26 ?_
  refine x_cv0V mX4_sum_ok lkX4_113 rfl (Nat.le_of_ble_eq_true rfl) (Nat.le_of_ble_eq_true rfl) dX4_choice_27 R.get  (CS _ _ _ _ _ R E) ?_
  refine x_al0 rfl dX4_choice_30 ?_
  refine x_sipush (v := nI 311) dX4_choice_31 (by decide) ?_
  refine x_cv1V mX4_expect_ok lkX4_90 rfl (Nat.le_of_ble_eq_true rfl) (Nat.le_of_ble_eq_true rfl) dX4_choice_34 R.get  (e_expect (k := 11) (by decide) (by decide) (by decide) R E) ?_
  refine x_al0 rfl dX4_choice_37 ?_
  refine x_dup rfl dX4_choice_38 ?_
  refine x_rg R fdX4_66 (by decide) (by first | assumption | rfl) dX4_choice_39 ?_
  refine x_iconst (v := nI 1) dX4_choice_42 rfl ?_
  refine x_isub (rfl) dX4_choice_43 ?_
  refine x_rp R fdX4_66 (by decide) (by decide) (by first | exact fun _ => ⟨_, rfl⟩ | exact fun z => absurd z (by decide)) zf_i dX4_choice_44 (fun h R => ?_)
  refine x_al0 rfl dX4_choice_47 ?_
  refine x_rg R fdX4_69 (by decide) (by first | assumption | rfl) dX4_choice_48 ?_
  refine x_bipush (v := (-15)) dX4_choice_51 rfl ?_
  refine x_cv1Vp mX1_add_ok lkX4_124 rfl (Nat.le_of_ble_eq_true rfl) (Nat.le_of_ble_eq_true rfl) dX4_choice_53 (R.dq  hi).1 (e_add hi (P.dep R)) (fun h hq => ?_)
  obtain ⟨A2, Q2, P2⟩ := hq
  exact x_vret rfl dX4_choice_56 (hY _ _ _ _ P2)
theorem tc19 {Y : Option Value → zH → Prop} (hi : i = 5 ∨ i = 7) (P : PCe h0 h r A Q i e r' A' Q') (CS : CcE g (d + 1) h0 i mX4_sum) (CT : CcE g (d + 1) h0 i mX4_truth) (hY : ∀ h r' A' Q', PCe h0 h r A Q i e r' A' Q' → Y none h) : Zw g (d + 2) 0 0 mX4_choice 19 [some (.ref 2)] [] h Y := by
  have R := P.1
  have E := P.2.2.2
  obtain ⟨v, e16⟩ := E.2.1
  have e17 := E.2.2.1
  refine x_al0 rfl dX4_choice_19 ?_
  refine x_sipush (v := nI 310) dX4_choice_20 (by decide) ?_
  refine x_cv1V mX4_expect_ok lkX4_90 rfl (Nat.le_of_ble_eq_true rfl) (Nat.le_of_ble_eq_true rfl) dX4_choice_23 R.get  (e_expect (k := 10) (by decide) (by decide) (by decide) R E) ?_
  refine x_al0 rfl dX4_choice_26 ?_
  refine x_cv0V mX4_sum_ok lkX4_113 rfl (Nat.le_of_ble_eq_true rfl) (Nat.le_of_ble_eq_true rfl) dX4_choice_27 R.get  (CS _ _ _ _ _ R E) ?_
  refine x_al0 rfl dX4_choice_30 ?_
  refine x_sipush (v := nI 311) dX4_choice_31 (by decide) ?_
  refine x_cv1V mX4_expect_ok lkX4_90 rfl (Nat.le_of_ble_eq_true rfl) (Nat.le_of_ble_eq_true rfl) dX4_choice_34 R.get  (e_expect (k := 11) (by decide) (by decide) (by decide) R E) ?_
  refine x_al0 rfl dX4_choice_37 ?_
  refine x_dup rfl dX4_choice_38 ?_
  refine x_rg R fdX4_66 (by decide) (by first | assumption | rfl) dX4_choice_39 ?_
  refine x_iconst (v := nI 1) dX4_choice_42 rfl ?_
  refine x_isub (rfl) dX4_choice_43 ?_
  refine x_rp R fdX4_66 (by decide) (by decide) (by first | exact fun _ => ⟨_, rfl⟩ | exact fun z => absurd z (by decide)) zf_i dX4_choice_44 (fun h R => ?_)
  refine x_al0 rfl dX4_choice_47 ?_
  refine x_rg R fdX4_69 (by decide) (by first | assumption | rfl) dX4_choice_48 ?_
  refine x_bipush (v := (-15)) dX4_choice_51 rfl ?_
  refine x_cv1Vp mX1_add_ok lkX4_124 rfl (Nat.le_of_ble_eq_true rfl) (Nat.le_of_ble_eq_true rfl) dX4_choice_53 (R.dq  hi).1 (e_add hi (P.dep R)) (fun h hq => ?_)
  obtain ⟨A2, Q2, P2⟩ := hq
  exact x_vret rfl dX4_choice_56 (hY _ _ _ _ P2)
theorem tc26 {Y : Option Value → zH → Prop} (hi : i = 5 ∨ i = 7) (P : PCe h0 h r A Q i e r' A' Q') (CS : CcE g (d + 1) h0 i mX4_sum) (CT : CcE g (d + 1) h0 i mX4_truth) (hY : ∀ h r' A' Q', PCe h0 h r A Q i e r' A' Q' → Y none h) : Zw g (d + 2) 0 0 mX4_choice 26 [some (.ref 2)] [] h Y := by
  have R := P.1
  have E := P.2.2.2
  obtain ⟨v, e16⟩ := E.2.1
  have e17 := E.2.2.1
  refine x_al0 rfl dX4_choice_26 ?_
  refine x_cv0V mX4_sum_ok lkX4_113 rfl (Nat.le_of_ble_eq_true rfl) (Nat.le_of_ble_eq_true rfl) dX4_choice_27 R.get  (CS _ _ _ _ _ R E) ?_
  refine x_al0 rfl dX4_choice_30 ?_
  refine x_sipush (v := nI 311) dX4_choice_31 (by decide) ?_
  refine x_cv1V mX4_expect_ok lkX4_90 rfl (Nat.le_of_ble_eq_true rfl) (Nat.le_of_ble_eq_true rfl) dX4_choice_34 R.get  (e_expect (k := 11) (by decide) (by decide) (by decide) R E) ?_
  refine x_al0 rfl dX4_choice_37 ?_
  refine x_dup rfl dX4_choice_38 ?_
  refine x_rg R fdX4_66 (by decide) (by first | assumption | rfl) dX4_choice_39 ?_
  refine x_iconst (v := nI 1) dX4_choice_42 rfl ?_
  refine x_isub (rfl) dX4_choice_43 ?_
  refine x_rp R fdX4_66 (by decide) (by decide) (by first | exact fun _ => ⟨_, rfl⟩ | exact fun z => absurd z (by decide)) zf_i dX4_choice_44 (fun h R => ?_)
  refine x_al0 rfl dX4_choice_47 ?_
  refine x_rg R fdX4_69 (by decide) (by first | assumption | rfl) dX4_choice_48 ?_
  refine x_bipush (v := (-15)) dX4_choice_51 rfl ?_
  refine x_cv1Vp mX1_add_ok lkX4_124 rfl (Nat.le_of_ble_eq_true rfl) (Nat.le_of_ble_eq_true rfl) dX4_choice_53 (R.dq  hi).1 (e_add hi (P.dep R)) (fun h hq => ?_)
  obtain ⟨A2, Q2, P2⟩ := hq
  exact x_vret rfl dX4_choice_56 (hY _ _ _ _ P2)
theorem tc30 {Y : Option Value → zH → Prop} (hi : i = 5 ∨ i = 7) (P : PCe h0 h r A Q i e r' A' Q') (CS : CcE g (d + 1) h0 i mX4_sum) (CT : CcE g (d + 1) h0 i mX4_truth) (hY : ∀ h r' A' Q', PCe h0 h r A Q i e r' A' Q' → Y none h) : Zw g (d + 2) 0 0 mX4_choice 30 [some (.ref 2)] [] h Y := by
  have R := P.1
  have E := P.2.2.2
  obtain ⟨v, e16⟩ := E.2.1
  have e17 := E.2.2.1
  refine x_al0 rfl dX4_choice_30 ?_
  refine x_sipush (v := nI 311) dX4_choice_31 (by decide) ?_
  refine x_cv1V mX4_expect_ok lkX4_90 rfl (Nat.le_of_ble_eq_true rfl) (Nat.le_of_ble_eq_true rfl) dX4_choice_34 R.get  (e_expect (k := 11) (by decide) (by decide) (by decide) R E) ?_
  refine x_al0 rfl dX4_choice_37 ?_
  refine x_dup rfl dX4_choice_38 ?_
  refine x_rg R fdX4_66 (by decide) (by first | assumption | rfl) dX4_choice_39 ?_
  refine x_iconst (v := nI 1) dX4_choice_42 rfl ?_
  refine x_isub (rfl) dX4_choice_43 ?_
  refine x_rp R fdX4_66 (by decide) (by decide) (by first | exact fun _ => ⟨_, rfl⟩ | exact fun z => absurd z (by decide)) zf_i dX4_choice_44 (fun h R => ?_)
  refine x_al0 rfl dX4_choice_47 ?_
  refine x_rg R fdX4_69 (by decide) (by first | assumption | rfl) dX4_choice_48 ?_
  refine x_bipush (v := (-15)) dX4_choice_51 rfl ?_
  refine x_cv1Vp mX1_add_ok lkX4_124 rfl (Nat.le_of_ble_eq_true rfl) (Nat.le_of_ble_eq_true rfl) dX4_choice_53 (R.dq  hi).1 (e_add hi (P.dep R)) (fun h hq => ?_)
  obtain ⟨A2, Q2, P2⟩ := hq
  exact x_vret rfl dX4_choice_56 (hY _ _ _ _ P2)
theorem tc37 {Y : Option Value → zH → Prop} (hi : i = 5 ∨ i = 7) (P : PCe h0 h r A Q i e r' A' Q') (CS : CcE g (d + 1) h0 i mX4_sum) (CT : CcE g (d + 1) h0 i mX4_truth) (hY : ∀ h r' A' Q', PCe h0 h r A Q i e r' A' Q' → Y none h) : Zw g (d + 2) 0 0 mX4_choice 37 [some (.ref 2)] [] h Y := by
  have R := P.1
  have E := P.2.2.2
  obtain ⟨v, e16⟩ := E.2.1
  have e17 := E.2.2.1
  refine x_al0 rfl dX4_choice_37 ?_
  refine x_dup rfl dX4_choice_38 ?_
  refine x_rg R fdX4_66 (by decide) (by first | assumption | rfl) dX4_choice_39 ?_
  refine x_iconst (v := nI 1) dX4_choice_42 rfl ?_
  refine x_isub (rfl) dX4_choice_43 ?_
  refine x_rp R fdX4_66 (by decide) (by decide) (by first | exact fun _ => ⟨_, rfl⟩ | exact fun z => absurd z (by decide)) zf_i dX4_choice_44 (fun h R => ?_)
  refine x_al0 rfl dX4_choice_47 ?_
  refine x_rg R fdX4_69 (by decide) (by first | assumption | rfl) dX4_choice_48 ?_
  refine x_bipush (v := (-15)) dX4_choice_51 rfl ?_
  refine x_cv1Vp mX1_add_ok lkX4_124 rfl (Nat.le_of_ble_eq_true rfl) (Nat.le_of_ble_eq_true rfl) dX4_choice_53 (R.dq  hi).1 (e_add hi (P.dep R)) (fun h hq => ?_)
  obtain ⟨A2, Q2, P2⟩ := hq
  exact x_vret rfl dX4_choice_56 (hY _ _ _ _ P2)
theorem o_choice0 (hi : i = 5 ∨ i = 7) (CS : CcE g (d + 1) h0 i mX4_sum) (CT : CcE g (d + 1) h0 i mX4_truth) (R : RW h0 h r A Q) (O : CO X h0 r A Q i 6 p cs) : Zm g (d + 2) 0 0 mX4_choice [.ref 2] h (rVp (fun h' => PC X h0 h' r A Q i 6 cs (.inl (4, tkA X p)))) := by
  show Zw g (d + 2) 0 0 mX4_choice 0 [some (.ref 2)] [] h _
  refine x_al0 rfl dX4_choice_0 ?_
  refine x_cv0Vp mX4_enter_ok lkX4_133 rfl (Nat.le_of_ble_eq_true rfl) (Nat.le_of_ble_eq_true rfl) dX4_choice_1 R.get  (o_enter0 (dp := 6) R O) (fun h hq => ?_)
  obtain ⟨r2, A2, Q2, P2⟩ := hq
  exact tc4 hi P2 CS CT (fun h r' A' Q' z => ⟨rfl, r', A', Q', z⟩)
theorem o_choice1 (hi : i = 5 ∨ i = 7) (hf : ∀ p, p ≤ X.2 → Gl X p (f p)) (hu : ∀ p, p ≤ X.2 → Gl X p (u p)) (hBf : BA X f) (hBu : BA X u) (hdp : dp < 6) (CS : CcM g (d + 6) X h0 i mX4_sum (dp + 1) (fSm X f)) (CT : CcM g (d + 6) X h0 i mX4_truth (dp + 1) (fTr X u)) (CES : CcE g (d + 6) h0 i mX4_sum) (CET : CcE g (d + 6) h0 i mX4_truth) (R : RW h0 h r A Q) (O : CO X h0 r A Q i dp p cs) (hK : tkK X p ≠ 24) : Zm g (d + 7) 0 0 mX4_choice [.ref 2] h (rVp (fun h' => PC X h0 h' r A Q i dp cs (nR X (fIf X f u (tkB X p))))) := by
  have b0 := tkA_B O.2.1.2.1 hK
  have l0 := O.2.2.2.2.2
  have hE : nR X (fIf X f u (tkB X p)) = apR [] (nR X (sqR (fTr X u (tkB X p)) (fI1 X f))) := by rw [apR_nil]; rfl
  have hG := Gl.fi hf hu O.2.1.2.1 hK
  have hbad : tkK X (tkB X p) = 25 → nR X (fIf X f u (tkB X p)) = .inl (1, tkA X (tkB X p)) := fun z => (BA.fi hBu).bd _ z
  have hGn : ∀ q, nR X (fIf X f u (tkB X p)) = .inr q → q.2.length + tkA X p ≤ tkA X q.1 := fun q z => by
    rw [(nR_o z).1] at hG
    exact hG.2
  generalize nR X (fIf X f u (tkB X p)) = S at hE hbad hGn ⊢
  show Zw g (d + 7) 0 0 mX4_choice 0 [some (.ref 2)] [] h _
  refine x_al0 rfl dX4_choice_0 ?_
  refine x_cv0Vp mX4_enter_ok lkX4_133 rfl (Nat.le_of_ble_eq_true rfl) (Nat.le_of_ble_eq_true rfl) dX4_choice_1 R.get  (o_enter1 hdp R O) (fun h hq => ?_)
  cases e0 : nR X (.inr (tkB X p, [])) with
  | inl e9 =>
    rw [e0] at hq
    obtain ⟨r2, A2, Q2, P2⟩ := hq
    obtain ⟨kb, rfl⟩ := nR_bt e0
    exact tc4 hi P2 CES CET (fun h r' A' Q' z => ⟨rfl, by rw [hbad kb]; exact ⟨r', A', Q', z⟩⟩)
  | inr q0 =>
    rw [e0] at hq
    obtain ⟨rfl, k0⟩ := nR_ot e0
    obtain ⟨r2, A2, Q2, P⟩ := hq
    change PCa _ _ _ _ _ _ _ _ (tkB X p) (cs ++ []) _ _ _ at P
    have R := P.1
    have O := P.2.2.2
    refine x_al0 rfl dX4_choice_4 ?_
    refine x_cv0Vp mX4_truth_ok lkX4_116 rfl (Nat.le_of_ble_eq_true rfl) (Nat.le_of_ble_eq_true rfl) dX4_choice_5 R.get  (CT _ _ _ _ _ _ R O) (fun h hq => ?_)
    have PR := P.tn hq
    cases e1 : nR X (fTr X u (tkB X p)) with
    | inl e9 =>
      rw [e1] at PR
      obtain ⟨r2, A2, Q2, P2⟩ := PR
      exact tc8 hi P2 CES CET (fun h r' A' Q' z => ⟨rfl, by rw [stN_e hE BA.i1.bd e1]; exact ⟨r', A', Q', z⟩⟩)
    | inr q1 =>
      rw [e1] at PR
      obtain ⟨r2, A2, Q2, P⟩ := PR
      change PCa _ _ _ _ _ _ _ _ q1.1 (cs ++ ([] ++ q1.2)) _ _ _ at P
      replace hE := stN_o hE e1
      have R := P.1
      have O := P.2.2.2
      refine x_al0 rfl dX4_choice_8 ?_
      refine x_sipush (v := nI 309) dX4_choice_9 (by decide) ?_
      refine x_cv1Vp mX4_expect_ok lkX4_90 rfl (Nat.le_of_ble_eq_true rfl) (Nat.le_of_ble_eq_true rfl) dX4_choice_12 R.get  (o_expect (k := 9) (by decide) (by decide) (by decide) R O) (fun h hq => ?_)
      have PR := P.tn hq
      cases e2 : nR X (waR X 9 q1.1) with
      | inl e9 =>
        rw [e2] at PR
        obtain ⟨r2, A2, Q2, P2⟩ := PR
        exact tc15 hi P2 CES CET (fun h r' A' Q' z => ⟨rfl, by rw [stN_e hE (BA.i2 hBf).bd e2]; exact ⟨r', A', Q', z⟩⟩)
      | inr q2 =>
        rw [e2] at PR
        obtain ⟨r2, A2, Q2, P⟩ := PR
        change PCa _ _ _ _ _ _ _ _ q2.1 (cs ++ (([] ++ q1.2) ++ q2.2)) _ _ _ at P
        replace hE := stN_o hE e2
        have R := P.1
        have O := P.2.2.2
        refine x_al0 rfl dX4_choice_15 ?_
        refine x_cv0Vp mX4_sum_ok lkX4_113 rfl (Nat.le_of_ble_eq_true rfl) (Nat.le_of_ble_eq_true rfl) dX4_choice_16 R.get  (CS _ _ _ _ _ _ R O) (fun h hq => ?_)
        have PR := P.tn hq
        cases e3 : nR X (fSm X f q2.1) with
        | inl e9 =>
          rw [e3] at PR
          obtain ⟨r2, A2, Q2, P2⟩ := PR
          exact tc19 hi P2 CES CET (fun h r' A' Q' z => ⟨rfl, by rw [stN_e hE BA.i3.bd e3]; exact ⟨r', A', Q', z⟩⟩)
        | inr q3 =>
          rw [e3] at PR
          obtain ⟨r2, A2, Q2, P⟩ := PR
          change PCa _ _ _ _ _ _ _ _ q3.1 (cs ++ (([] ++ q1.2 ++ q2.2) ++ q3.2)) _ _ _ at P
          replace hE := stN_o hE e3
          have R := P.1
          have O := P.2.2.2
          refine x_al0 rfl dX4_choice_19 ?_
          refine x_sipush (v := nI 310) dX4_choice_20 (by decide) ?_
          refine x_cv1Vp mX4_expect_ok lkX4_90 rfl (Nat.le_of_ble_eq_true rfl) (Nat.le_of_ble_eq_true rfl) dX4_choice_23 R.get  (o_expect (k := 10) (by decide) (by decide) (by decide) R O) (fun h hq => ?_)
          have PR := P.tn hq
          cases e4 : nR X (waR X 10 q3.1) with
          | inl e9 =>
            rw [e4] at PR
            obtain ⟨r2, A2, Q2, P2⟩ := PR
            exact tc26 hi P2 CES CET (fun h r' A' Q' z => ⟨rfl, by rw [stN_e hE (BA.i4 hBf).bd e4]; exact ⟨r', A', Q', z⟩⟩)
          | inr q4 =>
            rw [e4] at PR
            obtain ⟨r2, A2, Q2, P⟩ := PR
            change PCa _ _ _ _ _ _ _ _ q4.1 (cs ++ (([] ++ q1.2 ++ q2.2 ++ q3.2) ++ q4.2)) _ _ _ at P
            replace hE := stN_o hE e4
            have R := P.1
            have O := P.2.2.2
            refine x_al0 rfl dX4_choice_26 ?_
            refine x_cv0Vp mX4_sum_ok lkX4_113 rfl (Nat.le_of_ble_eq_true rfl) (Nat.le_of_ble_eq_true rfl) dX4_choice_27 R.get  (CS _ _ _ _ _ _ R O) (fun h hq => ?_)
            have PR := P.tn hq
            cases e5 : nR X (fSm X f q4.1) with
            | inl e9 =>
              rw [e5] at PR
              obtain ⟨r2, A2, Q2, P2⟩ := PR
              exact tc30 hi P2 CES CET (fun h r' A' Q' z => ⟨rfl, by rw [stN_e hE BA.i5.bd e5]; exact ⟨r', A', Q', z⟩⟩)
            | inr q5 =>
              rw [e5] at PR
              obtain ⟨r2, A2, Q2, P⟩ := PR
              change PCa _ _ _ _ _ _ _ _ q5.1 (cs ++ (([] ++ q1.2 ++ q2.2 ++ q3.2 ++ q4.2) ++ q5.2)) _ _ _ at P
              replace hE := stN_o hE e5
              have R := P.1
              have O := P.2.2.2
              refine x_al0 rfl dX4_choice_30 ?_
              refine x_sipush (v := nI 311) dX4_choice_31 (by decide) ?_
              refine x_cv1Vp mX4_expect_ok lkX4_90 rfl (Nat.le_of_ble_eq_true rfl) (Nat.le_of_ble_eq_true rfl) dX4_choice_34 R.get  (o_expect (k := 11) (by decide) (by decide) (by decide) R O) (fun h hq => ?_)
              have PR := P.tn hq
              cases e6 : nR X (waR X 11 q5.1) with
              | inl e9 =>
                rw [e6] at PR
                obtain ⟨r2, A2, Q2, P2⟩ := PR
                exact tc37 hi P2 CES CET (fun h r' A' Q' z => ⟨rfl, by rw [stN_e hE BD.em e6]; exact ⟨r', A', Q', z⟩⟩)
              | inr q6 =>
                rw [e6] at PR
                obtain ⟨r2, A2, Q2, P⟩ := PR
                change PCa _ _ _ _ _ _ _ _ q6.1 (cs ++ (([] ++ q1.2 ++ q2.2 ++ q3.2 ++ q4.2 ++ q5.2) ++ q6.2)) _ _ _ at P
                replace hE := stN_o hE e6
                have R := P.1
                have O := P.2.2.2
                refine x_al0 rfl dX4_choice_37 ?_
                refine x_dup rfl dX4_choice_38 ?_
                refine x_rg R fdX4_66 (by decide) (O.2.2.1) dX4_choice_39 ?_
                refine x_iconst (v := nI 1) dX4_choice_42 rfl ?_
                refine x_isub ((show nI (dp + 1) - nI 1 = nI dp by rw [pk_sub (by omega)]; rfl)) dX4_choice_43 ?_
                refine x_rp R fdX4_66 (by decide) (by decide) (by first | exact fun _ => ⟨_, rfl⟩ | exact fun z => absurd z (by decide)) zf_i dX4_choice_44 (fun h R => ?_)
                have P := P.dep R
                have eS : S = .inr (q6.1, ([] ++ q1.2 ++ q2.2 ++ q3.2 ++ q4.2 ++ q5.2 ++ q6.2) ++ [3009]) := by rw [hE, show emR 3009 q6.1 = .inr (q6.1, [3009]) from rfl, nR_r (q := (q6.1, [3009])) (nR_o e6).2]; rfl
                have hl := hGn _ eS
                simp only [List.length_append, List.length_cons, List.length_nil] at hl
                refine x_al0 rfl dX4_choice_47 ?_
                refine x_rg R fdX4_69 (by decide) (O.2.2.2.1) dX4_choice_48 ?_
                refine x_bipush (v := (-15)) dX4_choice_51 rfl ?_
                refine x_cv1Vp mX1_add_ok lkX4_124 rfl (Nat.le_of_ble_eq_true rfl) (Nat.le_of_ble_eq_true rfl) dX4_choice_53 (R.dq  hi).1 (o_add (c := 3009) (by simp [cl]) hi P (by simp only [List.length_append, List.length_nil]; omega) (Or.inr (by decide))) (fun h hq => ?_)
                obtain ⟨A9, Q9, P9⟩ := hq
                exact x_vret rfl dX4_choice_56 ⟨rfl, by rw [eS]; exact ⟨_, A9, Q9, by rw [← List.append_assoc]; exact P9⟩⟩
def kSp (k : Nat) : Bool := decide (k = 23 ∨ k = 5 ∨ (12 ≤ k ∧ k ≤ 15) ∨ k = 35 ∨ k = 8)
theorem lkA0 : ∀ k, k < 42 → (!kdom k || kSp k || decide (Op.lookupswitch.offset [((1 : Int), (76 : Int)), (40, 131), (305, 122), (308, 158), (312, 87), (313, 95), (314, 104), (315, 113)] 165 (nI (tok k)).toInt = 165)) = true := by decide +kernel
theorem lkA (k : Nat) (h1 : k < 42) (h2 : kdom k = true) (h3 : k ≠ 23) (h4 : k ≠ 5) (h5 : ¬ (12 ≤ k ∧ k ≤ 15)) (h6 : k ≠ 35) (h7 : k ≠ 8) : Op.lookupswitch.offset [((1 : Int), (76 : Int)), (40, 131), (305, 122), (308, 158), (312, 87), (313, 95), (314, 104), (315, 113)] 165 (nI (tok k)).toInt = 165 := by
  have := lkA0 k h1
  rw [h2, show kSp k = false from decide_eq_false (by omega)] at this
  simpa using this
theorem e_atom : CcE g (d + 1) h0 i mX4_atom := by
  intro h r A Q e R E
  have e13 := E.1.2.2.1
  show Zw g (d + 1) 0 0 mX4_atom 0 [some (.ref 2)] [] h _
  refine x_al0 rfl dX4_atom_0 ?_
  refine x_rg R fdX4_57 (by decide) (by first | assumption | rfl) dX4_atom_1 ?_
  refine x_lookup (off := 165) (tgt := 169) dX4_atom_4 (by decide) rfl rfl ?_
  refine x_al0 rfl dX4_atom_169 ?_
  refine x_iconst (v := nI 2) dX4_atom_170 rfl ?_
  refine x_cv1V mX4_fail_ok lkX4_98 rfl (Nat.le_of_ble_eq_true rfl) (Nat.le_of_ble_eq_true rfl) dX4_atom_171 R.get  (e_fail R E.1) ?_
  exact x_vret rfl dX4_atom_174 ⟨rfl, rfl⟩
theorem ta139 {Y : Option Value → zH → Prop} (hi : i = 5 ∨ i = 7) (P : PCe h0 h r A Q i e r' A' Q') (CS : CcE g (d + 1) h0 i mX4_sum) (CT : CcE g (d + 1) h0 i mX4_truth) (hY : ∀ h r' A' Q', PCe h0 h r A Q i e r' A' Q' → Y none h) : Zw g (d + 2) 0 0 mX4_atom 139 [some (.ref 2)] [] h Y := by
  have R := P.1
  have E := P.2.2.2
  obtain ⟨v, e16⟩ := E.2.1
  refine x_al0 rfl dX4_atom_139 ?_
  refine x_cv0V mX4_sum_ok lkX4_113 rfl (Nat.le_of_ble_eq_true rfl) (Nat.le_of_ble_eq_true rfl) dX4_atom_140 R.get  (CS _ _ _ _ _ R E) ?_
  refine x_al0 rfl dX4_atom_143 ?_
  refine x_bipush (v := nI 41) dX4_atom_144 rfl ?_
  refine x_cv1V mX4_expect_ok lkX4_90 rfl (Nat.le_of_ble_eq_true rfl) (Nat.le_of_ble_eq_true rfl) dX4_atom_146 R.get  (e_expect (k := 36) (by decide) (by decide) (by decide) R E) ?_
  refine x_al0 rfl dX4_atom_149 ?_
  refine x_dup rfl dX4_atom_150 ?_
  refine x_rg R fdX4_66 (by decide) (by first | assumption | rfl) dX4_atom_151 ?_
  refine x_iconst (v := nI 1) dX4_atom_154 rfl ?_
  refine x_isub (rfl) dX4_atom_155 ?_
  refine x_rp R fdX4_66 (by decide) (by decide) (by first | exact fun _ => ⟨_, rfl⟩ | exact fun z => absurd z (by decide)) zf_i dX4_atom_156 (fun h R => ?_)
  refine x_goto (tgt := 174) dX4_atom_159 rfl ?_
  exact x_vret rfl dX4_atom_174 (hY _ _ _ _ (P.dep R))
theorem ta143 {Y : Option Value → zH → Prop} (hi : i = 5 ∨ i = 7) (P : PCe h0 h r A Q i e r' A' Q') (CS : CcE g (d + 1) h0 i mX4_sum) (CT : CcE g (d + 1) h0 i mX4_truth) (hY : ∀ h r' A' Q', PCe h0 h r A Q i e r' A' Q' → Y none h) : Zw g (d + 2) 0 0 mX4_atom 143 [some (.ref 2)] [] h Y := by
  have R := P.1
  have E := P.2.2.2
  obtain ⟨v, e16⟩ := E.2.1
  refine x_al0 rfl dX4_atom_143 ?_
  refine x_bipush (v := nI 41) dX4_atom_144 rfl ?_
  refine x_cv1V mX4_expect_ok lkX4_90 rfl (Nat.le_of_ble_eq_true rfl) (Nat.le_of_ble_eq_true rfl) dX4_atom_146 R.get  (e_expect (k := 36) (by decide) (by decide) (by decide) R E) ?_
  refine x_al0 rfl dX4_atom_149 ?_
  refine x_dup rfl dX4_atom_150 ?_
  refine x_rg R fdX4_66 (by decide) (by first | assumption | rfl) dX4_atom_151 ?_
  refine x_iconst (v := nI 1) dX4_atom_154 rfl ?_
  refine x_isub (rfl) dX4_atom_155 ?_
  refine x_rp R fdX4_66 (by decide) (by decide) (by first | exact fun _ => ⟨_, rfl⟩ | exact fun z => absurd z (by decide)) zf_i dX4_atom_156 (fun h R => ?_)
  refine x_goto (tgt := 174) dX4_atom_159 rfl ?_
  exact x_vret rfl dX4_atom_174 (hY _ _ _ _ (P.dep R))
theorem ta149 {Y : Option Value → zH → Prop} (hi : i = 5 ∨ i = 7) (P : PCe h0 h r A Q i e r' A' Q') (CS : CcE g (d + 1) h0 i mX4_sum) (CT : CcE g (d + 1) h0 i mX4_truth) (hY : ∀ h r' A' Q', PCe h0 h r A Q i e r' A' Q' → Y none h) : Zw g (d + 2) 0 0 mX4_atom 149 [some (.ref 2)] [] h Y := by
  have R := P.1
  have E := P.2.2.2
  obtain ⟨v, e16⟩ := E.2.1
  refine x_al0 rfl dX4_atom_149 ?_
  refine x_dup rfl dX4_atom_150 ?_
  refine x_rg R fdX4_66 (by decide) (by first | assumption | rfl) dX4_atom_151 ?_
  refine x_iconst (v := nI 1) dX4_atom_154 rfl ?_
  refine x_isub (rfl) dX4_atom_155 ?_
  refine x_rp R fdX4_66 (by decide) (by decide) (by first | exact fun _ => ⟨_, rfl⟩ | exact fun z => absurd z (by decide)) zf_i dX4_atom_156 (fun h R => ?_)
  refine x_goto (tgt := 174) dX4_atom_159 rfl ?_
  exact x_vret rfl dX4_atom_174 (hY _ _ _ _ (P.dep R))
theorem o_atom0 (hi : i = 5 ∨ i = 7) (CES : CcE g (d + 6) h0 i mX4_sum) (CET : CcE g (d + 6) h0 i mX4_truth) : CcM g (d + 8) X h0 i mX4_atom 6 (fAt0 X) := by
  intro h r A Q p cs R O
  have e13 := O.2.1.2.2.2.1
  have k25 := O.2.1.2.2.2.2.2.2
  have dm := tkK_dom (X := X) (p := p)
  have vl := tkV_lt (X := X) (p := p)
  show Zw g (d + 8) 0 0 mX4_atom 0 [some (.ref 2)] [] h _
  refine x_al0 rfl dX4_atom_0 ?_
  refine x_rg R fdX4_57 (by decide) (by first | assumption | rfl) dX4_atom_1 ?_
  have lf : ∀ c, tkK X p = 23 ∨ tkK X p = 5 ∨ (12 ≤ tkK X p ∧ tkK X p ≤ 15) → leaf X p = c → nR X (fAt0 X p) = nR X (.inr (tkB X p, [c])) := fun c z1 z2 => by
    show nR X (fAt0 X p) = _
    unfold fAt0
    rw [if_pos z1, z2]
  by_cases z23 : tkK X p = 23
  · rw [z23]
    refine x_lookup (off := 76) (tgt := 80) dX4_atom_4 (by decide) rfl rfl ?_
    refine x_al0 rfl dX4_atom_80 ?_
    refine x_al0 rfl dX4_atom_81 ?_
    refine x_rg R fdX4_63 (by decide) (O.2.1.2.2.2.2.2.1 z23) dX4_atom_82 ?_
    refine x_cv1Vp mX4_leaf_ok lkX4_130 rfl (Nat.le_of_ble_eq_true rfl) (Nat.le_of_ble_eq_true rfl) dX4_atom_85 R.get  (o_leafX (c := tkV X p) ((cl_num (tkV X p) vl).1) hi (by omega) (Or.inl (by omega)) R O) (fun h hq => ?_)
    refine x_goto (tgt := 174) dX4_atom_88 rfl ?_
    exact x_vret rfl dX4_atom_174 ⟨rfl, by rw [lf (tkV X p) (by omega) (by unfold leaf; rw [if_pos z23])]; exact hq⟩
  by_cases z12 : tkK X p = 12
  · rw [z12]
    refine x_lookup (off := 87) (tgt := 91) dX4_atom_4 (by decide) rfl rfl ?_
    refine x_al0 rfl dX4_atom_91 ?_
    refine x_iconst (v := (-1)) dX4_atom_92 rfl ?_
    refine x_cv1Vp mX4_leaf_ok lkX4_130 rfl (Nat.le_of_ble_eq_true rfl) (Nat.le_of_ble_eq_true rfl) dX4_atom_93 R.get  (o_leafX (c := 1000) (by decide) hi (by omega) (Or.inl (by decide)) R O) (fun h hq => ?_)
    refine x_goto (tgt := 174) dX4_atom_96 rfl ?_
    exact x_vret rfl dX4_atom_174 ⟨rfl, by rw [lf (1000) (by omega) (by unfold leaf; rw [if_neg (by omega), if_neg (by omega), z12])]; exact hq⟩
  by_cases z13 : tkK X p = 13
  · rw [z13]
    refine x_lookup (off := 95) (tgt := 99) dX4_atom_4 (by decide) rfl rfl ?_
    refine x_al0 rfl dX4_atom_99 ?_
    refine x_bipush (v := (-2)) dX4_atom_100 rfl ?_
    refine x_cv1Vp mX4_leaf_ok lkX4_130 rfl (Nat.le_of_ble_eq_true rfl) (Nat.le_of_ble_eq_true rfl) dX4_atom_102 R.get  (o_leafX (c := 1001) (by decide) hi (by omega) (Or.inl (by decide)) R O) (fun h hq => ?_)
    refine x_goto (tgt := 174) dX4_atom_105 rfl ?_
    exact x_vret rfl dX4_atom_174 ⟨rfl, by rw [lf (1001) (by omega) (by unfold leaf; rw [if_neg (by omega), if_neg (by omega), z13])]; exact hq⟩
  by_cases z14 : tkK X p = 14
  · rw [z14]
    refine x_lookup (off := 104) (tgt := 108) dX4_atom_4 (by decide) rfl rfl ?_
    refine x_al0 rfl dX4_atom_108 ?_
    refine x_bipush (v := (-3)) dX4_atom_109 rfl ?_
    refine x_cv1Vp mX4_leaf_ok lkX4_130 rfl (Nat.le_of_ble_eq_true rfl) (Nat.le_of_ble_eq_true rfl) dX4_atom_111 R.get  (o_leafX (c := 1002) (by decide) hi (by omega) (Or.inl (by decide)) R O) (fun h hq => ?_)
    refine x_goto (tgt := 174) dX4_atom_114 rfl ?_
    exact x_vret rfl dX4_atom_174 ⟨rfl, by rw [lf (1002) (by omega) (by unfold leaf; rw [if_neg (by omega), if_neg (by omega), z14])]; exact hq⟩
  by_cases z15 : tkK X p = 15
  · rw [z15]
    refine x_lookup (off := 113) (tgt := 117) dX4_atom_4 (by decide) rfl rfl ?_
    refine x_al0 rfl dX4_atom_117 ?_
    refine x_bipush (v := (-4)) dX4_atom_118 rfl ?_
    refine x_cv1Vp mX4_leaf_ok lkX4_130 rfl (Nat.le_of_ble_eq_true rfl) (Nat.le_of_ble_eq_true rfl) dX4_atom_120 R.get  (o_leafX (c := 1003) (by decide) hi (by omega) (Or.inl (by decide)) R O) (fun h hq => ?_)
    refine x_goto (tgt := 174) dX4_atom_123 rfl ?_
    exact x_vret rfl dX4_atom_174 ⟨rfl, by rw [lf (1003) (by omega) (by unfold leaf; rw [if_neg (by omega), if_neg (by omega), z15])]; exact hq⟩
  by_cases z5 : tkK X p = 5
  · rw [z5]
    refine x_lookup (off := 122) (tgt := 126) dX4_atom_4 (by decide) rfl rfl ?_
    refine x_al0 rfl dX4_atom_126 ?_
    refine x_bipush (v := (-5)) dX4_atom_127 rfl ?_
    refine x_cv1Vp mX4_leaf_ok lkX4_130 rfl (Nat.le_of_ble_eq_true rfl) (Nat.le_of_ble_eq_true rfl) dX4_atom_129 R.get  (o_leafX (c := 1004) (by decide) hi (by omega) (Or.inl (by decide)) R O) (fun h hq => ?_)
    refine x_goto (tgt := 174) dX4_atom_132 rfl ?_
    exact x_vret rfl dX4_atom_174 ⟨rfl, by rw [lf (1004) (by omega) (by unfold leaf; rw [if_neg (by omega), if_pos z5])]; exact hq⟩
  by_cases z35 : tkK X p = 35
  · rw [z35]
    refine x_lookup (off := 131) (tgt := 135) dX4_atom_4 (by decide) rfl rfl ?_
    have eS : nR X (fAt0 X p) = .inl (4, tkA X p) := by unfold fAt0; rw [if_neg (by omega), if_pos (Or.inl z35)]; rfl
    refine x_al0 rfl dX4_atom_135 ?_
    refine x_cv0Vp mX4_enter_ok lkX4_133 rfl (Nat.le_of_ble_eq_true rfl) (Nat.le_of_ble_eq_true rfl) dX4_atom_136 R.get  (o_enter0 (dp := 6) R O) (fun h hq => ?_)
    obtain ⟨r2, A2, Q2, P2⟩ := hq
    exact ta139 (d := d + 6) hi P2 (CES.deep (by omega)) (CET.deep (by omega)) (fun h r' A' Q' z => ⟨rfl, by rw [eS]; exact ⟨r', A', Q', z⟩⟩)
  by_cases z8 : tkK X p = 8
  · rw [z8]
    refine x_lookup (off := 158) (tgt := 162) dX4_atom_4 (by decide) rfl rfl ?_
    have eS : nR X (fAt0 X p) = .inl (4, tkA X p) := by unfold fAt0; rw [if_neg (by omega), if_pos (Or.inr z8)]; rfl
    refine x_al0 rfl dX4_atom_162 ?_
    refine x_cv0Vp mX4_choice_ok lkX4_136 rfl (Nat.le_of_ble_eq_true rfl) (Nat.le_of_ble_eq_true rfl) dX4_atom_163 R.get  (o_choice0 (d := d + 5) hi CES CET R O) (fun h hq => ?_)
    refine x_goto (tgt := 174) dX4_atom_166 rfl ?_
    exact x_vret rfl dX4_atom_174 ⟨rfl, by rw [eS]; exact hq⟩
  refine x_lookup (off := 165) (tgt := 169) dX4_atom_4 (by decide) (lkA _ dm.2 dm.1 z23 z5 (by omega) z35 z8) rfl ?_
  have eS : nR X (fAt0 X p) = .inl (2, tkA X p) := by unfold fAt0 erR; rw [if_neg (by omega), if_neg (by omega), erK_2 k25]; rfl
  refine x_al0 rfl dX4_atom_169 ?_
  refine x_iconst (v := nI 2) dX4_atom_170 rfl ?_
  refine x_cv1Vp mX4_fail_ok lkX4_98 rfl (Nat.le_of_ble_eq_true rfl) (Nat.le_of_ble_eq_true rfl) dX4_atom_171 R.get  (o_fail (fa := 2) (by decide) (by decide) R O) (fun h hq => ?_)
  exact x_vret rfl dX4_atom_174 ⟨rfl, by rw [eS]; exact hq⟩
theorem o_atom1 (hi : i = 5 ∨ i = 7) (hf : ∀ p, p ≤ X.2 → Gl X p (f p)) (hu : ∀ p, p ≤ X.2 → Gl X p (u p)) (hBf : BA X f) (hBu : BA X u) (hdp : dp < 6) (CS : CcM g (d + 6) X h0 i mX4_sum (dp + 1) (fSm X f)) (CT : CcM g (d + 6) X h0 i mX4_truth (dp + 1) (fTr X u)) (CES : CcE g (d + 6) h0 i mX4_sum) (CET : CcE g (d + 6) h0 i mX4_truth) : CcM g (d + 8) X h0 i mX4_atom dp (fAt1 X f u) := by
  intro h r A Q p cs R O
  have e13 := O.2.1.2.2.2.1
  have k25 := O.2.1.2.2.2.2.2.2
  have dm := tkK_dom (X := X) (p := p)
  have vl := tkV_lt (X := X) (p := p)
  show Zw g (d + 8) 0 0 mX4_atom 0 [some (.ref 2)] [] h _
  refine x_al0 rfl dX4_atom_0 ?_
  refine x_rg R fdX4_57 (by decide) (by first | assumption | rfl) dX4_atom_1 ?_
  have lf : ∀ c, tkK X p = 23 ∨ tkK X p = 5 ∨ (12 ≤ tkK X p ∧ tkK X p ≤ 15) → leaf X p = c → nR X (fAt1 X f u p) = nR X (.inr (tkB X p, [c])) := fun c z1 z2 => by
    show nR X (fAt1 X f u p) = _
    unfold fAt1
    rw [if_pos z1, z2]
  by_cases z23 : tkK X p = 23
  · rw [z23]
    refine x_lookup (off := 76) (tgt := 80) dX4_atom_4 (by decide) rfl rfl ?_
    refine x_al0 rfl dX4_atom_80 ?_
    refine x_al0 rfl dX4_atom_81 ?_
    refine x_rg R fdX4_63 (by decide) (O.2.1.2.2.2.2.2.1 z23) dX4_atom_82 ?_
    refine x_cv1Vp mX4_leaf_ok lkX4_130 rfl (Nat.le_of_ble_eq_true rfl) (Nat.le_of_ble_eq_true rfl) dX4_atom_85 R.get  (o_leafX (c := tkV X p) ((cl_num (tkV X p) vl).1) hi (by omega) (Or.inl (by omega)) R O) (fun h hq => ?_)
    refine x_goto (tgt := 174) dX4_atom_88 rfl ?_
    exact x_vret rfl dX4_atom_174 ⟨rfl, by rw [lf (tkV X p) (by omega) (by unfold leaf; rw [if_pos z23])]; exact hq⟩
  by_cases z12 : tkK X p = 12
  · rw [z12]
    refine x_lookup (off := 87) (tgt := 91) dX4_atom_4 (by decide) rfl rfl ?_
    refine x_al0 rfl dX4_atom_91 ?_
    refine x_iconst (v := (-1)) dX4_atom_92 rfl ?_
    refine x_cv1Vp mX4_leaf_ok lkX4_130 rfl (Nat.le_of_ble_eq_true rfl) (Nat.le_of_ble_eq_true rfl) dX4_atom_93 R.get  (o_leafX (c := 1000) (by decide) hi (by omega) (Or.inl (by decide)) R O) (fun h hq => ?_)
    refine x_goto (tgt := 174) dX4_atom_96 rfl ?_
    exact x_vret rfl dX4_atom_174 ⟨rfl, by rw [lf (1000) (by omega) (by unfold leaf; rw [if_neg (by omega), if_neg (by omega), z12])]; exact hq⟩
  by_cases z13 : tkK X p = 13
  · rw [z13]
    refine x_lookup (off := 95) (tgt := 99) dX4_atom_4 (by decide) rfl rfl ?_
    refine x_al0 rfl dX4_atom_99 ?_
    refine x_bipush (v := (-2)) dX4_atom_100 rfl ?_
    refine x_cv1Vp mX4_leaf_ok lkX4_130 rfl (Nat.le_of_ble_eq_true rfl) (Nat.le_of_ble_eq_true rfl) dX4_atom_102 R.get  (o_leafX (c := 1001) (by decide) hi (by omega) (Or.inl (by decide)) R O) (fun h hq => ?_)
    refine x_goto (tgt := 174) dX4_atom_105 rfl ?_
    exact x_vret rfl dX4_atom_174 ⟨rfl, by rw [lf (1001) (by omega) (by unfold leaf; rw [if_neg (by omega), if_neg (by omega), z13])]; exact hq⟩
  by_cases z14 : tkK X p = 14
  · rw [z14]
    refine x_lookup (off := 104) (tgt := 108) dX4_atom_4 (by decide) rfl rfl ?_
    refine x_al0 rfl dX4_atom_108 ?_
    refine x_bipush (v := (-3)) dX4_atom_109 rfl ?_
    refine x_cv1Vp mX4_leaf_ok lkX4_130 rfl (Nat.le_of_ble_eq_true rfl) (Nat.le_of_ble_eq_true rfl) dX4_atom_111 R.get  (o_leafX (c := 1002) (by decide) hi (by omega) (Or.inl (by decide)) R O) (fun h hq => ?_)
    refine x_goto (tgt := 174) dX4_atom_114 rfl ?_
    exact x_vret rfl dX4_atom_174 ⟨rfl, by rw [lf (1002) (by omega) (by unfold leaf; rw [if_neg (by omega), if_neg (by omega), z14])]; exact hq⟩
  by_cases z15 : tkK X p = 15
  · rw [z15]
    refine x_lookup (off := 113) (tgt := 117) dX4_atom_4 (by decide) rfl rfl ?_
    refine x_al0 rfl dX4_atom_117 ?_
    refine x_bipush (v := (-4)) dX4_atom_118 rfl ?_
    refine x_cv1Vp mX4_leaf_ok lkX4_130 rfl (Nat.le_of_ble_eq_true rfl) (Nat.le_of_ble_eq_true rfl) dX4_atom_120 R.get  (o_leafX (c := 1003) (by decide) hi (by omega) (Or.inl (by decide)) R O) (fun h hq => ?_)
    refine x_goto (tgt := 174) dX4_atom_123 rfl ?_
    exact x_vret rfl dX4_atom_174 ⟨rfl, by rw [lf (1003) (by omega) (by unfold leaf; rw [if_neg (by omega), if_neg (by omega), z15])]; exact hq⟩
  by_cases z5 : tkK X p = 5
  · rw [z5]
    refine x_lookup (off := 122) (tgt := 126) dX4_atom_4 (by decide) rfl rfl ?_
    refine x_al0 rfl dX4_atom_126 ?_
    refine x_bipush (v := (-5)) dX4_atom_127 rfl ?_
    refine x_cv1Vp mX4_leaf_ok lkX4_130 rfl (Nat.le_of_ble_eq_true rfl) (Nat.le_of_ble_eq_true rfl) dX4_atom_129 R.get  (o_leafX (c := 1004) (by decide) hi (by omega) (Or.inl (by decide)) R O) (fun h hq => ?_)
    refine x_goto (tgt := 174) dX4_atom_132 rfl ?_
    exact x_vret rfl dX4_atom_174 ⟨rfl, by rw [lf (1004) (by omega) (by unfold leaf; rw [if_neg (by omega), if_pos z5])]; exact hq⟩
  by_cases z35 : tkK X p = 35
  · rw [z35]
    refine x_lookup (off := 131) (tgt := 135) dX4_atom_4 (by decide) rfl rfl ?_
    have hE : nR X (fAt1 X f u p) = apR [] (nR X (sqR (fSm X f (tkB X p)) (waR X 36))) := by unfold fAt1; rw [if_neg (by omega), if_pos z35, apR_nil]
    have hbad : tkK X (tkB X p) = 25 → nR X (fAt1 X f u p) = .inl (1, tkA X (tkB X p)) := fun z => by rw [hE, apR_nil]; exact (BA.sq hBf.sm).bd _ z
    generalize nR X (fAt1 X f u p) = S at hE hbad ⊢
    refine x_al0 rfl dX4_atom_135 ?_
    refine x_cv0Vp mX4_enter_ok lkX4_133 rfl (Nat.le_of_ble_eq_true rfl) (Nat.le_of_ble_eq_true rfl) dX4_atom_136 R.get  (o_enter1 hdp R O) (fun h hq => ?_)
    cases e0 : nR X (.inr (tkB X p, [])) with
    | inl e9 =>
      rw [e0] at hq
      obtain ⟨r2, A2, Q2, P2⟩ := hq
      obtain ⟨kb, rfl⟩ := nR_bt e0
      exact ta139 (d := d + 6) hi P2 (CES.deep (by omega)) (CET.deep (by omega)) (fun h r' A' Q' z => ⟨rfl, by rw [hbad kb]; exact ⟨r', A', Q', z⟩⟩)
    | inr q0 =>
      rw [e0] at hq
      obtain ⟨rfl, k0⟩ := nR_ot e0
      obtain ⟨r2, A2, Q2, P⟩ := hq
      change PCa _ _ _ _ _ _ _ _ (tkB X p) (cs ++ []) _ _ _ at P
      have R := P.1
      have O := P.2.2.2
      refine x_al0 rfl dX4_atom_139 ?_
      refine x_cv0Vp mX4_sum_ok lkX4_113 rfl (Nat.le_of_ble_eq_true rfl) (Nat.le_of_ble_eq_true rfl) dX4_atom_140 R.get  ((CS.deep (by omega)) _ _ _ _ _ _ R O) (fun h hq => ?_)
      have PR := P.tn hq
      cases e1 : nR X (fSm X f (tkB X p)) with
      | inl e9 =>
        rw [e1] at PR
        obtain ⟨r2, A2, Q2, P2⟩ := PR
        exact ta143 (d := d + 6) hi P2 (CES.deep (by omega)) (CET.deep (by omega)) (fun h r' A' Q' z => ⟨rfl, by rw [stN_e hE (BA.wa (by decide)).bd e1]; exact ⟨r', A', Q', z⟩⟩)
      | inr q1 =>
        rw [e1] at PR
        obtain ⟨r2, A2, Q2, P⟩ := PR
        change PCa _ _ _ _ _ _ _ _ q1.1 (cs ++ ([] ++ q1.2)) _ _ _ at P
        replace hE := stN_o hE e1
        have R := P.1
        have O := P.2.2.2
        refine x_al0 rfl dX4_atom_143 ?_
        refine x_bipush (v := nI 41) dX4_atom_144 rfl ?_
        refine x_cv1Vp mX4_expect_ok lkX4_90 rfl (Nat.le_of_ble_eq_true rfl) (Nat.le_of_ble_eq_true rfl) dX4_atom_146 R.get  (o_expect (k := 36) (by decide) (by decide) (by decide) R O) (fun h hq => ?_)
        have PR := P.tn hq
        cases e2 : nR X (waR X 36 q1.1) with
        | inl e9 =>
          rw [e2] at PR
          obtain ⟨r2, A2, Q2, P2⟩ := PR
          exact ta149 (d := d + 6) hi P2 (CES.deep (by omega)) (CET.deep (by omega)) (fun h r' A' Q' z => ⟨rfl, by rw [hE, e2]; exact ⟨r', A', Q', z⟩⟩)
        | inr q2 =>
          rw [e2] at PR
          obtain ⟨r2, A2, Q2, P⟩ := PR
          change PCa _ _ _ _ _ _ _ _ q2.1 (cs ++ ([] ++ q1.2 ++ q2.2)) _ _ _ at P
          have R := P.1
          have O := P.2.2.2
          refine x_al0 rfl dX4_atom_149 ?_
          refine x_dup rfl dX4_atom_150 ?_
          refine x_rg R fdX4_66 (by decide) (O.2.2.1) dX4_atom_151 ?_
          refine x_iconst (v := nI 1) dX4_atom_154 rfl ?_
          refine x_isub ((show nI (dp + 1) - nI 1 = nI dp by rw [pk_sub (by omega)]; rfl)) dX4_atom_155 ?_
          refine x_rp R fdX4_66 (by decide) (by decide) (by first | exact fun _ => ⟨_, rfl⟩ | exact fun z => absurd z (by decide)) zf_i dX4_atom_156 (fun h R => ?_)
          refine x_goto (tgt := 174) dX4_atom_159 rfl ?_
          exact x_vret rfl dX4_atom_174 ⟨rfl, by rw [hE, e2]; exact ⟨_, A2, Q2, P.dep R⟩⟩
  by_cases z8 : tkK X p = 8
  · rw [z8]
    refine x_lookup (off := 158) (tgt := 162) dX4_atom_4 (by decide) rfl rfl ?_
    have eS : nR X (fAt1 X f u p) = nR X (fIf X f u (tkB X p)) := by unfold fAt1; rw [if_neg (by omega), if_neg (by omega), if_pos z8]
    refine x_al0 rfl dX4_atom_162 ?_
    refine x_cv0Vp mX4_choice_ok lkX4_136 rfl (Nat.le_of_ble_eq_true rfl) (Nat.le_of_ble_eq_true rfl) dX4_atom_163 R.get  (o_choice1 hi hf hu hBf hBu hdp CS CT CES CET R O (by omega)) (fun h hq => ?_)
    refine x_goto (tgt := 174) dX4_atom_166 rfl ?_
    exact x_vret rfl dX4_atom_174 ⟨rfl, by rw [eS]; exact hq⟩
  refine x_lookup (off := 165) (tgt := 169) dX4_atom_4 (by decide) (lkA _ dm.2 dm.1 z23 z5 (by omega) z35 z8) rfl ?_
  have eS : nR X (fAt1 X f u p) = .inl (2, tkA X p) := by unfold fAt1 erR; rw [if_neg (by omega), if_neg (by omega), if_neg (by omega), erK_2 k25]; rfl
  refine x_al0 rfl dX4_atom_169 ?_
  refine x_iconst (v := nI 2) dX4_atom_170 rfl ?_
  refine x_cv1Vp mX4_fail_ok lkX4_98 rfl (Nat.le_of_ble_eq_true rfl) (Nat.le_of_ble_eq_true rfl) dX4_atom_171 R.get  (o_fail (fa := 2) (by decide) (by decide) R O) (fun h hq => ?_)
  exact x_vret rfl dX4_atom_174 ⟨rfl, by rw [eS]; exact hq⟩
end ZCi

