/-! the class reads sums and truths: loops -/
def CcM (g : zG) (D : Nat) (X : zX) (h0 : zH) (i : Nat) (mz : zMe) (dp : Nat) (f : Nat → zR) : Prop := ∀ (h : zH) (r : Nat → Value) (A : Nat → Nat → Int32) (Q : Nat → zS3) (p : Nat) (cs : List Nat), RW h0 h r A Q → CO X h0 r A Q i dp p cs → Zm g D 0 0 mz [.ref 2] h (rVp (fun h' => PC X h0 h' r A Q i dp cs (nR X (f p))))
def CcE (g : zG) (D : Nat) (h0 : zH) (i : Nat) (mz : zMe) : Prop := ∀ (h : zH) (r : Nat → Value) (A : Nat → Nat → Int32) (Q : Nat → zS3) (e : Nat × Nat), RW h0 h r A Q → CEr r Q i e → Zm g D 0 0 mz [.ref 2] h (rV h)
section ZCl
variable {g : zG} {d : Nat} {h0 h h' : zH} {r r' r2 : Nat → Value} {A A' : Nat → Nat → Int32} {Q Q' : Nat → zS3} {X : zX} {k p q i dp dq : Nat} {e : Nat × Nat} {cs c1 : List Nat} {S : zR} {f u : Nat → zR} {op : Nat → Nat}
theorem CcM.deep {D D' : Nat} {mz : zMe} (c : CcM g D X h0 i mz dp f) (hd : D ≤ D') : CcM g D' X h0 i mz dp f := fun h r A Q p cs R O => (c h r A Q p cs R O).deep hd
theorem CcE.deep {D D' : Nat} {mz : zMe} (c : CcE g D h0 i mz) (hd : D ≤ D') : CcE g D' h0 i mz := fun h r A Q e R E => (c h r A Q e R E).deep hd
theorem lpN_e {k : Nat} (h24 : op 25 = 0) (h : ¬ op (tkK X p) = 0) (hf : nR X (f (tkB X p)) = .inl e) : nR X (lpR X op f (k + 1) p) = .inl e := by
  rw [lpR_a h]
  exact nR_e (BD.lp h24) (nR_e BD.em hf)
theorem lpN_o {k : Nat} {q : Nat × List Nat} (h : ¬ op (tkK X p) = 0) (hf : nR X (f (tkB X p)) = .inr q) : nR X (lpR X op f (k + 1) p) = apR (q.2 ++ [op (tkK X p)]) (nR X (lpR X op f k q.1)) := by
  rw [lpR_o h (nR_o hf).1, nR_ap]
theorem o_add {c : Nat} {x : Int32} (hx : cl c = x) (hi : i = 5 ∨ i = 7) (P : PCa X h0 h r A Q i dp p cs r' A' Q') (hl : cs.length < tkA X p) (hc : vcd c) : Zm g (d + 1) 0 0 mX1_add [.ref i, .int x] h (rVp (fun h' => ∃ A2 Q2, PCa X h0 h' r A Q i dp p (cs ++ [c]) r' A2 Q2)) := by
  obtain ⟨R, U, C, ⟨o1, o2, o3, o4, o5, o6⟩⟩ := P
  have aX := tkA_le o2.2.1
  have X9 := o1.2.2.1
  subst hx
  refine (c_addO R hi o5 (by omega) hc).mono (fun v h' q => ⟨q.1, ?_⟩)
  obtain ⟨-, A2, Q2, R2, C2, D2⟩ := q
  exact ⟨A2, Q2, R2, U, C.tr C2, o1, o2, o3, o4, D2, by rw [List.length_append]; exact hl⟩
theorem e_add {x : Int32} (hi : i = 5 ∨ i = 7) (P : PCe h0 h r A Q i e r' A' Q') : Zm g (d + 1) 0 0 mX1_add [.ref i, .int x] h (rVp (fun h' => ∃ A2 Q2, PCe h0 h' r A Q i e r' A2 Q2)) := by
  obtain ⟨R, U, C, ⟨o1, o2, o3, o4⟩⟩ := P
  refine (c_addE (x := x) R hi o4).mono (fun v h' q => ⟨q.1, ?_⟩)
  obtain ⟨-, A2, Q2, R2, C2, D2⟩ := q
  exact ⟨A2, Q2, R2, U, C.tr C2, o1, o2, o3, D2⟩

theorem e_term (C : CcE g (d + 1) h0 i mX4_atom) : CcE g (d + 2) h0 i mX4_term := by
  intro h r A Q e R E
  have e13 := E.1.2.2.1
  show Zw g (d + 2) 0 0 mX4_term 0 [some (.ref 2), none] [] h _
  refine x_al0 rfl dX4_term_0 ?_
  refine x_cv0V mX4_atom_ok lkX4_127 rfl (Nat.le_of_ble_eq_true rfl) (Nat.le_of_ble_eq_true rfl) dX4_term_1 R.get  (C _ _ _ _ _ R E) ?_
  refine x_iconst (v := nI 0) dX4_term_4 rfl ?_
  refine x_is1 rfl dX4_term_5 ?_
  refine x_il1 dX4_term_6 ?_
  refine x_sipush (v := nI 900) dX4_term_7 (by decide) ?_
  refine x_icmp_ge (tgt := 45) dX4_term_10 rfl (fun q10 => ?_) (fun q10 => ?_)
  · skip
    first | (simp only [cmp_lt, cmp_gt, cmp_eq, zN_cge, zN_cle, Decidable.not_not] at q10) | (simp (disch := omega) only [zN_le, zN_lt, zN_0, zN_1, nI_toInt, zN_eq, zN_eq0, b2_z, b2_nz, Decidable.not_not, Int.not_lt, Int.not_le, zK0, zK1, zK2, zK3, zK5, zK7, zK8, zK9, zK10, zK19, zK20, zK40, zK99, zK100, zK199] at q10) | skip
    exact absurd q10 (by decide)
  · skip
    first | (simp only [cmp_lt, cmp_gt, cmp_eq, zN_cge, zN_cle, Decidable.not_not] at q10) | (simp (disch := omega) only [zN_le, zN_lt, zN_0, zN_1, nI_toInt, zN_eq, zN_eq0, b2_z, b2_nz, Decidable.not_not, Int.not_lt, Int.not_le, zK0, zK1, zK2, zK3, zK5, zK7, zK8, zK9, zK10, zK19, zK20, zK40, zK99, zK100, zK199] at q10) | skip
    refine x_al0 rfl dX4_term_13 ?_
    refine x_rg R fdX4_57 (by decide) (by first | assumption | rfl) dX4_term_14 ?_
    refine x_bipush (v := nI 42) dX4_term_17 rfl ?_
    refine x_icmp_ne (tgt := 45) dX4_term_19 rfl (fun q19 => ?_) (fun q19 => ?_)
    · skip
      first | (simp only [cmp_lt, cmp_gt, cmp_eq, zN_cge, zN_cle, Decidable.not_not] at q19) | (simp (disch := omega) only [zN_le, zN_lt, zN_0, zN_1, nI_toInt, zN_eq, zN_eq0, b2_z, b2_nz, Decidable.not_not, Int.not_lt, Int.not_le, zK0, zK1, zK2, zK3, zK5, zK7, zK8, zK9, zK10, zK19, zK20, zK40, zK99, zK100, zK199] at q19) | skip
      exact x_vret rfl dX4_term_45 ⟨rfl, rfl⟩
    · skip
      first | (simp only [cmp_lt, cmp_gt, cmp_eq, zN_cge, zN_cle, Decidable.not_not] at q19) | (simp (disch := omega) only [zN_le, zN_lt, zN_0, zN_1, nI_toInt, zN_eq, zN_eq0, b2_z, b2_nz, Decidable.not_not, Int.not_lt, Int.not_le, zK0, zK1, zK2, zK3, zK5, zK7, zK8, zK9, zK10, zK19, zK20, zK40, zK99, zK100, zK199] at q19) | skip
      exact absurd q19 (by decide)
/-- after a fault in the loop -/
theorem t_term {j : Nat} {Y : Option Value → zH → Prop} (hi : i = 5 ∨ i = 7) (hj : j ≤ 901) (P : PCe h0 h r A Q i e r' A' Q') (hY : ∀ h r' A' Q', PCe h0 h r A Q i e r' A' Q' → Y none h) : Zw g (d + 2) 0 0 mX4_term 30 [some (.ref 2), some (.int (nI j))] [] h Y := by
  have R := P.1
  have e17 := P.2.2.2.2.2.1
  refine x_al0 rfl dX4_term_30 ?_
  refine x_rg R fdX4_69 (by decide) (by first | assumption | rfl) dX4_term_31 ?_
  refine x_bipush (v := (-8)) dX4_term_34 rfl ?_
  refine x_cv1Vp mX1_add_ok lkX4_124 rfl (Nat.le_of_ble_eq_true rfl) (Nat.le_of_ble_eq_true rfl) dX4_term_36 (R.dq  hi).1 (e_add hi P) (fun h hq => ?_)
  obtain ⟨A2, Q2, P2⟩ := hq
  have R := P2.1
  have e13 := P2.2.2.2.1.2.2.1
  first | refine x_ii1 rfl (nI_1 _) dX4_term_39 ?_ | refine x_ii1 rfl rfl dX4_term_39 ?_
  refine x_goto (tgt := 6) dX4_term_42 rfl ?_
  refine x_il1 dX4_term_6 ?_
  refine x_sipush (v := nI 900) dX4_term_7 (by decide) ?_
  refine x_icmp_ge (tgt := 45) dX4_term_10 rfl (fun q10 => ?_) (fun q10 => ?_)
  · skip
    first | (simp only [cmp_lt, cmp_gt, cmp_eq, zN_cge, zN_cle, Decidable.not_not] at q10) | (simp (disch := omega) only [zN_le, zN_lt, zN_0, zN_1, nI_toInt, zN_eq, zN_eq0, b2_z, b2_nz, Decidable.not_not, Int.not_lt, Int.not_le, zK0, zK1, zK2, zK3, zK5, zK7, zK8, zK9, zK10, zK19, zK20, zK40, zK99, zK100, zK199] at q10) | skip
    exact x_vret rfl dX4_term_45 (hY _ _ _ _ P2)
  · skip
    first | (simp only [cmp_lt, cmp_gt, cmp_eq, zN_cge, zN_cle, Decidable.not_not] at q10) | (simp (disch := omega) only [zN_le, zN_lt, zN_0, zN_1, nI_toInt, zN_eq, zN_eq0, b2_z, b2_nz, Decidable.not_not, Int.not_lt, Int.not_le, zK0, zK1, zK2, zK3, zK5, zK7, zK8, zK9, zK10, zK19, zK20, zK40, zK99, zK100, zK199] at q10) | skip
    refine x_al0 rfl dX4_term_13 ?_
    refine x_rg R fdX4_57 (by decide) (by first | assumption | rfl) dX4_term_14 ?_
    refine x_bipush (v := nI 42) dX4_term_17 rfl ?_
    refine x_icmp_ne (tgt := 45) dX4_term_19 rfl (fun q19 => ?_) (fun q19 => ?_)
    · skip
      first | (simp only [cmp_lt, cmp_gt, cmp_eq, zN_cge, zN_cle, Decidable.not_not] at q19) | (simp (disch := omega) only [zN_le, zN_lt, zN_0, zN_1, nI_toInt, zN_eq, zN_eq0, b2_z, b2_nz, Decidable.not_not, Int.not_lt, Int.not_le, zK0, zK1, zK2, zK3, zK5, zK7, zK8, zK9, zK10, zK19, zK20, zK40, zK99, zK100, zK199] at q19) | skip
      exact x_vret rfl dX4_term_45 (hY _ _ _ _ P2)
    · skip
      first | (simp only [cmp_lt, cmp_gt, cmp_eq, zN_cge, zN_cle, Decidable.not_not] at q19) | (simp (disch := omega) only [zN_le, zN_lt, zN_0, zN_1, nI_toInt, zN_eq, zN_eq0, b2_z, b2_nz, Decidable.not_not, Int.not_lt, Int.not_le, zK0, zK1, zK2, zK3, zK5, zK7, zK8, zK9, zK10, zK19, zK20, zK40, zK99, zK100, zK199] at q19) | skip
      exact absurd q19 (by decide)
theorem o_term (hi : i = 5 ∨ i = 7) (hf : ∀ p, p ≤ X.2 → Gl X p (f p)) (hB : BA X (f)) (C : CcM g (d + 6) X h0 i mX4_atom dp (f)) (CE : CcE g (d + 6) h0 i mX4_atom) : CcM g (d + 7) X h0 i mX4_term dp (fTm X f) := by
  intro h r A Q p cs R O
  have X9 := O.1.2.2.1
  show Zw g (d + 7) 0 0 mX4_term 0 [some (.ref 2), none] [] h _
  refine x_al0 rfl dX4_term_0 ?_
  refine x_cv0Vp mX4_atom_ok lkX4_127 rfl (Nat.le_of_ble_eq_true rfl) (Nat.le_of_ble_eq_true rfl) dX4_term_1 R.get  (C _ _ _ _ _ _ R O) (fun h hq => ?_)
  cases e : nR X (f p) with
  | inl e1 =>
    rw [e] at hq
    obtain ⟨r1, A1, Q1, P⟩ := hq
    have R := P.1
    have e13 := P.2.2.2.1.2.2.1
    have eF : nR X (fTm X f p) = .inl e1 := nR_e (BD.lp rfl) e
    refine x_iconst (v := nI 0) dX4_term_4 rfl ?_
    refine x_is1 rfl dX4_term_5 ?_
    refine x_il1 dX4_term_6 ?_
    refine x_sipush (v := nI 900) dX4_term_7 (by decide) ?_
    refine x_icmp_ge (tgt := 45) dX4_term_10 rfl (fun q10 => ?_) (fun q10 => ?_)
    · skip
      first | (simp only [cmp_lt, cmp_gt, cmp_eq, zN_cge, zN_cle, Decidable.not_not] at q10) | (simp (disch := omega) only [zN_le, zN_lt, zN_0, zN_1, nI_toInt, zN_eq, zN_eq0, b2_z, b2_nz, Decidable.not_not, Int.not_lt, Int.not_le, zK0, zK1, zK2, zK3, zK5, zK7, zK8, zK9, zK10, zK19, zK20, zK40, zK99, zK100, zK199] at q10) | skip
      exact absurd q10 (by decide)
    · skip
      first | (simp only [cmp_lt, cmp_gt, cmp_eq, zN_cge, zN_cle, Decidable.not_not] at q10) | (simp (disch := omega) only [zN_le, zN_lt, zN_0, zN_1, nI_toInt, zN_eq, zN_eq0, b2_z, b2_nz, Decidable.not_not, Int.not_lt, Int.not_le, zK0, zK1, zK2, zK3, zK5, zK7, zK8, zK9, zK10, zK19, zK20, zK40, zK99, zK100, zK199] at q10) | skip
      refine x_al0 rfl dX4_term_13 ?_
      refine x_rg R fdX4_57 (by decide) (by first | assumption | rfl) dX4_term_14 ?_
      refine x_bipush (v := nI 42) dX4_term_17 rfl ?_
      refine x_icmp_ne (tgt := 45) dX4_term_19 rfl (fun q19 => ?_) (fun q19 => ?_)
      · skip
        first | (simp only [cmp_lt, cmp_gt, cmp_eq, zN_cge, zN_cle, Decidable.not_not] at q19) | (simp (disch := omega) only [zN_le, zN_lt, zN_0, zN_1, nI_toInt, zN_eq, zN_eq0, b2_z, b2_nz, Decidable.not_not, Int.not_lt, Int.not_le, zK0, zK1, zK2, zK3, zK5, zK7, zK8, zK9, zK10, zK19, zK20, zK40, zK99, zK100, zK199] at q19) | skip
        exact x_vret rfl dX4_term_45 ⟨rfl, by rw [eF]; exact ⟨r1, A1, Q1, P⟩⟩
      · skip
        first | (simp only [cmp_lt, cmp_gt, cmp_eq, zN_cge, zN_cle, Decidable.not_not] at q19) | (simp (disch := omega) only [zN_le, zN_lt, zN_0, zN_1, nI_toInt, zN_eq, zN_eq0, b2_z, b2_nz, Decidable.not_not, Int.not_lt, Int.not_le, zK0, zK1, zK2, zK3, zK5, zK7, zK8, zK9, zK10, zK19, zK20, zK40, zK99, zK100, zK199] at q19) | skip
        exact absurd q19 (by decide)
  | inr q =>
    rw [e] at hq
    obtain ⟨r1, A1, Q1, P⟩ := hq
    refine x_iconst (v := nI 0) dX4_term_4 rfl ?_
    refine x_is1 rfl dX4_term_5 ?_
    refine x_wh (fun (fu : Nat) => [some (.ref 2), some (.int (nI (901 - fu)))]) (fun fu h => fu ≤ 901 ∧ ∃ p1 c1 r1 A1 Q1, PCa X h0 h r A Q i dp p1 (cs ++ c1) r1 A1 Q1 ∧ nR X (fTm X f p) = apR c1 (nR X (lpR X opT (f) fu p1)) ∧ X.2 < fu + tkA X p1 ∧ 901 - fu ≤ tkA X p1) (fun fu => fu) 901 ⟨Nat.le_refl _, q.1, q.2, r1, A1, Q1, P, nR_s e, by omega, by omega⟩ (fun fu h hI ih => ?_)
    obtain ⟨h901, p1, c1, r1, A1, Q1, P, hE, hfu, hia⟩ := hI
    have R := P.1
    have O := P.2.2.2
    have e13 := O.2.1.2.2.2.1
    have hp1 := O.2.1.2.1
    have ha := tkA_le hp1
    have lK := tk_le hp1
    have tl := tok_lt _ (tkK_dom (X := X) (p := p1)).2
    have k25 := O.2.1.2.2.2.2.2.2
    have te : tok (tkK X p1) = 42 ↔ tkK X p1 = 34 := tok_e (k := 34) (by decide) (by decide)
    have fin : opT (tkK X p1) = 0 → PC X h0 h r A Q i dp cs (nR X (fTm X f p)) := fun z => by rw [hE, lpR_0 z, nR_r k25, apR_n]; exact ⟨r1, A1, Q1, P⟩
    refine x_il1 dX4_term_6 ?_
    refine x_sipush (v := nI 900) dX4_term_7 (by decide) ?_
    refine x_icmp_ge (tgt := 45) dX4_term_10 rfl (fun q10 => ?_) (fun q10 => ?_)
    · skip
      first | (simp only [cmp_lt, cmp_gt, cmp_eq, zN_cge, zN_cle, Decidable.not_not] at q10) | (simp (disch := omega) only [zN_le, zN_lt, zN_0, zN_1, nI_toInt, zN_eq, zN_eq0, b2_z, b2_nz, Decidable.not_not, Int.not_lt, Int.not_le, zK0, zK1, zK2, zK3, zK5, zK7, zK8, zK9, zK10, zK19, zK20, zK40, zK99, zK100, zK199] at q10) | skip
      have z24 : tkK X p1 = 24 := lK.2.2.2.2.mpr (by omega)
      exact x_vret rfl dX4_term_45 ⟨rfl, fin (by rw [z24]; rfl)⟩
    · skip
      first | (simp only [cmp_lt, cmp_gt, cmp_eq, zN_cge, zN_cle, Decidable.not_not] at q10) | (simp (disch := omega) only [zN_le, zN_lt, zN_0, zN_1, nI_toInt, zN_eq, zN_eq0, b2_z, b2_nz, Decidable.not_not, Int.not_lt, Int.not_le, zK0, zK1, zK2, zK3, zK5, zK7, zK8, zK9, zK10, zK19, zK20, zK40, zK99, zK100, zK199] at q10) | skip
      refine x_al0 rfl dX4_term_13 ?_
      refine x_rg R fdX4_57 (by decide) (by first | assumption | rfl) dX4_term_14 ?_
      refine x_bipush (v := nI 42) dX4_term_17 rfl ?_
      refine x_icmp_ne (tgt := 45) dX4_term_19 rfl (fun q19 => ?_) (fun q19 => ?_)
      · skip
        first | (simp only [cmp_lt, cmp_gt, cmp_eq, zN_cge, zN_cle, Decidable.not_not] at q19) | (simp (disch := omega) only [zN_le, zN_lt, zN_0, zN_1, nI_toInt, zN_eq, zN_eq0, b2_z, b2_nz, Decidable.not_not, Int.not_lt, Int.not_le, zK0, zK1, zK2, zK3, zK5, zK7, zK8, zK9, zK10, zK19, zK20, zK40, zK99, zK100, zK199] at q19) | skip
        have nk : ¬ tkK X p1 = 34 := fun y => q19 (te.mpr y)
        exact x_vret rfl dX4_term_45 ⟨rfl, fin (if_neg nk)⟩
      · skip
        first | (simp only [cmp_lt, cmp_gt, cmp_eq, zN_cge, zN_cle, Decidable.not_not] at q19) | (simp (disch := omega) only [zN_le, zN_lt, zN_0, zN_1, nI_toInt, zN_eq, zN_eq0, b2_z, b2_nz, Decidable.not_not, Int.not_lt, Int.not_le, zK0, zK1, zK2, zK3, zK5, zK7, zK8, zK9, zK10, zK19, zK20, zK40, zK99, zK100, zK199] at q19) | skip
        have hk : tkK X p1 = 34 := te.mp q19
        have b := tkA_B hp1 (by omega)
        have op1 : opT (tkK X p1) = 3002 := by rw [hk]; rfl
        obtain ⟨k, rfl⟩ : ∃ k, fu = k + 1 := ⟨fu - 1, by omega⟩
        refine x_al0 rfl dX4_term_22 ?_
        refine x_cv0Vp mX4_advance_ok lkX4_81 rfl (Nat.le_of_ble_eq_true rfl) (Nat.le_of_ble_eq_true rfl) dX4_term_23 R.get  (o_adv R O) (fun h hq => ?_)
        have PR := P.tn hq
        cases z1 : nR X (.inr (tkB X p1, [])) with
        | inl e1 =>
          rw [z1] at PR
          obtain ⟨r2, A2, Q2, P2⟩ := PR
          have kb : tkK X (tkB X p1) = 25 := Decidable.byContradiction (fun y => by rw [nR_r y] at z1; cases z1)
          rw [nR_b kb] at z1
          obtain rfl := Sum.inl.inj z1
          have eS : nR X (fTm X f p) = .inl (1, tkA X (tkB X p1)) := by rw [hE, lpN_e rfl (by rw [op1]; decide) (by rw [hB _ kb]; rfl)]; rfl
          have R := P2.1
          refine x_al0 rfl dX4_term_26 ?_
          refine x_cv0V mX4_atom_ok lkX4_127 rfl (Nat.le_of_ble_eq_true rfl) (Nat.le_of_ble_eq_true rfl) dX4_term_27 R.get  (CE _ _ _ _ _ R P2.2.2.2) ?_
          exact t_term (d := d + 5) hi (by omega) P2 (fun h r' A' Q' z => ⟨rfl, by rw [eS]; exact ⟨r', A', Q', z⟩⟩)
        | inr q1 =>
          rw [z1] at PR
          obtain ⟨hq1, hk1⟩ := nR_o z1
          obtain rfl := Sum.inr.inj hq1
          obtain ⟨r2, A2, Q2, P2⟩ := PR
          change PCa X h0 h r A Q i dp (tkB X p1) (cs ++ (c1 ++ [])) r2 A2 Q2 at P2
          rw [List.append_nil] at P2
          have R := P2.1
          refine x_al0 rfl dX4_term_26 ?_
          refine x_cv0Vp mX4_atom_ok lkX4_127 rfl (Nat.le_of_ble_eq_true rfl) (Nat.le_of_ble_eq_true rfl) dX4_term_27 R.get  (C _ _ _ _ _ _ R P2.2.2.2) (fun h hq => ?_)
          have PR := P2.tn hq
          cases e2 : nR X (f (tkB X p1)) with
          | inl e1 =>
            rw [e2] at PR
            obtain ⟨r3, A3, Q3, P3⟩ := PR
            have eS : nR X (fTm X f p) = .inl e1 := by rw [hE, lpN_e rfl (by rw [op1]; decide) e2]; rfl
            exact t_term (d := d + 5) hi (by omega) P3 (fun h r' A' Q' z => ⟨rfl, by rw [eS]; exact ⟨r', A', Q', z⟩⟩)
          | inr q2 =>
            rw [e2] at PR
            obtain ⟨r3, A3, Q3, P3⟩ := PR
            change PCa X h0 h r A Q i dp q2.1 (cs ++ (c1 ++ q2.2)) r3 A3 Q3 at P3
            have R := P3.1
            have e17 := P3.2.2.2.2.2.2.1
            have l2 := (hf _ b.2).o (nR_o e2).1
            have l1 := O.2.2.2.2.2
            simp only [List.length_append] at l1
            refine x_al0 rfl dX4_term_30 ?_
            refine x_rg R fdX4_69 (by decide) (by first | assumption | rfl) dX4_term_31 ?_
            refine x_bipush (v := (-8)) dX4_term_34 rfl ?_
            refine x_cv1Vp mX1_add_ok lkX4_124 rfl (Nat.le_of_ble_eq_true rfl) (Nat.le_of_ble_eq_true rfl) dX4_term_36 (R.dq  hi).1 (o_add (c := 3002) (by simp [cl]) hi P3 (by simp only [List.length_append]; omega) (Or.inr (by decide))) (fun h hq => ?_)
            obtain ⟨A4, Q4, P4⟩ := hq
            refine x_ii1 rfl (nI_1 _) dX4_term_39 ?_
            refine x_goto (tgt := 6) dX4_term_42 rfl ?_
            rw [show 901 - (k + 1) + 1 = 901 - k by omega]
            refine ih k _ (by omega) ⟨by omega, q2.1, c1 ++ (q2.2 ++ [3002]), r3, A4, Q4, ?_, ?_, by omega, by omega⟩
            · rw [← List.append_assoc, ← List.append_assoc]; rw [← List.append_assoc] at P4; exact P4
            · rw [hE, lpN_o (by rw [op1]; decide) e2, apR_ap, op1]

theorem e_sum (C : CcE g (d + 1) h0 i mX4_term) : CcE g (d + 2) h0 i mX4_sum := by
  intro h r A Q e R E
  have e13 := E.1.2.2.1
  show Zw g (d + 2) 0 0 mX4_sum 0 [some (.ref 2), none, none] [] h _
  refine x_al0 rfl dX4_sum_0 ?_
  refine x_cv0V mX4_term_ok lkX4_119 rfl (Nat.le_of_ble_eq_true rfl) (Nat.le_of_ble_eq_true rfl) dX4_sum_1 R.get  (C _ _ _ _ _ R E) ?_
  refine x_iconst (v := nI 0) dX4_sum_4 rfl ?_
  refine x_is1 rfl dX4_sum_5 ?_
  refine x_il1 dX4_sum_6 ?_
  refine x_sipush (v := nI 900) dX4_sum_7 (by decide) ?_
  refine x_icmp_ge (tgt := 70) dX4_sum_10 rfl (fun q10 => ?_) (fun q10 => ?_)
  · skip
    first | (simp only [cmp_lt, cmp_gt, cmp_eq, zN_cge, zN_cle, Decidable.not_not] at q10) | (simp (disch := omega) only [zN_le, zN_lt, zN_0, zN_1, nI_toInt, zN_eq, zN_eq0, b2_z, b2_nz, Decidable.not_not, Int.not_lt, Int.not_le, zK0, zK1, zK2, zK3, zK5, zK7, zK8, zK9, zK10, zK19, zK20, zK40, zK99, zK100, zK199] at q10) | skip
    exact absurd q10 (by decide)
  · skip
    first | (simp only [cmp_lt, cmp_gt, cmp_eq, zN_cge, zN_cle, Decidable.not_not] at q10) | (simp (disch := omega) only [zN_le, zN_lt, zN_0, zN_1, nI_toInt, zN_eq, zN_eq0, b2_z, b2_nz, Decidable.not_not, Int.not_lt, Int.not_le, zK0, zK1, zK2, zK3, zK5, zK7, zK8, zK9, zK10, zK19, zK20, zK40, zK99, zK100, zK199] at q10) | skip
    refine x_al0 rfl dX4_sum_13 ?_
    refine x_rg R fdX4_57 (by decide) (by first | assumption | rfl) dX4_sum_14 ?_
    refine x_bipush (v := nI 43) dX4_sum_17 rfl ?_
    refine x_icmp_eq (tgt := 31) dX4_sum_19 rfl (fun q19 => ?_) (fun q19 => ?_)
    · skip
      first | (simp only [cmp_lt, cmp_gt, cmp_eq, zN_cge, zN_cle, Decidable.not_not] at q19) | (simp (disch := omega) only [zN_le, zN_lt, zN_0, zN_1, nI_toInt, zN_eq, zN_eq0, b2_z, b2_nz, Decidable.not_not, Int.not_lt, Int.not_le, zK0, zK1, zK2, zK3, zK5, zK7, zK8, zK9, zK10, zK19, zK20, zK40, zK99, zK100, zK199] at q19) | skip
      exact absurd q19 (by decide)
    · skip
      first | (simp only [cmp_lt, cmp_gt, cmp_eq, zN_cge, zN_cle, Decidable.not_not] at q19) | (simp (disch := omega) only [zN_le, zN_lt, zN_0, zN_1, nI_toInt, zN_eq, zN_eq0, b2_z, b2_nz, Decidable.not_not, Int.not_lt, Int.not_le, zK0, zK1, zK2, zK3, zK5, zK7, zK8, zK9, zK10, zK19, zK20, zK40, zK99, zK100, zK199] at q19) | skip
      refine x_al0 rfl dX4_sum_22 ?_
      refine x_rg R fdX4_57 (by decide) (by first | assumption | rfl) dX4_sum_23 ?_
      refine x_bipush (v := nI 45) dX4_sum_26 rfl ?_
      refine x_icmp_ne (tgt := 70) dX4_sum_28 rfl (fun q28 => ?_) (fun q28 => ?_)
      · skip
        first | (simp only [cmp_lt, cmp_gt, cmp_eq, zN_cge, zN_cle, Decidable.not_not] at q28) | (simp (disch := omega) only [zN_le, zN_lt, zN_0, zN_1, nI_toInt, zN_eq, zN_eq0, b2_z, b2_nz, Decidable.not_not, Int.not_lt, Int.not_le, zK0, zK1, zK2, zK3, zK5, zK7, zK8, zK9, zK10, zK19, zK20, zK40, zK99, zK100, zK199] at q28) | skip
        exact x_vret rfl dX4_sum_70 ⟨rfl, rfl⟩
      · skip
        first | (simp only [cmp_lt, cmp_gt, cmp_eq, zN_cge, zN_cle, Decidable.not_not] at q28) | (simp (disch := omega) only [zN_le, zN_lt, zN_0, zN_1, nI_toInt, zN_eq, zN_eq0, b2_z, b2_nz, Decidable.not_not, Int.not_lt, Int.not_le, zK0, zK1, zK2, zK3, zK5, zK7, zK8, zK9, zK10, zK19, zK20, zK40, zK99, zK100, zK199] at q28) | skip
        exact absurd q28 (by decide)
theorem t_sum {j : Nat} {x : Int32} {Y : Option Value → zH → Prop} (hi : i = 5 ∨ i = 7) (hj : j ≤ 901) (P : PCe h0 h r A Q i e r' A' Q') (hY : ∀ h r' A' Q', PCe h0 h r A Q i e r' A' Q' → Y none h) : Zw g (d + 2) 0 0 mX4_sum 56 [some (.ref 2), some (.int (nI j)), some (.int x)] [] h Y := by
  have R := P.1
  have e17 := P.2.2.2.2.2.1
  refine x_al0 rfl dX4_sum_56 ?_
  refine x_rg R fdX4_69 (by decide) (by first | assumption | rfl) dX4_sum_57 ?_
  refine x_il2 dX4_sum_60 ?_
  refine x_cv1Vp mX1_add_ok lkX4_124 rfl (Nat.le_of_ble_eq_true rfl) (Nat.le_of_ble_eq_true rfl) dX4_sum_61 (R.dq  hi).1 (e_add hi P) (fun h hq => ?_)
  obtain ⟨A2, Q2, P2⟩ := hq
  have R := P2.1
  have e13 := P2.2.2.2.1.2.2.1
  first | refine x_ii1 rfl (nI_1 _) dX4_sum_64 ?_ | refine x_ii1 rfl rfl dX4_sum_64 ?_
  refine x_goto (tgt := 6) dX4_sum_67 rfl ?_
  refine x_il1 dX4_sum_6 ?_
  refine x_sipush (v := nI 900) dX4_sum_7 (by decide) ?_
  refine x_icmp_ge (tgt := 70) dX4_sum_10 rfl (fun q10 => ?_) (fun q10 => ?_)
  · skip
    first | (simp only [cmp_lt, cmp_gt, cmp_eq, zN_cge, zN_cle, Decidable.not_not] at q10) | (simp (disch := omega) only [zN_le, zN_lt, zN_0, zN_1, nI_toInt, zN_eq, zN_eq0, b2_z, b2_nz, Decidable.not_not, Int.not_lt, Int.not_le, zK0, zK1, zK2, zK3, zK5, zK7, zK8, zK9, zK10, zK19, zK20, zK40, zK99, zK100, zK199] at q10) | skip
    exact x_vret rfl dX4_sum_70 (hY _ _ _ _ P2)
  · skip
    first | (simp only [cmp_lt, cmp_gt, cmp_eq, zN_cge, zN_cle, Decidable.not_not] at q10) | (simp (disch := omega) only [zN_le, zN_lt, zN_0, zN_1, nI_toInt, zN_eq, zN_eq0, b2_z, b2_nz, Decidable.not_not, Int.not_lt, Int.not_le, zK0, zK1, zK2, zK3, zK5, zK7, zK8, zK9, zK10, zK19, zK20, zK40, zK99, zK100, zK199] at q10) | skip
    refine x_al0 rfl dX4_sum_13 ?_
    refine x_rg R fdX4_57 (by decide) (by first | assumption | rfl) dX4_sum_14 ?_
    refine x_bipush (v := nI 43) dX4_sum_17 rfl ?_
    refine x_icmp_eq (tgt := 31) dX4_sum_19 rfl (fun q19 => ?_) (fun q19 => ?_)
    · skip
      first | (simp only [cmp_lt, cmp_gt, cmp_eq, zN_cge, zN_cle, Decidable.not_not] at q19) | (simp (disch := omega) only [zN_le, zN_lt, zN_0, zN_1, nI_toInt, zN_eq, zN_eq0, b2_z, b2_nz, Decidable.not_not, Int.not_lt, Int.not_le, zK0, zK1, zK2, zK3, zK5, zK7, zK8, zK9, zK10, zK19, zK20, zK40, zK99, zK100, zK199] at q19) | skip
      exact absurd q19 (by decide)
    · skip
      first | (simp only [cmp_lt, cmp_gt, cmp_eq, zN_cge, zN_cle, Decidable.not_not] at q19) | (simp (disch := omega) only [zN_le, zN_lt, zN_0, zN_1, nI_toInt, zN_eq, zN_eq0, b2_z, b2_nz, Decidable.not_not, Int.not_lt, Int.not_le, zK0, zK1, zK2, zK3, zK5, zK7, zK8, zK9, zK10, zK19, zK20, zK40, zK99, zK100, zK199] at q19) | skip
      refine x_al0 rfl dX4_sum_22 ?_
      refine x_rg R fdX4_57 (by decide) (by first | assumption | rfl) dX4_sum_23 ?_
      refine x_bipush (v := nI 45) dX4_sum_26 rfl ?_
      refine x_icmp_ne (tgt := 70) dX4_sum_28 rfl (fun q28 => ?_) (fun q28 => ?_)
      · skip
        first | (simp only [cmp_lt, cmp_gt, cmp_eq, zN_cge, zN_cle, Decidable.not_not] at q28) | (simp (disch := omega) only [zN_le, zN_lt, zN_0, zN_1, nI_toInt, zN_eq, zN_eq0, b2_z, b2_nz, Decidable.not_not, Int.not_lt, Int.not_le, zK0, zK1, zK2, zK3, zK5, zK7, zK8, zK9, zK10, zK19, zK20, zK40, zK99, zK100, zK199] at q28) | skip
        exact x_vret rfl dX4_sum_70 (hY _ _ _ _ P2)
      · skip
        first | (simp only [cmp_lt, cmp_gt, cmp_eq, zN_cge, zN_cle, Decidable.not_not] at q28) | (simp (disch := omega) only [zN_le, zN_lt, zN_0, zN_1, nI_toInt, zN_eq, zN_eq0, b2_z, b2_nz, Decidable.not_not, Int.not_lt, Int.not_le, zK0, zK1, zK2, zK3, zK5, zK7, zK8, zK9, zK10, zK19, zK20, zK40, zK99, zK100, zK199] at q28) | skip
        exact absurd q28 (by decide)
theorem o_sum (hi : i = 5 ∨ i = 7) (hf : ∀ p, p ≤ X.2 → Gl X p (fTm X f p)) (hB : BA X (fTm X f)) (C : CcM g (d + 6) X h0 i mX4_term dp (fTm X f)) (CE : CcE g (d + 6) h0 i mX4_term) : CcM g (d + 7) X h0 i mX4_sum dp (fSm X f) := by
  intro h r A Q p cs R O
  have X9 := O.1.2.2.1
  show Zw g (d + 7) 0 0 mX4_sum 0 [some (.ref 2), none, none] [] h _
  refine x_al0 rfl dX4_sum_0 ?_
  refine x_cv0Vp mX4_term_ok lkX4_119 rfl (Nat.le_of_ble_eq_true rfl) (Nat.le_of_ble_eq_true rfl) dX4_sum_1 R.get  (C _ _ _ _ _ _ R O) (fun h hq => ?_)
  cases e : nR X (fTm X f p) with
  | inl e1 =>
    rw [e] at hq
    obtain ⟨r1, A1, Q1, P⟩ := hq
    have R := P.1
    have e13 := P.2.2.2.1.2.2.1
    have eF : nR X (fSm X f p) = .inl e1 := nR_e (BD.lp rfl) e
    refine x_iconst (v := nI 0) dX4_sum_4 rfl ?_
    refine x_is1 rfl dX4_sum_5 ?_
    refine x_il1 dX4_sum_6 ?_
    refine x_sipush (v := nI 900) dX4_sum_7 (by decide) ?_
    refine x_icmp_ge (tgt := 70) dX4_sum_10 rfl (fun q10 => ?_) (fun q10 => ?_)
    · skip
      first | (simp only [cmp_lt, cmp_gt, cmp_eq, zN_cge, zN_cle, Decidable.not_not] at q10) | (simp (disch := omega) only [zN_le, zN_lt, zN_0, zN_1, nI_toInt, zN_eq, zN_eq0, b2_z, b2_nz, Decidable.not_not, Int.not_lt, Int.not_le, zK0, zK1, zK2, zK3, zK5, zK7, zK8, zK9, zK10, zK19, zK20, zK40, zK99, zK100, zK199] at q10) | skip
      exact absurd q10 (by decide)
    · skip
      first | (simp only [cmp_lt, cmp_gt, cmp_eq, zN_cge, zN_cle, Decidable.not_not] at q10) | (simp (disch := omega) only [zN_le, zN_lt, zN_0, zN_1, nI_toInt, zN_eq, zN_eq0, b2_z, b2_nz, Decidable.not_not, Int.not_lt, Int.not_le, zK0, zK1, zK2, zK3, zK5, zK7, zK8, zK9, zK10, zK19, zK20, zK40, zK99, zK100, zK199] at q10) | skip
      refine x_al0 rfl dX4_sum_13 ?_
      refine x_rg R fdX4_57 (by decide) (by first | assumption | rfl) dX4_sum_14 ?_
      refine x_bipush (v := nI 43) dX4_sum_17 rfl ?_
      refine x_icmp_eq (tgt := 31) dX4_sum_19 rfl (fun q19 => ?_) (fun q19 => ?_)
      · skip
        first | (simp only [cmp_lt, cmp_gt, cmp_eq, zN_cge, zN_cle, Decidable.not_not] at q19) | (simp (disch := omega) only [zN_le, zN_lt, zN_0, zN_1, nI_toInt, zN_eq, zN_eq0, b2_z, b2_nz, Decidable.not_not, Int.not_lt, Int.not_le, zK0, zK1, zK2, zK3, zK5, zK7, zK8, zK9, zK10, zK19, zK20, zK40, zK99, zK100, zK199] at q19) | skip
        exact absurd q19 (by decide)
      · skip
        first | (simp only [cmp_lt, cmp_gt, cmp_eq, zN_cge, zN_cle, Decidable.not_not] at q19) | (simp (disch := omega) only [zN_le, zN_lt, zN_0, zN_1, nI_toInt, zN_eq, zN_eq0, b2_z, b2_nz, Decidable.not_not, Int.not_lt, Int.not_le, zK0, zK1, zK2, zK3, zK5, zK7, zK8, zK9, zK10, zK19, zK20, zK40, zK99, zK100, zK199] at q19) | skip
        refine x_al0 rfl dX4_sum_22 ?_
        refine x_rg R fdX4_57 (by decide) (by first | assumption | rfl) dX4_sum_23 ?_
        refine x_bipush (v := nI 45) dX4_sum_26 rfl ?_
        refine x_icmp_ne (tgt := 70) dX4_sum_28 rfl (fun q28 => ?_) (fun q28 => ?_)
        · skip
          first | (simp only [cmp_lt, cmp_gt, cmp_eq, zN_cge, zN_cle, Decidable.not_not] at q28) | (simp (disch := omega) only [zN_le, zN_lt, zN_0, zN_1, nI_toInt, zN_eq, zN_eq0, b2_z, b2_nz, Decidable.not_not, Int.not_lt, Int.not_le, zK0, zK1, zK2, zK3, zK5, zK7, zK8, zK9, zK10, zK19, zK20, zK40, zK99, zK100, zK199] at q28) | skip
          exact x_vret rfl dX4_sum_70 ⟨rfl, by rw [eF]; exact ⟨r1, A1, Q1, P⟩⟩
        · skip
          first | (simp only [cmp_lt, cmp_gt, cmp_eq, zN_cge, zN_cle, Decidable.not_not] at q28) | (simp (disch := omega) only [zN_le, zN_lt, zN_0, zN_1, nI_toInt, zN_eq, zN_eq0, b2_z, b2_nz, Decidable.not_not, Int.not_lt, Int.not_le, zK0, zK1, zK2, zK3, zK5, zK7, zK8, zK9, zK10, zK19, zK20, zK40, zK99, zK100, zK199] at q28) | skip
          exact absurd q28 (by decide)
  | inr q =>
    rw [e] at hq
    obtain ⟨r1, A1, Q1, P⟩ := hq
    refine x_iconst (v := nI 0) dX4_sum_4 rfl ?_
    refine x_is1 rfl dX4_sum_5 ?_
    refine x_wh (fun (fu : Nat) => [some (.ref 2), some (.int (nI (901 - fu))), none]) (fun fu h => fu ≤ 901 ∧ ∃ p1 c1 r1 A1 Q1, PCa X h0 h r A Q i dp p1 (cs ++ c1) r1 A1 Q1 ∧ nR X (fSm X f p) = apR c1 (nR X (lpR X opS (fTm X f) fu p1)) ∧ X.2 < fu + tkA X p1 ∧ 901 - fu ≤ tkA X p1) (fun fu => fu) 901 ⟨Nat.le_refl _, q.1, q.2, r1, A1, Q1, P, nR_s e, by omega, by omega⟩ (fun fu h hI ih => ?_)
    obtain ⟨h901, p1, c1, r1, A1, Q1, P, hE, hfu, hia⟩ := hI
    have R := P.1
    have O := P.2.2.2
    have e13 := O.2.1.2.2.2.1
    have hp1 := O.2.1.2.1
    have ha := tkA_le hp1
    have lK := tk_le hp1
    have tl := tok_lt _ (tkK_dom (X := X) (p := p1)).2
    have k25 := O.2.1.2.2.2.2.2.2
    have te : tok (tkK X p1) = 43 ↔ tkK X p1 = 32 := tok_e (k := 32) (by decide) (by decide)
    have te2 : tok (tkK X p1) = 45 ↔ tkK X p1 = 33 := tok_e (k := 33) (by decide) (by decide)
    have fin : opS (tkK X p1) = 0 → PC X h0 h r A Q i dp cs (nR X (fSm X f p)) := fun z => by rw [hE, lpR_0 z, nR_r k25, apR_n]; exact ⟨r1, A1, Q1, P⟩
    have step : ∀ (c : Nat) (x : Int32), cl c = x → (c = 3000 ∨ c = 3001) → opS (tkK X p1) = c → Zw g (d + 7) 0 0 mX4_sum 47 [some (.ref 2), some (.int (nI (901 - fu))), none] [.int x] h (rVp (fun h' => PC X h0 h' r A Q i dp cs (nR X (fSm X f p)))) := by
      intro c x hx hc op1
      have n0 : ¬ opS (tkK X p1) = 0 := by rw [op1]; omega
      have b := tkA_B hp1 (fun z => n0 (by rw [z]; rfl))
      obtain ⟨k, rfl⟩ : ∃ k, fu = k + 1 := ⟨fu - 1, by omega⟩
      refine x_is2 rfl dX4_sum_47 ?_
      refine x_al0 rfl dX4_sum_48 ?_
      refine x_cv0Vp mX4_advance_ok lkX4_81 rfl (Nat.le_of_ble_eq_true rfl) (Nat.le_of_ble_eq_true rfl) dX4_sum_49 R.get  (o_adv R O) (fun h hq => ?_)
      have PR := P.tn hq
      cases z1 : nR X (.inr (tkB X p1, [])) with
      | inl e1 =>
        rw [z1] at PR
        obtain ⟨r2, A2, Q2, P2⟩ := PR
        have kb : tkK X (tkB X p1) = 25 := Decidable.byContradiction (fun y => by rw [nR_r y] at z1; cases z1)
        rw [nR_b kb] at z1
        obtain rfl := Sum.inl.inj z1
        have eS : nR X (fSm X f p) = .inl (1, tkA X (tkB X p1)) := by rw [hE, lpN_e rfl n0 (by rw [hB _ kb]; rfl)]; rfl
        have R := P2.1
        refine x_al0 rfl dX4_sum_52 ?_
        refine x_cv0V mX4_term_ok lkX4_119 rfl (Nat.le_of_ble_eq_true rfl) (Nat.le_of_ble_eq_true rfl) dX4_sum_53 R.get  (CE _ _ _ _ _ R P2.2.2.2) ?_
        exact t_sum (d := d + 5) hi (by omega) P2 (fun h r' A' Q' z => ⟨rfl, by rw [eS]; exact ⟨r', A', Q', z⟩⟩)
      | inr q1 =>
        rw [z1] at PR
        obtain ⟨hq1, hk1⟩ := nR_o z1
        obtain rfl := Sum.inr.inj hq1
        obtain ⟨r2, A2, Q2, P2⟩ := PR
        change PCa X h0 h r A Q i dp (tkB X p1) (cs ++ (c1 ++ [])) r2 A2 Q2 at P2
        rw [List.append_nil] at P2
        have R := P2.1
        refine x_al0 rfl dX4_sum_52 ?_
        refine x_cv0Vp mX4_term_ok lkX4_119 rfl (Nat.le_of_ble_eq_true rfl) (Nat.le_of_ble_eq_true rfl) dX4_sum_53 R.get  (C _ _ _ _ _ _ R P2.2.2.2) (fun h hq => ?_)
        have PR := P2.tn hq
        cases e2 : nR X (fTm X f (tkB X p1)) with
        | inl e1 =>
          rw [e2] at PR
          obtain ⟨r3, A3, Q3, P3⟩ := PR
          have eS : nR X (fSm X f p) = .inl e1 := by rw [hE, lpN_e rfl n0 e2]; rfl
          exact t_sum (d := d + 5) hi (by omega) P3 (fun h r' A' Q' z => ⟨rfl, by rw [eS]; exact ⟨r', A', Q', z⟩⟩)
        | inr q2 =>
          rw [e2] at PR
          obtain ⟨r3, A3, Q3, P3⟩ := PR
          change PCa X h0 h r A Q i dp q2.1 (cs ++ (c1 ++ q2.2)) r3 A3 Q3 at P3
          have R := P3.1
          have e17 := P3.2.2.2.2.2.2.1
          have l2 := (hf _ b.2).o (nR_o e2).1
          have l1 := O.2.2.2.2.2
          simp only [List.length_append] at l1
          refine x_al0 rfl dX4_sum_56 ?_
          refine x_rg R fdX4_69 (by decide) (by first | assumption | rfl) dX4_sum_57 ?_
          refine x_il2 dX4_sum_60 ?_
          refine x_cv1Vp mX1_add_ok lkX4_124 rfl (Nat.le_of_ble_eq_true rfl) (Nat.le_of_ble_eq_true rfl) dX4_sum_61 (R.dq  hi).1 (o_add (c := c) hx hi P3 (by simp only [List.length_append]; omega) (Or.inr (by omega))) (fun h hq => ?_)
          obtain ⟨A4, Q4, P4⟩ := hq
          refine x_ii1 rfl (nI_1 _) dX4_sum_64 ?_
          refine x_goto (tgt := 6) dX4_sum_67 rfl ?_
          rw [show 901 - (k + 1) + 1 = 901 - k by omega]
          refine x_kill 2 (ih k _ (by omega) ⟨by omega, q2.1, c1 ++ (q2.2 ++ [c]), r3, A4, Q4, ?_, ?_, by omega, by omega⟩)
          · rw [← List.append_assoc, ← List.append_assoc]; rw [← List.append_assoc] at P4; exact P4
          · rw [hE, lpN_o n0 e2, apR_ap, op1]
    refine x_il1 dX4_sum_6 ?_
    refine x_sipush (v := nI 900) dX4_sum_7 (by decide) ?_
    refine x_icmp_ge (tgt := 70) dX4_sum_10 rfl (fun q10 => ?_) (fun q10 => ?_)
    · skip
      first | (simp only [cmp_lt, cmp_gt, cmp_eq, zN_cge, zN_cle, Decidable.not_not] at q10) | (simp (disch := omega) only [zN_le, zN_lt, zN_0, zN_1, nI_toInt, zN_eq, zN_eq0, b2_z, b2_nz, Decidable.not_not, Int.not_lt, Int.not_le, zK0, zK1, zK2, zK3, zK5, zK7, zK8, zK9, zK10, zK19, zK20, zK40, zK99, zK100, zK199] at q10) | skip
      have z24 : tkK X p1 = 24 := lK.2.2.2.2.mpr (by omega)
      exact x_vret rfl dX4_sum_70 ⟨rfl, fin (by rw [z24]; rfl)⟩
    · skip
      first | (simp only [cmp_lt, cmp_gt, cmp_eq, zN_cge, zN_cle, Decidable.not_not] at q10) | (simp (disch := omega) only [zN_le, zN_lt, zN_0, zN_1, nI_toInt, zN_eq, zN_eq0, b2_z, b2_nz, Decidable.not_not, Int.not_lt, Int.not_le, zK0, zK1, zK2, zK3, zK5, zK7, zK8, zK9, zK10, zK19, zK20, zK40, zK99, zK100, zK199] at q10) | skip
      refine x_al0 rfl dX4_sum_13 ?_
      refine x_rg R fdX4_57 (by decide) (by first | assumption | rfl) dX4_sum_14 ?_
      refine x_bipush (v := nI 43) dX4_sum_17 rfl ?_
      refine x_icmp_eq (tgt := 31) dX4_sum_19 rfl (fun q19 => ?_) (fun q19 => ?_)
      · skip
        first | (simp only [cmp_lt, cmp_gt, cmp_eq, zN_cge, zN_cle, Decidable.not_not] at q19) | (simp (disch := omega) only [zN_le, zN_lt, zN_0, zN_1, nI_toInt, zN_eq, zN_eq0, b2_z, b2_nz, Decidable.not_not, Int.not_lt, Int.not_le, zK0, zK1, zK2, zK3, zK5, zK7, zK8, zK9, zK10, zK19, zK20, zK40, zK99, zK100, zK199] at q19) | skip
        refine x_al0 rfl dX4_sum_31 ?_
        refine x_rg R fdX4_57 (by decide) (by first | assumption | rfl) dX4_sum_32 ?_
        refine x_bipush (v := nI 43) dX4_sum_35 rfl ?_
        refine x_icmp_ne (tgt := 45) dX4_sum_37 rfl (fun q37 => ?_) (fun q37 => ?_)
        · skip
          first | (simp only [cmp_lt, cmp_gt, cmp_eq, zN_cge, zN_cle, Decidable.not_not] at q37) | (simp (disch := omega) only [zN_le, zN_lt, zN_0, zN_1, nI_toInt, zN_eq, zN_eq0, b2_z, b2_nz, Decidable.not_not, Int.not_lt, Int.not_le, zK0, zK1, zK2, zK3, zK5, zK7, zK8, zK9, zK10, zK19, zK20, zK40, zK99, zK100, zK199] at q37) | skip
          refine x_bipush (v := (-7)) dX4_sum_45 rfl ?_
          exact absurd q19 q37
        · skip
          first | (simp only [cmp_lt, cmp_gt, cmp_eq, zN_cge, zN_cle, Decidable.not_not] at q37) | (simp (disch := omega) only [zN_le, zN_lt, zN_0, zN_1, nI_toInt, zN_eq, zN_eq0, b2_z, b2_nz, Decidable.not_not, Int.not_lt, Int.not_le, zK0, zK1, zK2, zK3, zK5, zK7, zK8, zK9, zK10, zK19, zK20, zK40, zK99, zK100, zK199] at q37) | skip
          refine x_bipush (v := (-6)) dX4_sum_40 rfl ?_
          refine x_goto (tgt := 47) dX4_sum_42 rfl ?_
          exact step 3000 (-6) (by simp [cl]) (Or.inl rfl) (by rw [te.mp q19]; rfl)
      · skip
        first | (simp only [cmp_lt, cmp_gt, cmp_eq, zN_cge, zN_cle, Decidable.not_not] at q19) | (simp (disch := omega) only [zN_le, zN_lt, zN_0, zN_1, nI_toInt, zN_eq, zN_eq0, b2_z, b2_nz, Decidable.not_not, Int.not_lt, Int.not_le, zK0, zK1, zK2, zK3, zK5, zK7, zK8, zK9, zK10, zK19, zK20, zK40, zK99, zK100, zK199] at q19) | skip
        refine x_al0 rfl dX4_sum_22 ?_
        refine x_rg R fdX4_57 (by decide) (by first | assumption | rfl) dX4_sum_23 ?_
        refine x_bipush (v := nI 45) dX4_sum_26 rfl ?_
        refine x_icmp_ne (tgt := 70) dX4_sum_28 rfl (fun q28 => ?_) (fun q28 => ?_)
        · skip
          first | (simp only [cmp_lt, cmp_gt, cmp_eq, zN_cge, zN_cle, Decidable.not_not] at q28) | (simp (disch := omega) only [zN_le, zN_lt, zN_0, zN_1, nI_toInt, zN_eq, zN_eq0, b2_z, b2_nz, Decidable.not_not, Int.not_lt, Int.not_le, zK0, zK1, zK2, zK3, zK5, zK7, zK8, zK9, zK10, zK19, zK20, zK40, zK99, zK100, zK199] at q28) | skip
          have nk : opS (tkK X p1) = 0 := by unfold opS; rw [if_neg (fun y => q19 (te.mpr y)), if_neg (fun y => q28 (te2.mpr y))]
          exact x_vret rfl dX4_sum_70 ⟨rfl, fin nk⟩
        · skip
          first | (simp only [cmp_lt, cmp_gt, cmp_eq, zN_cge, zN_cle, Decidable.not_not] at q28) | (simp (disch := omega) only [zN_le, zN_lt, zN_0, zN_1, nI_toInt, zN_eq, zN_eq0, b2_z, b2_nz, Decidable.not_not, Int.not_lt, Int.not_le, zK0, zK1, zK2, zK3, zK5, zK7, zK8, zK9, zK10, zK19, zK20, zK40, zK99, zK100, zK199] at q28) | skip
          refine x_al0 rfl dX4_sum_31 ?_
          refine x_rg R fdX4_57 (by decide) (by first | assumption | rfl) dX4_sum_32 ?_
          refine x_bipush (v := nI 43) dX4_sum_35 rfl ?_
          refine x_icmp_ne (tgt := 45) dX4_sum_37 rfl (fun q37 => ?_) (fun q37 => ?_)
          · skip
            first | (simp only [cmp_lt, cmp_gt, cmp_eq, zN_cge, zN_cle, Decidable.not_not] at q37) | (simp (disch := omega) only [zN_le, zN_lt, zN_0, zN_1, nI_toInt, zN_eq, zN_eq0, b2_z, b2_nz, Decidable.not_not, Int.not_lt, Int.not_le, zK0, zK1, zK2, zK3, zK5, zK7, zK8, zK9, zK10, zK19, zK20, zK40, zK99, zK100, zK199] at q37) | skip
            refine x_bipush (v := (-7)) dX4_sum_45 rfl ?_
            exact step 3001 (-7) (by simp [cl]) (Or.inr rfl) (by rw [te2.mp q28]; rfl)
          · skip
            first | (simp only [cmp_lt, cmp_gt, cmp_eq, zN_cge, zN_cle, Decidable.not_not] at q37) | (simp (disch := omega) only [zN_le, zN_lt, zN_0, zN_1, nI_toInt, zN_eq, zN_eq0, b2_z, b2_nz, Decidable.not_not, Int.not_lt, Int.not_le, zK0, zK1, zK2, zK3, zK5, zK7, zK8, zK9, zK10, zK19, zK20, zK40, zK99, zK100, zK199] at q37) | skip
            refine x_bipush (v := (-6)) dX4_sum_40 rfl ?_
            refine x_goto (tgt := 47) dX4_sum_42 rfl ?_
            exact absurd q37 q19

theorem e_both (C : CcE g (d + 1) h0 i mX4_unit) : CcE g (d + 2) h0 i mX4_both := by
  intro h r A Q e R E
  have e13 := E.1.2.2.1
  show Zw g (d + 2) 0 0 mX4_both 0 [some (.ref 2), none] [] h _
  refine x_al0 rfl dX4_both_0 ?_
  refine x_cv0V mX4_unit_ok lkX4_142 rfl (Nat.le_of_ble_eq_true rfl) (Nat.le_of_ble_eq_true rfl) dX4_both_1 R.get  (C _ _ _ _ _ R E) ?_
  refine x_iconst (v := nI 0) dX4_both_4 rfl ?_
  refine x_is1 rfl dX4_both_5 ?_
  refine x_il1 dX4_both_6 ?_
  refine x_sipush (v := nI 900) dX4_both_7 (by decide) ?_
  refine x_icmp_ge (tgt := 46) dX4_both_10 rfl (fun q10 => ?_) (fun q10 => ?_)
  · skip
    first | (simp only [cmp_lt, cmp_gt, cmp_eq, zN_cge, zN_cle, Decidable.not_not] at q10) | (simp (disch := omega) only [zN_le, zN_lt, zN_0, zN_1, nI_toInt, zN_eq, zN_eq0, b2_z, b2_nz, Decidable.not_not, Int.not_lt, Int.not_le, zK0, zK1, zK2, zK3, zK5, zK7, zK8, zK9, zK10, zK19, zK20, zK40, zK99, zK100, zK199] at q10) | skip
    exact absurd q10 (by decide)
  · skip
    first | (simp only [cmp_lt, cmp_gt, cmp_eq, zN_cge, zN_cle, Decidable.not_not] at q10) | (simp (disch := omega) only [zN_le, zN_lt, zN_0, zN_1, nI_toInt, zN_eq, zN_eq0, b2_z, b2_nz, Decidable.not_not, Int.not_lt, Int.not_le, zK0, zK1, zK2, zK3, zK5, zK7, zK8, zK9, zK10, zK19, zK20, zK40, zK99, zK100, zK199] at q10) | skip
    refine x_al0 rfl dX4_both_13 ?_
    refine x_rg R fdX4_57 (by decide) (by first | assumption | rfl) dX4_both_14 ?_
    refine x_sipush (v := nI 317) dX4_both_17 (by decide) ?_
    refine x_icmp_ne (tgt := 46) dX4_both_20 rfl (fun q20 => ?_) (fun q20 => ?_)
    · skip
      first | (simp only [cmp_lt, cmp_gt, cmp_eq, zN_cge, zN_cle, Decidable.not_not] at q20) | (simp (disch := omega) only [zN_le, zN_lt, zN_0, zN_1, nI_toInt, zN_eq, zN_eq0, b2_z, b2_nz, Decidable.not_not, Int.not_lt, Int.not_le, zK0, zK1, zK2, zK3, zK5, zK7, zK8, zK9, zK10, zK19, zK20, zK40, zK99, zK100, zK199] at q20) | skip
      exact x_vret rfl dX4_both_46 ⟨rfl, rfl⟩
    · skip
      first | (simp only [cmp_lt, cmp_gt, cmp_eq, zN_cge, zN_cle, Decidable.not_not] at q20) | (simp (disch := omega) only [zN_le, zN_lt, zN_0, zN_1, nI_toInt, zN_eq, zN_eq0, b2_z, b2_nz, Decidable.not_not, Int.not_lt, Int.not_le, zK0, zK1, zK2, zK3, zK5, zK7, zK8, zK9, zK10, zK19, zK20, zK40, zK99, zK100, zK199] at q20) | skip
      exact absurd q20 (by decide)
/-- after a fault in the loop -/
theorem t_both {j : Nat} {Y : Option Value → zH → Prop} (hi : i = 5 ∨ i = 7) (hj : j ≤ 901) (P : PCe h0 h r A Q i e r' A' Q') (hY : ∀ h r' A' Q', PCe h0 h r A Q i e r' A' Q' → Y none h) : Zw g (d + 2) 0 0 mX4_both 31 [some (.ref 2), some (.int (nI j))] [] h Y := by
  have R := P.1
  have e17 := P.2.2.2.2.2.1
  refine x_al0 rfl dX4_both_31 ?_
  refine x_rg R fdX4_69 (by decide) (by first | assumption | rfl) dX4_both_32 ?_
  refine x_bipush (v := (-12)) dX4_both_35 rfl ?_
  refine x_cv1Vp mX1_add_ok lkX4_124 rfl (Nat.le_of_ble_eq_true rfl) (Nat.le_of_ble_eq_true rfl) dX4_both_37 (R.dq  hi).1 (e_add hi P) (fun h hq => ?_)
  obtain ⟨A2, Q2, P2⟩ := hq
  have R := P2.1
  have e13 := P2.2.2.2.1.2.2.1
  first | refine x_ii1 rfl (nI_1 _) dX4_both_40 ?_ | refine x_ii1 rfl rfl dX4_both_40 ?_
  refine x_goto (tgt := 6) dX4_both_43 rfl ?_
  refine x_il1 dX4_both_6 ?_
  refine x_sipush (v := nI 900) dX4_both_7 (by decide) ?_
  refine x_icmp_ge (tgt := 46) dX4_both_10 rfl (fun q10 => ?_) (fun q10 => ?_)
  · skip
    first | (simp only [cmp_lt, cmp_gt, cmp_eq, zN_cge, zN_cle, Decidable.not_not] at q10) | (simp (disch := omega) only [zN_le, zN_lt, zN_0, zN_1, nI_toInt, zN_eq, zN_eq0, b2_z, b2_nz, Decidable.not_not, Int.not_lt, Int.not_le, zK0, zK1, zK2, zK3, zK5, zK7, zK8, zK9, zK10, zK19, zK20, zK40, zK99, zK100, zK199] at q10) | skip
    exact x_vret rfl dX4_both_46 (hY _ _ _ _ P2)
  · skip
    first | (simp only [cmp_lt, cmp_gt, cmp_eq, zN_cge, zN_cle, Decidable.not_not] at q10) | (simp (disch := omega) only [zN_le, zN_lt, zN_0, zN_1, nI_toInt, zN_eq, zN_eq0, b2_z, b2_nz, Decidable.not_not, Int.not_lt, Int.not_le, zK0, zK1, zK2, zK3, zK5, zK7, zK8, zK9, zK10, zK19, zK20, zK40, zK99, zK100, zK199] at q10) | skip
    refine x_al0 rfl dX4_both_13 ?_
    refine x_rg R fdX4_57 (by decide) (by first | assumption | rfl) dX4_both_14 ?_
    refine x_sipush (v := nI 317) dX4_both_17 (by decide) ?_
    refine x_icmp_ne (tgt := 46) dX4_both_20 rfl (fun q20 => ?_) (fun q20 => ?_)
    · skip
      first | (simp only [cmp_lt, cmp_gt, cmp_eq, zN_cge, zN_cle, Decidable.not_not] at q20) | (simp (disch := omega) only [zN_le, zN_lt, zN_0, zN_1, nI_toInt, zN_eq, zN_eq0, b2_z, b2_nz, Decidable.not_not, Int.not_lt, Int.not_le, zK0, zK1, zK2, zK3, zK5, zK7, zK8, zK9, zK10, zK19, zK20, zK40, zK99, zK100, zK199] at q20) | skip
      exact x_vret rfl dX4_both_46 (hY _ _ _ _ P2)
    · skip
      first | (simp only [cmp_lt, cmp_gt, cmp_eq, zN_cge, zN_cle, Decidable.not_not] at q20) | (simp (disch := omega) only [zN_le, zN_lt, zN_0, zN_1, nI_toInt, zN_eq, zN_eq0, b2_z, b2_nz, Decidable.not_not, Int.not_lt, Int.not_le, zK0, zK1, zK2, zK3, zK5, zK7, zK8, zK9, zK10, zK19, zK20, zK40, zK99, zK100, zK199] at q20) | skip
      exact absurd q20 (by decide)
theorem o_both (hi : i = 5 ∨ i = 7) (hf : ∀ p, p ≤ X.2 → Gl X p (f p)) (hB : BA X (f)) (C : CcM g (d + 6) X h0 i mX4_unit dp (f)) (CE : CcE g (d + 6) h0 i mX4_unit) : CcM g (d + 7) X h0 i mX4_both dp (fBo X f) := by
  intro h r A Q p cs R O
  have X9 := O.1.2.2.1
  show Zw g (d + 7) 0 0 mX4_both 0 [some (.ref 2), none] [] h _
  refine x_al0 rfl dX4_both_0 ?_
  refine x_cv0Vp mX4_unit_ok lkX4_142 rfl (Nat.le_of_ble_eq_true rfl) (Nat.le_of_ble_eq_true rfl) dX4_both_1 R.get  (C _ _ _ _ _ _ R O) (fun h hq => ?_)
  cases e : nR X (f p) with
  | inl e1 =>
    rw [e] at hq
    obtain ⟨r1, A1, Q1, P⟩ := hq
    have R := P.1
    have e13 := P.2.2.2.1.2.2.1
    have eF : nR X (fBo X f p) = .inl e1 := nR_e (BD.lp rfl) e
    refine x_iconst (v := nI 0) dX4_both_4 rfl ?_
    refine x_is1 rfl dX4_both_5 ?_
    refine x_il1 dX4_both_6 ?_
    refine x_sipush (v := nI 900) dX4_both_7 (by decide) ?_
    refine x_icmp_ge (tgt := 46) dX4_both_10 rfl (fun q10 => ?_) (fun q10 => ?_)
    · skip
      first | (simp only [cmp_lt, cmp_gt, cmp_eq, zN_cge, zN_cle, Decidable.not_not] at q10) | (simp (disch := omega) only [zN_le, zN_lt, zN_0, zN_1, nI_toInt, zN_eq, zN_eq0, b2_z, b2_nz, Decidable.not_not, Int.not_lt, Int.not_le, zK0, zK1, zK2, zK3, zK5, zK7, zK8, zK9, zK10, zK19, zK20, zK40, zK99, zK100, zK199] at q10) | skip
      exact absurd q10 (by decide)
    · skip
      first | (simp only [cmp_lt, cmp_gt, cmp_eq, zN_cge, zN_cle, Decidable.not_not] at q10) | (simp (disch := omega) only [zN_le, zN_lt, zN_0, zN_1, nI_toInt, zN_eq, zN_eq0, b2_z, b2_nz, Decidable.not_not, Int.not_lt, Int.not_le, zK0, zK1, zK2, zK3, zK5, zK7, zK8, zK9, zK10, zK19, zK20, zK40, zK99, zK100, zK199] at q10) | skip
      refine x_al0 rfl dX4_both_13 ?_
      refine x_rg R fdX4_57 (by decide) (by first | assumption | rfl) dX4_both_14 ?_
      refine x_sipush (v := nI 317) dX4_both_17 (by decide) ?_
      refine x_icmp_ne (tgt := 46) dX4_both_20 rfl (fun q20 => ?_) (fun q20 => ?_)
      · skip
        first | (simp only [cmp_lt, cmp_gt, cmp_eq, zN_cge, zN_cle, Decidable.not_not] at q20) | (simp (disch := omega) only [zN_le, zN_lt, zN_0, zN_1, nI_toInt, zN_eq, zN_eq0, b2_z, b2_nz, Decidable.not_not, Int.not_lt, Int.not_le, zK0, zK1, zK2, zK3, zK5, zK7, zK8, zK9, zK10, zK19, zK20, zK40, zK99, zK100, zK199] at q20) | skip
        exact x_vret rfl dX4_both_46 ⟨rfl, by rw [eF]; exact ⟨r1, A1, Q1, P⟩⟩
      · skip
        first | (simp only [cmp_lt, cmp_gt, cmp_eq, zN_cge, zN_cle, Decidable.not_not] at q20) | (simp (disch := omega) only [zN_le, zN_lt, zN_0, zN_1, nI_toInt, zN_eq, zN_eq0, b2_z, b2_nz, Decidable.not_not, Int.not_lt, Int.not_le, zK0, zK1, zK2, zK3, zK5, zK7, zK8, zK9, zK10, zK19, zK20, zK40, zK99, zK100, zK199] at q20) | skip
        exact absurd q20 (by decide)
  | inr q =>
    rw [e] at hq
    obtain ⟨r1, A1, Q1, P⟩ := hq
    refine x_iconst (v := nI 0) dX4_both_4 rfl ?_
    refine x_is1 rfl dX4_both_5 ?_
    refine x_wh (fun (fu : Nat) => [some (.ref 2), some (.int (nI (901 - fu)))]) (fun fu h => fu ≤ 901 ∧ ∃ p1 c1 r1 A1 Q1, PCa X h0 h r A Q i dp p1 (cs ++ c1) r1 A1 Q1 ∧ nR X (fBo X f p) = apR c1 (nR X (lpR X opA (f) fu p1)) ∧ X.2 < fu + tkA X p1 ∧ 901 - fu ≤ tkA X p1) (fun fu => fu) 901 ⟨Nat.le_refl _, q.1, q.2, r1, A1, Q1, P, nR_s e, by omega, by omega⟩ (fun fu h hI ih => ?_)
    obtain ⟨h901, p1, c1, r1, A1, Q1, P, hE, hfu, hia⟩ := hI
    have R := P.1
    have O := P.2.2.2
    have e13 := O.2.1.2.2.2.1
    have hp1 := O.2.1.2.1
    have ha := tkA_le hp1
    have lK := tk_le hp1
    have tl := tok_lt _ (tkK_dom (X := X) (p := p1)).2
    have k25 := O.2.1.2.2.2.2.2.2
    have te : tok (tkK X p1) = 317 ↔ tkK X p1 = 16 := tok_e (k := 16) (by decide) (by decide)
    have fin : opA (tkK X p1) = 0 → PC X h0 h r A Q i dp cs (nR X (fBo X f p)) := fun z => by rw [hE, lpR_0 z, nR_r k25, apR_n]; exact ⟨r1, A1, Q1, P⟩
    refine x_il1 dX4_both_6 ?_
    refine x_sipush (v := nI 900) dX4_both_7 (by decide) ?_
    refine x_icmp_ge (tgt := 46) dX4_both_10 rfl (fun q10 => ?_) (fun q10 => ?_)
    · skip
      first | (simp only [cmp_lt, cmp_gt, cmp_eq, zN_cge, zN_cle, Decidable.not_not] at q10) | (simp (disch := omega) only [zN_le, zN_lt, zN_0, zN_1, nI_toInt, zN_eq, zN_eq0, b2_z, b2_nz, Decidable.not_not, Int.not_lt, Int.not_le, zK0, zK1, zK2, zK3, zK5, zK7, zK8, zK9, zK10, zK19, zK20, zK40, zK99, zK100, zK199] at q10) | skip
      have z24 : tkK X p1 = 24 := lK.2.2.2.2.mpr (by omega)
      exact x_vret rfl dX4_both_46 ⟨rfl, fin (by rw [z24]; rfl)⟩
    · skip
      first | (simp only [cmp_lt, cmp_gt, cmp_eq, zN_cge, zN_cle, Decidable.not_not] at q10) | (simp (disch := omega) only [zN_le, zN_lt, zN_0, zN_1, nI_toInt, zN_eq, zN_eq0, b2_z, b2_nz, Decidable.not_not, Int.not_lt, Int.not_le, zK0, zK1, zK2, zK3, zK5, zK7, zK8, zK9, zK10, zK19, zK20, zK40, zK99, zK100, zK199] at q10) | skip
      refine x_al0 rfl dX4_both_13 ?_
      refine x_rg R fdX4_57 (by decide) (by first | assumption | rfl) dX4_both_14 ?_
      refine x_sipush (v := nI 317) dX4_both_17 (by decide) ?_
      refine x_icmp_ne (tgt := 46) dX4_both_20 rfl (fun q20 => ?_) (fun q20 => ?_)
      · skip
        first | (simp only [cmp_lt, cmp_gt, cmp_eq, zN_cge, zN_cle, Decidable.not_not] at q20) | (simp (disch := omega) only [zN_le, zN_lt, zN_0, zN_1, nI_toInt, zN_eq, zN_eq0, b2_z, b2_nz, Decidable.not_not, Int.not_lt, Int.not_le, zK0, zK1, zK2, zK3, zK5, zK7, zK8, zK9, zK10, zK19, zK20, zK40, zK99, zK100, zK199] at q20) | skip
        have nk : ¬ tkK X p1 = 16 := fun y => q20 (te.mpr y)
        exact x_vret rfl dX4_both_46 ⟨rfl, fin (if_neg nk)⟩
      · skip
        first | (simp only [cmp_lt, cmp_gt, cmp_eq, zN_cge, zN_cle, Decidable.not_not] at q20) | (simp (disch := omega) only [zN_le, zN_lt, zN_0, zN_1, nI_toInt, zN_eq, zN_eq0, b2_z, b2_nz, Decidable.not_not, Int.not_lt, Int.not_le, zK0, zK1, zK2, zK3, zK5, zK7, zK8, zK9, zK10, zK19, zK20, zK40, zK99, zK100, zK199] at q20) | skip
        have hk : tkK X p1 = 16 := te.mp q20
        have b := tkA_B hp1 (by omega)
        have op1 : opA (tkK X p1) = 3007 := by rw [hk]; rfl
        obtain ⟨k, rfl⟩ : ∃ k, fu = k + 1 := ⟨fu - 1, by omega⟩
        refine x_al0 rfl dX4_both_23 ?_
        refine x_cv0Vp mX4_advance_ok lkX4_81 rfl (Nat.le_of_ble_eq_true rfl) (Nat.le_of_ble_eq_true rfl) dX4_both_24 R.get  (o_adv R O) (fun h hq => ?_)
        have PR := P.tn hq
        cases z1 : nR X (.inr (tkB X p1, [])) with
        | inl e1 =>
          rw [z1] at PR
          obtain ⟨r2, A2, Q2, P2⟩ := PR
          have kb : tkK X (tkB X p1) = 25 := Decidable.byContradiction (fun y => by rw [nR_r y] at z1; cases z1)
          rw [nR_b kb] at z1
          obtain rfl := Sum.inl.inj z1
          have eS : nR X (fBo X f p) = .inl (1, tkA X (tkB X p1)) := by rw [hE, lpN_e rfl (by rw [op1]; decide) (by rw [hB _ kb]; rfl)]; rfl
          have R := P2.1
          refine x_al0 rfl dX4_both_27 ?_
          refine x_cv0V mX4_unit_ok lkX4_142 rfl (Nat.le_of_ble_eq_true rfl) (Nat.le_of_ble_eq_true rfl) dX4_both_28 R.get  (CE _ _ _ _ _ R P2.2.2.2) ?_
          exact t_both (d := d + 5) hi (by omega) P2 (fun h r' A' Q' z => ⟨rfl, by rw [eS]; exact ⟨r', A', Q', z⟩⟩)
        | inr q1 =>
          rw [z1] at PR
          obtain ⟨hq1, hk1⟩ := nR_o z1
          obtain rfl := Sum.inr.inj hq1
          obtain ⟨r2, A2, Q2, P2⟩ := PR
          change PCa X h0 h r A Q i dp (tkB X p1) (cs ++ (c1 ++ [])) r2 A2 Q2 at P2
          rw [List.append_nil] at P2
          have R := P2.1
          refine x_al0 rfl dX4_both_27 ?_
          refine x_cv0Vp mX4_unit_ok lkX4_142 rfl (Nat.le_of_ble_eq_true rfl) (Nat.le_of_ble_eq_true rfl) dX4_both_28 R.get  (C _ _ _ _ _ _ R P2.2.2.2) (fun h hq => ?_)
          have PR := P2.tn hq
          cases e2 : nR X (f (tkB X p1)) with
          | inl e1 =>
            rw [e2] at PR
            obtain ⟨r3, A3, Q3, P3⟩ := PR
            have eS : nR X (fBo X f p) = .inl e1 := by rw [hE, lpN_e rfl (by rw [op1]; decide) e2]; rfl
            exact t_both (d := d + 5) hi (by omega) P3 (fun h r' A' Q' z => ⟨rfl, by rw [eS]; exact ⟨r', A', Q', z⟩⟩)
          | inr q2 =>
            rw [e2] at PR
            obtain ⟨r3, A3, Q3, P3⟩ := PR
            change PCa X h0 h r A Q i dp q2.1 (cs ++ (c1 ++ q2.2)) r3 A3 Q3 at P3
            have R := P3.1
            have e17 := P3.2.2.2.2.2.2.1
            have l2 := (hf _ b.2).o (nR_o e2).1
            have l1 := O.2.2.2.2.2
            simp only [List.length_append] at l1
            refine x_al0 rfl dX4_both_31 ?_
            refine x_rg R fdX4_69 (by decide) (by first | assumption | rfl) dX4_both_32 ?_
            refine x_bipush (v := (-12)) dX4_both_35 rfl ?_
            refine x_cv1Vp mX1_add_ok lkX4_124 rfl (Nat.le_of_ble_eq_true rfl) (Nat.le_of_ble_eq_true rfl) dX4_both_37 (R.dq  hi).1 (o_add (c := 3007) (by simp [cl]) hi P3 (by simp only [List.length_append]; omega) (Or.inr (by decide))) (fun h hq => ?_)
            obtain ⟨A4, Q4, P4⟩ := hq
            refine x_ii1 rfl (nI_1 _) dX4_both_40 ?_
            refine x_goto (tgt := 6) dX4_both_43 rfl ?_
            rw [show 901 - (k + 1) + 1 = 901 - k by omega]
            refine ih k _ (by omega) ⟨by omega, q2.1, c1 ++ (q2.2 ++ [3007]), r3, A4, Q4, ?_, ?_, by omega, by omega⟩
            · rw [← List.append_assoc, ← List.append_assoc]; rw [← List.append_assoc] at P4; exact P4
            · rw [hE, lpN_o (by rw [op1]; decide) e2, apR_ap, op1]

theorem e_truth (C : CcE g (d + 1) h0 i mX4_both) : CcE g (d + 2) h0 i mX4_truth := by
  intro h r A Q e R E
  have e13 := E.1.2.2.1
  show Zw g (d + 2) 0 0 mX4_truth 0 [some (.ref 2), none] [] h _
  refine x_al0 rfl dX4_truth_0 ?_
  refine x_cv0V mX4_both_ok lkX4_139 rfl (Nat.le_of_ble_eq_true rfl) (Nat.le_of_ble_eq_true rfl) dX4_truth_1 R.get  (C _ _ _ _ _ R E) ?_
  refine x_iconst (v := nI 0) dX4_truth_4 rfl ?_
  refine x_is1 rfl dX4_truth_5 ?_
  refine x_il1 dX4_truth_6 ?_
  refine x_sipush (v := nI 900) dX4_truth_7 (by decide) ?_
  refine x_icmp_ge (tgt := 46) dX4_truth_10 rfl (fun q10 => ?_) (fun q10 => ?_)
  · skip
    first | (simp only [cmp_lt, cmp_gt, cmp_eq, zN_cge, zN_cle, Decidable.not_not] at q10) | (simp (disch := omega) only [zN_le, zN_lt, zN_0, zN_1, nI_toInt, zN_eq, zN_eq0, b2_z, b2_nz, Decidable.not_not, Int.not_lt, Int.not_le, zK0, zK1, zK2, zK3, zK5, zK7, zK8, zK9, zK10, zK19, zK20, zK40, zK99, zK100, zK199] at q10) | skip
    exact absurd q10 (by decide)
  · skip
    first | (simp only [cmp_lt, cmp_gt, cmp_eq, zN_cge, zN_cle, Decidable.not_not] at q10) | (simp (disch := omega) only [zN_le, zN_lt, zN_0, zN_1, nI_toInt, zN_eq, zN_eq0, b2_z, b2_nz, Decidable.not_not, Int.not_lt, Int.not_le, zK0, zK1, zK2, zK3, zK5, zK7, zK8, zK9, zK10, zK19, zK20, zK40, zK99, zK100, zK199] at q10) | skip
    refine x_al0 rfl dX4_truth_13 ?_
    refine x_rg R fdX4_57 (by decide) (by first | assumption | rfl) dX4_truth_14 ?_
    refine x_sipush (v := nI 316) dX4_truth_17 (by decide) ?_
    refine x_icmp_ne (tgt := 46) dX4_truth_20 rfl (fun q20 => ?_) (fun q20 => ?_)
    · skip
      first | (simp only [cmp_lt, cmp_gt, cmp_eq, zN_cge, zN_cle, Decidable.not_not] at q20) | (simp (disch := omega) only [zN_le, zN_lt, zN_0, zN_1, nI_toInt, zN_eq, zN_eq0, b2_z, b2_nz, Decidable.not_not, Int.not_lt, Int.not_le, zK0, zK1, zK2, zK3, zK5, zK7, zK8, zK9, zK10, zK19, zK20, zK40, zK99, zK100, zK199] at q20) | skip
      exact x_vret rfl dX4_truth_46 ⟨rfl, rfl⟩
    · skip
      first | (simp only [cmp_lt, cmp_gt, cmp_eq, zN_cge, zN_cle, Decidable.not_not] at q20) | (simp (disch := omega) only [zN_le, zN_lt, zN_0, zN_1, nI_toInt, zN_eq, zN_eq0, b2_z, b2_nz, Decidable.not_not, Int.not_lt, Int.not_le, zK0, zK1, zK2, zK3, zK5, zK7, zK8, zK9, zK10, zK19, zK20, zK40, zK99, zK100, zK199] at q20) | skip
      exact absurd q20 (by decide)
/-- after a fault in the loop -/
theorem t_truth {j : Nat} {Y : Option Value → zH → Prop} (hi : i = 5 ∨ i = 7) (hj : j ≤ 901) (P : PCe h0 h r A Q i e r' A' Q') (hY : ∀ h r' A' Q', PCe h0 h r A Q i e r' A' Q' → Y none h) : Zw g (d + 2) 0 0 mX4_truth 31 [some (.ref 2), some (.int (nI j))] [] h Y := by
  have R := P.1
  have e17 := P.2.2.2.2.2.1
  refine x_al0 rfl dX4_truth_31 ?_
  refine x_rg R fdX4_69 (by decide) (by first | assumption | rfl) dX4_truth_32 ?_
  refine x_bipush (v := (-13)) dX4_truth_35 rfl ?_
  refine x_cv1Vp mX1_add_ok lkX4_124 rfl (Nat.le_of_ble_eq_true rfl) (Nat.le_of_ble_eq_true rfl) dX4_truth_37 (R.dq  hi).1 (e_add hi P) (fun h hq => ?_)
  obtain ⟨A2, Q2, P2⟩ := hq
  have R := P2.1
  have e13 := P2.2.2.2.1.2.2.1
  first | refine x_ii1 rfl (nI_1 _) dX4_truth_40 ?_ | refine x_ii1 rfl rfl dX4_truth_40 ?_
  refine x_goto (tgt := 6) dX4_truth_43 rfl ?_
  refine x_il1 dX4_truth_6 ?_
  refine x_sipush (v := nI 900) dX4_truth_7 (by decide) ?_
  refine x_icmp_ge (tgt := 46) dX4_truth_10 rfl (fun q10 => ?_) (fun q10 => ?_)
  · skip
    first | (simp only [cmp_lt, cmp_gt, cmp_eq, zN_cge, zN_cle, Decidable.not_not] at q10) | (simp (disch := omega) only [zN_le, zN_lt, zN_0, zN_1, nI_toInt, zN_eq, zN_eq0, b2_z, b2_nz, Decidable.not_not, Int.not_lt, Int.not_le, zK0, zK1, zK2, zK3, zK5, zK7, zK8, zK9, zK10, zK19, zK20, zK40, zK99, zK100, zK199] at q10) | skip
    exact x_vret rfl dX4_truth_46 (hY _ _ _ _ P2)
  · skip
    first | (simp only [cmp_lt, cmp_gt, cmp_eq, zN_cge, zN_cle, Decidable.not_not] at q10) | (simp (disch := omega) only [zN_le, zN_lt, zN_0, zN_1, nI_toInt, zN_eq, zN_eq0, b2_z, b2_nz, Decidable.not_not, Int.not_lt, Int.not_le, zK0, zK1, zK2, zK3, zK5, zK7, zK8, zK9, zK10, zK19, zK20, zK40, zK99, zK100, zK199] at q10) | skip
    refine x_al0 rfl dX4_truth_13 ?_
    refine x_rg R fdX4_57 (by decide) (by first | assumption | rfl) dX4_truth_14 ?_
    refine x_sipush (v := nI 316) dX4_truth_17 (by decide) ?_
    refine x_icmp_ne (tgt := 46) dX4_truth_20 rfl (fun q20 => ?_) (fun q20 => ?_)
    · skip
      first | (simp only [cmp_lt, cmp_gt, cmp_eq, zN_cge, zN_cle, Decidable.not_not] at q20) | (simp (disch := omega) only [zN_le, zN_lt, zN_0, zN_1, nI_toInt, zN_eq, zN_eq0, b2_z, b2_nz, Decidable.not_not, Int.not_lt, Int.not_le, zK0, zK1, zK2, zK3, zK5, zK7, zK8, zK9, zK10, zK19, zK20, zK40, zK99, zK100, zK199] at q20) | skip
      exact x_vret rfl dX4_truth_46 (hY _ _ _ _ P2)
    · skip
      first | (simp only [cmp_lt, cmp_gt, cmp_eq, zN_cge, zN_cle, Decidable.not_not] at q20) | (simp (disch := omega) only [zN_le, zN_lt, zN_0, zN_1, nI_toInt, zN_eq, zN_eq0, b2_z, b2_nz, Decidable.not_not, Int.not_lt, Int.not_le, zK0, zK1, zK2, zK3, zK5, zK7, zK8, zK9, zK10, zK19, zK20, zK40, zK99, zK100, zK199] at q20) | skip
      exact absurd q20 (by decide)
theorem o_truth (hi : i = 5 ∨ i = 7) (hf : ∀ p, p ≤ X.2 → Gl X p (fBo X f p)) (hB : BA X (fBo X f)) (C : CcM g (d + 6) X h0 i mX4_both dp (fBo X f)) (CE : CcE g (d + 6) h0 i mX4_both) : CcM g (d + 7) X h0 i mX4_truth dp (fTr X f) := by
  intro h r A Q p cs R O
  have X9 := O.1.2.2.1
  show Zw g (d + 7) 0 0 mX4_truth 0 [some (.ref 2), none] [] h _
  refine x_al0 rfl dX4_truth_0 ?_
  refine x_cv0Vp mX4_both_ok lkX4_139 rfl (Nat.le_of_ble_eq_true rfl) (Nat.le_of_ble_eq_true rfl) dX4_truth_1 R.get  (C _ _ _ _ _ _ R O) (fun h hq => ?_)
  cases e : nR X (fBo X f p) with
  | inl e1 =>
    rw [e] at hq
    obtain ⟨r1, A1, Q1, P⟩ := hq
    have R := P.1
    have e13 := P.2.2.2.1.2.2.1
    have eF : nR X (fTr X f p) = .inl e1 := nR_e (BD.lp rfl) e
    refine x_iconst (v := nI 0) dX4_truth_4 rfl ?_
    refine x_is1 rfl dX4_truth_5 ?_
    refine x_il1 dX4_truth_6 ?_
    refine x_sipush (v := nI 900) dX4_truth_7 (by decide) ?_
    refine x_icmp_ge (tgt := 46) dX4_truth_10 rfl (fun q10 => ?_) (fun q10 => ?_)
    · skip
      first | (simp only [cmp_lt, cmp_gt, cmp_eq, zN_cge, zN_cle, Decidable.not_not] at q10) | (simp (disch := omega) only [zN_le, zN_lt, zN_0, zN_1, nI_toInt, zN_eq, zN_eq0, b2_z, b2_nz, Decidable.not_not, Int.not_lt, Int.not_le, zK0, zK1, zK2, zK3, zK5, zK7, zK8, zK9, zK10, zK19, zK20, zK40, zK99, zK100, zK199] at q10) | skip
      exact absurd q10 (by decide)
    · skip
      first | (simp only [cmp_lt, cmp_gt, cmp_eq, zN_cge, zN_cle, Decidable.not_not] at q10) | (simp (disch := omega) only [zN_le, zN_lt, zN_0, zN_1, nI_toInt, zN_eq, zN_eq0, b2_z, b2_nz, Decidable.not_not, Int.not_lt, Int.not_le, zK0, zK1, zK2, zK3, zK5, zK7, zK8, zK9, zK10, zK19, zK20, zK40, zK99, zK100, zK199] at q10) | skip
      refine x_al0 rfl dX4_truth_13 ?_
      refine x_rg R fdX4_57 (by decide) (by first | assumption | rfl) dX4_truth_14 ?_
      refine x_sipush (v := nI 316) dX4_truth_17 (by decide) ?_
      refine x_icmp_ne (tgt := 46) dX4_truth_20 rfl (fun q20 => ?_) (fun q20 => ?_)
      · skip
        first | (simp only [cmp_lt, cmp_gt, cmp_eq, zN_cge, zN_cle, Decidable.not_not] at q20) | (simp (disch := omega) only [zN_le, zN_lt, zN_0, zN_1, nI_toInt, zN_eq, zN_eq0, b2_z, b2_nz, Decidable.not_not, Int.not_lt, Int.not_le, zK0, zK1, zK2, zK3, zK5, zK7, zK8, zK9, zK10, zK19, zK20, zK40, zK99, zK100, zK199] at q20) | skip
        exact x_vret rfl dX4_truth_46 ⟨rfl, by rw [eF]; exact ⟨r1, A1, Q1, P⟩⟩
      · skip
        first | (simp only [cmp_lt, cmp_gt, cmp_eq, zN_cge, zN_cle, Decidable.not_not] at q20) | (simp (disch := omega) only [zN_le, zN_lt, zN_0, zN_1, nI_toInt, zN_eq, zN_eq0, b2_z, b2_nz, Decidable.not_not, Int.not_lt, Int.not_le, zK0, zK1, zK2, zK3, zK5, zK7, zK8, zK9, zK10, zK19, zK20, zK40, zK99, zK100, zK199] at q20) | skip
        exact absurd q20 (by decide)
  | inr q =>
    rw [e] at hq
    obtain ⟨r1, A1, Q1, P⟩ := hq
    refine x_iconst (v := nI 0) dX4_truth_4 rfl ?_
    refine x_is1 rfl dX4_truth_5 ?_
    refine x_wh (fun (fu : Nat) => [some (.ref 2), some (.int (nI (901 - fu)))]) (fun fu h => fu ≤ 901 ∧ ∃ p1 c1 r1 A1 Q1, PCa X h0 h r A Q i dp p1 (cs ++ c1) r1 A1 Q1 ∧ nR X (fTr X f p) = apR c1 (nR X (lpR X opO (fBo X f) fu p1)) ∧ X.2 < fu + tkA X p1 ∧ 901 - fu ≤ tkA X p1) (fun fu => fu) 901 ⟨Nat.le_refl _, q.1, q.2, r1, A1, Q1, P, nR_s e, by omega, by omega⟩ (fun fu h hI ih => ?_)
    obtain ⟨h901, p1, c1, r1, A1, Q1, P, hE, hfu, hia⟩ := hI
    have R := P.1
    have O := P.2.2.2
    have e13 := O.2.1.2.2.2.1
    have hp1 := O.2.1.2.1
    have ha := tkA_le hp1
    have lK := tk_le hp1
    have tl := tok_lt _ (tkK_dom (X := X) (p := p1)).2
    have k25 := O.2.1.2.2.2.2.2.2
    have te : tok (tkK X p1) = 316 ↔ tkK X p1 = 17 := tok_e (k := 17) (by decide) (by decide)
    have fin : opO (tkK X p1) = 0 → PC X h0 h r A Q i dp cs (nR X (fTr X f p)) := fun z => by rw [hE, lpR_0 z, nR_r k25, apR_n]; exact ⟨r1, A1, Q1, P⟩
    refine x_il1 dX4_truth_6 ?_
    refine x_sipush (v := nI 900) dX4_truth_7 (by decide) ?_
    refine x_icmp_ge (tgt := 46) dX4_truth_10 rfl (fun q10 => ?_) (fun q10 => ?_)
    · skip
      first | (simp only [cmp_lt, cmp_gt, cmp_eq, zN_cge, zN_cle, Decidable.not_not] at q10) | (simp (disch := omega) only [zN_le, zN_lt, zN_0, zN_1, nI_toInt, zN_eq, zN_eq0, b2_z, b2_nz, Decidable.not_not, Int.not_lt, Int.not_le, zK0, zK1, zK2, zK3, zK5, zK7, zK8, zK9, zK10, zK19, zK20, zK40, zK99, zK100, zK199] at q10) | skip
      have z24 : tkK X p1 = 24 := lK.2.2.2.2.mpr (by omega)
      exact x_vret rfl dX4_truth_46 ⟨rfl, fin (by rw [z24]; rfl)⟩
    · skip
      first | (simp only [cmp_lt, cmp_gt, cmp_eq, zN_cge, zN_cle, Decidable.not_not] at q10) | (simp (disch := omega) only [zN_le, zN_lt, zN_0, zN_1, nI_toInt, zN_eq, zN_eq0, b2_z, b2_nz, Decidable.not_not, Int.not_lt, Int.not_le, zK0, zK1, zK2, zK3, zK5, zK7, zK8, zK9, zK10, zK19, zK20, zK40, zK99, zK100, zK199] at q10) | skip
      refine x_al0 rfl dX4_truth_13 ?_
      refine x_rg R fdX4_57 (by decide) (by first | assumption | rfl) dX4_truth_14 ?_
      refine x_sipush (v := nI 316) dX4_truth_17 (by decide) ?_
      refine x_icmp_ne (tgt := 46) dX4_truth_20 rfl (fun q20 => ?_) (fun q20 => ?_)
      · skip
        first | (simp only [cmp_lt, cmp_gt, cmp_eq, zN_cge, zN_cle, Decidable.not_not] at q20) | (simp (disch := omega) only [zN_le, zN_lt, zN_0, zN_1, nI_toInt, zN_eq, zN_eq0, b2_z, b2_nz, Decidable.not_not, Int.not_lt, Int.not_le, zK0, zK1, zK2, zK3, zK5, zK7, zK8, zK9, zK10, zK19, zK20, zK40, zK99, zK100, zK199] at q20) | skip
        have nk : ¬ tkK X p1 = 17 := fun y => q20 (te.mpr y)
        exact x_vret rfl dX4_truth_46 ⟨rfl, fin (if_neg nk)⟩
      · skip
        first | (simp only [cmp_lt, cmp_gt, cmp_eq, zN_cge, zN_cle, Decidable.not_not] at q20) | (simp (disch := omega) only [zN_le, zN_lt, zN_0, zN_1, nI_toInt, zN_eq, zN_eq0, b2_z, b2_nz, Decidable.not_not, Int.not_lt, Int.not_le, zK0, zK1, zK2, zK3, zK5, zK7, zK8, zK9, zK10, zK19, zK20, zK40, zK99, zK100, zK199] at q20) | skip
        have hk : tkK X p1 = 17 := te.mp q20
        have b := tkA_B hp1 (by omega)
        have op1 : opO (tkK X p1) = 3008 := by rw [hk]; rfl
        obtain ⟨k, rfl⟩ : ∃ k, fu = k + 1 := ⟨fu - 1, by omega⟩
        refine x_al0 rfl dX4_truth_23 ?_
        refine x_cv0Vp mX4_advance_ok lkX4_81 rfl (Nat.le_of_ble_eq_true rfl) (Nat.le_of_ble_eq_true rfl) dX4_truth_24 R.get  (o_adv R O) (fun h hq => ?_)
        have PR := P.tn hq
        cases z1 : nR X (.inr (tkB X p1, [])) with
        | inl e1 =>
          rw [z1] at PR
          obtain ⟨r2, A2, Q2, P2⟩ := PR
          have kb : tkK X (tkB X p1) = 25 := Decidable.byContradiction (fun y => by rw [nR_r y] at z1; cases z1)
          rw [nR_b kb] at z1
          obtain rfl := Sum.inl.inj z1
          have eS : nR X (fTr X f p) = .inl (1, tkA X (tkB X p1)) := by rw [hE, lpN_e rfl (by rw [op1]; decide) (by rw [hB _ kb]; rfl)]; rfl
          have R := P2.1
          refine x_al0 rfl dX4_truth_27 ?_
          refine x_cv0V mX4_both_ok lkX4_139 rfl (Nat.le_of_ble_eq_true rfl) (Nat.le_of_ble_eq_true rfl) dX4_truth_28 R.get  (CE _ _ _ _ _ R P2.2.2.2) ?_
          exact t_truth (d := d + 5) hi (by omega) P2 (fun h r' A' Q' z => ⟨rfl, by rw [eS]; exact ⟨r', A', Q', z⟩⟩)
        | inr q1 =>
          rw [z1] at PR
          obtain ⟨hq1, hk1⟩ := nR_o z1
          obtain rfl := Sum.inr.inj hq1
          obtain ⟨r2, A2, Q2, P2⟩ := PR
          change PCa X h0 h r A Q i dp (tkB X p1) (cs ++ (c1 ++ [])) r2 A2 Q2 at P2
          rw [List.append_nil] at P2
          have R := P2.1
          refine x_al0 rfl dX4_truth_27 ?_
          refine x_cv0Vp mX4_both_ok lkX4_139 rfl (Nat.le_of_ble_eq_true rfl) (Nat.le_of_ble_eq_true rfl) dX4_truth_28 R.get  (C _ _ _ _ _ _ R P2.2.2.2) (fun h hq => ?_)
          have PR := P2.tn hq
          cases e2 : nR X (fBo X f (tkB X p1)) with
          | inl e1 =>
            rw [e2] at PR
            obtain ⟨r3, A3, Q3, P3⟩ := PR
            have eS : nR X (fTr X f p) = .inl e1 := by rw [hE, lpN_e rfl (by rw [op1]; decide) e2]; rfl
            exact t_truth (d := d + 5) hi (by omega) P3 (fun h r' A' Q' z => ⟨rfl, by rw [eS]; exact ⟨r', A', Q', z⟩⟩)
          | inr q2 =>
            rw [e2] at PR
            obtain ⟨r3, A3, Q3, P3⟩ := PR
            change PCa X h0 h r A Q i dp q2.1 (cs ++ (c1 ++ q2.2)) r3 A3 Q3 at P3
            have R := P3.1
            have e17 := P3.2.2.2.2.2.2.1
            have l2 := (hf _ b.2).o (nR_o e2).1
            have l1 := O.2.2.2.2.2
            simp only [List.length_append] at l1
            refine x_al0 rfl dX4_truth_31 ?_
            refine x_rg R fdX4_69 (by decide) (by first | assumption | rfl) dX4_truth_32 ?_
            refine x_bipush (v := (-13)) dX4_truth_35 rfl ?_
            refine x_cv1Vp mX1_add_ok lkX4_124 rfl (Nat.le_of_ble_eq_true rfl) (Nat.le_of_ble_eq_true rfl) dX4_truth_37 (R.dq  hi).1 (o_add (c := 3008) (by simp [cl]) hi P3 (by simp only [List.length_append]; omega) (Or.inr (by decide))) (fun h hq => ?_)
            obtain ⟨A4, Q4, P4⟩ := hq
            refine x_ii1 rfl (nI_1 _) dX4_truth_40 ?_
            refine x_goto (tgt := 6) dX4_truth_43 rfl ?_
            rw [show 901 - (k + 1) + 1 = 901 - k by omega]
            refine ih k _ (by omega) ⟨by omega, q2.1, c1 ++ (q2.2 ++ [3008]), r3, A4, Q4, ?_, ?_, by omega, by omega⟩
            · rw [← List.append_assoc, ← List.append_assoc]; rw [← List.append_assoc] at P4; exact P4
            · rw [hE, lpN_o (by rw [op1]; decide) e2, apR_ap, op1]
end ZCl

