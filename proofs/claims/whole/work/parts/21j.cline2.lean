/-! the class's tell, begin, line -/
def upD (D : zDd) (j d v : Nat) : zDd := if j = 3 then (D.1, D.2.1, upn D.2.2.1 d v, D.2.2.2) else (D.1, D.2.1, D.2.2.1, upn D.2.2.2.1 d v, D.2.2.2.2)
def setL (D : zDd) (j : Nat) (c : Option (List Nat)) : zDd := if j = 5 then (D.1, D.2.1, D.2.2.1, D.2.2.2.1, D.2.2.2.2.1, c, D.2.2.2.2.2.2) else (D.1, D.2.1, D.2.2.1, D.2.2.2.1, D.2.2.2.2.1, D.2.2.2.2.2.1, c)
def QL (X : zX) (h0 h : zH) (li : Nat) (S : Sum (Nat × Nat) (Nat × zDd)) : Prop := match S with
  | .inl e => ∃ r A Q, LE X h0 h r A Q e
  | .inr q => ∃ r A Q, LC X h0 h r A Q q.1 q.2 li
def QT (X : zX) (h0 h : zH) (D : zDd) (li j : Nat) (S : Sum (Nat × Nat) (Nat × Nat × Nat)) : Prop := match S with
  | .inl e => ∃ r A Q, LE X h0 h r A Q e
  | .inr q => ∃ r A Q, LC X h0 h r A Q q.1 (upD D j q.2.1 q.2.2) li
section ZCn
variable {g : zG} {d : Nat} {h0 h h' : zH} {r r' : Nat → Value} {A A' : Nat → Nat → Int32} {Q Q' : Nat → zS3} {X : zX} {k p p' q i j li : Nat} {e : Nat × Nat} {cs : List Nat} {S : zR} {D : zDd}
theorem LE.d2 (a : LE X h0 h r A Q e) : ∃ v, r 2 = .int v := a.1.ri 2 rfl
theorem LE.tell (hj : j = 3 ∨ j = 4) (a : LE X h0 h r A Q e) : Zm g (d + 2) 0 0 mX4_tell [.ref 2, .ref j] h (rVp (fun h' => ∃ r A Q, LE X h0 h' r A Q e)) := by
  have R := a.1
  obtain ⟨v, e2⟩ := a.d2
  show Zw g (d + 2) 0 0 mX4_tell 0 [some (.ref 2), some (.ref j), none, none] [] h _
  refine x_al0 rfl dX4_tell_0 ?_
  refine x_iconst (v := nI 0) dX4_tell_1 rfl ?_
  refine x_al0 rfl dX4_tell_2 ?_
  refine x_rg R fdX4_18 (by decide) (by first | assumption | rfl) dX4_tell_3 ?_
  refine x_iconst (v := nI 1) dX4_tell_6 rfl ?_
  refine x_isub (rfl) dX4_tell_7 ?_
  refine x_cv2I mX4_number_ok lkX4_102 rfl (Nat.le_of_ble_eq_true rfl) (Nat.le_of_ble_eq_true rfl) dX4_tell_8 R.get  (e_number R a.2.1) ?_
  refine x_is2 rfl dX4_tell_11 ?_
  refine x_al0 rfl dX4_tell_12 ?_
  refine x_iconst (v := nI 0) dX4_tell_13 rfl ?_
  refine x_al0 rfl dX4_tell_14 ?_
  refine x_rg R fdX4_18 (by decide) (by first | assumption | rfl) dX4_tell_15 ?_
  refine x_iconst (v := nI 1) dX4_tell_18 rfl ?_
  refine x_isub (rfl) dX4_tell_19 ?_
  refine x_cv2I mX4_number_ok lkX4_102 rfl (Nat.le_of_ble_eq_true rfl) (Nat.le_of_ble_eq_true rfl) dX4_tell_20 R.get  (e_number R a.2.1) ?_
  refine x_is3 rfl dX4_tell_23 ?_
  exact a.t3 hj (by decide) (fun h r A Q z => ⟨rfl, r, A, Q, z⟩)
theorem l_tell (hj : j = 3 ∨ j = 4) (n0 : 0 < D.1) (n6 : D.1 ≤ 6) (a : LC X h0 h r A Q p D li) : Zm g (d + 7) 0 0 mX4_tell [.ref 2, .ref j] h (rVp (fun h' => QT X h0 h' D li j (nS X (fD2 X D.1 p)))) := by
  have R := a.1
  have f2 := a.2.2.2.2.2.2.2.1.1
  have n1 : nI D.1 - nI 1 = nI (D.1 - 1) := pk_sub (by omega)
  show Zw g (d + 7) 0 0 mX4_tell 0 [some (.ref 2), some (.ref j), none, none] [] h _
  refine x_al0 rfl dX4_tell_0 ?_
  refine x_iconst (v := nI 0) dX4_tell_1 rfl ?_
  refine x_al0 rfl dX4_tell_2 ?_
  refine x_rg R fdX4_18 (by decide) (by first | assumption | rfl) dX4_tell_3 ?_
  refine x_iconst (v := nI 1) dX4_tell_6 rfl ?_
  refine x_isub (n1) dX4_tell_7 ?_
  refine x_cv2Ip mX4_number_ok lkX4_102 rfl (Nat.le_of_ble_eq_true rfl) (Nat.le_of_ble_eq_true rfl) dX4_tell_8 R.get  (l_num (lo := 0) (hi := D.1 - 1) (by omega) (by omega) a) (fun r h hq => ?_)
  cases z1 : fNm X 0 (D.1 - 1) p with
  | inl e9 =>
    rw [z1] at hq
    obtain ⟨rfl, r2, A2, Q2, b⟩ := hq
    have eS : nS X (fD2 X D.1 p) = .inl e9 := by unfold fD2; rw [z1]; rfl
    have R := b.1
    obtain ⟨v, e2⟩ := b.d2
    refine x_is2 rfl dX4_tell_11 ?_
    refine x_al0 rfl dX4_tell_12 ?_
    refine x_iconst (v := nI 0) dX4_tell_13 rfl ?_
    refine x_al0 rfl dX4_tell_14 ?_
    refine x_rg R fdX4_18 (by decide) (by first | assumption | rfl) dX4_tell_15 ?_
    refine x_iconst (v := nI 1) dX4_tell_18 rfl ?_
    refine x_isub (rfl) dX4_tell_19 ?_
    refine x_cv2I mX4_number_ok lkX4_102 rfl (Nat.le_of_ble_eq_true rfl) (Nat.le_of_ble_eq_true rfl) dX4_tell_20 R.get  (e_number R b.2.1) ?_
    refine x_is3 rfl dX4_tell_23 ?_
    exact b.t3 hj (by decide) (fun h r A Q z => ⟨rfl, by rw [eS]; exact ⟨r, A, Q, z⟩⟩)
  | inr q1 =>
    have o1 := fNm_o a.2.2.1.2.1 z1
    rw [z1] at hq
    obtain ⟨rfl, hq⟩ := hq
    cases y1 : nR X (.inr (q1.1, [])) with
    | inl e9 =>
      rw [y1] at hq
      obtain ⟨r2, A2, Q2, b⟩ := hq
      obtain ⟨kb, rfl⟩ := nR_bt y1
      have eS : nS X (fD2 X D.1 p) = .inl (1, tkA X q1.1) := by unfold fD2; rw [z1]; simp only; rw [show fNm X 0 (D.1 - 1) q1.1 = .inl (1, tkA X q1.1) by unfold fNm; rw [if_pos (by omega), erK_25 kb]]; rfl
      have R := b.1
      obtain ⟨v, e2⟩ := b.d2
      refine x_is2 rfl dX4_tell_11 ?_
      refine x_al0 rfl dX4_tell_12 ?_
      refine x_iconst (v := nI 0) dX4_tell_13 rfl ?_
      refine x_al0 rfl dX4_tell_14 ?_
      refine x_rg R fdX4_18 (by decide) (by first | assumption | rfl) dX4_tell_15 ?_
      refine x_iconst (v := nI 1) dX4_tell_18 rfl ?_
      refine x_isub (rfl) dX4_tell_19 ?_
      refine x_cv2I mX4_number_ok lkX4_102 rfl (Nat.le_of_ble_eq_true rfl) (Nat.le_of_ble_eq_true rfl) dX4_tell_20 R.get  (e_number R b.2.1) ?_
      refine x_is3 rfl dX4_tell_23 ?_
      exact b.t3 hj (by rw [nI_toInt (by omega)]; omega) (fun h r A Q z => ⟨rfl, by rw [eS]; exact ⟨r, A, Q, z⟩⟩)
    | inr q0 =>
      rw [y1] at hq
      obtain ⟨rfl, k1⟩ := nR_ot y1
      obtain ⟨r2, A2, Q2, b⟩ := hq
      have R := b.1
      have f2 := b.2.2.2.2.2.2.2.1.1
      refine x_is2 rfl dX4_tell_11 ?_
      refine x_al0 rfl dX4_tell_12 ?_
      refine x_iconst (v := nI 0) dX4_tell_13 rfl ?_
      refine x_al0 rfl dX4_tell_14 ?_
      refine x_rg R fdX4_18 (by decide) (by first | assumption | rfl) dX4_tell_15 ?_
      refine x_iconst (v := nI 1) dX4_tell_18 rfl ?_
      refine x_isub (n1) dX4_tell_19 ?_
      refine x_cv2Ip mX4_number_ok lkX4_102 rfl (Nat.le_of_ble_eq_true rfl) (Nat.le_of_ble_eq_true rfl) dX4_tell_20 R.get  (l_num (lo := 0) (hi := D.1 - 1) (by omega) (by omega) b) (fun r h hq => ?_)
      cases z2 : fNm X 0 (D.1 - 1) q1.1 with
      | inl e9 =>
        rw [z2] at hq
        obtain ⟨rfl, r3, A3, Q3, c⟩ := hq
        have eS : nS X (fD2 X D.1 p) = .inl e9 := by unfold fD2; rw [z1]; simp only; rw [z2]; rfl
        refine x_is3 rfl dX4_tell_23 ?_
        exact c.t3 hj (by rw [nI_toInt (by omega)]; omega) (fun h r A Q z => ⟨rfl, by rw [eS]; exact ⟨r, A, Q, z⟩⟩)
      | inr q2 =>
        have o2 := fNm_o o1.2.1 z2
        rw [z2] at hq
        obtain ⟨rfl, hq⟩ := hq
        have eF : fD2 X D.1 p = .inr (q2.1, q1.2, q2.2) := by unfold fD2; rw [z1]; simp only; rw [z2]
        cases y2 : nR X (.inr (q2.1, [])) with
        | inl e9 =>
          rw [y2] at hq
          obtain ⟨r3, A3, Q3, c⟩ := hq
          obtain ⟨kb, rfl⟩ := nR_bt y2
          have eS : nS X (fD2 X D.1 p) = .inl (1, tkA X q2.1) := by rw [eF, nS_b (q := (q2.1, q1.2, q2.2)) kb]
          refine x_is3 rfl dX4_tell_23 ?_
          exact c.t3 hj (by rw [nI_toInt (by omega)]; omega) (fun h r A Q z => ⟨rfl, by rw [eS]; exact ⟨r, A, Q, z⟩⟩)
        | inr q0 =>
          rw [y2] at hq
          obtain ⟨rfl, k2⟩ := nR_ot y2
          obtain ⟨r3, A3, Q3, c⟩ := hq
          have eS : nS X (fD2 X D.1 p) = .inr (q2.1, q1.2, q2.2) := by rw [eF, nS_r (q := (q2.1, q1.2, q2.2)) k2]
          obtain ⟨c1, c2, c3, c4, c5, c6, c7, c8, c9, c10⟩ := id c
          rcases hj with rfl | rfl
          · have hA := c1.2.2.1
            refine x_is3 rfl dX4_tell_23 ?_
            refine x_il2 dX4_tell_24 ?_
            refine x_al1 rfl dX4_tell_25 ?_
            refine x_alen rfl hA rfl dX4_tell_26 ?_
            rw [show Int32.ofNat 6 = nI 6 from rfl]
            refine x_icmp_ge (tgt := 34) dX4_tell_27 rfl (fun q27 => ?_) (fun q27 => ?_)
            · skip
              first | (simp only [cmp_lt, cmp_gt, cmp_eq, zN_cge, zN_cle, Decidable.not_not] at q27) | (simp (disch := omega) only [zN_le, zN_lt, zN_0, zN_1, nI_toInt, zN_eq, zN_eq0, b2_z, b2_nz, Decidable.not_not, Int.not_lt, Int.not_le, zK0, zK1, zK2, zK3, zK5, zK7, zK8, zK9, zK10, zK19, zK20, zK40, zK99, zK100, zK199] at q27) | skip
              omega
            · skip
              first | (simp only [cmp_lt, cmp_gt, cmp_eq, zN_cge, zN_cle, Decidable.not_not] at q27) | (simp (disch := omega) only [zN_le, zN_lt, zN_0, zN_1, nI_toInt, zN_eq, zN_eq0, b2_z, b2_nz, Decidable.not_not, Int.not_lt, Int.not_le, zK0, zK1, zK2, zK3, zK5, zK7, zK8, zK9, zK10, zK19, zK20, zK40, zK99, zK100, zK199] at q27) | skip
              refine x_al1 rfl dX4_tell_30 ?_
              refine x_il2 dX4_tell_31 ?_
              refine x_il3 dX4_tell_32 ?_
              refine x_iast hA (vp_in_nI (by omega) (by decide)) dX4_tell_33 ?_
              rw [nI_clamp (by omega)]
              refine x_vret rfl dX4_tell_34 ⟨rfl, ?_⟩
              rw [eS]
              refine ⟨r3, _, Q3, c1.s3, c2, c3, c4, c5, c6, c7, c8, fun i hi => ?_, c10⟩
              show _ = nI (upn D.2.2.1 q1.2 q2.2 i)
              rw [upM_eq]
              unfold upn
              by_cases y : i = q1.2
              · rw [if_pos y, y, pk_us]
              · rw [if_neg y, pk_un y]; exact c9 i hi
          · have hA := c1.2.2.2.1
            refine x_is3 rfl dX4_tell_23 ?_
            refine x_il2 dX4_tell_24 ?_
            refine x_al1 rfl dX4_tell_25 ?_
            refine x_alen rfl hA rfl dX4_tell_26 ?_
            rw [show Int32.ofNat 6 = nI 6 from rfl]
            refine x_icmp_ge (tgt := 34) dX4_tell_27 rfl (fun q27 => ?_) (fun q27 => ?_)
            · skip
              first | (simp only [cmp_lt, cmp_gt, cmp_eq, zN_cge, zN_cle, Decidable.not_not] at q27) | (simp (disch := omega) only [zN_le, zN_lt, zN_0, zN_1, nI_toInt, zN_eq, zN_eq0, b2_z, b2_nz, Decidable.not_not, Int.not_lt, Int.not_le, zK0, zK1, zK2, zK3, zK5, zK7, zK8, zK9, zK10, zK19, zK20, zK40, zK99, zK100, zK199] at q27) | skip
              omega
            · skip
              first | (simp only [cmp_lt, cmp_gt, cmp_eq, zN_cge, zN_cle, Decidable.not_not] at q27) | (simp (disch := omega) only [zN_le, zN_lt, zN_0, zN_1, nI_toInt, zN_eq, zN_eq0, b2_z, b2_nz, Decidable.not_not, Int.not_lt, Int.not_le, zK0, zK1, zK2, zK3, zK5, zK7, zK8, zK9, zK10, zK19, zK20, zK40, zK99, zK100, zK199] at q27) | skip
              refine x_al1 rfl dX4_tell_30 ?_
              refine x_il2 dX4_tell_31 ?_
              refine x_il3 dX4_tell_32 ?_
              refine x_iast hA (vp_in_nI (by omega) (by decide)) dX4_tell_33 ?_
              rw [nI_clamp (by omega)]
              refine x_vret rfl dX4_tell_34 ⟨rfl, ?_⟩
              rw [eS]
              refine ⟨r3, _, Q3, c1.s4, c2, c3, c4, c5, c6, c7, c8, c9, fun i hi => ?_⟩
              show _ = nI (upn D.2.2.2.1 q1.2 q2.2 i)
              rw [upM_eq]
              unfold upn
              by_cases y : i = q1.2
              · rw [if_pos y, y, pk_us]
              · rw [if_neg y, pk_un y]; exact c10 i hi
/-- a law's draft is another -/
theorem LC.pj (hj : j = 5 ∨ j = 7) (a : LC X h0 h r A Q p D li) (P : PCa X h0 h' r A Q j 0 p' cs r' A' Q') (hp : tkA X p ≤ tkA X p') : LC X h0 h' r' A' Q' p' (setL D j (some cs)) li := by
  obtain ⟨R, T, K, e16, e17, d5, d7, ⟨f2, f3, f4, f5⟩, a3, a4⟩ := a
  obtain ⟨R', U, C, O⟩ := P
  have g2 : r' 2 = .int (nI D.1) := by rw [U 2 (by decide) (by decide) (by decide) (by decide) (by decide) (by decide) (by decide)]; exact f2
  have g3 : r' 3 = .int (nI D.2.1) := by rw [U 3 (by decide) (by decide) (by decide) (by decide) (by decide) (by decide) (by decide)]; exact f3
  have g4 : r' 4 = .int (nI D.2.2.2.2.1) := by rw [U 4 (by decide) (by decide) (by decide) (by decide) (by decide) (by decide) (by decide)]; exact f4
  have g5 : r' 5 = .int (nI li) := by rw [U 5 (by decide) (by decide) (by decide) (by decide) (by decide) (by decide) (by decide)]; exact f5
  rcases hj with rfl | rfl
  · exact ⟨R', O.1, O.2.1, O.2.2.1, Or.inl O.2.2.2.1, O.2.2.2.2, ⟨d7.1.c (C.1 _ (by decide)) (C.2 _ (by decide)), Nat.le_trans d7.2 hp⟩, ⟨g2, g3, g4, g5⟩, by rw [C.1 3 (by decide)]; exact a3, by rw [C.1 4 (by decide)]; exact a4⟩
  · exact ⟨R', O.1, O.2.1, O.2.2.1, Or.inr O.2.2.2.1, ⟨d5.1.c (C.1 _ (by decide)) (C.2 _ (by decide)), Nat.le_trans d5.2 hp⟩, O.2.2.2.2, ⟨g2, g3, g4, g5⟩, by rw [C.1 3 (by decide)]; exact a3, by rw [C.1 4 (by decide)]; exact a4⟩
theorem DR.nil (h : Q i = (0, 0, 0)) : DR A Q i [] := by
  unfold DR
  rw [h]
  exact ⟨rfl, rfl, rfl, fun j c hj => by simp at hj⟩
theorem l_begin (hj : j = 5 ∨ j = 7) (a : LC X h0 h r A Q p D li) : Zm g (d + 7) 0 0 mX4_begin [.ref 2, .ref j] h (rVp (fun h' => PC X h0 h' (va_up r 17 (.ref j)) A (upM Q j (0, 0, 0)) j 0 [] (nR X (waR X 31 (tkB X p))))) := by
  have R := a.1
  obtain ⟨c1, c2, c3, c4, c5, c6, c7, c8, c9, c10⟩ := id a
  have O : CO X h0 (va_up r 17 (.ref j)) A (upM Q j (0, 0, 0)) j 0 p [] := ⟨⟨c2.1, c2.2.1, c2.2.2⟩, c3, c4, rfl, DR.nil upM_eq, Nat.zero_le _⟩
  show Zw g (d + 7) 0 0 mX4_begin 0 [some (.ref 2), some (.ref j)] [] h _
  refine x_al1 rfl dX4_begin_0 ?_
  refine x_cv0Vp mX1_clear_ok lkX4_101 rfl (Nat.le_of_ble_eq_true rfl) (Nat.le_of_ble_eq_true rfl) dX4_begin_1 (R.dq  hj).1 (c_dclear R hj) (fun h hq => ?_)
  have R := hq
  refine x_al0 rfl dX4_begin_4 ?_
  refine x_al1 rfl dX4_begin_5 ?_
  refine x_rp R fdX4_69 (by decide) (by decide) (by first | exact fun _ => ⟨_, rfl⟩ | exact fun z => absurd z (by decide)) (by first | exact zf_a | exact zf_o) dX4_begin_6 (fun h R => ?_)
  refine x_al0 rfl dX4_begin_9 ?_
  refine x_cv0Vp mX4_advance_ok lkX4_81 rfl (Nat.le_of_ble_eq_true rfl) (Nat.le_of_ble_eq_true rfl) dX4_begin_10 R.get  (o_adv R O) (fun h hq => ?_)
  have P := hq
  cases e0 : nR X (.inr (tkB X p, [])) with
  | inl e9 =>
    rw [e0] at P
    obtain ⟨kb, rfl⟩ := nR_bt e0
    obtain ⟨r2, A2, Q2, P⟩ := P
    have R := P.1
    refine x_al0 rfl dX4_begin_13 ?_
    refine x_bipush (v := nI 58) dX4_begin_14 rfl ?_
    refine x_cv1V mX4_expect_ok lkX4_90 rfl (Nat.le_of_ble_eq_true rfl) (Nat.le_of_ble_eq_true rfl) dX4_begin_16 R.get  (e_expect (k := 31) (by decide) (by decide) (by decide) R P.2.2.2) ?_
    exact x_vret rfl dX4_begin_19 ⟨rfl, by rw [BA.wa (by decide) _ kb]; exact ⟨r2, A2, Q2, P⟩⟩
  | inr q0 =>
    rw [e0] at P
    obtain ⟨rfl, k0⟩ := nR_ot e0
    obtain ⟨r2, A2, Q2, P⟩ := P
    have R := P.1
    refine x_al0 rfl dX4_begin_13 ?_
    refine x_bipush (v := nI 58) dX4_begin_14 rfl ?_
    refine x_cv1Vp mX4_expect_ok lkX4_90 rfl (Nat.le_of_ble_eq_true rfl) (Nat.le_of_ble_eq_true rfl) dX4_begin_16 R.get  (o_expect (k := 31) (by decide) (by decide) (by decide) R P.2.2.2) (fun h hq => ?_)
    have P2 := PCa.tn (c1 := []) P hq
    rw [apR_nil] at P2
    exact x_vret rfl dX4_begin_19 ⟨rfl, P2⟩
end ZCn

