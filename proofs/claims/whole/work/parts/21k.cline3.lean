/-! the class's line, isWhole, clear -/
section ZCo
variable {g : zG} {d : Nat} {h0 h h' : zH} {r r' : Nat → Value} {A A' : Nat → Nat → Int32} {Q Q' : Nat → zS3} {X : zX} {k p p' q i j li : Nat} {e : Nat × Nat} {cs : List Nat} {S : zR} {D : zDd}
theorem LC.pk {z : zS3} (hj : j = 5 ∨ j = 7) (a : LC X h0 h r A Q p D li) (P : PCa X h0 h' (va_up r 17 (.ref j)) A (upM Q j z) j 0 p' cs r' A' Q') (hp : tkA X p ≤ tkA X p') : LC X h0 h' r' A' Q' p' (setL D j (some cs)) li := by
  obtain ⟨R, T, K, e16, e17, d5, d7, ⟨f2, f3, f4, f5⟩, a3, a4⟩ := a
  obtain ⟨R', U, C, O⟩ := P
  have g2 : r' 2 = .int (nI D.1) := by rw [U 2 (by decide) (by decide) (by decide) (by decide) (by decide) (by decide) (by decide)]; exact f2
  have g3 : r' 3 = .int (nI D.2.1) := by rw [U 3 (by decide) (by decide) (by decide) (by decide) (by decide) (by decide) (by decide)]; exact f3
  have g4 : r' 4 = .int (nI D.2.2.2.2.1) := by rw [U 4 (by decide) (by decide) (by decide) (by decide) (by decide) (by decide) (by decide)]; exact f4
  have g5 : r' 5 = .int (nI li) := by rw [U 5 (by decide) (by decide) (by decide) (by decide) (by decide) (by decide) (by decide)]; exact f5
  rcases hj with rfl | rfl
  · exact ⟨R', O.1, O.2.1, O.2.2.1, Or.inl O.2.2.2.1, O.2.2.2.2, ⟨d7.1.c (C.1 _ (by decide)) ((C.2 _ (by decide)).trans (upM_ne (by decide))), Nat.le_trans d7.2 hp⟩, ⟨g2, g3, g4, g5⟩, by rw [C.1 3 (by decide)]; exact a3, by rw [C.1 4 (by decide)]; exact a4⟩
  · exact ⟨R', O.1, O.2.1, O.2.2.1, Or.inr O.2.2.2.1, ⟨d5.1.c (C.1 _ (by decide)) ((C.2 _ (by decide)).trans (upM_ne (by decide))), Nat.le_trans d5.2 hp⟩, O.2.2.2.2, ⟨g2, g3, g4, g5⟩, by rw [C.1 3 (by decide)]; exact a3, by rw [C.1 4 (by decide)]; exact a4⟩
theorem LE.up {v : Int32} (a : LE X h0 h r A Q e) (R : RW h0 h' (va_up r k (.int v)) A Q) (hk : k = 2 ∨ k = 3 ∨ k = 4 ∨ k = 5) : LE X h0 h' (va_up r k (.int v)) A Q e := by
  obtain ⟨a1, ⟨b1, b2, b3, b4⟩, a3, a4, a5⟩ := a
  have u : ∀ j, j ≠ k → va_up r k (.int v) j = r j := fun j hj => va_up_ne _ _ hj
  refine ⟨R, ⟨by rw [u _ (by omega)]; exact b1, by rw [u _ (by omega)]; exact b2, by rw [u _ (by omega)]; exact b3, b4⟩, by rw [u _ (by omega)]; exact a3, by rw [u _ (by omega)]; exact a4, ?_⟩
  rw [u 17 (by omega)]
  exact a5
/-- a field of the desk is told -/
theorem LC.up {v : Int32} {D' : zDd} {li' : Nat} (a : LC X h0 h r A Q p D li) (R : RW h0 h' (va_up r k (.int v)) A Q) (hk : k = 2 ∨ k = 3 ∨ k = 4 ∨ k = 5) (hD : D'.2.2.1 = D.2.2.1 ∧ D'.2.2.2.1 = D.2.2.2.1 ∧ D'.2.2.2.2.2 = D.2.2.2.2.2) (hv : va_up r k (.int v) 2 = .int (nI D'.1) ∧ va_up r k (.int v) 3 = .int (nI D'.2.1) ∧ va_up r k (.int v) 4 = .int (nI D'.2.2.2.2.1) ∧ va_up r k (.int v) 5 = .int (nI li')) : LC X h0 h' (va_up r k (.int v)) A Q p D' li' := by
  obtain ⟨R0, ⟨T1, T2, T3⟩, ⟨K1, K2, K3, K4, K5, K6, K7⟩, e16, e17, d5, d7, -, a3, a4⟩ := a
  have u : ∀ j, j ≠ k → va_up r k (.int v) j = r j := fun j hj => va_up_ne _ _ hj
  refine ⟨R, ⟨by rw [u _ (by omega)]; exact T1, by rw [u _ (by omega)]; exact T2, T3⟩, ⟨by rw [u _ (by omega)]; exact K1, K2, by rw [u _ (by omega)]; exact K3, by rw [u _ (by omega)]; exact K4, by rw [u _ (by omega)]; exact K5, fun z => by rw [u _ (by omega)]; exact K6 z, K7⟩, by rw [u _ (by omega)]; exact e16, by rw [u 17 (by omega)]; exact e17, by rw [hD.2.2]; exact d5, by rw [hD.2.2]; exact d7, hv, by rw [hD.1]; exact a3, by rw [hD.2.1]; exact a4⟩
theorem fLn_lw {b : Bool} (z : (b = false ∧ tkK X p = 6) ∨ (b = true ∧ tkK X p = 7)) : nS X (fLn X D p) = match nR X (fLw X b p) with
    | .inl e => .inl e
    | .inr q => .inr (q.1, setL D (if b = true then 7 else 5) (some q.2)) := by
  rcases z with ⟨rfl, z⟩ | ⟨rfl, z⟩
  · unfold fLn
    rw [if_neg (by omega), if_neg (by omega), if_neg (by omega), if_pos z]
    cases fLw X false p with
    | inl e => rfl
    | inr q =>
      by_cases y : tkK X q.1 = 25
      · rw [nR_b y]; exact nS_b (q := (q.1, _)) y
      · rw [nR_r y]; exact nS_r (q := (q.1, _)) y
  · unfold fLn
    rw [if_neg (by omega), if_neg (by omega), if_neg (by omega), if_neg (by omega), if_pos z]
    cases fLw X true p with
    | inl e => rfl
    | inr q =>
      by_cases y : tkK X q.1 = 25
      · rw [nR_b y]; exact nS_b (q := (q.1, _)) y
      · rw [nR_r y]; exact nS_r (q := (q.1, _)) y
theorem fLn_dr (z : (j = 3 ∧ tkK X p = 3) ∨ (j = 4 ∧ tkK X p = 4)) : nS X (fLn X D p) = match nS X (fD2 X D.1 (tkB X p)) with
    | .inl e => .inl e
    | .inr q => .inr (q.1, upD D j q.2.1 q.2.2) := by
  rcases z with ⟨rfl, z⟩ | ⟨rfl, z⟩
  · unfold fLn
    rw [if_pos z, fD2_e]
    cases fD2 X D.1 (tkB X p) with
    | inl e => rfl
    | inr q =>
      by_cases y : tkK X q.1 = 25
      · rw [nS_b (q := q) y]; exact nS_b (q := (q.1, _)) y
      · rw [nS_r (q := q) y]; exact nS_r (q := (q.1, _)) y
  · unfold fLn
    rw [if_neg (by omega), if_pos z, fD2_e]
    cases fD2 X D.1 (tkB X p) with
    | inl e => rfl
    | inr q =>
      by_cases y : tkK X q.1 = 25
      · rw [nS_b (q := q) y]; exact nS_b (q := (q.1, _)) y
      · rw [nS_r (q := q) y]; exact nS_r (q := (q.1, _)) y
theorem fD2_25 {n : Nat} (h : tkK X p = 25) : fD2 X n p = .inl (1, tkA X p) := by
  unfold fD2
  rw [show fNm X 0 (n - 1) p = .inl (1, tkA X p) by unfold fNm; rw [if_pos (by omega), erK_25 h]]
theorem l_line (hD : zDok D) (a : LC X h0 h r A Q p D li) (hK : tkK X p ≠ 24) : Zm g (d + 66) 0 0 mX4_line [.ref 2] h (rVp (fun h' => QL X h0 h' li (nS X (fLn X D p)))) := by
  have R := a.1
  have e13 := a.2.2.1.2.2.2.1
  have k25 := a.2.2.1.2.2.2.2.2.2
  have hp := a.2.2.1.2.1
  have b := tkA_B hp hK
  have dm := tkK_dom (X := X) (p := p)
  have tl := tok_lt _ dm.2
  have X9 := a.2.1.2.2.1
  have law : ∀ (b : Bool) (j : Nat) (h' : zH), ((b = false ∧ tkK X p = 6) ∨ (b = true ∧ tkK X p = 7)) → j = (if b = true then 7 else 5) → PC X h0 h' (va_up r 17 (.ref j)) A (upM Q j (0, 0, 0)) j 0 [] (nR X (fLw X b p)) → QL X h0 h' li (nS X (fLn X D p)) := by
    intro b j h' z hj P
    have hj' : j = 5 ∨ j = 7 := by rw [hj]; split <;> simp
    rw [fLn_lw z, ← hj]
    cases y : nR X (fLw X b p) with
    | inl e9 =>
      rw [y] at P
      obtain ⟨r2, A2, Q2, P⟩ := P
      exact ⟨r2, A2, Q2, PCe.le (r := va_up r 17 (.ref j)) ⟨a.2.1.1, a.2.1.2.1, a.2.1.2.2⟩ hj' P⟩
    | inr q =>
      rw [y] at P
      obtain ⟨r2, A2, Q2, P⟩ := P
      have o := fLw_o X9 hp hK (nR_o y).1
      exact ⟨r2, A2, Q2, a.pk hj' P (show tkA X p ≤ tkA X q.1 by have := o.2.1; omega)⟩
  show Zw g (d + 66) 0 0 mX4_line 0 [some (.ref 2)] [] h _
  refine x_al0 rfl dX4_line_0 ?_
  refine x_rg R fdX4_57 (by decide) (by first | assumption | rfl) dX4_line_1 ?_
  by_cases z3 : tkK X p = 3
  · rw [z3]
    refine x_tabIn (off := 36) (tgt := 40) dX4_line_4 (by decide) (by decide) rfl rfl ?_
    have eS := fLn_dr (X := X) (D := D) (j := 3) (p := p) (Or.inl ⟨rfl, z3⟩)
    refine x_al0 rfl dX4_line_40 ?_
    refine x_cv0Vp mX4_advance_ok lkX4_81 rfl (Nat.le_of_ble_eq_true rfl) (Nat.le_of_ble_eq_true rfl) dX4_line_41 R.get  (l_adv a) (fun h hq => ?_)
    cases y0 : nR X (.inr (tkB X p, [])) with
    | inl e9 =>
      rw [y0] at hq
      obtain ⟨kb, rfl⟩ := nR_bt y0
      obtain ⟨r2, A2, Q2, c⟩ := hq
      have R := c.1
      refine x_al0 rfl dX4_line_44 ?_
      refine x_al0 rfl dX4_line_45 ?_
      refine x_rg R fdX4_30 (by decide) (R.f6) dX4_line_46 ?_
      refine x_cv1Vp mX4_tell_ok lkX4_105 rfl (Nat.le_of_ble_eq_true rfl) (Nat.le_of_ble_eq_true rfl) dX4_line_49 R.get  (LE.tell (d := d + 63) (Or.inl rfl) c) (fun h hq => ?_)
      refine x_goto (tgt := 123) dX4_line_52 rfl ?_
      exact x_vret rfl dX4_line_123 ⟨rfl, by rw [eS, fD2_25 kb]; exact hq⟩
    | inr q0 =>
      rw [y0] at hq
      obtain ⟨rfl, k0⟩ := nR_ot y0
      obtain ⟨r2, A2, Q2, c⟩ := hq
      have R := c.1
      refine x_al0 rfl dX4_line_44 ?_
      refine x_al0 rfl dX4_line_45 ?_
      refine x_rg R fdX4_30 (by decide) (R.f6) dX4_line_46 ?_
      refine x_cv1Vp mX4_tell_ok lkX4_105 rfl (Nat.le_of_ble_eq_true rfl) (Nat.le_of_ble_eq_true rfl) dX4_line_49 R.get  (l_tell (d := d + 58) (Or.inl rfl) hD.1 hD.2.1 c) (fun h hq => ?_)
      refine x_goto (tgt := 123) dX4_line_52 rfl ?_
      rw [eS]
      refine x_vret rfl dX4_line_123 ⟨rfl, ?_⟩
      cases y : nS X (fD2 X D.1 (tkB X p)) with
      | inl e9 => rw [y] at hq; exact hq
      | inr q9 => rw [y] at hq; exact hq
  by_cases z4 : tkK X p = 4
  · rw [z4]
    refine x_tabIn (off := 51) (tgt := 55) dX4_line_4 (by decide) (by decide) rfl rfl ?_
    have eS := fLn_dr (X := X) (D := D) (j := 4) (p := p) (Or.inr ⟨rfl, z4⟩)
    refine x_al0 rfl dX4_line_55 ?_
    refine x_cv0Vp mX4_advance_ok lkX4_81 rfl (Nat.le_of_ble_eq_true rfl) (Nat.le_of_ble_eq_true rfl) dX4_line_56 R.get  (l_adv a) (fun h hq => ?_)
    cases y0 : nR X (.inr (tkB X p, [])) with
    | inl e9 =>
      rw [y0] at hq
      obtain ⟨kb, rfl⟩ := nR_bt y0
      obtain ⟨r2, A2, Q2, c⟩ := hq
      have R := c.1
      refine x_al0 rfl dX4_line_59 ?_
      refine x_al0 rfl dX4_line_60 ?_
      refine x_rg R fdX4_34 (by decide) (R.f7) dX4_line_61 ?_
      refine x_cv1Vp mX4_tell_ok lkX4_105 rfl (Nat.le_of_ble_eq_true rfl) (Nat.le_of_ble_eq_true rfl) dX4_line_64 R.get  (LE.tell (d := d + 63) (Or.inr rfl) c) (fun h hq => ?_)
      refine x_goto (tgt := 123) dX4_line_67 rfl ?_
      exact x_vret rfl dX4_line_123 ⟨rfl, by rw [eS, fD2_25 kb]; exact hq⟩
    | inr q0 =>
      rw [y0] at hq
      obtain ⟨rfl, k0⟩ := nR_ot y0
      obtain ⟨r2, A2, Q2, c⟩ := hq
      have R := c.1
      refine x_al0 rfl dX4_line_59 ?_
      refine x_al0 rfl dX4_line_60 ?_
      refine x_rg R fdX4_34 (by decide) (R.f7) dX4_line_61 ?_
      refine x_cv1Vp mX4_tell_ok lkX4_105 rfl (Nat.le_of_ble_eq_true rfl) (Nat.le_of_ble_eq_true rfl) dX4_line_64 R.get  (l_tell (d := d + 58) (Or.inr rfl) hD.1 hD.2.1 c) (fun h hq => ?_)
      refine x_goto (tgt := 123) dX4_line_67 rfl ?_
      rw [eS]
      refine x_vret rfl dX4_line_123 ⟨rfl, ?_⟩
      cases y : nS X (fD2 X D.1 (tkB X p)) with
      | inl e9 => rw [y] at hq; exact hq
      | inr q9 => rw [y] at hq; exact hq
  by_cases z5 : tkK X p = 5
  · rw [z5]
    refine x_tabIn (off := 66) (tgt := 70) dX4_line_4 (by decide) (by decide) rfl rfl ?_
    refine x_al0 rfl dX4_line_70 ?_
    refine x_cv0Vp mX4_advance_ok lkX4_81 rfl (Nat.le_of_ble_eq_true rfl) (Nat.le_of_ble_eq_true rfl) dX4_line_71 R.get  (l_adv a) (fun h hq => ?_)
    cases y0 : nR X (.inr (tkB X p, [])) with
    | inl e9 =>
      rw [y0] at hq
      obtain ⟨kb, rfl⟩ := nR_bt y0
      obtain ⟨r2, A2, Q2, c⟩ := hq
      have R := c.1
      have eS : nS X (fLn X D p) = .inl (1, tkA X (tkB X p)) := by unfold fLn; rw [if_neg z3, if_neg z4, if_pos z5, show fNm X 0 9 (tkB X p) = .inl (1, tkA X (tkB X p)) by unfold fNm; rw [if_pos (by omega), erK_25 kb]]; rfl
      refine x_al0 rfl dX4_line_74 ?_
      refine x_al0 rfl dX4_line_75 ?_
      refine x_iconst (v := nI 0) dX4_line_76 rfl ?_
      refine x_bipush (v := nI 9) dX4_line_77 rfl ?_
      refine x_cv2I mX4_number_ok lkX4_102 rfl (Nat.le_of_ble_eq_true rfl) (Nat.le_of_ble_eq_true rfl) dX4_line_79 R.get  (e_number R c.2.1) ?_
      refine x_rp R fdX4_24 (by decide) (by decide) (by first | exact fun _ => ⟨_, rfl⟩ | exact fun z => absurd z (by decide)) zf_i dX4_line_82 (fun h R => ?_)
      refine x_goto (tgt := 123) dX4_line_85 rfl ?_
      exact x_vret rfl dX4_line_123 ⟨rfl, by rw [eS]; exact ⟨_, A2, Q2, c.up R (Or.inr (Or.inr (Or.inl rfl)))⟩⟩
    | inr q0 =>
      rw [y0] at hq
      obtain ⟨rfl, k0⟩ := nR_ot y0
      obtain ⟨r2, A2, Q2, c⟩ := hq
      have R := c.1
      refine x_al0 rfl dX4_line_74 ?_
      refine x_al0 rfl dX4_line_75 ?_
      refine x_iconst (v := nI 0) dX4_line_76 rfl ?_
      refine x_bipush (v := nI 9) dX4_line_77 rfl ?_
      refine x_cv2Ip mX4_number_ok lkX4_102 rfl (Nat.le_of_ble_eq_true rfl) (Nat.le_of_ble_eq_true rfl) dX4_line_79 R.get  (l_num (lo := 0) (hi := 9) (by omega) (by omega) c) (fun r h hq => ?_)
      cases y1 : fNm X 0 9 (tkB X p) with
      | inl e9 =>
        rw [y1] at hq
        obtain ⟨rfl, r3, A3, Q3, c3⟩ := hq
        have R := c3.1
        have eS : nS X (fLn X D p) = .inl e9 := by unfold fLn; rw [if_neg z3, if_neg z4, if_pos z5, y1]; rfl
        refine x_rp R fdX4_24 (by decide) (by decide) (by first | exact fun _ => ⟨_, rfl⟩ | exact fun z => absurd z (by decide)) zf_i dX4_line_82 (fun h R => ?_)
        refine x_goto (tgt := 123) dX4_line_85 rfl ?_
        exact x_vret rfl dX4_line_123 ⟨rfl, by rw [eS]; exact ⟨_, A3, Q3, c3.up R (Or.inr (Or.inr (Or.inl rfl)))⟩⟩
      | inr q1 =>
        rw [y1] at hq
        obtain ⟨rfl, hq⟩ := hq
        have eF : fLn X D p = .inr (q1.1, D.1, D.2.1, D.2.2.1, D.2.2.2.1, q1.2, D.2.2.2.2.2) := by unfold fLn; rw [if_neg z3, if_neg z4, if_pos z5, y1]
        cases y2 : nR X (.inr (q1.1, [])) with
        | inl e9 =>
          rw [y2] at hq
          obtain ⟨kb, rfl⟩ := nR_bt y2
          obtain ⟨r3, A3, Q3, c3⟩ := hq
          have R := c3.1
          refine x_rp R fdX4_24 (by decide) (by decide) (by first | exact fun _ => ⟨_, rfl⟩ | exact fun z => absurd z (by decide)) zf_i dX4_line_82 (fun h R => ?_)
          refine x_goto (tgt := 123) dX4_line_85 rfl ?_
          exact x_vret rfl dX4_line_123 ⟨rfl, by rw [eF, nS_b (q := (q1.1, D.1, D.2.1, D.2.2.1, D.2.2.2.1, q1.2, D.2.2.2.2.2)) kb]; exact ⟨_, A3, Q3, c3.up R (Or.inr (Or.inr (Or.inl rfl)))⟩⟩
        | inr q0 =>
          rw [y2] at hq
          obtain ⟨rfl, k2⟩ := nR_ot y2
          obtain ⟨r3, A3, Q3, c3⟩ := hq
          have R := c3.1
          have ff := c3.2.2.2.2.2.2.2.1
          refine x_rp R fdX4_24 (by decide) (by decide) (by first | exact fun _ => ⟨_, rfl⟩ | exact fun z => absurd z (by decide)) zf_i dX4_line_82 (fun h R => ?_)
          refine x_goto (tgt := 123) dX4_line_85 rfl ?_
          exact x_vret rfl dX4_line_123 ⟨rfl, by rw [eF, nS_r (q := (q1.1, D.1, D.2.1, D.2.2.1, D.2.2.2.1, q1.2, D.2.2.2.2.2)) k2]; exact ⟨_, A3, Q3, c3.up R (Or.inr (Or.inr (Or.inl rfl))) ⟨rfl, rfl, rfl⟩ ⟨ff.1, ff.2.1, rfl, ff.2.2.2⟩⟩⟩
  by_cases z6 : tkK X p = 6
  · rw [z6]
    refine x_tabIn (off := 84) (tgt := 88) dX4_line_4 (by decide) (by decide) rfl rfl ?_
    refine x_al0 rfl dX4_line_88 ?_
    refine x_al0 rfl dX4_line_89 ?_
    refine x_rg R fdX4_40 (by decide) (R.f8) dX4_line_90 ?_
    refine x_cv1Vp mX4_begin_ok lkX4_109 rfl (Nat.le_of_ble_eq_true rfl) (Nat.le_of_ble_eq_true rfl) dX4_line_93 R.get  (l_begin (j := 5) (Or.inl rfl) a) (fun h hq => ?_)
    have P := hq
    have bd : BD X (fun p => if false = true then fTr X (fLv X 6).2 p else fSm X (fLv X 6).1 p) := (BA.lv 6).1.sm.bd
    cases y0 : nR X (waR X 31 (tkB X p)) with
    | inl e9 =>
      rw [y0] at P
      obtain ⟨r2, A2, Q2, P⟩ := P
      have R := P.1
      refine x_al0 rfl dX4_line_96 ?_
      refine x_cv0V mX4_sum_ok lkX4_113 rfl (Nat.le_of_ble_eq_true rfl) (Nat.le_of_ble_eq_true rfl) dX4_line_97 R.get  (e_sumA _ _ _ _ _ R P.2.2.2) ?_
      refine x_goto (tgt := 123) dX4_line_100 rfl ?_
      exact x_vret rfl dX4_line_123 ⟨rfl, law false 5 _ (Or.inl ⟨rfl, z6⟩) rfl (by rw [fLw, nR_e bd y0]; exact ⟨r2, A2, Q2, P⟩)⟩
    | inr q0 =>
      rw [y0] at P
      obtain ⟨r2, A2, Q2, P⟩ := P
      have R := P.1
      have CS := (lvC (g := g) (d := d) (X := X) (h0 := h0) (i := 5) (Or.inl rfl) 6 (Nat.le_refl _)).1
      refine x_al0 rfl dX4_line_96 ?_
      refine x_cv0Vp mX4_sum_ok lkX4_113 rfl (Nat.le_of_ble_eq_true rfl) (Nat.le_of_ble_eq_true rfl) dX4_line_97 R.get  ((CS.deep (show d + 12 + 8 * 6 ≤ d + 65 by omega)) _ _ _ _ _ _ R P.2.2.2) (fun h hq => ?_)
      refine x_goto (tgt := 123) dX4_line_100 rfl ?_
      have P2 := PCa.tn (c1 := q0.2) P hq
      exact x_vret rfl dX4_line_123 ⟨rfl, law false 5 _ (Or.inl ⟨rfl, z6⟩) rfl (by rw [fLw, nR_s y0]; exact P2)⟩
  by_cases z7 : tkK X p = 7
  · rw [z7]
    refine x_tabIn (off := 99) (tgt := 103) dX4_line_4 (by decide) (by decide) rfl rfl ?_
    refine x_al0 rfl dX4_line_103 ?_
    refine x_al0 rfl dX4_line_104 ?_
    refine x_rg R fdX4_44 (by decide) (R.f9) dX4_line_105 ?_
    refine x_cv1Vp mX4_begin_ok lkX4_109 rfl (Nat.le_of_ble_eq_true rfl) (Nat.le_of_ble_eq_true rfl) dX4_line_108 R.get  (l_begin (j := 7) (Or.inr rfl) a) (fun h hq => ?_)
    have P := hq
    have bd : BD X (fun p => if true = true then fTr X (fLv X 6).2 p else fSm X (fLv X 6).1 p) := (BA.lv 6).2.tr.bd
    cases y0 : nR X (waR X 31 (tkB X p)) with
    | inl e9 =>
      rw [y0] at P
      obtain ⟨r2, A2, Q2, P⟩ := P
      have R := P.1
      refine x_al0 rfl dX4_line_111 ?_
      refine x_cv0V mX4_truth_ok lkX4_116 rfl (Nat.le_of_ble_eq_true rfl) (Nat.le_of_ble_eq_true rfl) dX4_line_112 R.get  (e_truthA _ _ _ _ _ R P.2.2.2) ?_
      refine x_goto (tgt := 123) dX4_line_115 rfl ?_
      exact x_vret rfl dX4_line_123 ⟨rfl, law true 7 _ (Or.inr ⟨rfl, z7⟩) rfl (by rw [fLw, nR_e bd y0]; exact ⟨r2, A2, Q2, P⟩)⟩
    | inr q0 =>
      rw [y0] at P
      obtain ⟨r2, A2, Q2, P⟩ := P
      have R := P.1
      have CT := (lvC (g := g) (d := d) (X := X) (h0 := h0) (i := 7) (Or.inr rfl) 6 (Nat.le_refl _)).2.1
      refine x_al0 rfl dX4_line_111 ?_
      refine x_cv0Vp mX4_truth_ok lkX4_116 rfl (Nat.le_of_ble_eq_true rfl) (Nat.le_of_ble_eq_true rfl) dX4_line_112 R.get  ((CT.deep (show d + 16 + 8 * 6 ≤ d + 65 by omega)) _ _ _ _ _ _ R P.2.2.2) (fun h hq => ?_)
      refine x_goto (tgt := 123) dX4_line_115 rfl ?_
      have P2 := PCa.tn (c1 := q0.2) P hq
      exact x_vret rfl dX4_line_123 ⟨rfl, law true 7 _ (Or.inr ⟨rfl, z7⟩) rfl (by rw [fLw, nR_s y0]; exact P2)⟩
  have ht : ¬ (303 ≤ tok (tkK X p) ∧ tok (tkK X p) ≤ 307) := fun z => by
    have : tok (tkK X p) = 303 ∨ tok (tkK X p) = 304 ∨ tok (tkK X p) = 305 ∨ tok (tkK X p) = 306 ∨ tok (tkK X p) = 307 := by omega
    rcases this with w | w | w | w | w
    · exact z3 ((tok_e (k := 3) (by decide) (by decide)).mp w)
    · exact z4 ((tok_e (k := 4) (by decide) (by decide)).mp w)
    · exact z5 ((tok_e (k := 5) (by decide) (by decide)).mp w)
    · exact z6 ((tok_e (k := 6) (by decide) (by decide)).mp w)
    · exact z7 ((tok_e (k := 7) (by decide) (by decide)).mp w)
  refine x_tabOut (tgt := 118) dX4_line_4 (by rw [nI_toInt (by omega)]; omega) rfl ?_
  have eS : nS X (fLn X D p) = .inl (2, tkA X p) := by unfold fLn; rw [if_neg z3, if_neg z4, if_neg z5, if_neg z6, if_neg z7, erK_2 k25]; rfl
  refine x_al0 rfl dX4_line_118 ?_
  refine x_iconst (v := nI 2) dX4_line_119 rfl ?_
  refine x_cv1Vp mX4_fail_ok lkX4_98 rfl (Nat.le_of_ble_eq_true rfl) (Nat.le_of_ble_eq_true rfl) dX4_line_120 R.get  (l_fail (fa := 2) (by decide) (by decide) a) (fun h hq => ?_)
  exact x_vret rfl dX4_line_123 ⟨rfl, by rw [eS]; exact hq⟩
end ZCo

