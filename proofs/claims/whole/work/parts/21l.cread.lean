/-! the class's header, isWhole, clear, read -/
def QH (X : zX) (h0 h : zH) (S : Sum (Nat × Nat) (Nat × zDd)) : Prop := QL X h0 h 1 S
section ZCr
variable {g : zG} {d : Nat} {h0 h h' : zH} {r r' : Nat → Value} {A A' : Nat → Nat → Int32} {Q Q' : Nat → zS3} {X : zX} {k p p' q i j li : Nat} {e : Nat × Nat} {cs : List Nat} {S : zR} {D : zDd}
theorem th49 {Y : Option Value → zH → Prop} (a : LE X h0 h r A Q e) (hY : ∀ h r A Q, LE X h0 h r A Q e → Y none h) : Zw g (d + 2) 0 0 mX4_header 49 [some (.ref 2)] [] h Y := by
  have R := a.1
  refine x_al0 rfl dX4_header_49 ?_
  refine x_iconst (v := nI 1) dX4_header_50 rfl ?_
  refine x_rp R fdX4_27 (by decide) (by decide) (by first | exact fun _ => ⟨_, rfl⟩ | exact fun z => absurd z (by decide)) zf_i dX4_header_51 (fun h R => ?_)
  exact x_vret rfl dX4_header_54 (hY _ _ _ _ (a.up R (Or.inr (Or.inr (Or.inr rfl)))))
theorem th43 {Y : Option Value → zH → Prop} (a : LE X h0 h r A Q e) (hY : ∀ h r A Q, LE X h0 h r A Q e → Y none h) : Zw g (d + 2) 0 0 mX4_header 43 [some (.ref 2)] [] h Y := by
  have R := a.1
  refine x_al0 rfl dX4_header_43 ?_
  refine x_bipush (v := nI 59) dX4_header_44 rfl ?_
  refine x_cv1V mX4_expect_ok lkX4_90 rfl (Nat.le_of_ble_eq_true rfl) (Nat.le_of_ble_eq_true rfl) dX4_header_46 R.get  (LE.exp (k := 30) (by decide) (by decide) (by decide) a) ?_
  exact th49 a hY
theorem th32 {Y : Option Value → zH → Prop} (a : LE X h0 h r A Q e) (hY : ∀ h r A Q, LE X h0 h r A Q e → Y none h) : Zw g (d + 2) 0 0 mX4_header 32 [some (.ref 2)] [] h Y := by
  have R := a.1
  refine x_al0 rfl dX4_header_32 ?_
  refine x_al0 rfl dX4_header_33 ?_
  refine x_iconst (v := nI 1) dX4_header_34 rfl ?_
  refine x_bipush (v := nI 9) dX4_header_35 rfl ?_
  refine x_cv2I mX4_number_ok lkX4_102 rfl (Nat.le_of_ble_eq_true rfl) (Nat.le_of_ble_eq_true rfl) dX4_header_37 R.get  (e_number R a.2.1) ?_
  refine x_rp R fdX4_21 (by decide) (by decide) (by first | exact fun _ => ⟨_, rfl⟩ | exact fun z => absurd z (by decide)) zf_i dX4_header_40 (fun h R => ?_)
  exact th43 (a.up R (Or.inr (Or.inl rfl))) hY
theorem th25 {Y : Option Value → zH → Prop} (a : LE X h0 h r A Q e) (hY : ∀ h r A Q, LE X h0 h r A Q e → Y none h) : Zw g (d + 2) 0 0 mX4_header 25 [some (.ref 2)] [] h Y := by
  have R := a.1
  refine x_al0 rfl dX4_header_25 ?_
  refine x_sipush (v := nI 302) dX4_header_26 (by decide) ?_
  refine x_cv1V mX4_expect_ok lkX4_90 rfl (Nat.le_of_ble_eq_true rfl) (Nat.le_of_ble_eq_true rfl) dX4_header_29 R.get  (LE.exp (k := 2) (by decide) (by decide) (by decide) a) ?_
  exact th32 a hY
theorem th14 {Y : Option Value → zH → Prop} (a : LE X h0 h r A Q e) (hY : ∀ h r A Q, LE X h0 h r A Q e → Y none h) : Zw g (d + 2) 0 0 mX4_header 14 [some (.ref 2)] [] h Y := by
  have R := a.1
  refine x_al0 rfl dX4_header_14 ?_
  refine x_al0 rfl dX4_header_15 ?_
  refine x_iconst (v := nI 1) dX4_header_16 rfl ?_
  refine x_bipush (v := nI 6) dX4_header_17 rfl ?_
  refine x_cv2I mX4_number_ok lkX4_102 rfl (Nat.le_of_ble_eq_true rfl) (Nat.le_of_ble_eq_true rfl) dX4_header_19 R.get  (e_number R a.2.1) ?_
  refine x_rp R fdX4_18 (by decide) (by decide) (by first | exact fun _ => ⟨_, rfl⟩ | exact fun z => absurd z (by decide)) zf_i dX4_header_22 (fun h R => ?_)
  exact th25 (a.up R (Or.inl rfl)) hY
theorem th7 {Y : Option Value → zH → Prop} (a : LE X h0 h r A Q e) (hY : ∀ h r A Q, LE X h0 h r A Q e → Y none h) : Zw g (d + 2) 0 0 mX4_header 7 [some (.ref 2)] [] h Y := by
  have R := a.1
  refine x_al0 rfl dX4_header_7 ?_
  refine x_sipush (v := nI 301) dX4_header_8 (by decide) ?_
  refine x_cv1V mX4_expect_ok lkX4_90 rfl (Nat.le_of_ble_eq_true rfl) (Nat.le_of_ble_eq_true rfl) dX4_header_11 R.get  (LE.exp (k := 1) (by decide) (by decide) (by decide) a) ?_
  exact th14 a hY
theorem th0 {Y : Option Value → zH → Prop} (a : LE X h0 h r A Q e) (hY : ∀ h r A Q, LE X h0 h r A Q e → Y none h) : Zw g (d + 2) 0 0 mX4_header 0 [some (.ref 2)] [] h Y := by
  have R := a.1
  refine x_al0 rfl dX4_header_0 ?_
  refine x_sipush (v := nI 300) dX4_header_1 (by decide) ?_
  refine x_cv1V mX4_expect_ok lkX4_90 rfl (Nat.le_of_ble_eq_true rfl) (Nat.le_of_ble_eq_true rfl) dX4_header_4 R.get  (LE.exp (k := 0) (by decide) (by decide) (by decide) a) ?_
  exact th7 a hY
theorem LE.header (a : LE X h0 h r A Q e) : Zm g (d + 2) 0 0 mX4_header [.ref 2] h (rVp (fun h' => ∃ r A Q, LE X h0 h' r A Q e)) := by
  show Zw g (d + 2) 0 0 mX4_header 0 [some (.ref 2)] [] h _
  exact th0 a (fun h r A Q z => ⟨rfl, r, A, Q, z⟩)
theorem waR_k {k p : Nat} {e : Nat × Nat} (h : nR X (waR X k p) = .inl e) : (tkK X p ≠ k ∧ e = (erK X p, tkA X p)) ∨ (tkK X p = k ∧ tkK X (tkB X p) = 25 ∧ e = (1, tkA X (tkB X p))) := by
  by_cases z : tkK X p = k
  · rw [waR, if_pos z] at h
    exact Or.inr ⟨z, (nR_bt h).1, (nR_bt h).2⟩
  · rw [waR, if_neg z] at h
    exact Or.inl ⟨z, (Sum.inl.inj h).symm⟩
theorem waR_o {k p : Nat} {q : Nat × List Nat} (h : nR X (waR X k p) = .inr q) : tkK X p = k ∧ q = (tkB X p, []) ∧ tkK X (tkB X p) ≠ 25 := by
  by_cases z : tkK X p = k
  · rw [waR, if_pos z] at h
    exact ⟨z, (nR_ot h).1, (nR_ot h).2⟩
  · rw [waR, if_neg z] at h
    cases h
theorem fNm_25 {lo hi : Nat} (h : tkK X p = 25) : fNm X lo hi p = .inl (1, tkA X p) := by
  unfold fNm
  rw [if_pos (by omega), erK_25 h]
theorem l_header {n0 o0 : Nat} (a : LC X h0 h r A Q 0 (n0, o0, id, id, 0, none, none) 0) : Zm g (d + 7) 0 0 mX4_header [.ref 2] h (rVp (fun h' => QH X h0 h' (nS X (fHd X)))) := by
  have R := a.1
  show Zw g (d + 7) 0 0 mX4_header 0 [some (.ref 2)] [] h _
  refine x_al0 rfl dX4_header_0 ?_
  refine x_sipush (v := nI 300) dX4_header_1 (by decide) ?_
  refine x_cv1Vp mX4_expect_ok lkX4_90 rfl (Nat.le_of_ble_eq_true rfl) (Nat.le_of_ble_eq_true rfl) dX4_header_4 R.get  (l_exp (k := 0) (by decide) (by decide) (by decide) a) (fun h hq => ?_)
  cases e0 : nR X (waR X 0 0) with
  | inl e9 =>
    rw [e0] at hq
    obtain ⟨r2, A2, Q2, c⟩ := hq
    have eS : nS X (fHd X) = .inl e9 := by
      unfold fHd
      rcases waR_k e0 with ⟨z, rfl⟩ | ⟨z, kb, rfl⟩
      · rw [if_neg z]; rfl
      · rw [if_pos z, show fNd X 1 1 6 (tkB X 0) = .inl (1, tkA X (tkB X 0)) by unfold fNd; rw [if_neg (by omega), erK_25 kb]]; rfl
    exact th7 (d := d + 5) c (fun h r A Q z => ⟨rfl, by rw [eS]; exact ⟨r, A, Q, z⟩⟩)
  | inr q0 =>
    rw [e0] at hq
    obtain ⟨k0, rfl, kn0⟩ := waR_o e0
    obtain ⟨r2, A2, Q2, a⟩ := hq
    have R := a.1
    refine x_al0 rfl dX4_header_7 ?_
    refine x_sipush (v := nI 301) dX4_header_8 (by decide) ?_
    refine x_cv1Vp mX4_expect_ok lkX4_90 rfl (Nat.le_of_ble_eq_true rfl) (Nat.le_of_ble_eq_true rfl) dX4_header_11 R.get  (l_exp (k := 1) (by decide) (by decide) (by decide) a) (fun h hq => ?_)
    cases e1 : nR X (waR X 1 (tkB X 0)) with
    | inl e9 =>
      rw [e1] at hq
      obtain ⟨r2, A2, Q2, c⟩ := hq
      have eS : nS X (fHd X) = .inl e9 := by
        unfold fHd
        rw [if_pos k0]
        rcases waR_k e1 with ⟨z, rfl⟩ | ⟨z, kb, rfl⟩
        · rw [show fNd X 1 1 6 (tkB X 0) = .inl (erK X (tkB X 0), tkA X (tkB X 0)) by unfold fNd; rw [if_neg z]]; rfl
        · rw [show fNd X 1 1 6 (tkB X 0) = .inl (1, tkA X (tkB X (tkB X 0))) by unfold fNd; rw [if_pos z, fNm_25 kb]]; rfl
      exact th14 (d := d + 5) c (fun h r A Q z => ⟨rfl, by rw [eS]; exact ⟨r, A, Q, z⟩⟩)
    | inr q1 =>
      rw [e1] at hq
      obtain ⟨k1, rfl, kn1⟩ := waR_o e1
      obtain ⟨r2, A2, Q2, a⟩ := hq
      have R := a.1
      have eN : fNd X 1 1 6 (tkB X 0) = fNm X 1 6 (tkB X (tkB X 0)) := by unfold fNd; rw [if_pos k1]
      refine x_al0 rfl dX4_header_14 ?_
      refine x_al0 rfl dX4_header_15 ?_
      refine x_iconst (v := nI 1) dX4_header_16 rfl ?_
      refine x_bipush (v := nI 6) dX4_header_17 rfl ?_
      refine x_cv2Ip mX4_number_ok lkX4_102 rfl (Nat.le_of_ble_eq_true rfl) (Nat.le_of_ble_eq_true rfl) dX4_header_19 R.get  (l_num (lo := 1) (hi := 6) (by omega) (by omega) a) (fun r h hq => ?_)
      cases e2 : fNm X 1 6 (tkB X (tkB X 0)) with
      | inl e9 =>
        rw [e2] at hq
        obtain ⟨rfl, r2, A2, Q2, c⟩ := hq
        have R := c.1
        have eS : nS X (fHd X) = .inl e9 := by unfold fHd; rw [if_pos k0, eN, e2]; rfl
        refine x_rp R fdX4_18 (by decide) (by decide) (by first | exact fun _ => ⟨_, rfl⟩ | exact fun z => absurd z (by decide)) zf_i dX4_header_22 (fun h R => ?_)
        exact th25 (d := d + 5) (c.up R (Or.inl rfl)) (fun h r A Q z => ⟨rfl, by rw [eS]; exact ⟨r, A, Q, z⟩⟩)
      | inr n1 =>
        rw [e2] at hq
        obtain ⟨rfl, hq⟩ := hq
        cases y2 : nR X (.inr (n1.1, [])) with
        | inl e9 =>
          rw [y2] at hq
          obtain ⟨kb, rfl⟩ := nR_bt y2
          obtain ⟨r2, A2, Q2, c⟩ := hq
          have R := c.1
          have eS : nS X (fHd X) = .inl (1, tkA X n1.1) := by unfold fHd; rw [if_pos k0, eN, e2]; simp only; rw [show fNd X 2 1 9 n1.1 = .inl (1, tkA X n1.1) by unfold fNd; rw [if_neg (by omega), erK_25 kb]]; rfl
          refine x_rp R fdX4_18 (by decide) (by decide) (by first | exact fun _ => ⟨_, rfl⟩ | exact fun z => absurd z (by decide)) zf_i dX4_header_22 (fun h R => ?_)
          exact th25 (d := d + 5) (c.up R (Or.inl rfl)) (fun h r A Q z => ⟨rfl, by rw [eS]; exact ⟨r, A, Q, z⟩⟩)
        | inr q2 =>
          rw [y2] at hq
          obtain ⟨rfl, kn2⟩ := nR_ot y2
          obtain ⟨r2, A2, Q2, a⟩ := hq
          have R := a.1
          have ff := a.2.2.2.2.2.2.2.1
          refine x_rp R fdX4_18 (by decide) (by decide) (by first | exact fun _ => ⟨_, rfl⟩ | exact fun z => absurd z (by decide)) zf_i dX4_header_22 (fun h R => ?_)
          have a := a.up (D' := (n1.2, o0, id, id, 0, none, none)) (li' := 0) R (Or.inl rfl) ⟨rfl, rfl, rfl⟩ ⟨rfl, ff.2.1, ff.2.2.1, ff.2.2.2⟩
          refine x_al0 rfl dX4_header_25 ?_
          refine x_sipush (v := nI 302) dX4_header_26 (by decide) ?_
          refine x_cv1Vp mX4_expect_ok lkX4_90 rfl (Nat.le_of_ble_eq_true rfl) (Nat.le_of_ble_eq_true rfl) dX4_header_29 R.get  (l_exp (k := 2) (by decide) (by decide) (by decide) a) (fun h hq => ?_)
          cases e3 : nR X (waR X 2 n1.1) with
          | inl e9 =>
            rw [e3] at hq
            obtain ⟨r2, A2, Q2, c⟩ := hq
            have eS : nS X (fHd X) = .inl e9 := by
              unfold fHd
              rw [if_pos k0, eN, e2]
              simp only
              rcases waR_k e3 with ⟨z, rfl⟩ | ⟨z, kb, rfl⟩
              · rw [show fNd X 2 1 9 n1.1 = .inl (erK X n1.1, tkA X n1.1) by unfold fNd; rw [if_neg z]]; rfl
              · rw [show fNd X 2 1 9 n1.1 = .inl (1, tkA X (tkB X n1.1)) by unfold fNd; rw [if_pos z, fNm_25 kb]]; rfl
            exact th32 (d := d + 5) c (fun h r A Q z => ⟨rfl, by rw [eS]; exact ⟨r, A, Q, z⟩⟩)
          | inr q3 =>
            rw [e3] at hq
            obtain ⟨k3, rfl, kn3⟩ := waR_o e3
            obtain ⟨r2, A2, Q2, a⟩ := hq
            have R := a.1
            have eM : fNd X 2 1 9 n1.1 = fNm X 1 9 (tkB X n1.1) := by unfold fNd; rw [if_pos k3]
            refine x_al0 rfl dX4_header_32 ?_
            refine x_al0 rfl dX4_header_33 ?_
            refine x_iconst (v := nI 1) dX4_header_34 rfl ?_
            refine x_bipush (v := nI 9) dX4_header_35 rfl ?_
            refine x_cv2Ip mX4_number_ok lkX4_102 rfl (Nat.le_of_ble_eq_true rfl) (Nat.le_of_ble_eq_true rfl) dX4_header_37 R.get  (l_num (lo := 1) (hi := 9) (by omega) (by omega) a) (fun r h hq => ?_)
            cases e4 : fNm X 1 9 (tkB X n1.1) with
            | inl e9 =>
              rw [e4] at hq
              obtain ⟨rfl, r2, A2, Q2, c⟩ := hq
              have R := c.1
              have eS : nS X (fHd X) = .inl e9 := by unfold fHd; rw [if_pos k0, eN, e2]; simp only; rw [eM, e4]; rfl
              refine x_rp R fdX4_21 (by decide) (by decide) (by first | exact fun _ => ⟨_, rfl⟩ | exact fun z => absurd z (by decide)) zf_i dX4_header_40 (fun h R => ?_)
              exact th43 (d := d + 5) (c.up R (Or.inr (Or.inl rfl))) (fun h r A Q z => ⟨rfl, by rw [eS]; exact ⟨r, A, Q, z⟩⟩)
            | inr n2 =>
              rw [e4] at hq
              obtain ⟨rfl, hq⟩ := hq
              cases y4 : nR X (.inr (n2.1, [])) with
              | inl e9 =>
                rw [y4] at hq
                obtain ⟨kb, rfl⟩ := nR_bt y4
                obtain ⟨r2, A2, Q2, c⟩ := hq
                have R := c.1
                have eS : nS X (fHd X) = .inl (1, tkA X n2.1) := by unfold fHd; rw [if_pos k0, eN, e2]; simp only; rw [eM, e4]; simp only; rw [if_neg (by omega), erK_25 kb]; rfl
                refine x_rp R fdX4_21 (by decide) (by decide) (by first | exact fun _ => ⟨_, rfl⟩ | exact fun z => absurd z (by decide)) zf_i dX4_header_40 (fun h R => ?_)
                exact th43 (d := d + 5) (c.up R (Or.inr (Or.inl rfl))) (fun h r A Q z => ⟨rfl, by rw [eS]; exact ⟨r, A, Q, z⟩⟩)
              | inr q4 =>
                rw [y4] at hq
                obtain ⟨rfl, kn4⟩ := nR_ot y4
                obtain ⟨r2, A2, Q2, a⟩ := hq
                have R := a.1
                have ff := a.2.2.2.2.2.2.2.1
                refine x_rp R fdX4_21 (by decide) (by decide) (by first | exact fun _ => ⟨_, rfl⟩ | exact fun z => absurd z (by decide)) zf_i dX4_header_40 (fun h R => ?_)
                have a := a.up (D' := (n1.2, n2.2, id, id, 0, none, none)) (li' := 0) R (Or.inr (Or.inl rfl)) ⟨rfl, rfl, rfl⟩ ⟨ff.1, rfl, ff.2.2.1, ff.2.2.2⟩
                refine x_al0 rfl dX4_header_43 ?_
                refine x_bipush (v := nI 59) dX4_header_44 rfl ?_
                refine x_cv1Vp mX4_expect_ok lkX4_90 rfl (Nat.le_of_ble_eq_true rfl) (Nat.le_of_ble_eq_true rfl) dX4_header_46 R.get  (l_exp (k := 30) (by decide) (by decide) (by decide) a) (fun h hq => ?_)
                cases e5 : nR X (waR X 30 n2.1) with
                | inl e9 =>
                  rw [e5] at hq
                  obtain ⟨r2, A2, Q2, c⟩ := hq
                  have eS : nS X (fHd X) = .inl e9 := by
                    unfold fHd
                    rw [if_pos k0, eN, e2]
                    simp only
                    rw [eM, e4]
                    simp only
                    rcases waR_k e5 with ⟨z, rfl⟩ | ⟨z, kb, rfl⟩
                    · rw [if_neg z]; rfl
                    · rw [if_pos z]; exact nS_b (q := (tkB X n2.1, _)) kb
                  exact th49 (d := d + 5) c (fun h r A Q z => ⟨rfl, by rw [eS]; exact ⟨r, A, Q, z⟩⟩)
                | inr q5 =>
                  rw [e5] at hq
                  obtain ⟨k5, rfl, kn5⟩ := waR_o e5
                  obtain ⟨r2, A2, Q2, a⟩ := hq
                  have R := a.1
                  have ff := a.2.2.2.2.2.2.2.1
                  have eS : nS X (fHd X) = .inr (tkB X n2.1, n1.2, n2.2, id, id, 0, none, none) := by
                    unfold fHd
                    rw [if_pos k0, eN, e2]
                    simp only
                    rw [eM, e4]
                    simp only
                    rw [if_pos k5]
                    exact nS_r (q := (tkB X n2.1, _)) kn5
                  refine x_al0 rfl dX4_header_49 ?_
                  refine x_iconst (v := nI 1) dX4_header_50 rfl ?_
                  refine x_rp R fdX4_27 (by decide) (by decide) (by first | exact fun _ => ⟨_, rfl⟩ | exact fun z => absurd z (by decide)) zf_i dX4_header_51 (fun h R => ?_)
                  exact x_vret rfl dX4_header_54 ⟨rfl, by rw [eS]; exact ⟨_, A2, Q2, a.up R (Or.inr (Or.inr (Or.inr rfl))) ⟨rfl, rfl, rfl⟩ ⟨ff.1, ff.2.1, ff.2.2.1, rfl⟩⟩⟩
theorem l_whole {n : Nat} {f : Nat → Nat} (hj : j = 3 ∨ j = 4) (n0 : 0 < n) (n6 : n ≤ 6) (R : RW h0 h r A Q) (e2 : r 2 = .int (nI n)) (hf : ∀ i, i < 6 → A j i = nI (f i)) (hl : ∀ i, i < n → f i < n) : Zm g d 0 0 mX4_isWhole [.ref 2, .ref j] h (rI (b2 (whl n f)) h) := by
  have p6 : 2 ^ n < 2 ^ 7 := Nat.pow_lt_pow_right (by decide) (by omega)
  have p0 : 0 < 2 ^ n := Nat.pow_pos (by decide)
  have hA : h[j]? = some (inA 6 (A j)) := by
    rcases hj with rfl | rfl
    · exact R.2.2.1
    · exact R.2.2.2.1
  show Zw g d 0 0 mX4_isWhole 0 [some (.ref 2), some (.ref j), none, none] [] h _
  refine x_iconst (v := nI 0) dX4_isWhole_0 rfl ?_
  refine x_is2 rfl dX4_isWhole_1 ?_
  refine x_iconst (v := nI 0) dX4_isWhole_2 rfl ?_
  refine x_is3 rfl dX4_isWhole_3 ?_
  refine x_for (e := n) (fun i => [some (.ref 2), some (.ref j), some (.int (nI (bts f i))), some (.int (nI i))]) (fun i h' => h' = h) 0 (by omega) rfl (fun h' hI => ?_) (fun i h' hi hI ih => ?_)
  · subst hI
    have bl := bts_lt (f := f) n (fun i hi => by have := hl i hi; omega)
    refine x_il3 dX4_isWhole_4 ?_
    refine x_al0 rfl dX4_isWhole_5 ?_
    refine x_rg R fdX4_18 (by decide) (by first | assumption | rfl) dX4_isWhole_6 ?_
    refine x_icmp_ge (tgt := 32) dX4_isWhole_9 rfl (fun q9 => ?_) (fun q9 => ?_)
    · skip
      first | (simp only [cmp_lt, cmp_gt, cmp_eq, zN_cge, zN_cle, Decidable.not_not] at q9) | (simp (disch := omega) only [zN_le, zN_lt, zN_0, zN_1, nI_toInt, zN_eq, zN_eq0, b2_z, b2_nz, Decidable.not_not, Int.not_lt, Int.not_le, zK0, zK1, zK2, zK3, zK5, zK7, zK8, zK9, zK10, zK19, zK20, zK40, zK99, zK100, zK199] at q9) | skip
      refine x_il2 dX4_isWhole_32 ?_
      refine x_iconst (v := nI 1) dX4_isWhole_33 rfl ?_
      refine x_al0 rfl dX4_isWhole_34 ?_
      refine x_rg R fdX4_18 (by decide) (by first | assumption | rfl) dX4_isWhole_35 ?_
      refine x_ishl (shl1 (by omega)) dX4_isWhole_38 ?_
      refine x_iconst (v := nI 1) dX4_isWhole_39 rfl ?_
      refine x_isub (pk_sub (by omega)) dX4_isWhole_40 ?_
      refine x_icmp_ne (tgt := 48) dX4_isWhole_41 rfl (fun q41 => ?_) (fun q41 => ?_)
      · skip
        first | (simp only [cmp_lt, cmp_gt, cmp_eq, zN_cge, zN_cle, Decidable.not_not] at q41) | (simp (disch := omega) only [zN_le, zN_lt, zN_0, zN_1, nI_toInt, zN_eq, zN_eq0, b2_z, b2_nz, Decidable.not_not, Int.not_lt, Int.not_le, zK0, zK1, zK2, zK3, zK5, zK7, zK8, zK9, zK10, zK19, zK20, zK40, zK99, zK100, zK199] at q41) | skip
        refine x_iconst (v := nI 0) dX4_isWhole_48 rfl ?_
        exact x_iret rfl  rfl dX4_isWhole_49 ⟨by rw [b2z q41], rfl⟩
      · skip
        first | (simp only [cmp_lt, cmp_gt, cmp_eq, zN_cge, zN_cle, Decidable.not_not] at q41) | (simp (disch := omega) only [zN_le, zN_lt, zN_0, zN_1, nI_toInt, zN_eq, zN_eq0, b2_z, b2_nz, Decidable.not_not, Int.not_lt, Int.not_le, zK0, zK1, zK2, zK3, zK5, zK7, zK8, zK9, zK10, zK19, zK20, zK40, zK99, zK100, zK199] at q41) | skip
        refine x_iconst (v := nI 1) dX4_isWhole_44 rfl ?_
        refine x_goto (tgt := 49) dX4_isWhole_45 rfl ?_
        exact x_iret rfl  rfl dX4_isWhole_49 ⟨by rw [b2o q41], rfl⟩
    · skip
      first | (simp only [cmp_lt, cmp_gt, cmp_eq, zN_cge, zN_cle, Decidable.not_not] at q9) | (simp (disch := omega) only [zN_le, zN_lt, zN_0, zN_1, nI_toInt, zN_eq, zN_eq0, b2_z, b2_nz, Decidable.not_not, Int.not_lt, Int.not_le, zK0, zK1, zK2, zK3, zK5, zK7, zK8, zK9, zK10, zK19, zK20, zK40, zK99, zK100, zK199] at q9) | skip
      omega
  · subst hI
    have := hl i hi
    refine x_il3 dX4_isWhole_4 ?_
    refine x_al0 rfl dX4_isWhole_5 ?_
    refine x_rg R fdX4_18 (by decide) (by first | assumption | rfl) dX4_isWhole_6 ?_
    refine x_icmp_ge (tgt := 32) dX4_isWhole_9 rfl (fun q9 => ?_) (fun q9 => ?_)
    · skip
      first | (simp only [cmp_lt, cmp_gt, cmp_eq, zN_cge, zN_cle, Decidable.not_not] at q9) | (simp (disch := omega) only [zN_le, zN_lt, zN_0, zN_1, nI_toInt, zN_eq, zN_eq0, b2_z, b2_nz, Decidable.not_not, Int.not_lt, Int.not_le, zK0, zK1, zK2, zK3, zK5, zK7, zK8, zK9, zK10, zK19, zK20, zK40, zK99, zK100, zK199] at q9) | skip
      omega
    · skip
      first | (simp only [cmp_lt, cmp_gt, cmp_eq, zN_cge, zN_cle, Decidable.not_not] at q9) | (simp (disch := omega) only [zN_le, zN_lt, zN_0, zN_1, nI_toInt, zN_eq, zN_eq0, b2_z, b2_nz, Decidable.not_not, Int.not_lt, Int.not_le, zK0, zK1, zK2, zK3, zK5, zK7, zK8, zK9, zK10, zK19, zK20, zK40, zK99, zK100, zK199] at q9) | skip
      refine x_il3 dX4_isWhole_12 ?_
      refine x_al1 rfl dX4_isWhole_13 ?_
      refine x_alen rfl hA rfl dX4_isWhole_14 ?_
      rw [show Int32.ofNat 6 = nI 6 from rfl]
      refine x_icmp_ge (tgt := 32) dX4_isWhole_15 rfl (fun q15 => ?_) (fun q15 => ?_)
      · skip
        first | (simp only [cmp_lt, cmp_gt, cmp_eq, zN_cge, zN_cle, Decidable.not_not] at q15) | (simp (disch := omega) only [zN_le, zN_lt, zN_0, zN_1, nI_toInt, zN_eq, zN_eq0, b2_z, b2_nz, Decidable.not_not, Int.not_lt, Int.not_le, zK0, zK1, zK2, zK3, zK5, zK7, zK8, zK9, zK10, zK19, zK20, zK40, zK99, zK100, zK199] at q15) | skip
        omega
      · skip
        first | (simp only [cmp_lt, cmp_gt, cmp_eq, zN_cge, zN_cle, Decidable.not_not] at q15) | (simp (disch := omega) only [zN_le, zN_lt, zN_0, zN_1, nI_toInt, zN_eq, zN_eq0, b2_z, b2_nz, Decidable.not_not, Int.not_lt, Int.not_le, zK0, zK1, zK2, zK3, zK5, zK7, zK8, zK9, zK10, zK19, zK20, zK40, zK99, zK100, zK199] at q15) | skip
        refine x_il2 dX4_isWhole_18 ?_
        refine x_iconst (v := nI 1) dX4_isWhole_19 rfl ?_
        refine x_al1 rfl dX4_isWhole_20 ?_
        refine x_il3 dX4_isWhole_21 ?_
        refine x_iald hA (vp_in_nI (by omega) (by decide)) (ald (hf i (by omega)) (by omega)) dX4_isWhole_22 ?_
        refine x_ishl (shl1 (by omega)) dX4_isWhole_23 ?_
        refine x_ior (or_n _ _) dX4_isWhole_24 ?_
        refine x_is2 rfl dX4_isWhole_25 ?_
        first | refine x_ii3 rfl (nI_1 _) dX4_isWhole_26 ?_ | refine x_ii3 rfl rfl dX4_isWhole_26 ?_
        refine x_goto (tgt := 4) dX4_isWhole_29 rfl ?_
        exact ih _ rfl
theorem LE.whole (hj : j = 3 ∨ j = 4) (a : LE X h0 h r A Q e) : Zm g d 0 0 mX4_isWhole [.ref 2, .ref j] h (rIp (fun x h' => h' = h)) := by
  have R := a.1
  obtain ⟨v, e2⟩ := a.d2
  have hA : h[j]? = some (inA 6 (A j)) := by
    rcases hj with rfl | rfl
    · exact R.2.2.1
    · exact R.2.2.2.1
  show Zw g d 0 0 mX4_isWhole 0 [some (.ref 2), some (.ref j), none, none] [] h _
  refine x_iconst (v := nI 0) dX4_isWhole_0 rfl ?_
  refine x_is2 rfl dX4_isWhole_1 ?_
  refine x_iconst (v := nI 0) dX4_isWhole_2 rfl ?_
  refine x_is3 rfl dX4_isWhole_3 ?_
  refine x_wh (fun (q : Nat × Int32) => [some (.ref 2), some (.ref j), some (.int q.2), some (.int (nI q.1))]) (fun q h' => h' = h ∧ q.1 ≤ 6) (fun q => 6 - q.1) (0, nI 0) ⟨rfl, by decide⟩ (fun q h' hI ih => ?_)
  obtain ⟨hh, hq6⟩ := hI
  subst hh
  have fin : Zw g d 0 0 mX4_isWhole 32 [some (.ref 2), some (.ref j), some (.int q.2), some (.int (nI q.1))] [] h' (rIp (fun x h => h = h')) := by
    refine x_il2 dX4_isWhole_32 ?_
    refine x_iconst (v := nI 1) dX4_isWhole_33 rfl ?_
    refine x_al0 rfl dX4_isWhole_34 ?_
    refine x_rg R fdX4_18 (by decide) (by first | assumption | rfl) dX4_isWhole_35 ?_
    refine x_ishl (rfl) dX4_isWhole_38 ?_
    refine x_iconst (v := nI 1) dX4_isWhole_39 rfl ?_
    refine x_isub (rfl) dX4_isWhole_40 ?_
    refine x_icmp_ne (tgt := 48) dX4_isWhole_41 rfl (fun q41 => ?_) (fun q41 => ?_)
    · skip
      refine x_iconst (v := nI 0) dX4_isWhole_48 rfl ?_
      exact x_iret rfl  rfl dX4_isWhole_49 ⟨_, rfl, rfl⟩
    · skip
      refine x_iconst (v := nI 1) dX4_isWhole_44 rfl ?_
      refine x_goto (tgt := 49) dX4_isWhole_45 rfl ?_
      exact x_iret rfl  rfl dX4_isWhole_49 ⟨_, rfl, rfl⟩
  refine x_il3 dX4_isWhole_4 ?_
  refine x_al0 rfl dX4_isWhole_5 ?_
  refine x_rg R fdX4_18 (by decide) (by first | assumption | rfl) dX4_isWhole_6 ?_
  refine x_icmp_ge (tgt := 32) dX4_isWhole_9 rfl (fun q9 => ?_) (fun q9 => ?_)
  · skip
    exact fin
  · skip
    refine x_il3 dX4_isWhole_12 ?_
    refine x_al1 rfl dX4_isWhole_13 ?_
    refine x_alen rfl hA rfl dX4_isWhole_14 ?_
    rw [show Int32.ofNat 6 = nI 6 from rfl]
    refine x_icmp_ge (tgt := 32) dX4_isWhole_15 rfl (fun q15 => ?_) (fun q15 => ?_)
    · skip
      first | (simp only [cmp_lt, cmp_gt, cmp_eq, zN_cge, zN_cle, Decidable.not_not] at q15) | (simp (disch := omega) only [zN_le, zN_lt, zN_0, zN_1, nI_toInt, zN_eq, zN_eq0, b2_z, b2_nz, Decidable.not_not, Int.not_lt, Int.not_le, zK0, zK1, zK2, zK3, zK5, zK7, zK8, zK9, zK10, zK19, zK20, zK40, zK99, zK100, zK199] at q15) | skip
      exact fin
    · skip
      first | (simp only [cmp_lt, cmp_gt, cmp_eq, zN_cge, zN_cle, Decidable.not_not] at q15) | (simp (disch := omega) only [zN_le, zN_lt, zN_0, zN_1, nI_toInt, zN_eq, zN_eq0, b2_z, b2_nz, Decidable.not_not, Int.not_lt, Int.not_le, zK0, zK1, zK2, zK3, zK5, zK7, zK8, zK9, zK10, zK19, zK20, zK40, zK99, zK100, zK199] at q15) | skip
      refine x_il2 dX4_isWhole_18 ?_
      refine x_iconst (v := nI 1) dX4_isWhole_19 rfl ?_
      refine x_al1 rfl dX4_isWhole_20 ?_
      refine x_il3 dX4_isWhole_21 ?_
      refine x_iald hA (vp_in_nI (by omega) (by decide)) rfl dX4_isWhole_22 ?_
      refine x_ishl (rfl) dX4_isWhole_23 ?_
      refine x_ior (rfl) dX4_isWhole_24 ?_
      refine x_is2 rfl dX4_isWhole_25 ?_
      first | refine x_ii3 rfl (nI_1 _) dX4_isWhole_26 ?_ | refine x_ii3 rfl rfl dX4_isWhole_26 ?_
      refine x_goto (tgt := 4) dX4_isWhole_29 rfl ?_
      exact ih (q.1 + 1, _) _ (by simp only; omega) ⟨rfl, by simp only; omega⟩
end ZCr

