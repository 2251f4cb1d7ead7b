/-! the model reads sums and truths -/
def CtM (g : zG) (D : Nat) (X : zX) (h0 : zH) (L : Nat → Nat → Int64) (mz : zMe) (dp : Nat) (f : Nat → zR) : Prop := ∀ (h : zH) (s : Nat → Value) (M : Nat → Nat → Int32) (p base : Nat), MW h0 h s M L → PO X s M p base → Zm g D 0 0 mz [.ref 59, .int (nI dp)] h (rVp (fun h' => PR X h0 h' s M L base (f p)))
def CtE (g : zG) (D : Nat) (h0 : zH) (L : Nat → Nat → Int64) (mz : zMe) (dp : Nat) : Prop := ∀ (h : zH) (s : Nat → Value) (M : Nat → Nat → Int32) (e : Nat × Nat), MW h0 h s M L → PE s e → Zm g D 0 0 mz [.ref 59, .int (nI dp)] h (rV h)
section ZLo
variable {g : zG} {d : Nat} {h0 h h' : zH} {s s' s2 : Nat → Value} {M M' M2 : Nat → Nat → Int32} {L : Nat → Nat → Int64} {X : zX} {p p' base dp : Nat} {cs : List Nat} {r : zR} {e : Nat × Nat} {f u : Nat → zR} {op : Nat → Nat}
theorem CtM.deep {D D' : Nat} {mz : zMe} (c : CtM g D X h0 L mz dp f) (hd : D ≤ D') : CtM g D' X h0 L mz dp f := fun h s M p base W O => (c h s M p base W O).deep hd
theorem CtE.deep {D D' : Nat} {mz : zMe} (c : CtE g D h0 L mz dp) (hd : D ≤ D') : CtE g D' h0 L mz dp := fun h s M e W E => (c h s M e W E).deep hd
theorem lpR_0 {k : Nat} (h : op (tkK X p) = 0) : lpR X op f k p = .inr (p, []) := by
  cases k with
  | zero => rfl
  | succ k => rw [lpR, if_pos h]
theorem lpR_e {k : Nat} (h : ¬ op (tkK X p) = 0) (hf : f (tkB X p) = .inl e) : lpR X op f (k + 1) p = .inl e := by
  rw [lpR, if_neg h, hf]
  rfl
theorem lpR_o {k : Nat} {q : Nat × List Nat} (h : ¬ op (tkK X p) = 0) (hf : f (tkB X p) = .inr q) : lpR X op f (k + 1) p = apR (q.2 ++ [op (tkK X p)]) (lpR X op f k q.1) := by
  rw [lpR_a h, hf, show sqR (.inr q) (emR (op (tkK X p))) = .inr (q.1, q.2 ++ [op (tkK X p)]) from rfl, sqR_ap]
theorem apR_n {c : List Nat} : apR c (.inr (p, [])) = .inr (p, c) := by
  simp [apR]
theorem Gl.o {q : Nat × List Nat} (hr : Gl X p (f p')) (h : f p' = .inr q) : q.1 ≤ X.2 ∧ q.2.length + tkA X p ≤ tkA X q.1 := by
  rw [h] at hr
  exact hr

theorem e_readTerm (C : CtE g (d + 1) h0 L mX12_readAtom dp) : CtE g (d + 2) h0 L mX12_readTerm dp := by
  intro h s M e W E
  show Zw g (d + 2) 0 0 mX12_readTerm 0 [some (.ref 59), some (.int (nI dp))] [] h _
  refine x_al0 rfl dX12_readTerm_0 ?_
  refine x_il1 dX12_readTerm_1 ?_
  refine x_cv1V mX12_readAtom_ok lkX12_182 rfl (Nat.le_of_ble_eq_true rfl) (Nat.le_of_ble_eq_true rfl) dX12_readTerm_2 W.hM  (C _ _ _ _ W E) ?_
  refine x_al0 rfl dX12_readTerm_5 ?_
  refine x_bipush (v := nI 34) dX12_readTerm_6 rfl ?_
  refine x_cv1I mX12_eats_ok lkX12_173 rfl (Nat.le_of_ble_eq_true rfl) (Nat.le_of_ble_eq_true rfl) dX12_readTerm_8 W.hM  (e_eats W E (by decide)) ?_
  refine x_if_eq (tgt := 29) dX12_readTerm_11 rfl (fun q11 => ?_) (fun q11 => ?_)
  · skip
    first | (simp only [cmp_lt, cmp_gt, cmp_eq, zN_cge, zN_cle, Decidable.not_not] at q11) | (simp (disch := omega) only [zN_le, zN_lt, zN_0, zN_1, nI_toInt, zN_eq, zN_eq0, b2_z, b2_nz, Decidable.not_not, Int.not_lt, Int.not_le, zK0, zK1, zK2, zK3, zK5, zK7, zK8, zK9, zK10, zK19, zK20, zK40, zK99, zK100, zK199] at q11) | skip
    exact x_vret rfl dX12_readTerm_29 ⟨rfl, rfl⟩
  · skip
    first | (simp only [cmp_lt, cmp_gt, cmp_eq, zN_cge, zN_cle, Decidable.not_not] at q11) | (simp (disch := omega) only [zN_le, zN_lt, zN_0, zN_1, nI_toInt, zN_eq, zN_eq0, b2_z, b2_nz, Decidable.not_not, Int.not_lt, Int.not_le, zK0, zK1, zK2, zK3, zK5, zK7, zK8, zK9, zK10, zK19, zK20, zK40, zK99, zK100, zK199] at q11) | skip
    exact absurd trivial q11
theorem o_readTerm (hf : ∀ p, p ≤ X.2 → Gl X p (f p)) (C : CtM g (d + 6) X h0 L mX12_readAtom dp f) : CtM g (d + 7) X h0 L mX12_readTerm dp (fTm X f) := by
  intro h s M p base W O
  have X9 := O.1.2.1
  show Zw g (d + 7) 0 0 mX12_readTerm 0 [some (.ref 59), some (.int (nI dp))] [] h _
  refine x_al0 rfl dX12_readTerm_0 ?_
  refine x_il1 dX12_readTerm_1 ?_
  refine x_cv1Vp mX12_readAtom_ok lkX12_182 rfl (Nat.le_of_ble_eq_true rfl) (Nat.le_of_ble_eq_true rfl) dX12_readTerm_2 W.hM  (C _ _ _ _ _ W O) (fun h hq => ?_)
  cases e : f p with
  | inl e1 =>
    rw [e] at hq
    obtain ⟨s1, M1, W, U, E⟩ := hq
    have eF : fTm X f p = .inl e1 := by
      unfold fTm
      rw [e]
      rfl
    refine x_al0 rfl dX12_readTerm_5 ?_
    refine x_bipush (v := nI 34) dX12_readTerm_6 rfl ?_
    refine x_cv1I mX12_eats_ok lkX12_173 rfl (Nat.le_of_ble_eq_true rfl) (Nat.le_of_ble_eq_true rfl) dX12_readTerm_8 W.hM  (e_eats W E (by decide)) ?_
    refine x_if_eq (tgt := 29) dX12_readTerm_11 rfl (fun q11 => ?_) (fun q11 => ?_)
    · skip
      first | (simp only [cmp_lt, cmp_gt, cmp_eq, zN_cge, zN_cle, Decidable.not_not] at q11) | (simp (disch := omega) only [zN_le, zN_lt, zN_0, zN_1, nI_toInt, zN_eq, zN_eq0, b2_z, b2_nz, Decidable.not_not, Int.not_lt, Int.not_le, zK0, zK1, zK2, zK3, zK5, zK7, zK8, zK9, zK10, zK19, zK20, zK40, zK99, zK100, zK199] at q11) | skip
      exact x_vret rfl dX12_readTerm_29 ⟨rfl, by rw [eF]; exact ⟨s1, M1, W, U, E⟩⟩
    · skip
      first | (simp only [cmp_lt, cmp_gt, cmp_eq, zN_cge, zN_cle, Decidable.not_not] at q11) | (simp (disch := omega) only [zN_le, zN_lt, zN_0, zN_1, nI_toInt, zN_eq, zN_eq0, b2_z, b2_nz, Decidable.not_not, Int.not_lt, Int.not_le, zK0, zK1, zK2, zK3, zK5, zK7, zK8, zK9, zK10, zK19, zK20, zK40, zK99, zK100, zK199] at q11) | skip
      exact absurd trivial q11
  | inr q =>
    rw [e] at hq
    obtain ⟨s1, M1, A1⟩ := hq
    refine x_wh (fun (fu : Nat) => [some (.ref 59), some (.int (nI dp))]) (fun fu h => ∃ p1 c1 s1 M1, PA X h0 h s M L base p1 c1 s1 M1 ∧ fTm X f p = apR c1 (lpR X opT f fu p1) ∧ X.2 < fu + tkA X p1) (fun fu => fu) 901 ⟨q.1, q.2, s1, M1, A1, by unfold fTm; rw [e]; exact sqR_ap, by omega⟩ (fun fu h hI ih => ?_)
    obtain ⟨p1, c1, s1, M1, A, hE, hfu⟩ := hI
    have W := A.1
    have O := A.2.2.1
    have hp1 := O.2.1.1
    refine x_al0 rfl dX12_readTerm_5 ?_
    refine x_bipush (v := nI 34) dX12_readTerm_6 rfl ?_
    refine x_cv1Ip mX12_eats_ok lkX12_173 rfl (Nat.le_of_ble_eq_true rfl) (Nat.le_of_ble_eq_true rfl) dX12_readTerm_8 W.hM  (o_eats W O (by decide)) (fun r h hq => ?_)
    rcases hq with ⟨z, rfl, s2, W2, U2, K2⟩ | ⟨z, rfl, rfl⟩
    · have b := tkA_B hp1 (by omega)
      have ha := tkA_le hp1
      have op1 : opT (tkK X p1) = 3002 := by rw [z]; rfl
      obtain ⟨k, rfl⟩ : ∃ k, fu = k + 1 := ⟨fu - 1, by omega⟩
      have A2 := A.nx W2 U2 K2 (by omega)
      refine x_if_eq (tgt := 29) dX12_readTerm_11 rfl (fun q11 => ?_) (fun q11 => ?_)
      · skip
        first | (simp only [cmp_lt, cmp_gt, cmp_eq, zN_cge, zN_cle, Decidable.not_not] at q11) | (simp (disch := omega) only [zN_le, zN_lt, zN_0, zN_1, nI_toInt, zN_eq, zN_eq0, b2_z, b2_nz, Decidable.not_not, Int.not_lt, Int.not_le, zK0, zK1, zK2, zK3, zK5, zK7, zK8, zK9, zK10, zK19, zK20, zK40, zK99, zK100, zK199] at q11) | skip
        exact absurd q11 (by decide)
      · skip
        first | (simp only [cmp_lt, cmp_gt, cmp_eq, zN_cge, zN_cle, Decidable.not_not] at q11) | (simp (disch := omega) only [zN_le, zN_lt, zN_0, zN_1, nI_toInt, zN_eq, zN_eq0, b2_z, b2_nz, Decidable.not_not, Int.not_lt, Int.not_le, zK0, zK1, zK2, zK3, zK5, zK7, zK8, zK9, zK10, zK19, zK20, zK40, zK99, zK100, zK199] at q11) | skip
        refine x_al0 rfl dX12_readTerm_14 ?_
        refine x_il1 dX12_readTerm_15 ?_
        refine x_cv1Vp mX12_readAtom_ok lkX12_182 rfl (Nat.le_of_ble_eq_true rfl) (Nat.le_of_ble_eq_true rfl) dX12_readTerm_16 W2.hM  (C _ _ _ _ _ W2 A2.2.2.1) (fun h hq => ?_)
        have R := A2.tn hq
        cases e2 : f (tkB X p1) with
        | inl e1 =>
          rw [e2] at R
          obtain ⟨s3, M3, W, U, E⟩ := R
          refine x_al0 rfl dX12_readTerm_19 ?_
          refine x_sipush (v := nI 3002) dX12_readTerm_20 (by decide) ?_
          refine x_cv1V mX12_codes_ok lkX12_161 rfl (Nat.le_of_ble_eq_true rfl) (Nat.le_of_ble_eq_true rfl) dX12_readTerm_23 W.hM  (e_codes W E) ?_
          refine x_goto (tgt := 5) dX12_readTerm_26 rfl ?_
          refine x_al0 rfl dX12_readTerm_5 ?_
          refine x_bipush (v := nI 34) dX12_readTerm_6 rfl ?_
          refine x_cv1I mX12_eats_ok lkX12_173 rfl (Nat.le_of_ble_eq_true rfl) (Nat.le_of_ble_eq_true rfl) dX12_readTerm_8 W.hM  (e_eats W E (by decide)) ?_
          refine x_if_eq (tgt := 29) dX12_readTerm_11 rfl (fun q11 => ?_) (fun q11 => ?_)
          · skip
            first | (simp only [cmp_lt, cmp_gt, cmp_eq, zN_cge, zN_cle, Decidable.not_not] at q11) | (simp (disch := omega) only [zN_le, zN_lt, zN_0, zN_1, nI_toInt, zN_eq, zN_eq0, b2_z, b2_nz, Decidable.not_not, Int.not_lt, Int.not_le, zK0, zK1, zK2, zK3, zK5, zK7, zK8, zK9, zK10, zK19, zK20, zK40, zK99, zK100, zK199] at q11) | skip
            exact x_vret rfl dX12_readTerm_29 ⟨rfl, by rw [hE, lpR_e (by rw [op1]; decide) e2]; exact ⟨s3, M3, W, U, E⟩⟩
          · skip
            first | (simp only [cmp_lt, cmp_gt, cmp_eq, zN_cge, zN_cle, Decidable.not_not] at q11) | (simp (disch := omega) only [zN_le, zN_lt, zN_0, zN_1, nI_toInt, zN_eq, zN_eq0, b2_z, b2_nz, Decidable.not_not, Int.not_lt, Int.not_le, zK0, zK1, zK2, zK3, zK5, zK7, zK8, zK9, zK10, zK19, zK20, zK40, zK99, zK100, zK199] at q11) | skip
            exact absurd trivial q11
        | inr q2 =>
          rw [e2] at R
          obtain ⟨s3, M3, A3⟩ := R
          change PA _ _ _ _ _ _ _ q2.1 (c1 ++ q2.2) _ _ at A3
          have W := A3.1
          have l2 := (hf _ b.2).o e2
          have l1 := A.2.2.1.2.2.2.2
          refine x_al0 rfl dX12_readTerm_19 ?_
          refine x_sipush (v := nI 3002) dX12_readTerm_20 (by decide) ?_
          refine x_cv1Vp mX12_codes_ok lkX12_161 rfl (Nat.le_of_ble_eq_true rfl) (Nat.le_of_ble_eq_true rfl) dX12_readTerm_23 W.hM  (o_codes A3 (by rw [List.length_append]; omega)) (fun h hq => ?_)
          refine x_goto (tgt := 5) dX12_readTerm_26 rfl ?_
          obtain ⟨M4, A4⟩ := hq
          refine ih k _ (by omega) ⟨q2.1, _, s3, M4, A4, ?_, by omega⟩
          rw [hE, lpR_o (by rw [op1]; decide) e2, apR_ap, op1, List.append_assoc]
    · have op0 : opT (tkK X p1) = 0 := if_neg z
      refine x_if_eq (tgt := 29) dX12_readTerm_11 rfl (fun q11 => ?_) (fun q11 => ?_)
      · skip
        first | (simp only [cmp_lt, cmp_gt, cmp_eq, zN_cge, zN_cle, Decidable.not_not] at q11) | (simp (disch := omega) only [zN_le, zN_lt, zN_0, zN_1, nI_toInt, zN_eq, zN_eq0, b2_z, b2_nz, Decidable.not_not, Int.not_lt, Int.not_le, zK0, zK1, zK2, zK3, zK5, zK7, zK8, zK9, zK10, zK19, zK20, zK40, zK99, zK100, zK199] at q11) | skip
        exact x_vret rfl dX12_readTerm_29 ⟨rfl, by rw [hE, lpR_0 op0, apR_n]; exact ⟨s1, M1, A⟩⟩
      · skip
        first | (simp only [cmp_lt, cmp_gt, cmp_eq, zN_cge, zN_cle, Decidable.not_not] at q11) | (simp (disch := omega) only [zN_le, zN_lt, zN_0, zN_1, nI_toInt, zN_eq, zN_eq0, b2_z, b2_nz, Decidable.not_not, Int.not_lt, Int.not_le, zK0, zK1, zK2, zK3, zK5, zK7, zK8, zK9, zK10, zK19, zK20, zK40, zK99, zK100, zK199] at q11) | skip
        exact absurd trivial q11

theorem e_readSum (C : CtE g (d + 1) h0 L mX12_readTerm dp) : CtE g (d + 2) h0 L mX12_readSum dp := by
  intro h s M e W E
  show Zw g (d + 2) 0 0 mX12_readSum 0 [some (.ref 59), some (.int (nI dp)), none] [] h _
  refine x_al0 rfl dX12_readSum_0 ?_
  refine x_il1 dX12_readSum_1 ?_
  refine x_cv1V mX12_readTerm_ok lkX12_185 rfl (Nat.le_of_ble_eq_true rfl) (Nat.le_of_ble_eq_true rfl) dX12_readSum_2 W.hM  (C _ _ _ _ W E) ?_
  refine x_al0 rfl dX12_readSum_5 ?_
  refine x_bipush (v := nI 32) dX12_readSum_6 rfl ?_
  refine x_cv1I mX12_is_ok lkX12_147 rfl (Nat.le_of_ble_eq_true rfl) (Nat.le_of_ble_eq_true rfl) dX12_readSum_8 W.hM  (e_is W E (by decide)) ?_
  refine x_if_ne (tgt := 23) dX12_readSum_11 rfl (fun q11 => ?_) (fun q11 => ?_)
  · skip
    first | (simp only [cmp_lt, cmp_gt, cmp_eq, zN_cge, zN_cle, Decidable.not_not] at q11) | (simp (disch := omega) only [zN_le, zN_lt, zN_0, zN_1, nI_toInt, zN_eq, zN_eq0, b2_z, b2_nz, Decidable.not_not, Int.not_lt, Int.not_le, zK0, zK1, zK2, zK3, zK5, zK7, zK8, zK9, zK10, zK19, zK20, zK40, zK99, zK100, zK199] at q11) | skip
    exact absurd trivial q11
  · skip
    first | (simp only [cmp_lt, cmp_gt, cmp_eq, zN_cge, zN_cle, Decidable.not_not] at q11) | (simp (disch := omega) only [zN_le, zN_lt, zN_0, zN_1, nI_toInt, zN_eq, zN_eq0, b2_z, b2_nz, Decidable.not_not, Int.not_lt, Int.not_le, zK0, zK1, zK2, zK3, zK5, zK7, zK8, zK9, zK10, zK19, zK20, zK40, zK99, zK100, zK199] at q11) | skip
    refine x_al0 rfl dX12_readSum_14 ?_
    refine x_bipush (v := nI 33) dX12_readSum_15 rfl ?_
    refine x_cv1I mX12_is_ok lkX12_147 rfl (Nat.le_of_ble_eq_true rfl) (Nat.le_of_ble_eq_true rfl) dX12_readSum_17 W.hM  (e_is W E (by decide)) ?_
    refine x_if_eq (tgt := 59) dX12_readSum_20 rfl (fun q20 => ?_) (fun q20 => ?_)
    · skip
      first | (simp only [cmp_lt, cmp_gt, cmp_eq, zN_cge, zN_cle, Decidable.not_not] at q20) | (simp (disch := omega) only [zN_le, zN_lt, zN_0, zN_1, nI_toInt, zN_eq, zN_eq0, b2_z, b2_nz, Decidable.not_not, Int.not_lt, Int.not_le, zK0, zK1, zK2, zK3, zK5, zK7, zK8, zK9, zK10, zK19, zK20, zK40, zK99, zK100, zK199] at q20) | skip
      exact x_vret rfl dX12_readSum_59 ⟨rfl, rfl⟩
    · skip
      first | (simp only [cmp_lt, cmp_gt, cmp_eq, zN_cge, zN_cle, Decidable.not_not] at q20) | (simp (disch := omega) only [zN_le, zN_lt, zN_0, zN_1, nI_toInt, zN_eq, zN_eq0, b2_z, b2_nz, Decidable.not_not, Int.not_lt, Int.not_le, zK0, zK1, zK2, zK3, zK5, zK7, zK8, zK9, zK10, zK19, zK20, zK40, zK99, zK100, zK199] at q20) | skip
      exact absurd trivial q20
theorem o_readSum (hf : ∀ p, p ≤ X.2 → Gl X p (f p)) (C : CtM g (d + 6) X h0 L mX12_readTerm dp (fTm X f)) : CtM g (d + 7) X h0 L mX12_readSum dp (fSm X f) := by
  intro h s M p base W O
  have X9 := O.1.2.1
  show Zw g (d + 7) 0 0 mX12_readSum 0 [some (.ref 59), some (.int (nI dp)), none] [] h _
  refine x_al0 rfl dX12_readSum_0 ?_
  refine x_il1 dX12_readSum_1 ?_
  refine x_cv1Vp mX12_readTerm_ok lkX12_185 rfl (Nat.le_of_ble_eq_true rfl) (Nat.le_of_ble_eq_true rfl) dX12_readSum_2 W.hM  (C _ _ _ _ _ W O) (fun h hq => ?_)
  cases e : fTm X f p with
  | inl e1 =>
    rw [e] at hq
    obtain ⟨s1, M1, W, U, E⟩ := hq
    have eF : fSm X f p = .inl e1 := by
      unfold fSm
      rw [e]
      rfl
    refine x_al0 rfl dX12_readSum_5 ?_
    refine x_bipush (v := nI 32) dX12_readSum_6 rfl ?_
    refine x_cv1I mX12_is_ok lkX12_147 rfl (Nat.le_of_ble_eq_true rfl) (Nat.le_of_ble_eq_true rfl) dX12_readSum_8 W.hM  (e_is W E (by decide)) ?_
    refine x_if_ne (tgt := 23) dX12_readSum_11 rfl (fun q11 => ?_) (fun q11 => ?_)
    · skip
      first | (simp only [cmp_lt, cmp_gt, cmp_eq, zN_cge, zN_cle, Decidable.not_not] at q11) | (simp (disch := omega) only [zN_le, zN_lt, zN_0, zN_1, nI_toInt, zN_eq, zN_eq0, b2_z, b2_nz, Decidable.not_not, Int.not_lt, Int.not_le, zK0, zK1, zK2, zK3, zK5, zK7, zK8, zK9, zK10, zK19, zK20, zK40, zK99, zK100, zK199] at q11) | skip
      exact absurd trivial q11
    · skip
      first | (simp only [cmp_lt, cmp_gt, cmp_eq, zN_cge, zN_cle, Decidable.not_not] at q11) | (simp (disch := omega) only [zN_le, zN_lt, zN_0, zN_1, nI_toInt, zN_eq, zN_eq0, b2_z, b2_nz, Decidable.not_not, Int.not_lt, Int.not_le, zK0, zK1, zK2, zK3, zK5, zK7, zK8, zK9, zK10, zK19, zK20, zK40, zK99, zK100, zK199] at q11) | skip
      refine x_al0 rfl dX12_readSum_14 ?_
      refine x_bipush (v := nI 33) dX12_readSum_15 rfl ?_
      refine x_cv1I mX12_is_ok lkX12_147 rfl (Nat.le_of_ble_eq_true rfl) (Nat.le_of_ble_eq_true rfl) dX12_readSum_17 W.hM  (e_is W E (by decide)) ?_
      refine x_if_eq (tgt := 59) dX12_readSum_20 rfl (fun q20 => ?_) (fun q20 => ?_)
      · skip
        first | (simp only [cmp_lt, cmp_gt, cmp_eq, zN_cge, zN_cle, Decidable.not_not] at q20) | (simp (disch := omega) only [zN_le, zN_lt, zN_0, zN_1, nI_toInt, zN_eq, zN_eq0, b2_z, b2_nz, Decidable.not_not, Int.not_lt, Int.not_le, zK0, zK1, zK2, zK3, zK5, zK7, zK8, zK9, zK10, zK19, zK20, zK40, zK99, zK100, zK199] at q20) | skip
        exact x_vret rfl dX12_readSum_59 ⟨rfl, by rw [eF]; exact ⟨s1, M1, W, U, E⟩⟩
      · skip
        first | (simp only [cmp_lt, cmp_gt, cmp_eq, zN_cge, zN_cle, Decidable.not_not] at q20) | (simp (disch := omega) only [zN_le, zN_lt, zN_0, zN_1, nI_toInt, zN_eq, zN_eq0, b2_z, b2_nz, Decidable.not_not, Int.not_lt, Int.not_le, zK0, zK1, zK2, zK3, zK5, zK7, zK8, zK9, zK10, zK19, zK20, zK40, zK99, zK100, zK199] at q20) | skip
        exact absurd trivial q20
  | inr q =>
    rw [e] at hq
    obtain ⟨s1, M1, A1⟩ := hq
    refine x_wh (fun (fu : Nat) => [some (.ref 59), some (.int (nI dp)), none]) (fun fu h => ∃ p1 c1 s1 M1, PA X h0 h s M L base p1 c1 s1 M1 ∧ fSm X f p = apR c1 (lpR X opS (fTm X f) fu p1) ∧ X.2 < fu + tkA X p1) (fun fu => fu) 901 ⟨q.1, q.2, s1, M1, A1, by unfold fSm; rw [e]; exact sqR_ap, by omega⟩ (fun fu h hI ih => ?_)
    obtain ⟨p1, c1, s1, M1, A, hE, hfu⟩ := hI
    have W := A.1
    have O := A.2.2.1
    have hp1 := O.2.1.1
    have hK := O.2.1.kr
    have e9 := O.2.1.2.2.2.1
    have step : ∀ c : Nat, (c = 3000 ∨ c = 3001) → opS (tkK X p1) = c → Zw g (d + 7) 0 0 mX12_readSum 41 [some (.ref 59), some (.int (nI dp)), none] [.int (nI c)] h (rVp (fun h' => PR X h0 h' s M L base (fSm X f p))) := by
      intro c hc op1
      have n0 : ¬ opS (tkK X p1) = 0 := by rw [op1]; omega
      have b := tkA_B hp1 (fun z => n0 (by rw [z]; rfl))
      have ha := tkA_le hp1
      obtain ⟨k, rfl⟩ : ∃ k, fu = k + 1 := ⟨fu - 1, by omega⟩
      obtain ⟨nu, e10, -⟩ := O.2.1.2.2.2.2
      refine x_is2 rfl dX12_readSum_41 ?_
      refine x_al0 rfl dX12_readSum_42 ?_
      refine x_cv0Vp mX12_next_ok lkX12_150 rfl (Nat.le_of_ble_eq_true rfl) (Nat.le_of_ble_eq_true rfl) dX12_readSum_43 W.hM  (j_next W O.1 b.2 O.2.1.2.2.1 e10) (fun h hq => ?_)
      obtain ⟨s2, W2, U2, K2⟩ := hq
      have A2 := A.nx W2 U2 K2 (by omega)
      refine x_al0 rfl dX12_readSum_46 ?_
      refine x_il1 dX12_readSum_47 ?_
      refine x_cv1Vp mX12_readTerm_ok lkX12_185 rfl (Nat.le_of_ble_eq_true rfl) (Nat.le_of_ble_eq_true rfl) dX12_readSum_48 W2.hM  (C _ _ _ _ _ W2 A2.2.2.1) (fun h hq => ?_)
      have R := A2.tn hq
      cases e2 : fTm X f (tkB X p1) with
      | inl e1 =>
        rw [e2] at R
        obtain ⟨s3, M3, W, U, E⟩ := R
        refine x_al0 rfl dX12_readSum_51 ?_
        refine x_il2 dX12_readSum_52 ?_
        refine x_cv1V mX12_codes_ok lkX12_161 rfl (Nat.le_of_ble_eq_true rfl) (Nat.le_of_ble_eq_true rfl) dX12_readSum_53 W.hM  (e_codes W E) ?_
        refine x_goto (tgt := 5) dX12_readSum_56 rfl ?_
        refine x_al0 rfl dX12_readSum_5 ?_
        refine x_bipush (v := nI 32) dX12_readSum_6 rfl ?_
        refine x_cv1I mX12_is_ok lkX12_147 rfl (Nat.le_of_ble_eq_true rfl) (Nat.le_of_ble_eq_true rfl) dX12_readSum_8 W.hM  (e_is W E (by decide)) ?_
        refine x_if_ne (tgt := 23) dX12_readSum_11 rfl (fun q11 => ?_) (fun q11 => ?_)
        · skip
          first | (simp only [cmp_lt, cmp_gt, cmp_eq, zN_cge, zN_cle, Decidable.not_not] at q11) | (simp (disch := omega) only [zN_le, zN_lt, zN_0, zN_1, nI_toInt, zN_eq, zN_eq0, b2_z, b2_nz, Decidable.not_not, Int.not_lt, Int.not_le, zK0, zK1, zK2, zK3, zK5, zK7, zK8, zK9, zK10, zK19, zK20, zK40, zK99, zK100, zK199] at q11) | skip
          exact absurd trivial q11
        · skip
          first | (simp only [cmp_lt, cmp_gt, cmp_eq, zN_cge, zN_cle, Decidable.not_not] at q11) | (simp (disch := omega) only [zN_le, zN_lt, zN_0, zN_1, nI_toInt, zN_eq, zN_eq0, b2_z, b2_nz, Decidable.not_not, Int.not_lt, Int.not_le, zK0, zK1, zK2, zK3, zK5, zK7, zK8, zK9, zK10, zK19, zK20, zK40, zK99, zK100, zK199] at q11) | skip
          refine x_al0 rfl dX12_readSum_14 ?_
          refine x_bipush (v := nI 33) dX12_readSum_15 rfl ?_
          refine x_cv1I mX12_is_ok lkX12_147 rfl (Nat.le_of_ble_eq_true rfl) (Nat.le_of_ble_eq_true rfl) dX12_readSum_17 W.hM  (e_is W E (by decide)) ?_
          refine x_if_eq (tgt := 59) dX12_readSum_20 rfl (fun q20 => ?_) (fun q20 => ?_)
          · skip
            first | (simp only [cmp_lt, cmp_gt, cmp_eq, zN_cge, zN_cle, Decidable.not_not] at q20) | (simp (disch := omega) only [zN_le, zN_lt, zN_0, zN_1, nI_toInt, zN_eq, zN_eq0, b2_z, b2_nz, Decidable.not_not, Int.not_lt, Int.not_le, zK0, zK1, zK2, zK3, zK5, zK7, zK8, zK9, zK10, zK19, zK20, zK40, zK99, zK100, zK199] at q20) | skip
            exact x_vret rfl dX12_readSum_59 ⟨rfl, by rw [hE, lpR_e n0 e2]; exact ⟨s3, M3, W, U, E⟩⟩
          · skip
            first | (simp only [cmp_lt, cmp_gt, cmp_eq, zN_cge, zN_cle, Decidable.not_not] at q20) | (simp (disch := omega) only [zN_le, zN_lt, zN_0, zN_1, nI_toInt, zN_eq, zN_eq0, b2_z, b2_nz, Decidable.not_not, Int.not_lt, Int.not_le, zK0, zK1, zK2, zK3, zK5, zK7, zK8, zK9, zK10, zK19, zK20, zK40, zK99, zK100, zK199] at q20) | skip
            exact absurd trivial q20
      | inr q2 =>
        rw [e2] at R
        obtain ⟨s3, M3, A3⟩ := R
        change PA _ _ _ _ _ _ _ q2.1 (c1 ++ q2.2) _ _ at A3
        have W := A3.1
        have l2 := (Gl.tm hf b.2).o e2
        have l1 := A.2.2.1.2.2.2.2
        refine x_al0 rfl dX12_readSum_51 ?_
        refine x_il2 dX12_readSum_52 ?_
        refine x_cv1Vp mX12_codes_ok lkX12_161 rfl (Nat.le_of_ble_eq_true rfl) (Nat.le_of_ble_eq_true rfl) dX12_readSum_53 W.hM  (o_codes A3 (by rw [List.length_append]; omega)) (fun h hq => ?_)
        refine x_goto (tgt := 5) dX12_readSum_56 rfl ?_
        obtain ⟨M4, A4⟩ := hq
        refine x_kill 2 (ih k _ (by omega) ⟨q2.1, _, s3, M4, A4, ?_, by omega⟩)
        rw [hE, lpR_o n0 e2, apR_ap, op1, List.append_assoc]
    refine x_al0 rfl dX12_readSum_5 ?_
    refine x_bipush (v := nI 32) dX12_readSum_6 rfl ?_
    refine x_cv1I mX12_is_ok lkX12_147 rfl (Nat.le_of_ble_eq_true rfl) (Nat.le_of_ble_eq_true rfl) dX12_readSum_8 W.hM  (o_is W O (by decide)) ?_
    refine x_if_ne (tgt := 23) dX12_readSum_11 rfl (fun q11 => ?_) (fun q11 => ?_)
    · skip
      first | (simp only [cmp_lt, cmp_gt, cmp_eq, zN_cge, zN_cle, Decidable.not_not] at q11) | (simp (disch := omega) only [zN_le, zN_lt, zN_0, zN_1, nI_toInt, zN_eq, zN_eq0, b2_z, b2_nz, Decidable.not_not, Int.not_lt, Int.not_le, zK0, zK1, zK2, zK3, zK5, zK7, zK8, zK9, zK10, zK19, zK20, zK40, zK99, zK100, zK199] at q11) | skip
      refine x_al0 rfl dX12_readSum_23 ?_
      refine x_gm fdX12_123 W.hM (by decide) (e9) dX12_readSum_24 ?_
      refine x_bipush (v := nI 32) dX12_readSum_27 rfl ?_
      refine x_icmp_ne (tgt := 38) dX12_readSum_29 rfl (fun q29 => ?_) (fun q29 => ?_)
      · skip
        first | (simp only [cmp_lt, cmp_gt, cmp_eq, zN_cge, zN_cle, Decidable.not_not] at q29) | (simp (disch := omega) only [zN_le, zN_lt, zN_0, zN_1, nI_toInt, zN_eq, zN_eq0, b2_z, b2_nz, Decidable.not_not, Int.not_lt, Int.not_le, zK0, zK1, zK2, zK3, zK5, zK7, zK8, zK9, zK10, zK19, zK20, zK40, zK99, zK100, zK199] at q29) | skip
        refine x_sipush (v := nI 3001) dX12_readSum_38 (by decide) ?_
        exact absurd q11 q29
      · skip
        first | (simp only [cmp_lt, cmp_gt, cmp_eq, zN_cge, zN_cle, Decidable.not_not] at q29) | (simp (disch := omega) only [zN_le, zN_lt, zN_0, zN_1, nI_toInt, zN_eq, zN_eq0, b2_z, b2_nz, Decidable.not_not, Int.not_lt, Int.not_le, zK0, zK1, zK2, zK3, zK5, zK7, zK8, zK9, zK10, zK19, zK20, zK40, zK99, zK100, zK199] at q29) | skip
        refine x_sipush (v := nI 3000) dX12_readSum_32 (by decide) ?_
        refine x_goto (tgt := 41) dX12_readSum_35 rfl ?_
        exact step 3000 (Or.inl rfl) (by rw [q11]; rfl)
    · skip
      first | (simp only [cmp_lt, cmp_gt, cmp_eq, zN_cge, zN_cle, Decidable.not_not] at q11) | (simp (disch := omega) only [zN_le, zN_lt, zN_0, zN_1, nI_toInt, zN_eq, zN_eq0, b2_z, b2_nz, Decidable.not_not, Int.not_lt, Int.not_le, zK0, zK1, zK2, zK3, zK5, zK7, zK8, zK9, zK10, zK19, zK20, zK40, zK99, zK100, zK199] at q11) | skip
      refine x_al0 rfl dX12_readSum_14 ?_
      refine x_bipush (v := nI 33) dX12_readSum_15 rfl ?_
      refine x_cv1I mX12_is_ok lkX12_147 rfl (Nat.le_of_ble_eq_true rfl) (Nat.le_of_ble_eq_true rfl) dX12_readSum_17 W.hM  (o_is W O (by decide)) ?_
      refine x_if_eq (tgt := 59) dX12_readSum_20 rfl (fun q20 => ?_) (fun q20 => ?_)
      · skip
        first | (simp only [cmp_lt, cmp_gt, cmp_eq, zN_cge, zN_cle, Decidable.not_not] at q20) | (simp (disch := omega) only [zN_le, zN_lt, zN_0, zN_1, nI_toInt, zN_eq, zN_eq0, b2_z, b2_nz, Decidable.not_not, Int.not_lt, Int.not_le, zK0, zK1, zK2, zK3, zK5, zK7, zK8, zK9, zK10, zK19, zK20, zK40, zK99, zK100, zK199] at q20) | skip
        exact x_vret rfl dX12_readSum_59 ⟨rfl, by rw [hE, lpR_0 (by unfold opS; rw [if_neg q11, if_neg q20]), apR_n]; exact ⟨s1, M1, A⟩⟩
      · skip
        first | (simp only [cmp_lt, cmp_gt, cmp_eq, zN_cge, zN_cle, Decidable.not_not] at q20) | (simp (disch := omega) only [zN_le, zN_lt, zN_0, zN_1, nI_toInt, zN_eq, zN_eq0, b2_z, b2_nz, Decidable.not_not, Int.not_lt, Int.not_le, zK0, zK1, zK2, zK3, zK5, zK7, zK8, zK9, zK10, zK19, zK20, zK40, zK99, zK100, zK199] at q20) | skip
        refine x_al0 rfl dX12_readSum_23 ?_
        refine x_gm fdX12_123 W.hM (by decide) (e9) dX12_readSum_24 ?_
        refine x_bipush (v := nI 32) dX12_readSum_27 rfl ?_
        refine x_icmp_ne (tgt := 38) dX12_readSum_29 rfl (fun q29 => ?_) (fun q29 => ?_)
        · skip
          first | (simp only [cmp_lt, cmp_gt, cmp_eq, zN_cge, zN_cle, Decidable.not_not] at q29) | (simp (disch := omega) only [zN_le, zN_lt, zN_0, zN_1, nI_toInt, zN_eq, zN_eq0, b2_z, b2_nz, Decidable.not_not, Int.not_lt, Int.not_le, zK0, zK1, zK2, zK3, zK5, zK7, zK8, zK9, zK10, zK19, zK20, zK40, zK99, zK100, zK199] at q29) | skip
          refine x_sipush (v := nI 3001) dX12_readSum_38 (by decide) ?_
          exact step 3001 (Or.inr rfl) (by rw [q20]; rfl)
        · skip
          first | (simp only [cmp_lt, cmp_gt, cmp_eq, zN_cge, zN_cle, Decidable.not_not] at q29) | (simp (disch := omega) only [zN_le, zN_lt, zN_0, zN_1, nI_toInt, zN_eq, zN_eq0, b2_z, b2_nz, Decidable.not_not, Int.not_lt, Int.not_le, zK0, zK1, zK2, zK3, zK5, zK7, zK8, zK9, zK10, zK19, zK20, zK40, zK99, zK100, zK199] at q29) | skip
          refine x_sipush (v := nI 3000) dX12_readSum_32 (by decide) ?_
          refine x_goto (tgt := 41) dX12_readSum_35 rfl ?_
          exact absurd q29 q11

theorem e_readBoth (C : CtE g (d + 1) h0 L mX12_readUnit dp) : CtE g (d + 2) h0 L mX12_readBoth dp := by
  intro h s M e W E
  show Zw g (d + 2) 0 0 mX12_readBoth 0 [some (.ref 59), some (.int (nI dp))] [] h _
  refine x_al0 rfl dX12_readBoth_0 ?_
  refine x_il1 dX12_readBoth_1 ?_
  refine x_cv1V mX12_readUnit_ok lkX12_188 rfl (Nat.le_of_ble_eq_true rfl) (Nat.le_of_ble_eq_true rfl) dX12_readBoth_2 W.hM  (C _ _ _ _ W E) ?_
  refine x_al0 rfl dX12_readBoth_5 ?_
  refine x_bipush (v := nI 16) dX12_readBoth_6 rfl ?_
  refine x_cv1I mX12_eats_ok lkX12_173 rfl (Nat.le_of_ble_eq_true rfl) (Nat.le_of_ble_eq_true rfl) dX12_readBoth_8 W.hM  (e_eats W E (by decide)) ?_
  refine x_if_eq (tgt := 29) dX12_readBoth_11 rfl (fun q11 => ?_) (fun q11 => ?_)
  · skip
    first | (simp only [cmp_lt, cmp_gt, cmp_eq, zN_cge, zN_cle, Decidable.not_not] at q11) | (simp (disch := omega) only [zN_le, zN_lt, zN_0, zN_1, nI_toInt, zN_eq, zN_eq0, b2_z, b2_nz, Decidable.not_not, Int.not_lt, Int.not_le, zK0, zK1, zK2, zK3, zK5, zK7, zK8, zK9, zK10, zK19, zK20, zK40, zK99, zK100, zK199] at q11) | skip
    exact x_vret rfl dX12_readBoth_29 ⟨rfl, rfl⟩
  · skip
    first | (simp only [cmp_lt, cmp_gt, cmp_eq, zN_cge, zN_cle, Decidable.not_not] at q11) | (simp (disch := omega) only [zN_le, zN_lt, zN_0, zN_1, nI_toInt, zN_eq, zN_eq0, b2_z, b2_nz, Decidable.not_not, Int.not_lt, Int.not_le, zK0, zK1, zK2, zK3, zK5, zK7, zK8, zK9, zK10, zK19, zK20, zK40, zK99, zK100, zK199] at q11) | skip
    exact absurd trivial q11
theorem o_readBoth (hf : ∀ p, p ≤ X.2 → Gl X p (f p)) (C : CtM g (d + 6) X h0 L mX12_readUnit dp f) : CtM g (d + 7) X h0 L mX12_readBoth dp (fBo X f) := by
  intro h s M p base W O
  have X9 := O.1.2.1
  show Zw g (d + 7) 0 0 mX12_readBoth 0 [some (.ref 59), some (.int (nI dp))] [] h _
  refine x_al0 rfl dX12_readBoth_0 ?_
  refine x_il1 dX12_readBoth_1 ?_
  refine x_cv1Vp mX12_readUnit_ok lkX12_188 rfl (Nat.le_of_ble_eq_true rfl) (Nat.le_of_ble_eq_true rfl) dX12_readBoth_2 W.hM  (C _ _ _ _ _ W O) (fun h hq => ?_)
  cases e : f p with
  | inl e1 =>
    rw [e] at hq
    obtain ⟨s1, M1, W, U, E⟩ := hq
    have eF : fBo X f p = .inl e1 := by
      unfold fBo
      rw [e]
      rfl
    refine x_al0 rfl dX12_readBoth_5 ?_
    refine x_bipush (v := nI 16) dX12_readBoth_6 rfl ?_
    refine x_cv1I mX12_eats_ok lkX12_173 rfl (Nat.le_of_ble_eq_true rfl) (Nat.le_of_ble_eq_true rfl) dX12_readBoth_8 W.hM  (e_eats W E (by decide)) ?_
    refine x_if_eq (tgt := 29) dX12_readBoth_11 rfl (fun q11 => ?_) (fun q11 => ?_)
    · skip
      first | (simp only [cmp_lt, cmp_gt, cmp_eq, zN_cge, zN_cle, Decidable.not_not] at q11) | (simp (disch := omega) only [zN_le, zN_lt, zN_0, zN_1, nI_toInt, zN_eq, zN_eq0, b2_z, b2_nz, Decidable.not_not, Int.not_lt, Int.not_le, zK0, zK1, zK2, zK3, zK5, zK7, zK8, zK9, zK10, zK19, zK20, zK40, zK99, zK100, zK199] at q11) | skip
      exact x_vret rfl dX12_readBoth_29 ⟨rfl, by rw [eF]; exact ⟨s1, M1, W, U, E⟩⟩
    · skip
      first | (simp only [cmp_lt, cmp_gt, cmp_eq, zN_cge, zN_cle, Decidable.not_not] at q11) | (simp (disch := omega) only [zN_le, zN_lt, zN_0, zN_1, nI_toInt, zN_eq, zN_eq0, b2_z, b2_nz, Decidable.not_not, Int.not_lt, Int.not_le, zK0, zK1, zK2, zK3, zK5, zK7, zK8, zK9, zK10, zK19, zK20, zK40, zK99, zK100, zK199] at q11) | skip
      exact absurd trivial q11
  | inr q =>
    rw [e] at hq
    obtain ⟨s1, M1, A1⟩ := hq
    refine x_wh (fun (fu : Nat) => [some (.ref 59), some (.int (nI dp))]) (fun fu h => ∃ p1 c1 s1 M1, PA X h0 h s M L base p1 c1 s1 M1 ∧ fBo X f p = apR c1 (lpR X opA f fu p1) ∧ X.2 < fu + tkA X p1) (fun fu => fu) 901 ⟨q.1, q.2, s1, M1, A1, by unfold fBo; rw [e]; exact sqR_ap, by omega⟩ (fun fu h hI ih => ?_)
    obtain ⟨p1, c1, s1, M1, A, hE, hfu⟩ := hI
    have W := A.1
    have O := A.2.2.1
    have hp1 := O.2.1.1
    refine x_al0 rfl dX12_readBoth_5 ?_
    refine x_bipush (v := nI 16) dX12_readBoth_6 rfl ?_
    refine x_cv1Ip mX12_eats_ok lkX12_173 rfl (Nat.le_of_ble_eq_true rfl) (Nat.le_of_ble_eq_true rfl) dX12_readBoth_8 W.hM  (o_eats W O (by decide)) (fun r h hq => ?_)
    rcases hq with ⟨z, rfl, s2, W2, U2, K2⟩ | ⟨z, rfl, rfl⟩
    · have b := tkA_B hp1 (by omega)
      have ha := tkA_le hp1
      have op1 : opA (tkK X p1) = 3007 := by rw [z]; rfl
      obtain ⟨k, rfl⟩ : ∃ k, fu = k + 1 := ⟨fu - 1, by omega⟩
      have A2 := A.nx W2 U2 K2 (by omega)
      refine x_if_eq (tgt := 29) dX12_readBoth_11 rfl (fun q11 => ?_) (fun q11 => ?_)
      · skip
        first | (simp only [cmp_lt, cmp_gt, cmp_eq, zN_cge, zN_cle, Decidable.not_not] at q11) | (simp (disch := omega) only [zN_le, zN_lt, zN_0, zN_1, nI_toInt, zN_eq, zN_eq0, b2_z, b2_nz, Decidable.not_not, Int.not_lt, Int.not_le, zK0, zK1, zK2, zK3, zK5, zK7, zK8, zK9, zK10, zK19, zK20, zK40, zK99, zK100, zK199] at q11) | skip
        exact absurd q11 (by decide)
      · skip
        first | (simp only [cmp_lt, cmp_gt, cmp_eq, zN_cge, zN_cle, Decidable.not_not] at q11) | (simp (disch := omega) only [zN_le, zN_lt, zN_0, zN_1, nI_toInt, zN_eq, zN_eq0, b2_z, b2_nz, Decidable.not_not, Int.not_lt, Int.not_le, zK0, zK1, zK2, zK3, zK5, zK7, zK8, zK9, zK10, zK19, zK20, zK40, zK99, zK100, zK199] at q11) | skip
        refine x_al0 rfl dX12_readBoth_14 ?_
        refine x_il1 dX12_readBoth_15 ?_
        refine x_cv1Vp mX12_readUnit_ok lkX12_188 rfl (Nat.le_of_ble_eq_true rfl) (Nat.le_of_ble_eq_true rfl) dX12_readBoth_16 W2.hM  (C _ _ _ _ _ W2 A2.2.2.1) (fun h hq => ?_)
        have R := A2.tn hq
        cases e2 : f (tkB X p1) with
        | inl e1 =>
          rw [e2] at R
          obtain ⟨s3, M3, W, U, E⟩ := R
          refine x_al0 rfl dX12_readBoth_19 ?_
          refine x_sipush (v := nI 3007) dX12_readBoth_20 (by decide) ?_
          refine x_cv1V mX12_codes_ok lkX12_161 rfl (Nat.le_of_ble_eq_true rfl) (Nat.le_of_ble_eq_true rfl) dX12_readBoth_23 W.hM  (e_codes W E) ?_
          refine x_goto (tgt := 5) dX12_readBoth_26 rfl ?_
          refine x_al0 rfl dX12_readBoth_5 ?_
          refine x_bipush (v := nI 16) dX12_readBoth_6 rfl ?_
          refine x_cv1I mX12_eats_ok lkX12_173 rfl (Nat.le_of_ble_eq_true rfl) (Nat.le_of_ble_eq_true rfl) dX12_readBoth_8 W.hM  (e_eats W E (by decide)) ?_
          refine x_if_eq (tgt := 29) dX12_readBoth_11 rfl (fun q11 => ?_) (fun q11 => ?_)
          · skip
            first | (simp only [cmp_lt, cmp_gt, cmp_eq, zN_cge, zN_cle, Decidable.not_not] at q11) | (simp (disch := omega) only [zN_le, zN_lt, zN_0, zN_1, nI_toInt, zN_eq, zN_eq0, b2_z, b2_nz, Decidable.not_not, Int.not_lt, Int.not_le, zK0, zK1, zK2, zK3, zK5, zK7, zK8, zK9, zK10, zK19, zK20, zK40, zK99, zK100, zK199] at q11) | skip
            exact x_vret rfl dX12_readBoth_29 ⟨rfl, by rw [hE, lpR_e (by rw [op1]; decide) e2]; exact ⟨s3, M3, W, U, E⟩⟩
          · skip
            first | (simp only [cmp_lt, cmp_gt, cmp_eq, zN_cge, zN_cle, Decidable.not_not] at q11) | (simp (disch := omega) only [zN_le, zN_lt, zN_0, zN_1, nI_toInt, zN_eq, zN_eq0, b2_z, b2_nz, Decidable.not_not, Int.not_lt, Int.not_le, zK0, zK1, zK2, zK3, zK5, zK7, zK8, zK9, zK10, zK19, zK20, zK40, zK99, zK100, zK199] at q11) | skip
            exact absurd trivial q11
        | inr q2 =>
          rw [e2] at R
          obtain ⟨s3, M3, A3⟩ := R
          change PA _ _ _ _ _ _ _ q2.1 (c1 ++ q2.2) _ _ at A3
          have W := A3.1
          have l2 := (hf _ b.2).o e2
          have l1 := A.2.2.1.2.2.2.2
          refine x_al0 rfl dX12_readBoth_19 ?_
          refine x_sipush (v := nI 3007) dX12_readBoth_20 (by decide) ?_
          refine x_cv1Vp mX12_codes_ok lkX12_161 rfl (Nat.le_of_ble_eq_true rfl) (Nat.le_of_ble_eq_true rfl) dX12_readBoth_23 W.hM  (o_codes A3 (by rw [List.length_append]; omega)) (fun h hq => ?_)
          refine x_goto (tgt := 5) dX12_readBoth_26 rfl ?_
          obtain ⟨M4, A4⟩ := hq
          refine ih k _ (by omega) ⟨q2.1, _, s3, M4, A4, ?_, by omega⟩
          rw [hE, lpR_o (by rw [op1]; decide) e2, apR_ap, op1, List.append_assoc]
    · have op0 : opA (tkK X p1) = 0 := if_neg z
      refine x_if_eq (tgt := 29) dX12_readBoth_11 rfl (fun q11 => ?_) (fun q11 => ?_)
      · skip
        first | (simp only [cmp_lt, cmp_gt, cmp_eq, zN_cge, zN_cle, Decidable.not_not] at q11) | (simp (disch := omega) only [zN_le, zN_lt, zN_0, zN_1, nI_toInt, zN_eq, zN_eq0, b2_z, b2_nz, Decidable.not_not, Int.not_lt, Int.not_le, zK0, zK1, zK2, zK3, zK5, zK7, zK8, zK9, zK10, zK19, zK20, zK40, zK99, zK100, zK199] at q11) | skip
        exact x_vret rfl dX12_readBoth_29 ⟨rfl, by rw [hE, lpR_0 op0, apR_n]; exact ⟨s1, M1, A⟩⟩
      · skip
        first | (simp only [cmp_lt, cmp_gt, cmp_eq, zN_cge, zN_cle, Decidable.not_not] at q11) | (simp (disch := omega) only [zN_le, zN_lt, zN_0, zN_1, nI_toInt, zN_eq, zN_eq0, b2_z, b2_nz, Decidable.not_not, Int.not_lt, Int.not_le, zK0, zK1, zK2, zK3, zK5, zK7, zK8, zK9, zK10, zK19, zK20, zK40, zK99, zK100, zK199] at q11) | skip
        exact absurd trivial q11

theorem e_readTruth (C : CtE g (d + 1) h0 L mX12_readBoth dp) : CtE g (d + 2) h0 L mX12_readTruth dp := by
  intro h s M e W E
  show Zw g (d + 2) 0 0 mX12_readTruth 0 [some (.ref 59), some (.int (nI dp))] [] h _
  refine x_al0 rfl dX12_readTruth_0 ?_
  refine x_il1 dX12_readTruth_1 ?_
  refine x_cv1V mX12_readBoth_ok lkX12_191 rfl (Nat.le_of_ble_eq_true rfl) (Nat.le_of_ble_eq_true rfl) dX12_readTruth_2 W.hM  (C _ _ _ _ W E) ?_
  refine x_al0 rfl dX12_readTruth_5 ?_
  refine x_bipush (v := nI 17) dX12_readTruth_6 rfl ?_
  refine x_cv1I mX12_eats_ok lkX12_173 rfl (Nat.le_of_ble_eq_true rfl) (Nat.le_of_ble_eq_true rfl) dX12_readTruth_8 W.hM  (e_eats W E (by decide)) ?_
  refine x_if_eq (tgt := 29) dX12_readTruth_11 rfl (fun q11 => ?_) (fun q11 => ?_)
  · skip
    first | (simp only [cmp_lt, cmp_gt, cmp_eq, zN_cge, zN_cle, Decidable.not_not] at q11) | (simp (disch := omega) only [zN_le, zN_lt, zN_0, zN_1, nI_toInt, zN_eq, zN_eq0, b2_z, b2_nz, Decidable.not_not, Int.not_lt, Int.not_le, zK0, zK1, zK2, zK3, zK5, zK7, zK8, zK9, zK10, zK19, zK20, zK40, zK99, zK100, zK199] at q11) | skip
    exact x_vret rfl dX12_readTruth_29 ⟨rfl, rfl⟩
  · skip
    first | (simp only [cmp_lt, cmp_gt, cmp_eq, zN_cge, zN_cle, Decidable.not_not] at q11) | (simp (disch := omega) only [zN_le, zN_lt, zN_0, zN_1, nI_toInt, zN_eq, zN_eq0, b2_z, b2_nz, Decidable.not_not, Int.not_lt, Int.not_le, zK0, zK1, zK2, zK3, zK5, zK7, zK8, zK9, zK10, zK19, zK20, zK40, zK99, zK100, zK199] at q11) | skip
    exact absurd trivial q11
theorem o_readTruth (hf : ∀ p, p ≤ X.2 → Gl X p (f p)) (C : CtM g (d + 6) X h0 L mX12_readBoth dp (fBo X f)) : CtM g (d + 7) X h0 L mX12_readTruth dp (fTr X f) := by
  intro h s M p base W O
  have X9 := O.1.2.1
  show Zw g (d + 7) 0 0 mX12_readTruth 0 [some (.ref 59), some (.int (nI dp))] [] h _
  refine x_al0 rfl dX12_readTruth_0 ?_
  refine x_il1 dX12_readTruth_1 ?_
  refine x_cv1Vp mX12_readBoth_ok lkX12_191 rfl (Nat.le_of_ble_eq_true rfl) (Nat.le_of_ble_eq_true rfl) dX12_readTruth_2 W.hM  (C _ _ _ _ _ W O) (fun h hq => ?_)
  cases e : fBo X f p with
  | inl e1 =>
    rw [e] at hq
    obtain ⟨s1, M1, W, U, E⟩ := hq
    have eF : fTr X f p = .inl e1 := by
      unfold fTr
      rw [e]
      rfl
    refine x_al0 rfl dX12_readTruth_5 ?_
    refine x_bipush (v := nI 17) dX12_readTruth_6 rfl ?_
    refine x_cv1I mX12_eats_ok lkX12_173 rfl (Nat.le_of_ble_eq_true rfl) (Nat.le_of_ble_eq_true rfl) dX12_readTruth_8 W.hM  (e_eats W E (by decide)) ?_
    refine x_if_eq (tgt := 29) dX12_readTruth_11 rfl (fun q11 => ?_) (fun q11 => ?_)
    · skip
      first | (simp only [cmp_lt, cmp_gt, cmp_eq, zN_cge, zN_cle, Decidable.not_not] at q11) | (simp (disch := omega) only [zN_le, zN_lt, zN_0, zN_1, nI_toInt, zN_eq, zN_eq0, b2_z, b2_nz, Decidable.not_not, Int.not_lt, Int.not_le, zK0, zK1, zK2, zK3, zK5, zK7, zK8, zK9, zK10, zK19, zK20, zK40, zK99, zK100, zK199] at q11) | skip
      exact x_vret rfl dX12_readTruth_29 ⟨rfl, by rw [eF]; exact ⟨s1, M1, W, U, E⟩⟩
    · skip
      first | (simp only [cmp_lt, cmp_gt, cmp_eq, zN_cge, zN_cle, Decidable.not_not] at q11) | (simp (disch := omega) only [zN_le, zN_lt, zN_0, zN_1, nI_toInt, zN_eq, zN_eq0, b2_z, b2_nz, Decidable.not_not, Int.not_lt, Int.not_le, zK0, zK1, zK2, zK3, zK5, zK7, zK8, zK9, zK10, zK19, zK20, zK40, zK99, zK100, zK199] at q11) | skip
      exact absurd trivial q11
  | inr q =>
    rw [e] at hq
    obtain ⟨s1, M1, A1⟩ := hq
    refine x_wh (fun (fu : Nat) => [some (.ref 59), some (.int (nI dp))]) (fun fu h => ∃ p1 c1 s1 M1, PA X h0 h s M L base p1 c1 s1 M1 ∧ fTr X f p = apR c1 (lpR X opO (fBo X f) fu p1) ∧ X.2 < fu + tkA X p1) (fun fu => fu) 901 ⟨q.1, q.2, s1, M1, A1, by unfold fTr; rw [e]; exact sqR_ap, by omega⟩ (fun fu h hI ih => ?_)
    obtain ⟨p1, c1, s1, M1, A, hE, hfu⟩ := hI
    have W := A.1
    have O := A.2.2.1
    have hp1 := O.2.1.1
    refine x_al0 rfl dX12_readTruth_5 ?_
    refine x_bipush (v := nI 17) dX12_readTruth_6 rfl ?_
    refine x_cv1Ip mX12_eats_ok lkX12_173 rfl (Nat.le_of_ble_eq_true rfl) (Nat.le_of_ble_eq_true rfl) dX12_readTruth_8 W.hM  (o_eats W O (by decide)) (fun r h hq => ?_)
    rcases hq with ⟨z, rfl, s2, W2, U2, K2⟩ | ⟨z, rfl, rfl⟩
    · have b := tkA_B hp1 (by omega)
      have ha := tkA_le hp1
      have op1 : opO (tkK X p1) = 3008 := by rw [z]; rfl
      obtain ⟨k, rfl⟩ : ∃ k, fu = k + 1 := ⟨fu - 1, by omega⟩
      have A2 := A.nx W2 U2 K2 (by omega)
      refine x_if_eq (tgt := 29) dX12_readTruth_11 rfl (fun q11 => ?_) (fun q11 => ?_)
      · skip
        first | (simp only [cmp_lt, cmp_gt, cmp_eq, zN_cge, zN_cle, Decidable.not_not] at q11) | (simp (disch := omega) only [zN_le, zN_lt, zN_0, zN_1, nI_toInt, zN_eq, zN_eq0, b2_z, b2_nz, Decidable.not_not, Int.not_lt, Int.not_le, zK0, zK1, zK2, zK3, zK5, zK7, zK8, zK9, zK10, zK19, zK20, zK40, zK99, zK100, zK199] at q11) | skip
        exact absurd q11 (by decide)
      · skip
        first | (simp only [cmp_lt, cmp_gt, cmp_eq, zN_cge, zN_cle, Decidable.not_not] at q11) | (simp (disch := omega) only [zN_le, zN_lt, zN_0, zN_1, nI_toInt, zN_eq, zN_eq0, b2_z, b2_nz, Decidable.not_not, Int.not_lt, Int.not_le, zK0, zK1, zK2, zK3, zK5, zK7, zK8, zK9, zK10, zK19, zK20, zK40, zK99, zK100, zK199] at q11) | skip
        refine x_al0 rfl dX12_readTruth_14 ?_
        refine x_il1 dX12_readTruth_15 ?_
        refine x_cv1Vp mX12_readBoth_ok lkX12_191 rfl (Nat.le_of_ble_eq_true rfl) (Nat.le_of_ble_eq_true rfl) dX12_readTruth_16 W2.hM  (C _ _ _ _ _ W2 A2.2.2.1) (fun h hq => ?_)
        have R := A2.tn hq
        cases e2 : fBo X f (tkB X p1) with
        | inl e1 =>
          rw [e2] at R
          obtain ⟨s3, M3, W, U, E⟩ := R
          refine x_al0 rfl dX12_readTruth_19 ?_
          refine x_sipush (v := nI 3008) dX12_readTruth_20 (by decide) ?_
          refine x_cv1V mX12_codes_ok lkX12_161 rfl (Nat.le_of_ble_eq_true rfl) (Nat.le_of_ble_eq_true rfl) dX12_readTruth_23 W.hM  (e_codes W E) ?_
          refine x_goto (tgt := 5) dX12_readTruth_26 rfl ?_
          refine x_al0 rfl dX12_readTruth_5 ?_
          refine x_bipush (v := nI 17) dX12_readTruth_6 rfl ?_
          refine x_cv1I mX12_eats_ok lkX12_173 rfl (Nat.le_of_ble_eq_true rfl) (Nat.le_of_ble_eq_true rfl) dX12_readTruth_8 W.hM  (e_eats W E (by decide)) ?_
          refine x_if_eq (tgt := 29) dX12_readTruth_11 rfl (fun q11 => ?_) (fun q11 => ?_)
          · skip
            first | (simp only [cmp_lt, cmp_gt, cmp_eq, zN_cge, zN_cle, Decidable.not_not] at q11) | (simp (disch := omega) only [zN_le, zN_lt, zN_0, zN_1, nI_toInt, zN_eq, zN_eq0, b2_z, b2_nz, Decidable.not_not, Int.not_lt, Int.not_le, zK0, zK1, zK2, zK3, zK5, zK7, zK8, zK9, zK10, zK19, zK20, zK40, zK99, zK100, zK199] at q11) | skip
            exact x_vret rfl dX12_readTruth_29 ⟨rfl, by rw [hE, lpR_e (by rw [op1]; decide) e2]; exact ⟨s3, M3, W, U, E⟩⟩
          · skip
            first | (simp only [cmp_lt, cmp_gt, cmp_eq, zN_cge, zN_cle, Decidable.not_not] at q11) | (simp (disch := omega) only [zN_le, zN_lt, zN_0, zN_1, nI_toInt, zN_eq, zN_eq0, b2_z, b2_nz, Decidable.not_not, Int.not_lt, Int.not_le, zK0, zK1, zK2, zK3, zK5, zK7, zK8, zK9, zK10, zK19, zK20, zK40, zK99, zK100, zK199] at q11) | skip
            exact absurd trivial q11
        | inr q2 =>
          rw [e2] at R
          obtain ⟨s3, M3, A3⟩ := R
          change PA _ _ _ _ _ _ _ q2.1 (c1 ++ q2.2) _ _ at A3
          have W := A3.1
          have l2 := (Gl.bo hf b.2).o e2
          have l1 := A.2.2.1.2.2.2.2
          refine x_al0 rfl dX12_readTruth_19 ?_
          refine x_sipush (v := nI 3008) dX12_readTruth_20 (by decide) ?_
          refine x_cv1Vp mX12_codes_ok lkX12_161 rfl (Nat.le_of_ble_eq_true rfl) (Nat.le_of_ble_eq_true rfl) dX12_readTruth_23 W.hM  (o_codes A3 (by rw [List.length_append]; omega)) (fun h hq => ?_)
          refine x_goto (tgt := 5) dX12_readTruth_26 rfl ?_
          obtain ⟨M4, A4⟩ := hq
          refine ih k _ (by omega) ⟨q2.1, _, s3, M4, A4, ?_, by omega⟩
          rw [hE, lpR_o (by rw [op1]; decide) e2, apR_ap, op1, List.append_assoc]
    · have op0 : opO (tkK X p1) = 0 := if_neg z
      refine x_if_eq (tgt := 29) dX12_readTruth_11 rfl (fun q11 => ?_) (fun q11 => ?_)
      · skip
        first | (simp only [cmp_lt, cmp_gt, cmp_eq, zN_cge, zN_cle, Decidable.not_not] at q11) | (simp (disch := omega) only [zN_le, zN_lt, zN_0, zN_1, nI_toInt, zN_eq, zN_eq0, b2_z, b2_nz, Decidable.not_not, Int.not_lt, Int.not_le, zK0, zK1, zK2, zK3, zK5, zK7, zK8, zK9, zK10, zK19, zK20, zK40, zK99, zK100, zK199] at q11) | skip
        exact x_vret rfl dX12_readTruth_29 ⟨rfl, by rw [hE, lpR_0 op0, apR_n]; exact ⟨s1, M1, A⟩⟩
      · skip
        first | (simp only [cmp_lt, cmp_gt, cmp_eq, zN_cge, zN_cle, Decidable.not_not] at q11) | (simp (disch := omega) only [zN_le, zN_lt, zN_0, zN_1, nI_toInt, zN_eq, zN_eq0, b2_z, b2_nz, Decidable.not_not, Int.not_lt, Int.not_le, zK0, zK1, zK2, zK3, zK5, zK7, zK8, zK9, zK10, zK19, zK20, zK40, zK99, zK100, zK199] at q11) | skip
        exact absurd trivial q11
end ZLo

