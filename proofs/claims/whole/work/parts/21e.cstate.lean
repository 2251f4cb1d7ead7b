/-! the class while it reads: its state; small methods -/
def nR (X : zX) (r : zR) : zR := match r with
  | .inl e => .inl e
  | .inr q => if tkK X q.1 = 25 then .inl (1, tkA X q.1) else .inr q
def BA (X : zX) (f : Nat → zR) : Prop := ∀ p, tkK X p = 25 → f p = .inl (1, tkA X p)
def BD (X : zX) (f : Nat → zR) : Prop := ∀ p, tkK X p = 25 → nR X (f p) = .inl (1, tkA X p)
def kdom (k : Nat) : Bool := decide (k < 19 ∨ (22 ≤ k ∧ k ≤ 25) ∨ (30 ≤ k ∧ k < 42))
theorem tok_i : ∀ a, a < 42 → ∀ b, b < 42 → kdom a = true → kdom b = true → tok a = tok b → a = b := by decide +kernel
theorem tok_lt : ∀ a, a < 42 → tok a < 1000 := by decide
section ZCs
variable {X : zX} {p q : Nat} {r : zR} {c : List Nat} {f u ψ : Nat → zR}
theorem tkK_dom : kdom (tkK X p) = true ∧ tkK X p < 42 := by
  unfold tkK kdom
  rw [decide_eq_true_iff]
  split
  · omega
  · split
    · rcases keyX_r (X := X) (a := tkA X p) (b := rnX X isLo (tkA X p)) with z | z <;> omega
    · split
      · split <;> omega
      · rcases sgK_r (c := X.1 (tkA X p)) with z | z <;> omega
theorem tok_e {k : Nat} (hk : k < 42) (hd : kdom k = true) : tok (tkK X p) = tok k ↔ tkK X p = k := ⟨fun z => tok_i _ tkK_dom.2 _ hk tkK_dom.1 hd z, fun z => by rw [z]⟩
theorem BA.bd (h : BA X f) : BD X f := fun p hp => by rw [h p hp]; rfl
theorem nR_ap : nR X (apR c r) = apR c (nR X r) := by
  cases r with
  | inl e => rfl
  | inr q =>
    show (if tkK X q.1 = 25 then _ else _) = apR c (if tkK X q.1 = 25 then _ else _)
    split <;> rfl
theorem nR_r {q : Nat × List Nat} (h : tkK X q.1 ≠ 25) : nR X (.inr q) = .inr q := if_neg h
theorem nR_b {q : Nat × List Nat} (h : tkK X q.1 = 25) : nR X (.inr q) = .inl (1, tkA X q.1) := if_pos h
theorem nR_e {e : Nat × Nat} (hB : BD X ψ) (h : nR X r = .inl e) : nR X (sqR r ψ) = .inl e := by
  cases r with
  | inl e' => exact h
  | inr q =>
    by_cases z : tkK X q.1 = 25
    · rw [nR_b z] at h
      rw [show sqR (.inr q) ψ = apR q.2 (ψ q.1) from sqR_ap, nR_ap, hB _ z]
      exact h
    · rw [nR_r z] at h; cases h
theorem nR_o {q : Nat × List Nat} (h : nR X r = .inr q) : r = .inr q ∧ tkK X q.1 ≠ 25 := by
  cases r with
  | inl e' => cases h
  | inr q' =>
    by_cases z : tkK X q'.1 = 25
    · rw [nR_b z] at h; cases h
    · rw [nR_r z] at h
      obtain rfl := Sum.inr.inj h
      exact ⟨rfl, z⟩
theorem nR_s {q : Nat × List Nat} (h : nR X r = .inr q) : nR X (sqR r ψ) = apR q.2 (nR X (ψ q.1)) := by
  rw [(nR_o h).1, show sqR (.inr q) ψ = apR q.2 (ψ q.1) from sqR_ap, nR_ap]
theorem erK_25 (h : tkK X p = 25) : erK X p = 1 := if_pos h
theorem erK_2 (h : tkK X p ≠ 25) : erK X p = 2 := if_neg h
theorem BA.sq (h : BA X f) : BA X (fun p => sqR (f p) ψ) := fun p hp => by
  show sqR (f p) ψ = _
  rw [h p hp]
  rfl
theorem BA.wa {k : Nat} (hk : k ≠ 25) : BA X (waR X k) := fun p hp => by
  unfold waR erR
  rw [if_neg (by omega), erK_25 hp]
theorem BD.em {k : Nat} : BD X (emR k) := fun p hp => nR_b hp
theorem BD.lp {op : Nat → Nat} {k : Nat} (h : op 25 = 0) : BD X (lpR X op f k) := fun p hp => by
  rw [lpR_0 (by rw [hp]; exact h)]
  exact nR_b hp
theorem BA.tm (h : BA X f) : BA X (fTm X f) := h.sq
theorem BA.sm (h : BA X f) : BA X (fSm X f) := h.tm.sq
theorem BA.bo (h : BA X f) : BA X (fBo X f) := h.sq
theorem BA.tr (h : BA X f) : BA X (fTr X f) := h.bo.sq
theorem BA.cm (h : BA X f) : BA X (fCm X f) := h.sm.sq
theorem BA.a0 : BA X (fAt0 X) := fun p hp => by
  unfold fAt0 erR
  rw [if_neg (by omega), if_neg (by omega), erK_25 hp]
theorem BA.a1 : BA X (fAt1 X f u) := fun p hp => by
  unfold fAt1 erR
  rw [if_neg (by omega), if_neg (by omega), if_neg (by omega), erK_25 hp]
theorem BA.u0 : BA X (fUn0 X) := fun p hp => by
  unfold fUn0
  rw [if_neg (by omega)]
  exact BA.a0.cm p hp
theorem BA.u1 : BA X (fUn1 X f u) := fun p hp => by
  unfold fUn1
  rw [if_neg (by omega), if_neg (by omega)]
  exact BA.a1.cm p hp
theorem BA.lv : ∀ k, BA X (fLv X k).1 ∧ BA X (fLv X k).2 := by
  intro k
  cases k with
  | zero => exact ⟨BA.a0, BA.u0⟩
  | succ k => exact ⟨BA.a1, BA.u1⟩
end ZCs
def CV (r r' : Nat → Value) : Prop := ∀ k, k ≠ 0 → k ≠ 1 → k ≠ 12 → k ≠ 13 → k ≠ 14 → k ≠ 15 → k ≠ 16 → r' k = r k
theorem CV.rf {r : Nat → Value} : CV r r := fun _ _ _ _ _ _ _ _ => rfl
theorem CV.tr {r r' r2 : Nat → Value} (a : CV r r') (b : CV r' r2) : CV r r2 := fun k h0 h1 h2 h3 h4 h5 h6 => (b k h0 h1 h2 h3 h4 h5 h6).trans (a k h0 h1 h2 h3 h4 h5 h6)
theorem CU.cv {r r' : Nat → Value} (a : CU r r') : CV r r' := fun k h0 h1 h2 h3 h4 h5 _ => a k h0 h1 h2 h3 h4 h5
theorem CV.d16 {r r' : Nat → Value} {v : Value} (a : CV r r') : CV r (va_up r' 16 v) := fun k h0 h1 h2 h3 h4 h5 h6 => (va_up_ne _ _ h6).trans (a k h0 h1 h2 h3 h4 h5 h6)
def CO (X : zX) (h0 : zH) (r : Nat → Value) (A : Nat → Nat → Int32) (Q : Nat → zS3) (i dp p : Nat) (cs : List Nat) : Prop := CX X h0 r ∧ CKo X r p ∧ r 16 = .int (nI dp) ∧ r 17 = .ref i ∧ DR A Q i cs ∧ cs.length ≤ tkA X p
def CEr (r : Nat → Value) (Q : Nat → zS3) (i : Nat) (e : Nat × Nat) : Prop := CKe r e ∧ (∃ v, r 16 = .int v) ∧ r 17 = .ref i ∧ DX Q i
def PCa (X : zX) (h0 h : zH) (r : Nat → Value) (A : Nat → Nat → Int32) (Q : Nat → zS3) (i dp p : Nat) (cs : List Nat) (r' : Nat → Value) (A' : Nat → Nat → Int32) (Q' : Nat → zS3) : Prop := RW h0 h r' A' Q' ∧ CV r r' ∧ CA i A A' Q Q' ∧ CO X h0 r' A' Q' i dp p cs
def PCe (h0 h : zH) (r : Nat → Value) (A : Nat → Nat → Int32) (Q : Nat → zS3) (i : Nat) (e : Nat × Nat) (r' : Nat → Value) (A' : Nat → Nat → Int32) (Q' : Nat → zS3) : Prop := RW h0 h r' A' Q' ∧ CV r r' ∧ CA i A A' Q Q' ∧ CEr r' Q' i e
def PC (X : zX) (h0 h : zH) (r : Nat → Value) (A : Nat → Nat → Int32) (Q : Nat → zS3) (i dp : Nat) (cs : List Nat) (res : zR) : Prop := match res with
  | .inl e => ∃ r' A' Q', PCe h0 h r A Q i e r' A' Q'
  | .inr q => ∃ r' A' Q', PCa X h0 h r A Q i dp q.1 (cs ++ q.2) r' A' Q'
section ZCt
variable {g : zG} {d : Nat} {h0 h h' : zH} {r r' r2 : Nat → Value} {A A' : Nat → Nat → Int32} {Q Q' : Nat → zS3} {X : zX} {a b k p q i dp dq : Nat} {e : Nat × Nat} {cs c1 : List Nat} {S : zR}
theorem CX.cv (T : CX X h0 r) (u : CV r r') : CX X h0 r' := by
  obtain ⟨t1, t2, t3⟩ := T
  exact ⟨by rw [u 10 (by decide) (by decide) (by decide) (by decide) (by decide) (by decide) (by decide)]; exact t1, by rw [u 11 (by decide) (by decide) (by decide) (by decide) (by decide) (by decide) (by decide)]; exact t2, t3⟩
theorem CO.dx (O : CO X h0 r A Q i dp p cs) : DX Q i := ⟨cs.length, by have := O.2.2.2.2.2; have := tkA_le O.2.1.2.1; have := O.1.2.2.1; omega, O.2.2.2.2.1.1⟩
theorem PCa.rf (R : RW h0 h r A Q) (O : CO X h0 r A Q i dp p cs) : PCa X h0 h r A Q i dp p (cs ++ []) r A Q := ⟨R, CV.rf, CA.rf, by rw [List.append_nil]; exact O⟩
theorem PCa.tn (a : PCa X h0 h r A Q i dp p (cs ++ c1) r' A' Q') (R : PC X h0 h' r' A' Q' i dq (cs ++ c1) S) : PC X h0 h' r A Q i dq cs (apR c1 S) := by
  obtain ⟨a1, a2, a3, a4⟩ := a
  cases S with
  | inl e =>
    obtain ⟨r2, A2, Q2, b1, b2, b3, b4⟩ := R
    exact ⟨r2, A2, Q2, b1, a2.tr b2, a3.tr b3, b4⟩
  | inr q =>
    obtain ⟨r2, A2, Q2, b1, b2, b3, b4⟩ := R
    refine ⟨r2, A2, Q2, b1, a2.tr b2, a3.tr b3, ?_⟩
    show CO X h0 r2 A2 Q2 i dq q.1 (cs ++ (c1 ++ q.2))
    rw [← List.append_assoc]
    exact b4
/-- depth alone is another -/
theorem PCa.dep {v : Nat} (a : PCa X h0 h r A Q i dp p cs r' A' Q') (R : RW h0 h' (va_up r' 16 (.int (nI v))) A' Q') : PCa X h0 h' r A Q i v p cs (va_up r' 16 (.int (nI v))) A' Q' := by
  obtain ⟨a1, a2, a3, ⟨o1, o2, o3, o4, o5⟩⟩ := a
  exact ⟨R, a2.d16, a3, o1.cv CV.rf.d16, o2, rfl, o4, o5⟩
theorem PCe.dep {v : Int32} (a : PCe h0 h r A Q i e r' A' Q') (R : RW h0 h' (va_up r' 16 (.int v)) A' Q') : PCe h0 h' r A Q i e (va_up r' 16 (.int v)) A' Q' := by
  obtain ⟨a1, a2, a3, ⟨o1, o2, o3⟩⟩ := a
  exact ⟨R, a2.d16, a3, o1, ⟨v, rfl⟩, o3⟩
theorem AD.pc (O : CO X h0 r A Q i dp p cs) (hq : tkA X p ≤ tkA X q) (D : AD X h0 h' r A Q q) : PC X h0 h' r A Q i dp cs (nR X (.inr (q, []))) := by
  obtain ⟨r', R', U, z⟩ := D
  have o16 : r' 16 = .int (nI dp) := by rw [U 16 (by decide) (by decide) (by decide) (by decide) (by decide) (by decide)]; exact O.2.2.1
  have o17 : r' 17 = .ref i := by rw [U 17 (by decide) (by decide) (by decide) (by decide) (by decide) (by decide)]; exact O.2.2.2.1
  by_cases y : tkK X q = 25
  · rw [if_pos y] at z
    rw [nR_b y]
    exact ⟨r', A, Q, R', U.cv, CA.rf, z, ⟨_, o16⟩, o17, O.dx⟩
  · rw [if_neg y] at z
    rw [nR_r y]
    exact ⟨r', A, Q, R', U.cv, CA.rf, O.1.cu U, z, o16, o17, by rw [List.append_nil]; exact O.2.2.2.2.1, by rw [List.append_nil]; exact Nat.le_trans O.2.2.2.2.2 hq⟩
theorem o_adv (R : RW h0 h r A Q) (O : CO X h0 r A Q i dp p cs) : Zm g (d + 5) 0 0 mX4_advance [.ref 2] h (rVp (fun h' => PC X h0 h' r A Q i dp cs (nR X (.inr (tkB X p, []))))) := by
  have l := tk_le O.2.1.2.1
  have l2 := (tk_le l.2.2.1).1
  exact (c_adv R O.1 O.2.1.1 O.2.1.2.2.1 l.2.2.1).mono (fun v h' q => ⟨q.1, AD.pc O (by omega) q.2⟩)
theorem o_fail {fa : Nat} (h1 : 0 < fa) (h5 : fa < 5) (R : RW h0 h r A Q) (O : CO X h0 r A Q i dp p cs) : Zm g d 0 0 mX4_fail [.ref 2, .int (nI fa)] h (rVp (fun h' => PC X h0 h' r A Q i dp cs (.inl (fa, tkA X p)))) := by
  refine (c_fail h1 h5 R O.2.1.1 O.2.1.2.2.2.2.1).mono (fun v h' q => ⟨q.1, ?_⟩)
  obtain ⟨-, r', R', U, E⟩ := q
  exact ⟨r', A, Q, R', U.cv, CA.rf, E, ⟨_, by rw [U 16 (by decide) (by decide) (by decide) (by decide) (by decide) (by decide)]; exact O.2.2.1⟩, by rw [U 17 (by decide) (by decide) (by decide) (by decide) (by decide) (by decide)]; exact O.2.2.2.1, O.dx⟩
theorem o_expect {k : Nat} (hk : k < 42) (hd : kdom k = true) (h25 : k ≠ 25) (R : RW h0 h r A Q) (O : CO X h0 r A Q i dp p cs) : Zm g (d + 6) 0 0 mX4_expect [.ref 2, .int (nI (tok k))] h (rVp (fun h' => PC X h0 h' r A Q i dp cs (nR X (waR X k p)))) := by
  have e13 := O.2.1.2.2.2.1
  have t1 := tok_lt _ (tkK_dom (X := X) (p := p)).2
  have t2 := tok_lt k hk
  show Zw g (d + 6) 0 0 mX4_expect 0 [some (.ref 2), some (.int (nI (tok k)))] [] h _
  refine x_al0 rfl dX4_expect_0 ?_
  refine x_rg R fdX4_57 (by decide) (by first | assumption | rfl) dX4_expect_1 ?_
  refine x_il1 dX4_expect_4 ?_
  refine x_icmp_ne (tgt := 15) dX4_expect_5 rfl (fun q5 => ?_) (fun q5 => ?_)
  · skip
    first | (simp only [cmp_lt, cmp_gt, cmp_eq, zN_cge, zN_cle, Decidable.not_not] at q5) | (simp (disch := omega) only [zN_le, zN_lt, zN_0, zN_1, nI_toInt, zN_eq, zN_eq0, b2_z, b2_nz, Decidable.not_not, Int.not_lt, Int.not_le, zK0, zK1, zK2, zK3, zK5, zK7, zK8, zK9, zK10, zK19, zK20, zK40, zK99, zK100, zK199] at q5) | skip
    refine x_al0 rfl dX4_expect_15 ?_
    refine x_iconst (v := nI 2) dX4_expect_16 rfl ?_
    refine x_cv1Vp mX4_fail_ok lkX4_98 rfl (Nat.le_of_ble_eq_true rfl) (Nat.le_of_ble_eq_true rfl) dX4_expect_17 R.get  (o_fail (fa := 2) (by decide) (by decide) R O) (fun h hq => ?_)
    exact x_vret rfl dX4_expect_20 ⟨rfl, by unfold waR erR; rw [if_neg (fun z => q5 ((tok_e hk hd).mpr z)), erK_2 O.2.1.2.2.2.2.2.2]; exact hq⟩
  · skip
    first | (simp only [cmp_lt, cmp_gt, cmp_eq, zN_cge, zN_cle, Decidable.not_not] at q5) | (simp (disch := omega) only [zN_le, zN_lt, zN_0, zN_1, nI_toInt, zN_eq, zN_eq0, b2_z, b2_nz, Decidable.not_not, Int.not_lt, Int.not_le, zK0, zK1, zK2, zK3, zK5, zK7, zK8, zK9, zK10, zK19, zK20, zK40, zK99, zK100, zK199] at q5) | skip
    refine x_al0 rfl dX4_expect_8 ?_
    refine x_cv0Vp mX4_advance_ok lkX4_81 rfl (Nat.le_of_ble_eq_true rfl) (Nat.le_of_ble_eq_true rfl) dX4_expect_9 R.get  (o_adv R O) (fun h hq => ?_)
    refine x_goto (tgt := 20) dX4_expect_12 rfl ?_
    exact x_vret rfl dX4_expect_20 ⟨rfl, by unfold waR; rw [if_pos ((tok_e hk hd).mp q5)]; exact hq⟩
theorem e_expect {k : Nat} (hk : k < 42) (hd : kdom k = true) (h25 : k ≠ 25) (R : RW h0 h r A Q) (E : CEr r Q i e) : Zm g (d + 1) 0 0 mX4_expect [.ref 2, .int (nI (tok k))] h (rV h) := by
  have e13 := E.1.2.2.1
  have t2 := tok_lt k hk
  show Zw g (d + 1) 0 0 mX4_expect 0 [some (.ref 2), some (.int (nI (tok k)))] [] h _
  refine x_al0 rfl dX4_expect_0 ?_
  refine x_rg R fdX4_57 (by decide) (by first | assumption | rfl) dX4_expect_1 ?_
  refine x_il1 dX4_expect_4 ?_
  refine x_icmp_ne (tgt := 15) dX4_expect_5 rfl (fun q5 => ?_) (fun q5 => ?_)
  · skip
    first | (simp only [cmp_lt, cmp_gt, cmp_eq, zN_cge, zN_cle, Decidable.not_not] at q5) | (simp (disch := omega) only [zN_le, zN_lt, zN_0, zN_1, nI_toInt, zN_eq, zN_eq0, b2_z, b2_nz, Decidable.not_not, Int.not_lt, Int.not_le, zK0, zK1, zK2, zK3, zK5, zK7, zK8, zK9, zK10, zK19, zK20, zK40, zK99, zK100, zK199] at q5) | skip
    refine x_al0 rfl dX4_expect_15 ?_
    refine x_iconst (v := nI 2) dX4_expect_16 rfl ?_
    refine x_cv1V mX4_fail_ok lkX4_98 rfl (Nat.le_of_ble_eq_true rfl) (Nat.le_of_ble_eq_true rfl) dX4_expect_17 R.get  (e_fail R E.1) ?_
    exact x_vret rfl dX4_expect_20 ⟨rfl, rfl⟩
  · skip
    first | (simp only [cmp_lt, cmp_gt, cmp_eq, zN_cge, zN_cle, Decidable.not_not] at q5) | (simp (disch := omega) only [zN_le, zN_lt, zN_0, zN_1, nI_toInt, zN_eq, zN_eq0, b2_z, b2_nz, Decidable.not_not, Int.not_lt, Int.not_le, zK0, zK1, zK2, zK3, zK5, zK7, zK8, zK9, zK10, zK19, zK20, zK40, zK99, zK100, zK199] at q5) | skip
    exact absurd (tok_i 25 (by decide) k hk (by decide) hd q5).symm h25
/-- what a number read leaves -/
def TC (X : zX) (h0 h : zH) (r : Nat → Value) (A : Nat → Nat → Int32) (Q : Nat → zS3) (i dp : Nat) (cs : List Nat) (lo : Nat) (x : Int32) (S : Sum (Nat × Nat) (Nat × Nat)) : Prop := match S with
  | .inl e => x = nI lo ∧ ∃ r' A' Q', PCe h0 h r A Q i e r' A' Q'
  | .inr q => x = nI q.2 ∧ PC X h0 h r A Q i dp cs (nR X (.inr (q.1, [])))
theorem o_number {lo hi : Nat} (h2 : lo < 1000) (h3 : hi < 1000) (R : RW h0 h r A Q) (O : CO X h0 r A Q i dp p cs) : Zm g (d + 6) 0 0 mX4_number [.ref 2, .int (nI lo), .int (nI hi)] h (rIp (fun x h' => TC X h0 h' r A Q i dp cs lo x (fNm X lo hi p))) := by
  have e13 := O.2.1.2.2.2.1
  have t1 := tok_lt _ (tkK_dom (X := X) (p := p)).2
  have vl := tkV_lt (X := X) (p := p)
  have k23 : tok (tkK X p) = 1 ↔ tkK X p = 23 := tok_e (k := 23) (by decide) (by decide)
  show Zw g (d + 6) 0 0 mX4_number 0 [some (.ref 2), some (.int (nI lo)), some (.int (nI hi)), none] [] h _
  refine x_al0 rfl dX4_number_0 ?_
  refine x_rg R fdX4_57 (by decide) (by first | assumption | rfl) dX4_number_1 ?_
  refine x_iconst (v := nI 1) dX4_number_4 rfl ?_
  refine x_icmp_eq (tgt := 15) dX4_number_5 rfl (fun q5 => ?_) (fun q5 => ?_)
  · skip
    first | (simp only [cmp_lt, cmp_gt, cmp_eq, zN_cge, zN_cle, Decidable.not_not] at q5) | (simp (disch := omega) only [zN_le, zN_lt, zN_0, zN_1, nI_toInt, zN_eq, zN_eq0, b2_z, b2_nz, Decidable.not_not, Int.not_lt, Int.not_le, zK0, zK1, zK2, zK3, zK5, zK7, zK8, zK9, zK10, zK19, zK20, zK40, zK99, zK100, zK199] at q5) | skip
    refine x_al0 rfl dX4_number_15 ?_
    refine x_rg R fdX4_63 (by decide) (O.2.1.2.2.2.2.2.1 (k23.mp q5)) dX4_number_16 ?_
    refine x_is3 rfl dX4_number_19 ?_
    refine x_il3 dX4_number_20 ?_
    refine x_il1 dX4_number_21 ?_
    refine x_icmp_lt (tgt := 30) dX4_number_22 rfl (fun q22 => ?_) (fun q22 => ?_)
    · skip
      first | (simp only [cmp_lt, cmp_gt, cmp_eq, zN_cge, zN_cle, Decidable.not_not] at q22) | (simp (disch := omega) only [zN_le, zN_lt, zN_0, zN_1, nI_toInt, zN_eq, zN_eq0, b2_z, b2_nz, Decidable.not_not, Int.not_lt, Int.not_le, zK0, zK1, zK2, zK3, zK5, zK7, zK8, zK9, zK10, zK19, zK20, zK40, zK99, zK100, zK199] at q22) | skip
      refine x_al0 rfl dX4_number_30 ?_
      refine x_iconst (v := nI 3) dX4_number_31 rfl ?_
      refine x_cv1Vp mX4_fail_ok lkX4_98 rfl (Nat.le_of_ble_eq_true rfl) (Nat.le_of_ble_eq_true rfl) dX4_number_32 R.get  (o_fail (fa := 3) (by decide) (by decide) R O) (fun h hq => ?_)
      refine x_il1 dX4_number_35 ?_
      exact x_iret rfl rfl dX4_number_36 ⟨_, rfl, by rw [show fNm X lo hi p = .inl (3, tkA X p) by unfold fNm; rw [if_neg (fun z => z (k23.mp q5)), if_pos (by omega)]]; exact ⟨rfl, hq⟩⟩
    · skip
      first | (simp only [cmp_lt, cmp_gt, cmp_eq, zN_cge, zN_cle, Decidable.not_not] at q22) | (simp (disch := omega) only [zN_le, zN_lt, zN_0, zN_1, nI_toInt, zN_eq, zN_eq0, b2_z, b2_nz, Decidable.not_not, Int.not_lt, Int.not_le, zK0, zK1, zK2, zK3, zK5, zK7, zK8, zK9, zK10, zK19, zK20, zK40, zK99, zK100, zK199] at q22) | skip
      refine x_il3 dX4_number_25 ?_
      refine x_il2 dX4_number_26 ?_
      refine x_icmp_le (tgt := 37) dX4_number_27 rfl (fun q27 => ?_) (fun q27 => ?_)
      · skip
        first | (simp only [cmp_lt, cmp_gt, cmp_eq, zN_cge, zN_cle, Decidable.not_not] at q27) | (simp (disch := omega) only [zN_le, zN_lt, zN_0, zN_1, nI_toInt, zN_eq, zN_eq0, b2_z, b2_nz, Decidable.not_not, Int.not_lt, Int.not_le, zK0, zK1, zK2, zK3, zK5, zK7, zK8, zK9, zK10, zK19, zK20, zK40, zK99, zK100, zK199] at q27) | skip
        refine x_al0 rfl dX4_number_37 ?_
        refine x_cv0Vp mX4_advance_ok lkX4_81 rfl (Nat.le_of_ble_eq_true rfl) (Nat.le_of_ble_eq_true rfl) dX4_number_38 R.get  (o_adv R O) (fun h hq => ?_)
        refine x_il3 dX4_number_41 ?_
        exact x_iret rfl rfl dX4_number_42 ⟨_, rfl, by rw [show fNm X lo hi p = .inr (tkB X p, tkV X p) by unfold fNm; rw [if_neg (fun z => z (k23.mp q5)), if_neg (by omega)]]; exact ⟨rfl, hq⟩⟩
      · skip
        first | (simp only [cmp_lt, cmp_gt, cmp_eq, zN_cge, zN_cle, Decidable.not_not] at q27) | (simp (disch := omega) only [zN_le, zN_lt, zN_0, zN_1, nI_toInt, zN_eq, zN_eq0, b2_z, b2_nz, Decidable.not_not, Int.not_lt, Int.not_le, zK0, zK1, zK2, zK3, zK5, zK7, zK8, zK9, zK10, zK19, zK20, zK40, zK99, zK100, zK199] at q27) | skip
        refine x_al0 rfl dX4_number_30 ?_
        refine x_iconst (v := nI 3) dX4_number_31 rfl ?_
        refine x_cv1Vp mX4_fail_ok lkX4_98 rfl (Nat.le_of_ble_eq_true rfl) (Nat.le_of_ble_eq_true rfl) dX4_number_32 R.get  (o_fail (fa := 3) (by decide) (by decide) R O) (fun h hq => ?_)
        refine x_il1 dX4_number_35 ?_
        exact x_iret rfl rfl dX4_number_36 ⟨_, rfl, by rw [show fNm X lo hi p = .inl (3, tkA X p) by unfold fNm; rw [if_neg (fun z => z (k23.mp q5)), if_pos (by omega)]]; exact ⟨rfl, hq⟩⟩
  · skip
    first | (simp only [cmp_lt, cmp_gt, cmp_eq, zN_cge, zN_cle, Decidable.not_not] at q5) | (simp (disch := omega) only [zN_le, zN_lt, zN_0, zN_1, nI_toInt, zN_eq, zN_eq0, b2_z, b2_nz, Decidable.not_not, Int.not_lt, Int.not_le, zK0, zK1, zK2, zK3, zK5, zK7, zK8, zK9, zK10, zK19, zK20, zK40, zK99, zK100, zK199] at q5) | skip
    refine x_al0 rfl dX4_number_8 ?_
    refine x_iconst (v := nI 2) dX4_number_9 rfl ?_
    refine x_cv1Vp mX4_fail_ok lkX4_98 rfl (Nat.le_of_ble_eq_true rfl) (Nat.le_of_ble_eq_true rfl) dX4_number_10 R.get  (o_fail (fa := 2) (by decide) (by decide) R O) (fun h hq => ?_)
    refine x_il1 dX4_number_13 ?_
    exact x_iret rfl rfl dX4_number_14 ⟨_, rfl, by rw [show fNm X lo hi p = .inl (2, tkA X p) by unfold fNm; rw [if_pos (fun z => q5 (k23.mpr z)), erK_2 O.2.1.2.2.2.2.2.2]]; exact ⟨rfl, hq⟩⟩
theorem e_number {lo hi : Int32} (R : RW h0 h r A Q) (E : CKe r e) : Zm g (d + 1) 0 0 mX4_number [.ref 2, .int lo, .int hi] h (rI lo h) := by
  have e13 := E.2.2.1
  show Zw g (d + 1) 0 0 mX4_number 0 [some (.ref 2), some (.int lo), some (.int hi), none] [] h _
  refine x_al0 rfl dX4_number_0 ?_
  refine x_rg R fdX4_57 (by decide) (by first | assumption | rfl) dX4_number_1 ?_
  refine x_iconst (v := nI 1) dX4_number_4 rfl ?_
  refine x_icmp_eq (tgt := 15) dX4_number_5 rfl (fun q5 => ?_) (fun q5 => ?_)
  · skip
    first | (simp only [cmp_lt, cmp_gt, cmp_eq, zN_cge, zN_cle, Decidable.not_not] at q5) | (simp (disch := omega) only [zN_le, zN_lt, zN_0, zN_1, nI_toInt, zN_eq, zN_eq0, b2_z, b2_nz, Decidable.not_not, Int.not_lt, Int.not_le, zK0, zK1, zK2, zK3, zK5, zK7, zK8, zK9, zK10, zK19, zK20, zK40, zK99, zK100, zK199] at q5) | skip
    exact absurd q5 (by decide)
  · skip
    first | (simp only [cmp_lt, cmp_gt, cmp_eq, zN_cge, zN_cle, Decidable.not_not] at q5) | (simp (disch := omega) only [zN_le, zN_lt, zN_0, zN_1, nI_toInt, zN_eq, zN_eq0, b2_z, b2_nz, Decidable.not_not, Int.not_lt, Int.not_le, zK0, zK1, zK2, zK3, zK5, zK7, zK8, zK9, zK10, zK19, zK20, zK40, zK99, zK100, zK199] at q5) | skip
    refine x_al0 rfl dX4_number_8 ?_
    refine x_iconst (v := nI 2) dX4_number_9 rfl ?_
    refine x_cv1V mX4_fail_ok lkX4_98 rfl (Nat.le_of_ble_eq_true rfl) (Nat.le_of_ble_eq_true rfl) dX4_number_10 R.get  (e_fail R E) ?_
    refine x_il1 dX4_number_13 ?_
    exact x_iret rfl rfl dX4_number_14 ⟨rfl, rfl⟩
theorem o_enter0 (R : RW h0 h r A Q) (O : CO X h0 r A Q i 6 p cs) : Zm g (d + 1) 0 0 mX4_enter [.ref 2] h (rVp (fun h' => PC X h0 h' r A Q i dp cs (.inl (4, tkA X p)))) := by
  have e16 := O.2.2.1
  have O2 : CO X h0 (va_up r 16 (.int (nI 7))) A Q i 7 p cs := ⟨O.1.cv CV.rf.d16, O.2.1, rfl, O.2.2.2⟩
  show Zw g (d + 1) 0 0 mX4_enter 0 [some (.ref 2)] [] h _
  refine x_al0 rfl dX4_enter_0 ?_
  refine x_dup rfl dX4_enter_1 ?_
  refine x_rg R fdX4_66 (by decide) (by first | assumption | rfl) dX4_enter_2 ?_
  refine x_iconst (v := nI 1) dX4_enter_5 rfl ?_
  first | refine x_iadd (nI_add _ _) dX4_enter_6 ?_ | refine x_iadd rfl dX4_enter_6 ?_
  refine x_rp R fdX4_66 (by decide) (by decide) (by first | exact fun _ => ⟨_, rfl⟩ | exact fun z => absurd z (by decide)) zf_i dX4_enter_7 (fun h R => ?_)
  refine x_al0 rfl dX4_enter_10 ?_
  refine x_rg R fdX4_66 (by decide) (by first | assumption | rfl) dX4_enter_11 ?_
  refine x_bipush (v := nI 6) dX4_enter_14 rfl ?_
  refine x_icmp_le (tgt := 24) dX4_enter_16 rfl (fun q16 => ?_) (fun q16 => ?_)
  · skip
    first | (simp only [cmp_lt, cmp_gt, cmp_eq, zN_cge, zN_cle, Decidable.not_not] at q16) | (simp (disch := omega) only [zN_le, zN_lt, zN_0, zN_1, nI_toInt, zN_eq, zN_eq0, b2_z, b2_nz, Decidable.not_not, Int.not_lt, Int.not_le, zK0, zK1, zK2, zK3, zK5, zK7, zK8, zK9, zK10, zK19, zK20, zK40, zK99, zK100, zK199] at q16) | skip
    exact absurd q16 (by decide)
  · skip
    first | (simp only [cmp_lt, cmp_gt, cmp_eq, zN_cge, zN_cle, Decidable.not_not] at q16) | (simp (disch := omega) only [zN_le, zN_lt, zN_0, zN_1, nI_toInt, zN_eq, zN_eq0, b2_z, b2_nz, Decidable.not_not, Int.not_lt, Int.not_le, zK0, zK1, zK2, zK3, zK5, zK7, zK8, zK9, zK10, zK19, zK20, zK40, zK99, zK100, zK199] at q16) | skip
    refine x_al0 rfl dX4_enter_19 ?_
    refine x_iconst (v := nI 4) dX4_enter_20 rfl ?_
    refine x_cv1Vp mX4_fail_ok lkX4_98 rfl (Nat.le_of_ble_eq_true rfl) (Nat.le_of_ble_eq_true rfl) dX4_enter_21 R.get  (o_fail (dp := 7) (fa := 4) (by decide) (by decide) R O2) (fun h hq => ?_)
    obtain ⟨r3, A3, Q3, R3, U3, C3, E3⟩ := hq
    refine x_al0 rfl dX4_enter_24 ?_
    refine x_cv0V mX4_advance_ok lkX4_81 rfl (Nat.le_of_ble_eq_true rfl) (Nat.le_of_ble_eq_true rfl) dX4_enter_25 R3.get  (e_adv R3 E3.1) ?_
    exact x_vret rfl dX4_enter_28 ⟨rfl, r3, A3, Q3, R3, CV.rf.d16.tr U3, C3, E3⟩
theorem o_enter1 (hdp : dp < 6) (R : RW h0 h r A Q) (O : CO X h0 r A Q i dp p cs) : Zm g (d + 6) 0 0 mX4_enter [.ref 2] h (rVp (fun h' => PC X h0 h' r A Q i (dp + 1) cs (nR X (.inr (tkB X p, []))))) := by
  have e16 := O.2.2.1
  have O2 : CO X h0 (va_up r 16 (.int (nI (dp + 1)))) A Q i (dp + 1) p cs := ⟨O.1.cv CV.rf.d16, O.2.1, rfl, O.2.2.2⟩
  show Zw g (d + 6) 0 0 mX4_enter 0 [some (.ref 2)] [] h _
  refine x_al0 rfl dX4_enter_0 ?_
  refine x_dup rfl dX4_enter_1 ?_
  refine x_rg R fdX4_66 (by decide) (by first | assumption | rfl) dX4_enter_2 ?_
  refine x_iconst (v := nI 1) dX4_enter_5 rfl ?_
  first | refine x_iadd (nI_add _ _) dX4_enter_6 ?_ | refine x_iadd rfl dX4_enter_6 ?_
  refine x_rp R fdX4_66 (by decide) (by decide) (by first | exact fun _ => ⟨_, rfl⟩ | exact fun z => absurd z (by decide)) zf_i dX4_enter_7 (fun h R => ?_)
  refine x_al0 rfl dX4_enter_10 ?_
  refine x_rg R fdX4_66 (by decide) (by first | assumption | rfl) dX4_enter_11 ?_
  refine x_bipush (v := nI 6) dX4_enter_14 rfl ?_
  refine x_icmp_le (tgt := 24) dX4_enter_16 rfl (fun q16 => ?_) (fun q16 => ?_)
  · skip
    first | (simp only [cmp_lt, cmp_gt, cmp_eq, zN_cge, zN_cle, Decidable.not_not] at q16) | (simp (disch := omega) only [zN_le, zN_lt, zN_0, zN_1, nI_toInt, zN_eq, zN_eq0, b2_z, b2_nz, Decidable.not_not, Int.not_lt, Int.not_le, zK0, zK1, zK2, zK3, zK5, zK7, zK8, zK9, zK10, zK19, zK20, zK40, zK99, zK100, zK199] at q16) | skip
    refine x_al0 rfl dX4_enter_24 ?_
    refine x_cv0Vp mX4_advance_ok lkX4_81 rfl (Nat.le_of_ble_eq_true rfl) (Nat.le_of_ble_eq_true rfl) dX4_enter_25 R.get  (o_adv R O2) (fun h hq => ?_)
    refine x_vret rfl dX4_enter_28 ⟨rfl, ?_⟩
    have P : PCa X h0 h r A Q i (dp + 1) p (cs ++ []) (va_up r 16 (.int (nI (dp + 1)))) A Q → PC X h0 h r A Q i (dp + 1) cs (apR [] (nR X (.inr (tkB X p, [])))) := fun a => a.tn (by rw [List.append_nil]; exact hq)
    cases hS : nR X (.inr (tkB X p, [])) with
    | inl e9 => rw [hS] at hq; obtain ⟨r3, A3, Q3, R3, U3, C3, E3⟩ := hq; exact ⟨r3, A3, Q3, R3, CV.rf.d16.tr U3, C3, E3⟩
    | inr q9 => rw [hS] at hq; obtain ⟨r3, A3, Q3, R3, U3, C3, E3⟩ := hq; exact ⟨r3, A3, Q3, R3, CV.rf.d16.tr U3, C3, E3⟩
  · skip
    first | (simp only [cmp_lt, cmp_gt, cmp_eq, zN_cge, zN_cle, Decidable.not_not] at q16) | (simp (disch := omega) only [zN_le, zN_lt, zN_0, zN_1, nI_toInt, zN_eq, zN_eq0, b2_z, b2_nz, Decidable.not_not, Int.not_lt, Int.not_le, zK0, zK1, zK2, zK3, zK5, zK7, zK8, zK9, zK10, zK19, zK20, zK40, zK99, zK100, zK199] at q16) | skip
    omega
theorem o_leaf {c : Nat} (hi : i = 5 ∨ i = 7) (hK : tkK X p ≠ 24) (hc : vcd c) (R : RW h0 h r A Q) (O : CO X h0 r A Q i dp p cs) : Zm g (d + 6) 0 0 mX4_leaf [.ref 2, .int (cl c)] h (rVp (fun h' => PC X h0 h' r A Q i dp cs (nR X (.inr (tkB X p, [c]))))) := by
  have e17 := O.2.2.2.1
  have b := tkA_B O.2.1.2.1 hK
  have aX := tkA_le O.2.1.2.1
  have aX2 := tkA_le b.2
  have X9 := O.1.2.2.1
  have l := O.2.2.2.2.2
  show Zw g (d + 6) 0 0 mX4_leaf 0 [some (.ref 2), some (.int (cl c))] [] h _
  refine x_al0 rfl dX4_leaf_0 ?_
  refine x_rg R fdX4_69 (by decide) (by first | assumption | rfl) dX4_leaf_1 ?_
  refine x_il1 dX4_leaf_4 ?_
  refine x_cv1Vp mX1_add_ok lkX4_124 rfl (Nat.le_of_ble_eq_true rfl) (Nat.le_of_ble_eq_true rfl) dX4_leaf_5 (R.dq  hi).1 (c_addO R hi O.2.2.2.2.1 (by omega) hc) (fun h hq => ?_)
  obtain ⟨A2, Q2, R2, C2, D2⟩ := hq
  refine x_al0 rfl dX4_leaf_8 ?_
  refine x_cv0Vp mX4_advance_ok lkX4_81 rfl (Nat.le_of_ble_eq_true rfl) (Nat.le_of_ble_eq_true rfl) dX4_leaf_9 R2.get  (c_adv R2 O.1 O.2.1.1 O.2.1.2.2.1 b.2) (fun h hq => ?_)
  obtain ⟨r3, R3, U3, z3⟩ := hq
  have o16 : r3 16 = .int (nI dp) := by rw [U3 16 (by decide) (by decide) (by decide) (by decide) (by decide) (by decide)]; exact O.2.2.1
  have o17 : r3 17 = .ref i := by rw [U3 17 (by decide) (by decide) (by decide) (by decide) (by decide) (by decide)]; exact O.2.2.2.1
  by_cases y : tkK X (tkB X p) = 25
  · rw [if_pos y] at z3
    exact x_vret rfl dX4_leaf_12 ⟨rfl, by rw [nR_b y]; exact ⟨r3, A2, Q2, R3, U3.cv, C2, z3, ⟨_, o16⟩, o17, (cs ++ [c]).length, by rw [List.length_append, List.length_cons, List.length_nil]; omega, D2.1⟩⟩
  · rw [if_neg y] at z3
    exact x_vret rfl dX4_leaf_12 ⟨rfl, by rw [nR_r y]; exact ⟨r3, A2, Q2, R3, U3.cv, C2, O.1.cu U3, z3, o16, o17, D2, by show (cs ++ [c]).length ≤ tkA X (tkB X p); rw [List.length_append, List.length_cons, List.length_nil]; omega⟩⟩
def sos (k : Nat) : Int32 := if opC k = 0 then 0 else cl (opC k)
theorem o_sign (R : RW h0 h r A Q) (e13 : r 13 = .int (nI (tok k))) (hk : k < 42) (hd : kdom k = true) : Zm g d 0 0 mX4_stepOfSign [.ref 2] h (rI (sos k) h) := by
  have tl := tok_lt k hk
  have e9 : tok k = 61 ↔ k = 39 := ⟨fun z => tok_i k hk 39 (by decide) hd (by decide) z, fun z => by rw [z]; rfl⟩
  have e0 : tok k = 60 ↔ k = 40 := ⟨fun z => tok_i k hk 40 (by decide) hd (by decide) z, fun z => by rw [z]; rfl⟩
  have e1 : tok k = 62 ↔ k = 41 := ⟨fun z => tok_i k hk 41 (by decide) hd (by decide) z, fun z => by rw [z]; rfl⟩
  show Zw g d 0 0 mX4_stepOfSign 0 [some (.ref 2)] [] h _
  refine x_al0 rfl dX4_stepOfSign_0 ?_
  refine x_rg R fdX4_57 (by decide) (by first | assumption | rfl) dX4_stepOfSign_1 ?_
  by_cases z0 : k = 40
  · subst z0
    refine x_tabIn (off := 31) (tgt := 35) dX4_stepOfSign_4 (by decide) (by decide) rfl rfl ?_
    refine x_bipush (v := (-10)) dX4_stepOfSign_35 rfl ?_
    exact x_iret rfl rfl dX4_stepOfSign_37 ⟨rfl, rfl⟩
  · by_cases z9 : k = 39
    · subst z9
      refine x_tabIn (off := 28) (tgt := 32) dX4_stepOfSign_4 (by decide) (by decide) rfl rfl ?_
      refine x_bipush (v := (-9)) dX4_stepOfSign_32 rfl ?_
      exact x_iret rfl rfl dX4_stepOfSign_34 ⟨rfl, rfl⟩
    · by_cases z1 : k = 41
      · subst z1
        refine x_tabIn (off := 34) (tgt := 38) dX4_stepOfSign_4 (by decide) (by decide) rfl rfl ?_
        refine x_bipush (v := (-11)) dX4_stepOfSign_38 rfl ?_
        exact x_iret rfl rfl dX4_stepOfSign_40 ⟨rfl, rfl⟩
      · refine x_tabOut (tgt := 41) dX4_stepOfSign_4 (by rw [nI_toInt (by omega)]; omega) rfl ?_
        refine x_iconst (v := nI 0) dX4_stepOfSign_41 rfl ?_
        exact x_iret rfl rfl dX4_stepOfSign_42 ⟨by unfold sos opC; rw [if_neg z9, if_neg z0, if_neg z1]; rfl, rfl⟩
end ZCt

