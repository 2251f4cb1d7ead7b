/-! the class reads a desk's lines -/
def LC (X : zX) (h0 h : zH) (r : Nat → Value) (A : Nat → Nat → Int32) (Q : Nat → zS3) (p : Nat) (D : zDd) (li : Nat) : Prop := RW h0 h r A Q ∧ CX X h0 r ∧ CKo X r p ∧ r 16 = .int (nI 0) ∧ (r 17 = .ref 5 ∨ r 17 = .ref 7) ∧ (DR A Q 5 (D.2.2.2.2.2.1.getD []) ∧ (D.2.2.2.2.2.1.getD []).length ≤ tkA X p) ∧ (DR A Q 7 (D.2.2.2.2.2.2.getD []) ∧ (D.2.2.2.2.2.2.getD []).length ≤ tkA X p) ∧ (r 2 = .int (nI D.1) ∧ r 3 = .int (nI D.2.1) ∧ r 4 = .int (nI D.2.2.2.2.1) ∧ r 5 = .int (nI li)) ∧ (∀ i, i < 6 → A 3 i = nI (D.2.2.1 i)) ∧ ∀ i, i < 6 → A 4 i = nI (D.2.2.2.1 i)
def LE (X : zX) (h0 h : zH) (r : Nat → Value) (A : Nat → Nat → Int32) (Q : Nat → zS3) (e : Nat × Nat) : Prop := RW h0 h r A Q ∧ CKe r e ∧ r 10 = .ref 1 ∧ r 11 = .int (nI X.2) ∧ (r 17 = .ref 5 ∨ r 17 = .ref 7)
def PL (X : zX) (h0 h : zH) (D : zDd) (li : Nat) (S : zR) : Prop := match S with
  | .inl e => ∃ r A Q, LE X h0 h r A Q e
  | .inr q => ∃ r A Q, LC X h0 h r A Q q.1 D li
def nS {β : Type} (X : zX) (S : Sum (Nat × Nat) (Nat × β)) : Sum (Nat × Nat) (Nat × β) := match S with
  | .inl e => .inl e
  | .inr q => if tkK X q.1 = 25 then .inl (1, tkA X q.1) else .inr q
section ZCm
variable {g : zG} {d : Nat} {h0 h h' : zH} {r r' : Nat → Value} {A A' : Nat → Nat → Int32} {Q Q' : Nat → zS3} {X : zX} {k p p' q i li : Nat} {e : Nat × Nat} {cs : List Nat} {S : zR} {D : zDd} {β : Type}
theorem nS_e {e : Nat × Nat} : nS (β := β) X (.inl e) = .inl e := rfl
theorem nS_b {q : Nat × β} (h : tkK X q.1 = 25) : nS X (.inr q) = .inl (1, tkA X q.1) := if_pos h
theorem nS_r {q : Nat × β} (h : tkK X q.1 ≠ 25) : nS X (.inr q) = .inr q := if_neg h
/-- the draft that stands, with its codes -/
theorem LC.co (a : LC X h0 h r A Q p D li) : ∃ i cs, (i = 5 ∨ i = 7) ∧ CO X h0 r A Q i 0 p cs ∧ ((i = 5 ∧ cs = D.2.2.2.2.2.1.getD []) ∨ (i = 7 ∧ cs = D.2.2.2.2.2.2.getD [])) := by
  obtain ⟨R, T, K, e16, e17, d5, d7, -⟩ := a
  rcases e17 with z | z
  · exact ⟨5, _, Or.inl rfl, ⟨T, K, e16, z, d5.1, d5.2⟩, Or.inl ⟨rfl, rfl⟩⟩
  · exact ⟨7, _, Or.inr rfl, ⟨T, K, e16, z, d7.1, d7.2⟩, Or.inr ⟨rfl, rfl⟩⟩
theorem DR.c (a : DR A Q i cs) (hA : A' (i + 1) = A (i + 1)) (hQ : Q' i = Q i) : DR A' Q' i cs := by
  unfold DR
  rw [hA, hQ]
  exact a
theorem LC.pa (a : LC X h0 h r A Q p D li) (P : PCa X h0 h' r A Q i 0 p' cs r' A' Q') (hc : (i = 5 ∧ cs = D.2.2.2.2.2.1.getD []) ∨ (i = 7 ∧ cs = D.2.2.2.2.2.2.getD [])) (hp : tkA X p ≤ tkA X p') : LC X h0 h' r' A' Q' p' D li := by
  obtain ⟨R, T, K, e16, e17, d5, d7, ⟨f2, f3, f4, f5⟩, a3, a4⟩ := a
  obtain ⟨R', U, C, O⟩ := P
  refine ⟨R', O.1, O.2.1, O.2.2.1, ?_, ?_, ?_, ⟨?_, ?_, ?_, ?_⟩, ?_, ?_⟩
  · rcases hc with ⟨rfl, -⟩ | ⟨rfl, -⟩
    · exact Or.inl O.2.2.2.1
    · exact Or.inr O.2.2.2.1
  · rcases hc with ⟨rfl, rfl⟩ | ⟨rfl, rfl⟩
    · exact O.2.2.2.2
    · exact ⟨d5.1.c (C.1 _ (by decide)) (C.2 _ (by decide)), by omega⟩
  · rcases hc with ⟨rfl, rfl⟩ | ⟨rfl, rfl⟩
    · exact ⟨d7.1.c (C.1 _ (by decide)) (C.2 _ (by decide)), by omega⟩
    · exact O.2.2.2.2
  · rw [U 2 (by decide) (by decide) (by decide) (by decide) (by decide) (by decide) (by decide)]; exact f2
  · rw [U 3 (by decide) (by decide) (by decide) (by decide) (by decide) (by decide) (by decide)]; exact f3
  · rw [U 4 (by decide) (by decide) (by decide) (by decide) (by decide) (by decide) (by decide)]; exact f4
  · rw [U 5 (by decide) (by decide) (by decide) (by decide) (by decide) (by decide) (by decide)]; exact f5
  · rw [C.1 3 (by rcases hc with ⟨rfl, -⟩ | ⟨rfl, -⟩ <;> decide)]; exact a3
  · rw [C.1 4 (by rcases hc with ⟨rfl, -⟩ | ⟨rfl, -⟩ <;> decide)]; exact a4
theorem PCe.le (T : CX X h0 r) (hi : i = 5 ∨ i = 7) (P : PCe h0 h r A Q i e r' A' Q') : LE X h0 h r' A' Q' e := by
  obtain ⟨R', U, C, E⟩ := P
  have T' := T.cv U
  refine ⟨R', E.1, T'.1, T'.2.1, ?_⟩
  rcases hi with rfl | rfl
  · exact Or.inl E.2.2.1
  · exact Or.inr E.2.2.1
theorem LC.pl (a : LC X h0 h r A Q p D li) (hi : i = 5 ∨ i = 7) (hc : (i = 5 ∧ cs = D.2.2.2.2.2.1.getD []) ∨ (i = 7 ∧ cs = D.2.2.2.2.2.2.getD [])) (hS : ∀ q, S = .inr q → q.2 = [] ∧ tkA X p ≤ tkA X q.1) (P : PC X h0 h' r A Q i 0 cs S) : PL X h0 h' D li S := by
  cases S with
  | inl e =>
    obtain ⟨r', A', Q', P⟩ := P
    exact ⟨r', A', Q', P.le a.2.1 hi⟩
  | inr q =>
    obtain ⟨r', A', Q', P⟩ := P
    obtain ⟨z1, z2⟩ := hS q rfl
    rw [z1, List.append_nil] at P
    exact ⟨r', A', Q', a.pa P hc z2⟩
theorem nR_in {q : Nat × List Nat} {p' : Nat} (h : nR X (.inr (p', [])) = .inr q) : q.2 = [] ∧ q.1 = p' := by
  obtain ⟨rfl, -⟩ := nR_ot h
  exact ⟨rfl, rfl⟩
theorem l_adv (a : LC X h0 h r A Q p D li) : Zm g (d + 5) 0 0 mX4_advance [.ref 2] h (rVp (fun h' => PL X h0 h' D li (nR X (.inr (tkB X p, []))))) := by
  obtain ⟨i, cs, hi, O, hc⟩ := a.co
  have l := tk_le O.2.1.2.1
  have l2 := (tk_le l.2.2.1).1
  exact (o_adv a.1 O).mono (fun v h' q => ⟨q.1, a.pl hi hc (fun q z => ⟨(nR_in z).1, by rw [(nR_in z).2]; omega⟩) q.2⟩)
theorem l_fail {fa : Nat} (h1 : 0 < fa) (h5 : fa < 5) (a : LC X h0 h r A Q p D li) : Zm g d 0 0 mX4_fail [.ref 2, .int (nI fa)] h (rVp (fun h' => PL X h0 h' D li (.inl (fa, tkA X p)))) := by
  obtain ⟨i, cs, hi, O, hc⟩ := a.co
  exact (o_fail h1 h5 a.1 O).mono (fun v h' q => ⟨q.1, a.pl hi hc (fun q z => by cases z) q.2⟩)
theorem l_exp {k : Nat} (hk : k < 42) (hd : kdom k = true) (h25 : k ≠ 25) (a : LC X h0 h r A Q p D li) : Zm g (d + 6) 0 0 mX4_expect [.ref 2, .int (nI (tok k))] h (rVp (fun h' => PL X h0 h' D li (nR X (waR X k p)))) := by
  obtain ⟨i, cs, hi, O, hc⟩ := a.co
  have l := tk_le O.2.1.2.1
  have l2 := (tk_le l.2.2.1).1
  refine (o_expect hk hd h25 a.1 O).mono (fun v h' q => ⟨q.1, a.pl hi hc (fun q z => ?_) q.2⟩)
  unfold waR at z
  split at z
  · exact ⟨(nR_in z).1, by rw [(nR_in z).2]; omega⟩
  · cases z
/-- a number read at a line's level -/
def TL (X : zX) (h0 h : zH) (D : zDd) (li lo : Nat) (x : Int32) (S : Sum (Nat × Nat) (Nat × Nat)) : Prop := match S with
  | .inl e => x = nI lo ∧ ∃ r A Q, LE X h0 h r A Q e
  | .inr q => x = nI q.2 ∧ PL X h0 h D li (nR X (.inr (q.1, [])))
theorem l_num {lo hi : Nat} (h2 : lo < 1000) (h3 : hi < 1000) (a : LC X h0 h r A Q p D li) : Zm g (d + 6) 0 0 mX4_number [.ref 2, .int (nI lo), .int (nI hi)] h (rIp (fun x h' => TL X h0 h' D li lo x (fNm X lo hi p))) := by
  obtain ⟨i, cs, hi', O, hc⟩ := a.co
  refine (o_number h2 h3 a.1 O).mono (fun v h' q => ?_)
  obtain ⟨x, rfl, q⟩ := q
  refine ⟨x, rfl, ?_⟩
  cases z : fNm X lo hi p with
  | inl e =>
    rw [z] at q
    obtain ⟨qx, r', A', Q', P⟩ := q
    exact ⟨qx, r', A', Q', P.le a.2.1 hi'⟩
  | inr q1 =>
    rw [z] at q
    have o := fNm_o O.2.1.2.1 z
    exact ⟨q.1, a.pl hi' hc (fun q y => ⟨(nR_in y).1, by rw [(nR_in y).2]; omega⟩) q.2⟩
theorem LE.exp {k : Nat} (hk : k < 42) (hd : kdom k = true) (h25 : k ≠ 25) (a : LE X h0 h r A Q e) : Zm g (d + 1) 0 0 mX4_expect [.ref 2, .int (nI (tok k))] h (rV h) := by
  have R := a.1
  have e13 := a.2.1.2.2.1
  have t2 := tok_lt k hk
  show Zw g (d + 1) 0 0 mX4_expect 0 [some (.ref 2), some (.int (nI (tok k)))] [] h _
  refine x_al0 rfl dX4_expect_0 ?_
  refine x_rg R fdX4_57 (by decide) (by first | assumption | rfl) dX4_expect_1 ?_
  refine x_il1 dX4_expect_4 ?_
  refine x_icmp_ne (tgt := 15) dX4_expect_5 rfl (fun q5 => ?_) (fun q5 => ?_)
  · skip
    first | (simp only [cmp_lt, cmp_gt, cmp_eq, zN_cge, zN_cle, Decidable.not_not] at q5) | (simp (disch := omega) only [zN_le, zN_lt, zN_0, zN_1, nI_toInt, zN_eq, zN_eq0, b2_z, b2_nz, Decidable.not_not, Int.not_lt, Int.not_le, zK0, zK1, zK2, zK3, zK5, zK7, zK8, zK9, zK10, zK19, zK20, zK40, zK99, zK100, zK199] at q5) | skip
    refine x_al0 rfl dX4_expect_15 ?_
    refine x_iconst (v := nI 2) dX4_expect_16 rfl ?_
    refine x_cv1V mX4_fail_ok lkX4_98 rfl (Nat.le_of_ble_eq_true rfl) (Nat.le_of_ble_eq_true rfl) dX4_expect_17 R.get  (e_fail R a.2.1) ?_
    exact x_vret rfl dX4_expect_20 ⟨rfl, rfl⟩
  · skip
    first | (simp only [cmp_lt, cmp_gt, cmp_eq, zN_cge, zN_cle, Decidable.not_not] at q5) | (simp (disch := omega) only [zN_le, zN_lt, zN_0, zN_1, nI_toInt, zN_eq, zN_eq0, b2_z, b2_nz, Decidable.not_not, Int.not_lt, Int.not_le, zK0, zK1, zK2, zK3, zK5, zK7, zK8, zK9, zK10, zK19, zK20, zK40, zK99, zK100, zK199] at q5) | skip
    exact absurd (tok_i 25 (by decide) k hk (by decide) hd q5).symm h25
def fD2 (X : zX) (n p : Nat) : Sum (Nat × Nat) (Nat × Nat × Nat) := match fNm X 0 (n - 1) p with
  | .inl e => .inl e
  | .inr q => match fNm X 0 (n - 1) q.1 with
    | .inl e => .inl e
    | .inr q2 => .inr (q2.1, q.2, q2.2)
theorem fD2_e : fDr X k p = fD2 X k (tkB X p) := rfl
/-- storing into names or goes after a fault -/
theorem LE.t3 {x y : Int32} {j : Nat} {Y : Option Value → zH → Prop} (hj : j = 3 ∨ j = 4) (hx : 0 ≤ x.toInt) (a : LE X h0 h r A Q e) (hY : ∀ h r A Q, LE X h0 h r A Q e → Y none h) : Zw g d 0 0 mX4_tell 24 [some (.ref 2), some (.ref j), some (.int x), some (.int y)] [] h Y := by
  have R := a.1
  have hA : ∃ f, h[j]? = some (inA 6 f) := by
    rcases hj with rfl | rfl
    · exact ⟨_, R.2.2.1⟩
    · exact ⟨_, R.2.2.2.1⟩
  obtain ⟨f, hA⟩ := hA
  refine x_il2 dX4_tell_24 ?_
  refine x_al1 rfl dX4_tell_25 ?_
  refine x_alen rfl hA rfl dX4_tell_26 ?_
  rw [show Int32.ofNat 6 = nI 6 from rfl]
  refine x_icmp_ge (tgt := 34) dX4_tell_27 rfl (fun q27 => ?_) (fun q27 => ?_)
  · skip
    exact x_vret rfl dX4_tell_34 (hY _ _ _ _ a)
  · skip
    refine x_al1 rfl dX4_tell_30 ?_
    refine x_il2 dX4_tell_31 ?_
    refine x_il3 dX4_tell_32 ?_
    have xl : x.toInt < 6 := by
      rw [Int32.le_iff_toInt_le, show (nI 6).toInt = 6 from rfl] at q27
      omega
    obtain ⟨k1, k2⟩ := oneOf_n (x := x) (n := 6) ⟨hx, xl⟩
    rw [k2]
    refine x_iast hA (vp_in_nI k1 (by decide)) dX4_tell_33 ?_
    have a2 : ∃ A2, LE X h0 (h.set j (inA 6 (upd f (nI (tn x)).toNatClampNeg y))) r A2 Q e := by
      rcases hj with rfl | rfl
      · exact ⟨_, R.s3, a.2⟩
      · exact ⟨_, R.s4, a.2⟩
    obtain ⟨A2, a2⟩ := a2
    exact x_vret rfl dX4_tell_34 (hY _ _ _ _ a2)
end ZCm

