/-! the model while it reads: its state by a place and codes, or a fault -/
def apR (c : List Nat) (r : zR) : zR := match r with
  | .inl e => .inl e
  | .inr q => .inr (q.1, c ++ q.2)
def PW (s s' : Nat → Value) (M M' : Nat → Nat → Int32) : Prop := (∀ k, k ≠ 6 → k ≠ 7 → k ≠ 9 → k ≠ 10 → k ≠ 11 → k ≠ 12 → s' k = s k) ∧ ∀ i, i ≠ 63 → M' i = M i
def FR (F : Nat → Int32) (base : Nat) (cs : List Nat) (f : Nat → Int32) : Prop := f 55 = nI (base + cs.length) ∧ (∀ j c, cs[j]? = some c → f (56 + base + j) = nI c) ∧ ∀ k, k ≠ 55 → k < 56 + base → f k = F k
def PO (X : zX) (s : Nat → Value) (M : Nat → Nat → Int32) (p base : Nat) : Prop := TX X s M ∧ TKm X s p ∧ s 11 = .int 0 ∧ M 63 55 = nI base ∧ base ≤ tkA X p
def PE (s : Nat → Value) (e : Nat × Nat) : Prop := s 11 = .int (nI e.1) ∧ (s 12 = .int (nI e.2) ∧ ∃ nu, s 10 = .int nu) ∧ 0 < e.1 ∧ e.1 < 5
def PA (X : zX) (h0 h : zH) (s : Nat → Value) (M : Nat → Nat → Int32) (L : Nat → Nat → Int64) (base p : Nat) (cs : List Nat) (s' : Nat → Value) (M' : Nat → Nat → Int32) : Prop := MW h0 h s' M' L ∧ PW s s' M M' ∧ PO X s' M' p (base + cs.length) ∧ FR (M 63) base cs (M' 63)
def PR (X : zX) (h0 h : zH) (s : Nat → Value) (M : Nat → Nat → Int32) (L : Nat → Nat → Int64) (base : Nat) (r : zR) : Prop := match r with
  | .inl e => ∃ s' M', MW h0 h s' M' L ∧ PW s s' M M' ∧ PE s' e
  | .inr q => ∃ s' M', PA X h0 h s M L base q.1 q.2 s' M'
theorem apR_sq {c : List Nat} {r : zR} {f : Nat → zR} : apR c (sqR r f) = sqR (apR c r) f := by
  cases r with
  | inl e => rfl
  | inr q =>
    simp only [sqR, apR]
    cases f q.1 with
    | inl e => rfl
    | inr q2 => simp only [List.append_assoc]
theorem sqR_ap {p : Nat} {c : List Nat} {f : Nat → zR} : sqR (.inr (p, c)) f = apR c (f p) := by
  rw [sqR_r]
  cases f p <;> rfl
theorem apR_ap {c c' : List Nat} {r : zR} : apR c (apR c' r) = apR (c ++ c') r := by
  cases r with
  | inl e => rfl
  | inr q => simp only [apR, List.append_assoc]
section ZRd
variable {g : zG} {d : Nat} {h0 h h' : zH} {s s' s2 : Nat → Value} {M M' M2 : Nat → Nat → Int32} {L : Nat → Nat → Int64} {X : zX} {p p' base : Nat} {cs : List Nat} {r : zR} {e : Nat × Nat}
theorem PW.rf : PW s s M M := ⟨fun _ _ _ _ _ _ _ => rfl, fun _ _ => rfl⟩
theorem PW.tr (a : PW s s' M M') (b : PW s' s2 M' M2) : PW s s2 M M2 := ⟨fun k h1 h2 h3 h4 h5 h6 => (b.1 k h1 h2 h3 h4 h5 h6).trans (a.1 k h1 h2 h3 h4 h5 h6), fun i hi => (b.2 i hi).trans (a.2 i hi)⟩
theorem PU.pw (a : PU s s') : PW s s' M M := ⟨fun k h1 h2 h3 h4 _ _ => a k h1 h2 h3 h4, fun _ _ => rfl⟩
theorem FR.rf {F : Nat → Int32} (hb : F 55 = nI base) : FR F base [] F := ⟨hb, fun j c hj => by simp at hj, fun _ _ _ => rfl⟩
theorem FR.tr {F f f' : Nat → Int32} {cs' : List Nat} (a : FR F base cs f) (b : FR f (base + cs.length) cs' f') : FR F base (cs ++ cs') f' := by
  obtain ⟨a1, a2, a3⟩ := a
  obtain ⟨b1, b2, b3⟩ := b
  refine ⟨by rw [b1, List.length_append, Nat.add_assoc], fun j c hj => ?_, fun k k1 k2 => (b3 k k1 (by omega)).trans (a3 k k1 k2)⟩
  rcases Nat.lt_or_ge j cs.length with z | z
  · rw [List.getElem?_append_left z] at hj
    rw [b3 _ (by omega) (by omega)]
    exact a2 j c hj
  · rw [List.getElem?_append_right z] at hj
    have := b2 (j - cs.length) c hj
    rw [show 56 + (base + cs.length) + (j - cs.length) = 56 + base + j by omega] at this
    exact this
theorem PA.rf (W : MW h0 h s M L) (O : PO X s M p base) : PA X h0 h s M L base p [] s M := ⟨W, PW.rf, O, FR.rf O.2.2.2.1⟩
theorem PA.tn (A : PA X h0 h s M L base p cs s' M') (R : PR X h0 h' s' M' L (base + cs.length) r) : PR X h0 h' s M L base (apR cs r) := by
  obtain ⟨W, U, O, F⟩ := A
  cases r with
  | inl e =>
    obtain ⟨s2, M2, W2, U2, E⟩ := R
    exact ⟨s2, M2, W2, U.tr U2, E⟩
  | inr q =>
    obtain ⟨s2, M2, W2, U2, O2, F2⟩ := R
    refine ⟨s2, M2, W2, U.tr U2, ?_, F.tr F2⟩
    show PO X s2 M2 q.1 (base + (cs ++ q.2).length)
    rw [List.length_append, ← Nat.add_assoc]
    exact O2
theorem TX.pw (T : TX X s M) (u : PW s s' M M') : TX X s' M' := by
  obtain ⟨t1, t2, t3⟩ := T
  refine ⟨by rw [u.1 8 (by decide) (by decide) (by decide) (by decide) (by decide) (by decide)]; exact t1, t2, fun i hi => ?_⟩
  rw [u.2 62 (by decide)]
  exact t3 i hi
/-- the next token stands -/
theorem PA.nx (A : PA X h0 h s M L base p cs s' M') (W : MW h0 h' s2 M' L) (U : PU s' s2) (K : TKm X s2 p') (hp : tkA X p ≤ tkA X p') : PA X h0 h' s M L base p' cs s2 M' := by
  obtain ⟨W1, U1, ⟨T, K1, e11, eb, hb⟩, F⟩ := A
  exact ⟨W, U1.tr U.pw, ⟨T.pu U, K, by rw [U 11 (by decide) (by decide) (by decide) (by decide)]; exact e11, eb, Nat.le_trans hb hp⟩, F⟩
theorem j_is {k K : Nat} {w : Int32} (W : MW h0 h s M L) (e11 : s 11 = .int w) (e9 : w = 0 → s 9 = .int (nI K)) (hk : k < 100) (hK : K < 100) : Zm g d 0 0 mX12_is [.ref 59, .int (nI k)] h (rI (b2 (w = 0 ∧ K = k)) h) := by
  show Zw g d 0 0 mX12_is 0 [some (.ref 59), some (.int (nI k))] [] h _
  refine x_al0 rfl dX12_is_0 ?_
  refine x_gm fdX12_141 W.hM (by decide) (by first | assumption | rfl) dX12_is_1 ?_
  refine x_if_ne (tgt := 19) dX12_is_4 rfl (fun q4 => ?_) (fun q4 => ?_)
  · skip
    refine x_iconst (v := nI 0) dX12_is_19 rfl ?_
    exact x_iret rfl  rfl dX12_is_20 ⟨by rw [b2z (fun z => q4 z.1)], rfl⟩
  · skip
    refine x_al0 rfl dX12_is_7 ?_
    refine x_gm fdX12_123 W.hM (by decide) (e9 q4) dX12_is_8 ?_
    refine x_il1 dX12_is_11 ?_
    refine x_icmp_ne (tgt := 19) dX12_is_12 rfl (fun q12 => ?_) (fun q12 => ?_)
    · skip
      first | (simp only [cmp_lt, cmp_gt, cmp_eq, zN_cge, zN_cle, Decidable.not_not] at q12) | (simp (disch := omega) only [zN_le, zN_lt, zN_0, zN_1, nI_toInt, zN_eq, zN_eq0, b2_z, b2_nz, Decidable.not_not, Int.not_lt, Int.not_le, zK0, zK1, zK2, zK3, zK5, zK7, zK8, zK9, zK10, zK19, zK20, zK40, zK99, zK100, zK199] at q12) | skip
      refine x_iconst (v := nI 0) dX12_is_19 rfl ?_
      exact x_iret rfl  rfl dX12_is_20 ⟨by rw [b2z (fun z => q12 z.2)], rfl⟩
    · skip
      first | (simp only [cmp_lt, cmp_gt, cmp_eq, zN_cge, zN_cle, Decidable.not_not] at q12) | (simp (disch := omega) only [zN_le, zN_lt, zN_0, zN_1, nI_toInt, zN_eq, zN_eq0, b2_z, b2_nz, Decidable.not_not, Int.not_lt, Int.not_le, zK0, zK1, zK2, zK3, zK5, zK7, zK8, zK9, zK10, zK19, zK20, zK40, zK99, zK100, zK199] at q12) | skip
      refine x_iconst (v := nI 1) dX12_is_15 rfl ?_
      refine x_goto (tgt := 20) dX12_is_16 rfl ?_
      exact x_iret rfl  rfl dX12_is_20 ⟨by rw [b2o ⟨q4, q12⟩], rfl⟩
theorem TKm.kr (K : TKm X s p) : tkK X p < 100 := by
  unfold tkK
  split
  · decide
  · split
    · rcases keyX_r (X := X) (a := tkA X p) (b := rnX X isLo (tkA X p)) with z | z <;> omega
    · split
      · split <;> decide
      · rcases sgK_r (c := X.1 (tkA X p)) with z | z <;> omega
theorem o_is {k : Nat} (W : MW h0 h s M L) (O : PO X s M p base) (hk : k < 100) : Zm g d 0 0 mX12_is [.ref 59, .int (nI k)] h (rI (b2 (tkK X p = k)) h) := by
  have := j_is (g := g) (d := d) W O.2.2.1 (fun _ => O.2.1.2.2.2.1) hk O.2.1.kr
  rw [b2_congr (show ((0 : Int32) = 0 ∧ tkK X p = k) ↔ tkK X p = k from ⟨fun z => z.2, fun z => ⟨rfl, z⟩⟩)] at this
  exact this
theorem nI_n05 {k : Nat} (h1 : 0 < k) (h2 : k < 5) : ¬ nI k = 0 := by
  intro z
  have := congrArg Int32.toInt z
  rw [nI_toInt (by omega), show (0 : Int32).toInt = 0 from rfl] at this
  omega
theorem e_is {k : Nat} (W : MW h0 h s M L) (E : PE s e) (hk : k < 100) : Zm g d 0 0 mX12_is [.ref 59, .int (nI k)] h (rI 0 h) := by
  have := j_is (g := g) (d := d) (K := 0) W E.1 (fun z => absurd z (nI_n05 E.2.2.1 E.2.2.2)) hk (by decide)
  rw [b2z (fun z => nI_n05 E.2.2.1 E.2.2.2 z.1)] at this
  exact this
theorem b2_eq {P : Prop} [Decidable P] (h : P) : b2 P = 1 := b2o h
theorem o_eats {k : Nat} (W : MW h0 h s M L) (O : PO X s M p base) (hk : k < 100) : Zm g (d + 6) 0 0 mX12_eats [.ref 59, .int (nI k)] h (rIp (fun r h' => (tkK X p = k ∧ r = 1 ∧ ∃ s', MW h0 h' s' M L ∧ PU s s' ∧ TKm X s' (tkB X p)) ∨ (tkK X p ≠ k ∧ r = 0 ∧ h' = h))) := by
  have lB := (tk_le O.2.1.1).2.2.1
  obtain ⟨nu, e10, -⟩ := O.2.1.2.2.2.2
  show Zw g (d + 6) 0 0 mX12_eats 0 [some (.ref 59), some (.int (nI k))] [] h _
  refine x_al0 rfl dX12_eats_0 ?_
  refine x_il1 dX12_eats_1 ?_
  refine x_cv1I mX12_is_ok lkX12_147 rfl (Nat.le_of_ble_eq_true rfl) (Nat.le_of_ble_eq_true rfl) dX12_eats_2 W.hM  (o_is W O hk) ?_
  refine x_if_ne (tgt := 10) dX12_eats_5 rfl (fun q5 => ?_) (fun q5 => ?_)
  · skip
    first | (simp only [cmp_lt, cmp_gt, cmp_eq, zN_cge, zN_cle, Decidable.not_not] at q5) | (simp (disch := omega) only [zN_le, zN_lt, zN_0, zN_1, nI_toInt, zN_eq, zN_eq0, b2_z, b2_nz, Decidable.not_not, Int.not_lt, Int.not_le, zK0, zK1, zK2, zK3, zK5, zK7, zK8, zK9, zK10, zK19, zK20, zK40, zK99, zK100, zK199] at q5) | skip
    refine x_al0 rfl dX12_eats_10 ?_
    refine x_cv0Vp mX12_next_ok lkX12_150 rfl (Nat.le_of_ble_eq_true rfl) (Nat.le_of_ble_eq_true rfl) dX12_eats_11 W.hM  (j_next W O.1 lB O.2.1.2.2.1 e10) (fun h hq => ?_)
    refine x_iconst (v := nI 1) dX12_eats_14 rfl ?_
    exact x_iret rfl  rfl dX12_eats_15 ⟨_, rfl, Or.inl ⟨q5, rfl, hq⟩⟩
  · skip
    first | (simp only [cmp_lt, cmp_gt, cmp_eq, zN_cge, zN_cle, Decidable.not_not] at q5) | (simp (disch := omega) only [zN_le, zN_lt, zN_0, zN_1, nI_toInt, zN_eq, zN_eq0, b2_z, b2_nz, Decidable.not_not, Int.not_lt, Int.not_le, zK0, zK1, zK2, zK3, zK5, zK7, zK8, zK9, zK10, zK19, zK20, zK40, zK99, zK100, zK199] at q5) | skip
    refine x_iconst (v := nI 0) dX12_eats_8 rfl ?_
    exact x_iret rfl  rfl dX12_eats_9 ⟨_, rfl, Or.inr ⟨q5, rfl, rfl⟩⟩
theorem e_eats {k : Nat} (W : MW h0 h s M L) (E : PE s e) (hk : k < 100) : Zm g (d + 1) 0 0 mX12_eats [.ref 59, .int (nI k)] h (rI 0 h) := by
  show Zw g (d + 1) 0 0 mX12_eats 0 [some (.ref 59), some (.int (nI k))] [] h _
  refine x_al0 rfl dX12_eats_0 ?_
  refine x_il1 dX12_eats_1 ?_
  refine x_cv1I mX12_is_ok lkX12_147 rfl (Nat.le_of_ble_eq_true rfl) (Nat.le_of_ble_eq_true rfl) dX12_eats_2 W.hM  (e_is W E hk) ?_
  refine x_if_ne (tgt := 10) dX12_eats_5 rfl (fun q5 => ?_) (fun q5 => ?_)
  · skip
    first | (simp only [cmp_lt, cmp_gt, cmp_eq, zN_cge, zN_cle, Decidable.not_not] at q5) | (simp (disch := omega) only [zN_le, zN_lt, zN_0, zN_1, nI_toInt, zN_eq, zN_eq0, b2_z, b2_nz, Decidable.not_not, Int.not_lt, Int.not_le, zK0, zK1, zK2, zK3, zK5, zK7, zK8, zK9, zK10, zK19, zK20, zK40, zK99, zK100, zK199] at q5) | skip
    exact absurd trivial q5
  · skip
    first | (simp only [cmp_lt, cmp_gt, cmp_eq, zN_cge, zN_cle, Decidable.not_not] at q5) | (simp (disch := omega) only [zN_le, zN_lt, zN_0, zN_1, nI_toInt, zN_eq, zN_eq0, b2_z, b2_nz, Decidable.not_not, Int.not_lt, Int.not_le, zK0, zK1, zK2, zK3, zK5, zK7, zK8, zK9, zK10, zK19, zK20, zK40, zK99, zK100, zK199] at q5) | skip
    refine x_iconst (v := nI 0) dX12_eats_8 rfl ?_
    exact x_iret rfl  rfl dX12_eats_9 ⟨rfl, rfl⟩
theorem o_fails {fa : Nat} (h1 : 0 < fa) (h5 : fa < 5) (W : MW h0 h s M L) (O : PO X s M p base) : Zm g d 0 0 mX12_fails [.ref 59, .int (nI fa)] h (rVp (fun h' => ∃ s', MW h0 h' s' M L ∧ PW s s' M M ∧ PE s' (if tkK X p = 25 then 1 else fa, tkA X p))) := by
  obtain ⟨T, ⟨hp, e6, e7, e9, nu, e10, -⟩, e11, -⟩ := id O
  have hK := O.2.1.kr
  have pu : ∀ v w, PW s (va_up (va_up s 11 v) 12 w) M M := fun v w => ⟨fun k _ _ _ _ h5 h6 => (va_up_ne _ _ h6).trans (va_up_ne _ _ h5), fun _ _ => rfl⟩
  show Zw g d 0 0 mX12_fails 0 [some (.ref 59), some (.int (nI fa))] [] h _
  refine x_al0 rfl dX12_fails_0 ?_
  refine x_gm fdX12_141 W.hM (by decide) (by first | assumption | rfl) dX12_fails_1 ?_
  refine x_if_eq (tgt := 8) dX12_fails_4 rfl (fun q4 => ?_) (fun q4 => ?_)
  · skip
    first | (simp only [cmp_lt, cmp_gt, cmp_eq, zN_cge, zN_cle, Decidable.not_not] at q4) | (simp (disch := omega) only [zN_le, zN_lt, zN_0, zN_1, nI_toInt, zN_eq, zN_eq0, b2_z, b2_nz, Decidable.not_not, Int.not_lt, Int.not_le, zK0, zK1, zK2, zK3, zK5, zK7, zK8, zK9, zK10, zK19, zK20, zK40, zK99, zK100, zK199] at q4) | skip
    refine x_al0 rfl dX12_fails_8 ?_
    refine x_al0 rfl dX12_fails_9 ?_
    refine x_gm fdX12_123 W.hM (by decide) (by first | assumption | rfl) dX12_fails_10 ?_
    refine x_bipush (v := nI 25) dX12_fails_13 rfl ?_
    refine x_icmp_ne (tgt := 22) dX12_fails_15 rfl (fun q15 => ?_) (fun q15 => ?_)
    · skip
      first | (simp only [cmp_lt, cmp_gt, cmp_eq, zN_cge, zN_cle, Decidable.not_not] at q15) | (simp (disch := omega) only [zN_le, zN_lt, zN_0, zN_1, nI_toInt, zN_eq, zN_eq0, b2_z, b2_nz, Decidable.not_not, Int.not_lt, Int.not_le, zK0, zK1, zK2, zK3, zK5, zK7, zK8, zK9, zK10, zK19, zK20, zK40, zK99, zK100, zK199] at q15) | skip
      refine x_il1 dX12_fails_22 ?_
      refine x_mpf W fdX12_141 (by decide) rfl zf_i dX12_fails_23 (fun h W => ?_)
      refine x_al0 rfl dX12_fails_26 ?_
      refine x_al0 rfl dX12_fails_27 ?_
      refine x_gm fdX12_113 W.hM (by decide) (by first | assumption | rfl) dX12_fails_28 ?_
      refine x_mpf W fdX12_144 (by decide) rfl zf_i dX12_fails_31 (fun h W => ?_)
      exact x_vret rfl dX12_fails_34 ⟨rfl, _, W, pu _ _, by rw [if_neg q15]; rfl, ⟨rfl, nu, e10⟩, by rw [if_neg q15]; exact h1, by rw [if_neg q15]; exact h5⟩
    · skip
      first | (simp only [cmp_lt, cmp_gt, cmp_eq, zN_cge, zN_cle, Decidable.not_not] at q15) | (simp (disch := omega) only [zN_le, zN_lt, zN_0, zN_1, nI_toInt, zN_eq, zN_eq0, b2_z, b2_nz, Decidable.not_not, Int.not_lt, Int.not_le, zK0, zK1, zK2, zK3, zK5, zK7, zK8, zK9, zK10, zK19, zK20, zK40, zK99, zK100, zK199] at q15) | skip
      refine x_iconst (v := nI 1) dX12_fails_18 rfl ?_
      refine x_goto (tgt := 23) dX12_fails_19 rfl ?_
      refine x_mpf W fdX12_141 (by decide) rfl zf_i dX12_fails_23 (fun h W => ?_)
      refine x_al0 rfl dX12_fails_26 ?_
      refine x_al0 rfl dX12_fails_27 ?_
      refine x_gm fdX12_113 W.hM (by decide) (by first | assumption | rfl) dX12_fails_28 ?_
      refine x_mpf W fdX12_144 (by decide) rfl zf_i dX12_fails_31 (fun h W => ?_)
      exact x_vret rfl dX12_fails_34 ⟨rfl, _, W, pu _ _, by rw [if_pos q15]; rfl, ⟨rfl, nu, e10⟩, by rw [if_pos q15]; exact Nat.succ_pos 0, by rw [if_pos q15]; exact Nat.le_of_ble_eq_true rfl⟩
  · skip
    first | (simp only [cmp_lt, cmp_gt, cmp_eq, zN_cge, zN_cle, Decidable.not_not] at q4) | (simp (disch := omega) only [zN_le, zN_lt, zN_0, zN_1, nI_toInt, zN_eq, zN_eq0, b2_z, b2_nz, Decidable.not_not, Int.not_lt, Int.not_le, zK0, zK1, zK2, zK3, zK5, zK7, zK8, zK9, zK10, zK19, zK20, zK40, zK99, zK100, zK199] at q4) | skip
    exact absurd trivial q4
theorem e_fails {v : Int32} (W : MW h0 h s M L) (E : PE s e) : Zm g d 0 0 mX12_fails [.ref 59, .int v] h (rV h) := by
  have e11 := E.1
  show Zw g d 0 0 mX12_fails 0 [some (.ref 59), some (.int v)] [] h _
  refine x_al0 rfl dX12_fails_0 ?_
  refine x_gm fdX12_141 W.hM (by decide) (by first | assumption | rfl) dX12_fails_1 ?_
  refine x_if_eq (tgt := 8) dX12_fails_4 rfl (fun q4 => ?_) (fun q4 => ?_)
  · skip
    exact absurd q4 (nI_n05 E.2.2.1 E.2.2.2)
  · skip
    exact x_vret rfl dX12_fails_7 ⟨rfl, rfl⟩
theorem PA.er {fa : Nat} (A : PA X h0 h s M L base p cs s' M') (R : ∃ s2, MW h0 h' s2 M' L ∧ PW s' s2 M' M' ∧ PE s2 (if tkK X p = 25 then 1 else fa, tkA X p)) : PR X h0 h' s M L base (.inl (if tkK X p = 25 then 1 else fa, tkA X p)) := by
  obtain ⟨s2, W2, U2, E⟩ := R
  exact ⟨s2, M', W2, A.2.1.tr U2, E⟩
theorem o_codes {c : Nat} (A : PA X h0 h s M L base p cs s' M') (hb : base + cs.length < tkA X p) : Zm g d 0 0 mX12_codes [.ref 59, .int (nI c)] h (rVp (fun h' => ∃ M2, PA X h0 h' s M L base p (cs ++ [c]) s' M2)) := by
  obtain ⟨W, U, ⟨T, K, e11, e55, -⟩, F⟩ := id A
  have aX := tkA_le K.1
  have X9 := T.2.1
  show Zw g d 0 0 mX12_codes 0 [some (.ref 59), some (.int (nI c))] [] h _
  refine x_al0 rfl dX12_codes_0 ?_
  refine x_gm fdX12_141 W.hM (by decide) (by first | assumption | rfl) dX12_codes_1 ?_
  refine x_if_eq (tgt := 8) dX12_codes_4 rfl (fun q4 => ?_) (fun q4 => ?_)
  · skip
    first | (simp only [cmp_lt, cmp_gt, cmp_eq, zN_cge, zN_cle, Decidable.not_not] at q4) | (simp (disch := omega) only [zN_le, zN_lt, zN_0, zN_1, nI_toInt, zN_eq, zN_eq0, b2_z, b2_nz, Decidable.not_not, Int.not_lt, Int.not_le, zK0, zK1, zK2, zK3, zK5, zK7, zK8, zK9, zK10, zK19, zK20, zK40, zK99, zK100, zK199] at q4) | skip
    refine x_al0 rfl dX12_codes_8 ?_
    refine x_gm fdX12_24 W.hM (by decide) W.hF.f4 dX12_codes_9 ?_
    refine x_bipush (v := nI 56) dX12_codes_12 rfl ?_
    refine x_al0 rfl dX12_codes_14 ?_
    refine x_gm fdX12_24 W.hM (by decide) W.hF.f4 dX12_codes_15 ?_
    refine x_bipush (v := nI 55) dX12_codes_18 rfl ?_
    refine x_mld (len := 956) W rfl rfl (by decide) (by omega) e55 dX12_codes_20 ?_
    first | refine x_iadd (nI_add _ _) dX12_codes_21 ?_ | refine x_iadd rfl dX12_codes_21 ?_
    refine x_il1 dX12_codes_22 ?_
    refine x_mst (len := 956) W rfl rfl (by decide) (by omega) dX12_codes_23 (fun h W => ?_)
    refine x_al0 rfl dX12_codes_24 ?_
    refine x_gm fdX12_24 W.hM (by decide) W.hF.f4 dX12_codes_25 ?_
    refine x_bipush (v := nI 55) dX12_codes_28 rfl ?_
    refine x_dup2 rfl rfl dX12_codes_30 ?_
    refine x_mld (len := 956) W rfl rfl (by decide) (by omega) (show upM M' 63 (upd (M' 63) (56 + (base + cs.length)) (nI c)) 63 55 = nI (base + cs.length) by rw [upM_eq, pk_un (by omega)]; exact e55) dX12_codes_31 ?_
    refine x_iconst (v := nI 1) dX12_codes_32 rfl ?_
    first | refine x_iadd (nI_add _ _) dX12_codes_33 ?_ | refine x_iadd rfl dX12_codes_33 ?_
    refine x_mst (len := 956) W rfl rfl (by decide) (by omega) dX12_codes_34 (fun h W => ?_)
    rw [upM_upM, upM_eq] at W
    have F2 : FR (M' 63) (base + cs.length) [c] (upd (upd (M' 63) (56 + (base + cs.length)) (nI c)) 55 (nI (base + cs.length + 1))) := by
      refine ⟨pk_us, fun j x hj => ?_, fun k k1 k2 => by rw [pk_un k1, pk_un (by omega)]⟩
      cases j with
      | zero => obtain rfl := Option.some.inj hj; rw [pk_un (by omega)]; exact pk_us
      | succ j => simp at hj
    have F3 := F.tr F2
    refine x_vret rfl dX12_codes_35 ⟨rfl, _, W, U.tr ⟨fun _ _ _ _ _ _ _ => rfl, fun i hi => upM_ne hi⟩, ⟨?_, K, e11, ?_, ?_⟩, ?_⟩
    · exact ⟨T.1, T.2.1, fun i hi => T.2.2 i hi⟩
    · rw [upM_eq, pk_us, List.length_append]; rfl
    · rw [List.length_append]; exact hb
    · rw [upM_eq]; exact F3
  · skip
    first | (simp only [cmp_lt, cmp_gt, cmp_eq, zN_cge, zN_cle, Decidable.not_not] at q4) | (simp (disch := omega) only [zN_le, zN_lt, zN_0, zN_1, nI_toInt, zN_eq, zN_eq0, b2_z, b2_nz, Decidable.not_not, Int.not_lt, Int.not_le, zK0, zK1, zK2, zK3, zK5, zK7, zK8, zK9, zK10, zK19, zK20, zK40, zK99, zK100, zK199] at q4) | skip
    exact absurd trivial q4
theorem e_codes {v : Int32} (W : MW h0 h s M L) (E : PE s e) : Zm g d 0 0 mX12_codes [.ref 59, .int v] h (rV h) := by
  have e11 := E.1
  show Zw g d 0 0 mX12_codes 0 [some (.ref 59), some (.int v)] [] h _
  refine x_al0 rfl dX12_codes_0 ?_
  refine x_gm fdX12_141 W.hM (by decide) (by first | assumption | rfl) dX12_codes_1 ?_
  refine x_if_eq (tgt := 8) dX12_codes_4 rfl (fun q4 => ?_) (fun q4 => ?_)
  · skip
    exact absurd q4 (nI_n05 E.2.2.1 E.2.2.2)
  · skip
    exact x_vret rfl dX12_codes_7 ⟨rfl, rfl⟩
theorem c_wordOf {k : Nat} (hk : k < 100) : Zm g d 0 0 mX12_wordOf [.ref 59, .int (nI k)] h (rI (if k = 5 then nI 4 else if 12 ≤ k ∧ k ≤ 15 then nI (k - 12) else -1) h) := by
  show Zw g d 0 0 mX12_wordOf 0 [some (.ref 59), some (.int (nI k))] [] h _
  refine x_il1 dX12_wordOf_0 ?_
  refine x_iconst (v := nI 5) dX12_wordOf_1 rfl ?_
  refine x_icmp_ne (tgt := 7) dX12_wordOf_2 rfl (fun q2 => ?_) (fun q2 => ?_)
  · skip
    first | (simp only [cmp_lt, cmp_gt, cmp_eq, zN_cge, zN_cle, Decidable.not_not] at q2) | (simp (disch := omega) only [zN_le, zN_lt, zN_0, zN_1, nI_toInt, zN_eq, zN_eq0, b2_z, b2_nz, Decidable.not_not, Int.not_lt, Int.not_le, zK0, zK1, zK2, zK3, zK5, zK7, zK8, zK9, zK10, zK19, zK20, zK40, zK99, zK100, zK199] at q2) | skip
    refine x_il1 dX12_wordOf_7 ?_
    refine x_bipush (v := nI 12) dX12_wordOf_8 rfl ?_
    refine x_icmp_lt (tgt := 26) dX12_wordOf_10 rfl (fun q10 => ?_) (fun q10 => ?_)
    · skip
      first | (simp only [cmp_lt, cmp_gt, cmp_eq, zN_cge, zN_cle, Decidable.not_not] at q10) | (simp (disch := omega) only [zN_le, zN_lt, zN_0, zN_1, nI_toInt, zN_eq, zN_eq0, b2_z, b2_nz, Decidable.not_not, Int.not_lt, Int.not_le, zK0, zK1, zK2, zK3, zK5, zK7, zK8, zK9, zK10, zK19, zK20, zK40, zK99, zK100, zK199] at q10) | skip
      refine x_iconst (v := (-1)) dX12_wordOf_26 rfl ?_
      exact x_iret rfl rfl dX12_wordOf_27 ⟨by rw [if_neg (by omega), if_neg (by omega)], rfl⟩
    · skip
      first | (simp only [cmp_lt, cmp_gt, cmp_eq, zN_cge, zN_cle, Decidable.not_not] at q10) | (simp (disch := omega) only [zN_le, zN_lt, zN_0, zN_1, nI_toInt, zN_eq, zN_eq0, b2_z, b2_nz, Decidable.not_not, Int.not_lt, Int.not_le, zK0, zK1, zK2, zK3, zK5, zK7, zK8, zK9, zK10, zK19, zK20, zK40, zK99, zK100, zK199] at q10) | skip
      refine x_il1 dX12_wordOf_13 ?_
      refine x_bipush (v := nI 15) dX12_wordOf_14 rfl ?_
      refine x_icmp_gt (tgt := 26) dX12_wordOf_16 rfl (fun q16 => ?_) (fun q16 => ?_)
      · skip
        first | (simp only [cmp_lt, cmp_gt, cmp_eq, zN_cge, zN_cle, Decidable.not_not] at q16) | (simp (disch := omega) only [zN_le, zN_lt, zN_0, zN_1, nI_toInt, zN_eq, zN_eq0, b2_z, b2_nz, Decidable.not_not, Int.not_lt, Int.not_le, zK0, zK1, zK2, zK3, zK5, zK7, zK8, zK9, zK10, zK19, zK20, zK40, zK99, zK100, zK199] at q16) | skip
        refine x_iconst (v := (-1)) dX12_wordOf_26 rfl ?_
        exact x_iret rfl rfl dX12_wordOf_27 ⟨by rw [if_neg (by omega), if_neg (by omega)], rfl⟩
      · skip
        first | (simp only [cmp_lt, cmp_gt, cmp_eq, zN_cge, zN_cle, Decidable.not_not] at q16) | (simp (disch := omega) only [zN_le, zN_lt, zN_0, zN_1, nI_toInt, zN_eq, zN_eq0, b2_z, b2_nz, Decidable.not_not, Int.not_lt, Int.not_le, zK0, zK1, zK2, zK3, zK5, zK7, zK8, zK9, zK10, zK19, zK20, zK40, zK99, zK100, zK199] at q16) | skip
        refine x_il1 dX12_wordOf_19 ?_
        refine x_bipush (v := nI 12) dX12_wordOf_20 rfl ?_
        refine x_isub (pk_sub (by omega)) dX12_wordOf_22 ?_
        refine x_goto (tgt := 27) dX12_wordOf_23 rfl ?_
        exact x_iret rfl rfl dX12_wordOf_27 ⟨by rw [if_neg (by omega), if_pos (by omega)], rfl⟩
  · skip
    first | (simp only [cmp_lt, cmp_gt, cmp_eq, zN_cge, zN_cle, Decidable.not_not] at q2) | (simp (disch := omega) only [zN_le, zN_lt, zN_0, zN_1, nI_toInt, zN_eq, zN_eq0, b2_z, b2_nz, Decidable.not_not, Int.not_lt, Int.not_le, zK0, zK1, zK2, zK3, zK5, zK7, zK8, zK9, zK10, zK19, zK20, zK40, zK99, zK100, zK199] at q2) | skip
    refine x_iconst (v := nI 4) dX12_wordOf_5 rfl ?_
    exact x_iret rfl rfl dX12_wordOf_6 ⟨by rw [if_pos (by omega)], rfl⟩
end ZRd

