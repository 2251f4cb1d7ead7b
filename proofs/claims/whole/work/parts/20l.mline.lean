/-! the model reads numbers, laws, a line -/
section ZMl
variable {g : zG} {d : Nat} {h0 h h' : zH} {s s' s2 : Nat → Value} {M M' M2 : Nat → Nat → Int32} {L : Nat → Nat → Int64} {X : zX} {p p' base : Nat} {e : Nat × Nat}
/-- what a number read leaves -/
def TN (X : zX) (h0 h : zH) (s : Nat → Value) (M : Nat → Nat → Int32) (L : Nat → Nat → Int64) (r : Int32) (q : Sum (Nat × Nat) (Nat × Nat)) : Prop := match q with
  | .inl e => ∃ s', MW h0 h s' M L ∧ PW s s' M M ∧ PE s' e
  | .inr q => r = nI q.2 ∧ ∃ s', MW h0 h s' M L ∧ PU s s' ∧ TKm X s' q.1
theorem PO.nx (O : PO X s M p base) (U : PU s s') (K : TKm X s' p') (hp : tkA X p ≤ tkA X p') : PO X s' M p' base := by
  obtain ⟨T, K1, e11, eb, hb⟩ := O
  exact ⟨T.pu U, K, by rw [U 11 (by decide) (by decide) (by decide) (by decide)]; exact e11, eb, Nat.le_trans hb hp⟩
theorem wi_n {v lo hi : Nat} (h1 : v < 2 ^ 31) (h2 : lo < 2 ^ 31) (h3 : hi < 2 ^ 31) : ((nI lo).toInt64.toInt ≤ (nI v).toInt ∧ (nI v).toInt ≤ (nI hi).toInt64.toInt) ↔ (lo ≤ v ∧ v ≤ hi) := by
  rw [i64_n, i64_n, nI_toInt h1, nI_toInt h2, nI_toInt h3]
  omega
theorem o_takes {lo hi : Nat} (h2 : lo < 1000) (h3 : hi < 1000) (W : MW h0 h s M L) (O : PO X s M p base) : Zm g (d + 6) 0 0 mX12_takes [.ref 59, .int (nI lo), .int (nI hi)] h (rIp (fun r h' => TN X h0 h' s M L r (fNm X lo hi p))) := by
  obtain ⟨nu, e10, ev⟩ := O.2.1.2.2.2.2
  have e11 := O.2.2.1
  have lB := (tk_le O.2.1.1).2.2.1
  have vl := tkV_lt (X := X) (p := p)
  show Zw g (d + 6) 0 0 mX12_takes 0 [some (.ref 59), some (.int (nI lo)), some (.int (nI hi)), none] [] h _
  refine x_al0 rfl dX12_takes_0 ?_
  refine x_bipush (v := nI 23) dX12_takes_1 rfl ?_
  refine x_cv1I mX12_is_ok lkX12_147 rfl (Nat.le_of_ble_eq_true rfl) (Nat.le_of_ble_eq_true rfl) dX12_takes_3 W.hM  (o_is W O (by decide)) ?_
  refine x_if_ne (tgt := 17) dX12_takes_6 rfl (fun q6 => ?_) (fun q6 => ?_)
  · skip
    first | (simp only [cmp_lt, cmp_gt, cmp_eq, zN_cge, zN_cle, Decidable.not_not] at q6) | (simp (disch := omega) only [zN_le, zN_lt, zN_0, zN_1, nI_toInt, zN_eq, zN_eq0, b2_z, b2_nz, Decidable.not_not, Int.not_lt, Int.not_le, zK0, zK1, zK2, zK3, zK5, zK7, zK8, zK9, zK10, zK19, zK20, zK40, zK99, zK100, zK199] at q6) | skip
    refine x_al0 rfl dX12_takes_17 ?_
    refine x_gm fdX12_136 W.hM (by decide) ((show s 10 = .int (nI (tkV X p)) by rw [e10, ev q6])) dX12_takes_18 ?_
    refine x_i2l (rfl) dX12_takes_21 ?_
    refine x_il1 dX12_takes_22 ?_
    refine x_i2l (rfl) dX12_takes_23 ?_
    refine x_il2 dX12_takes_24 ?_
    refine x_i2l (rfl) dX12_takes_25 ?_
    refine x_cs3I mX12_within_ok lkX12_157 (Nat.le_of_ble_eq_true rfl) (Nat.le_of_ble_eq_true rfl) dX12_takes_26 j_within ?_
    rw [b2_congr (wi_n (by omega) (by omega) (by omega))]
    refine x_if_ne (tgt := 37) dX12_takes_29 rfl (fun q29 => ?_) (fun q29 => ?_)
    · skip
      first | (simp only [cmp_lt, cmp_gt, cmp_eq, zN_cge, zN_cle, Decidable.not_not] at q29) | (simp (disch := omega) only [zN_le, zN_lt, zN_0, zN_1, nI_toInt, zN_eq, zN_eq0, b2_z, b2_nz, Decidable.not_not, Int.not_lt, Int.not_le, zK0, zK1, zK2, zK3, zK5, zK7, zK8, zK9, zK10, zK19, zK20, zK40, zK99, zK100, zK199] at q29) | skip
      have eN : fNm X lo hi p = .inr (tkB X p, tkV X p) := by unfold fNm; rw [if_neg (fun z => z q6), if_neg (by omega)]
      refine x_al0 rfl dX12_takes_37 ?_
      refine x_gm fdX12_136 W.hM (by decide) ((show s 10 = .int (nI (tkV X p)) by rw [e10, ev q6])) dX12_takes_38 ?_
      refine x_is3 rfl dX12_takes_41 ?_
      refine x_al0 rfl dX12_takes_42 ?_
      refine x_gm fdX12_141 W.hM (by decide) (by first | assumption | rfl) dX12_takes_43 ?_
      refine x_if_ne (tgt := 53) dX12_takes_46 rfl (fun q46 => ?_) (fun q46 => ?_)
      · skip
        first | (simp only [cmp_lt, cmp_gt, cmp_eq, zN_cge, zN_cle, Decidable.not_not] at q46) | (simp (disch := omega) only [zN_le, zN_lt, zN_0, zN_1, nI_toInt, zN_eq, zN_eq0, b2_z, b2_nz, Decidable.not_not, Int.not_lt, Int.not_le, zK0, zK1, zK2, zK3, zK5, zK7, zK8, zK9, zK10, zK19, zK20, zK40, zK99, zK100, zK199] at q46) | skip
        exact absurd trivial q46
      · skip
        first | (simp only [cmp_lt, cmp_gt, cmp_eq, zN_cge, zN_cle, Decidable.not_not] at q46) | (simp (disch := omega) only [zN_le, zN_lt, zN_0, zN_1, nI_toInt, zN_eq, zN_eq0, b2_z, b2_nz, Decidable.not_not, Int.not_lt, Int.not_le, zK0, zK1, zK2, zK3, zK5, zK7, zK8, zK9, zK10, zK19, zK20, zK40, zK99, zK100, zK199] at q46) | skip
        refine x_al0 rfl dX12_takes_49 ?_
        refine x_cv0Vp mX12_next_ok lkX12_150 rfl (Nat.le_of_ble_eq_true rfl) (Nat.le_of_ble_eq_true rfl) dX12_takes_50 W.hM  (j_next W O.1 lB O.2.1.2.2.1 e10) (fun h hq => ?_)
        obtain ⟨s3, W3, U3, K3⟩ := hq
        refine x_il3 dX12_takes_53 ?_
        exact x_iret rfl rfl dX12_takes_54 ⟨_, rfl, by rw [eN]; exact ⟨rfl, s3, W3, U3, K3⟩⟩
    · skip
      first | (simp only [cmp_lt, cmp_gt, cmp_eq, zN_cge, zN_cle, Decidable.not_not] at q29) | (simp (disch := omega) only [zN_le, zN_lt, zN_0, zN_1, nI_toInt, zN_eq, zN_eq0, b2_z, b2_nz, Decidable.not_not, Int.not_lt, Int.not_le, zK0, zK1, zK2, zK3, zK5, zK7, zK8, zK9, zK10, zK19, zK20, zK40, zK99, zK100, zK199] at q29) | skip
      refine x_al0 rfl dX12_takes_32 ?_
      refine x_iconst (v := nI 3) dX12_takes_33 rfl ?_
      refine x_cv1Vp mX12_fails_ok lkX12_153 rfl (Nat.le_of_ble_eq_true rfl) (Nat.le_of_ble_eq_true rfl) dX12_takes_34 W.hM  (o_fails (fa := 3) (by decide) (by decide) W O) (fun h hq => ?_)
      obtain ⟨s3, W, U3, E3⟩ := hq
      rw [if_neg (by omega)] at E3
      obtain ⟨nu3, en3⟩ := E3.2.1.2
      have eN : fNm X lo hi p = .inl (3, tkA X p) := by unfold fNm; rw [if_neg (fun z => z q6), if_pos (by omega)]
      refine x_al0 rfl dX12_takes_37 ?_
      refine x_gm fdX12_136 W.hM (by decide) (en3) dX12_takes_38 ?_
      refine x_is3 rfl dX12_takes_41 ?_
      refine x_al0 rfl dX12_takes_42 ?_
      refine x_gm fdX12_141 W.hM (by decide) (E3.1) dX12_takes_43 ?_
      refine x_if_ne (tgt := 53) dX12_takes_46 rfl (fun q46 => ?_) (fun q46 => ?_)
      · skip
        first | (simp only [cmp_lt, cmp_gt, cmp_eq, zN_cge, zN_cle, Decidable.not_not] at q46) | (simp (disch := omega) only [zN_le, zN_lt, zN_0, zN_1, nI_toInt, zN_eq, zN_eq0, b2_z, b2_nz, Decidable.not_not, Int.not_lt, Int.not_le, zK0, zK1, zK2, zK3, zK5, zK7, zK8, zK9, zK10, zK19, zK20, zK40, zK99, zK100, zK199] at q46) | skip
        refine x_il3 dX12_takes_53 ?_
        exact x_iret rfl rfl dX12_takes_54 ⟨_, rfl, by rw [eN]; exact ⟨s3, W, U3, E3⟩⟩
      · skip
        first | (simp only [cmp_lt, cmp_gt, cmp_eq, zN_cge, zN_cle, Decidable.not_not] at q46) | (simp (disch := omega) only [zN_le, zN_lt, zN_0, zN_1, nI_toInt, zN_eq, zN_eq0, b2_z, b2_nz, Decidable.not_not, Int.not_lt, Int.not_le, zK0, zK1, zK2, zK3, zK5, zK7, zK8, zK9, zK10, zK19, zK20, zK40, zK99, zK100, zK199] at q46) | skip
        exact absurd q46 (by decide)
  · skip
    first | (simp only [cmp_lt, cmp_gt, cmp_eq, zN_cge, zN_cle, Decidable.not_not] at q6) | (simp (disch := omega) only [zN_le, zN_lt, zN_0, zN_1, nI_toInt, zN_eq, zN_eq0, b2_z, b2_nz, Decidable.not_not, Int.not_lt, Int.not_le, zK0, zK1, zK2, zK3, zK5, zK7, zK8, zK9, zK10, zK19, zK20, zK40, zK99, zK100, zK199] at q6) | skip
    refine x_al0 rfl dX12_takes_9 ?_
    refine x_iconst (v := nI 2) dX12_takes_10 rfl ?_
    refine x_cv1Vp mX12_fails_ok lkX12_153 rfl (Nat.le_of_ble_eq_true rfl) (Nat.le_of_ble_eq_true rfl) dX12_takes_11 W.hM  (o_fails (fa := 2) (by decide) (by decide) W O) (fun h hq => ?_)
    obtain ⟨s3, W, U3, E3⟩ := hq
    obtain ⟨nu3, en3⟩ := E3.2.1.2
    refine x_goto (tgt := 37) dX12_takes_14 rfl ?_
    have eN : fNm X lo hi p = .inl (erK X p, tkA X p) := by unfold fNm; rw [if_pos q6]
    refine x_al0 rfl dX12_takes_37 ?_
    refine x_gm fdX12_136 W.hM (by decide) (en3) dX12_takes_38 ?_
    refine x_is3 rfl dX12_takes_41 ?_
    refine x_al0 rfl dX12_takes_42 ?_
    refine x_gm fdX12_141 W.hM (by decide) (E3.1) dX12_takes_43 ?_
    refine x_if_ne (tgt := 53) dX12_takes_46 rfl (fun q46 => ?_) (fun q46 => ?_)
    · skip
      refine x_il3 dX12_takes_53 ?_
      exact x_iret rfl rfl dX12_takes_54 ⟨_, rfl, by rw [eN]; exact ⟨s3, W, U3, E3⟩⟩
    · skip
      exact absurd q46 (nI_n05 E3.2.2.1 E3.2.2.2)
theorem e_takes {lo hi : Int32} (W : MW h0 h s M L) (E : PE s e) : Zm g (d + 1) 0 0 mX12_takes [.ref 59, .int lo, .int hi] h (rIp (fun _ h' => h' = h)) := by
  obtain ⟨nu, e10⟩ := E.2.1.2
  have e11 := E.1
  show Zw g (d + 1) 0 0 mX12_takes 0 [some (.ref 59), some (.int lo), some (.int hi), none] [] h _
  refine x_al0 rfl dX12_takes_0 ?_
  refine x_bipush (v := nI 23) dX12_takes_1 rfl ?_
  refine x_cv1I mX12_is_ok lkX12_147 rfl (Nat.le_of_ble_eq_true rfl) (Nat.le_of_ble_eq_true rfl) dX12_takes_3 W.hM  (e_is W E (by decide)) ?_
  refine x_if_ne (tgt := 17) dX12_takes_6 rfl (fun q6 => ?_) (fun q6 => ?_)
  · skip
    first | (simp only [cmp_lt, cmp_gt, cmp_eq, zN_cge, zN_cle, Decidable.not_not] at q6) | (simp (disch := omega) only [zN_le, zN_lt, zN_0, zN_1, nI_toInt, zN_eq, zN_eq0, b2_z, b2_nz, Decidable.not_not, Int.not_lt, Int.not_le, zK0, zK1, zK2, zK3, zK5, zK7, zK8, zK9, zK10, zK19, zK20, zK40, zK99, zK100, zK199] at q6) | skip
    exact absurd trivial q6
  · skip
    first | (simp only [cmp_lt, cmp_gt, cmp_eq, zN_cge, zN_cle, Decidable.not_not] at q6) | (simp (disch := omega) only [zN_le, zN_lt, zN_0, zN_1, nI_toInt, zN_eq, zN_eq0, b2_z, b2_nz, Decidable.not_not, Int.not_lt, Int.not_le, zK0, zK1, zK2, zK3, zK5, zK7, zK8, zK9, zK10, zK19, zK20, zK40, zK99, zK100, zK199] at q6) | skip
    refine x_al0 rfl dX12_takes_9 ?_
    refine x_iconst (v := nI 2) dX12_takes_10 rfl ?_
    refine x_cv1V mX12_fails_ok lkX12_153 rfl (Nat.le_of_ble_eq_true rfl) (Nat.le_of_ble_eq_true rfl) dX12_takes_11 W.hM  (e_fails W E) ?_
    refine x_goto (tgt := 37) dX12_takes_14 rfl ?_
    refine x_al0 rfl dX12_takes_37 ?_
    refine x_gm fdX12_136 W.hM (by decide) (by first | assumption | rfl) dX12_takes_38 ?_
    refine x_is3 rfl dX12_takes_41 ?_
    refine x_al0 rfl dX12_takes_42 ?_
    refine x_gm fdX12_141 W.hM (by decide) (by first | assumption | rfl) dX12_takes_43 ?_
    refine x_if_ne (tgt := 53) dX12_takes_46 rfl (fun q46 => ?_) (fun q46 => ?_)
    · skip
      refine x_il3 dX12_takes_53 ?_
      exact x_iret rfl rfl dX12_takes_54 ⟨_, rfl, rfl⟩
    · skip
      exact absurd q46 (nI_n05 E.2.2.1 E.2.2.2)
theorem o_named {k lo hi : Nat} (hk : k < 24) (h2 : lo < 1000) (h3 : hi < 1000) (W : MW h0 h s M L) (O : PO X s M p base) : Zm g (d + 7) 0 0 mX12_named [.ref 59, .int (nI k), .int (nI lo), .int (nI hi)] h (rIp (fun r h' => TN X h0 h' s M L r (fNd X k lo hi p))) := by
  show Zw g (d + 7) 0 0 mX12_named 0 [some (.ref 59), some (.int (nI k)), some (.int (nI lo)), some (.int (nI hi))] [] h _
  refine x_al0 rfl dX12_named_0 ?_
  refine x_il1 dX12_named_1 ?_
  refine x_cv1Ip mX12_eats_ok lkX12_173 rfl (Nat.le_of_ble_eq_true rfl) (Nat.le_of_ble_eq_true rfl) dX12_named_2 W.hM  (o_eats W O (by omega)) (fun r h hq => ?_)
  rcases hq with ⟨z, rfl, s2, W2, U2, K2⟩ | ⟨z, rfl, rfl⟩
  · have b := tkA_B O.2.1.1 (by omega)
    have O2 := O.nx U2 K2 (by omega)
    refine x_if_ne (tgt := 13) dX12_named_5 rfl (fun q5 => ?_) (fun q5 => ?_)
    · skip
      first | (simp only [cmp_lt, cmp_gt, cmp_eq, zN_cge, zN_cle, Decidable.not_not] at q5) | (simp (disch := omega) only [zN_le, zN_lt, zN_0, zN_1, nI_toInt, zN_eq, zN_eq0, b2_z, b2_nz, Decidable.not_not, Int.not_lt, Int.not_le, zK0, zK1, zK2, zK3, zK5, zK7, zK8, zK9, zK10, zK19, zK20, zK40, zK99, zK100, zK199] at q5) | skip
      refine x_al0 rfl dX12_named_13 ?_
      refine x_il2 dX12_named_14 ?_
      refine x_il3 dX12_named_15 ?_
      refine x_cv2Ip mX12_takes_ok lkX12_194 rfl (Nat.le_of_ble_eq_true rfl) (Nat.le_of_ble_eq_true rfl) dX12_named_16 W2.hM  (o_takes h2 h3 W2 O2) (fun r h hq => ?_)
      refine x_iret rfl rfl dX12_named_19 ⟨_, rfl, ?_⟩
      unfold fNd
      rw [if_pos z]
      cases e1 : fNm X lo hi (tkB X p) with
      | inl e9 =>
        rw [e1] at hq
        obtain ⟨s3, W3, U3, E3⟩ := hq
        exact ⟨s3, W3, U2.pw.tr U3, E3⟩
      | inr q =>
        rw [e1] at hq
        obtain ⟨hr, s3, W3, U3, K3⟩ := hq
        exact ⟨hr, s3, W3, U2.tr U3, K3⟩
    · skip
      first | (simp only [cmp_lt, cmp_gt, cmp_eq, zN_cge, zN_cle, Decidable.not_not] at q5) | (simp (disch := omega) only [zN_le, zN_lt, zN_0, zN_1, nI_toInt, zN_eq, zN_eq0, b2_z, b2_nz, Decidable.not_not, Int.not_lt, Int.not_le, zK0, zK1, zK2, zK3, zK5, zK7, zK8, zK9, zK10, zK19, zK20, zK40, zK99, zK100, zK199] at q5) | skip
      exact absurd q5 (by decide)
  · refine x_if_ne (tgt := 13) dX12_named_5 rfl (fun q5 => ?_) (fun q5 => ?_)
    · skip
      first | (simp only [cmp_lt, cmp_gt, cmp_eq, zN_cge, zN_cle, Decidable.not_not] at q5) | (simp (disch := omega) only [zN_le, zN_lt, zN_0, zN_1, nI_toInt, zN_eq, zN_eq0, b2_z, b2_nz, Decidable.not_not, Int.not_lt, Int.not_le, zK0, zK1, zK2, zK3, zK5, zK7, zK8, zK9, zK10, zK19, zK20, zK40, zK99, zK100, zK199] at q5) | skip
      exact absurd trivial q5
    · skip
      first | (simp only [cmp_lt, cmp_gt, cmp_eq, zN_cge, zN_cle, Decidable.not_not] at q5) | (simp (disch := omega) only [zN_le, zN_lt, zN_0, zN_1, nI_toInt, zN_eq, zN_eq0, b2_z, b2_nz, Decidable.not_not, Int.not_lt, Int.not_le, zK0, zK1, zK2, zK3, zK5, zK7, zK8, zK9, zK10, zK19, zK20, zK40, zK99, zK100, zK199] at q5) | skip
      refine x_al0 rfl dX12_named_8 ?_
      refine x_iconst (v := nI 2) dX12_named_9 rfl ?_
      refine x_cv1Vp mX12_fails_ok lkX12_153 rfl (Nat.le_of_ble_eq_true rfl) (Nat.le_of_ble_eq_true rfl) dX12_named_10 W.hM  (o_fails (fa := 2) (by decide) (by decide) W O) (fun h hq => ?_)
      obtain ⟨s3, W3, U3, E3⟩ := hq
      refine x_al0 rfl dX12_named_13 ?_
      refine x_il2 dX12_named_14 ?_
      refine x_il3 dX12_named_15 ?_
      refine x_cv2Ip mX12_takes_ok lkX12_194 rfl (Nat.le_of_ble_eq_true rfl) (Nat.le_of_ble_eq_true rfl) dX12_named_16 W3.hM  (e_takes W3 E3) (fun r h hq => ?_)
      obtain rfl := hq
      exact x_iret rfl rfl dX12_named_19 ⟨_, rfl, by unfold fNd; rw [if_neg z]; exact ⟨s3, W3, U3, E3⟩⟩
theorem e_named {k : Nat} {lo hi : Int32} (hk : k < 24) (W : MW h0 h s M L) (E : PE s e) : Zm g (d + 2) 0 0 mX12_named [.ref 59, .int (nI k), .int lo, .int hi] h (rIp (fun _ h' => h' = h)) := by
  show Zw g (d + 2) 0 0 mX12_named 0 [some (.ref 59), some (.int (nI k)), some (.int lo), some (.int hi)] [] h _
  refine x_al0 rfl dX12_named_0 ?_
  refine x_il1 dX12_named_1 ?_
  refine x_cv1I mX12_eats_ok lkX12_173 rfl (Nat.le_of_ble_eq_true rfl) (Nat.le_of_ble_eq_true rfl) dX12_named_2 W.hM  (e_eats W E (by omega)) ?_
  refine x_if_ne (tgt := 13) dX12_named_5 rfl (fun q5 => ?_) (fun q5 => ?_)
  · skip
    first | (simp only [cmp_lt, cmp_gt, cmp_eq, zN_cge, zN_cle, Decidable.not_not] at q5) | (simp (disch := omega) only [zN_le, zN_lt, zN_0, zN_1, nI_toInt, zN_eq, zN_eq0, b2_z, b2_nz, Decidable.not_not, Int.not_lt, Int.not_le, zK0, zK1, zK2, zK3, zK5, zK7, zK8, zK9, zK10, zK19, zK20, zK40, zK99, zK100, zK199] at q5) | skip
    exact absurd trivial q5
  · skip
    first | (simp only [cmp_lt, cmp_gt, cmp_eq, zN_cge, zN_cle, Decidable.not_not] at q5) | (simp (disch := omega) only [zN_le, zN_lt, zN_0, zN_1, nI_toInt, zN_eq, zN_eq0, b2_z, b2_nz, Decidable.not_not, Int.not_lt, Int.not_le, zK0, zK1, zK2, zK3, zK5, zK7, zK8, zK9, zK10, zK19, zK20, zK40, zK99, zK100, zK199] at q5) | skip
    refine x_al0 rfl dX12_named_8 ?_
    refine x_iconst (v := nI 2) dX12_named_9 rfl ?_
    refine x_cv1V mX12_fails_ok lkX12_153 rfl (Nat.le_of_ble_eq_true rfl) (Nat.le_of_ble_eq_true rfl) dX12_named_10 W.hM  (e_fails W E) ?_
    refine x_al0 rfl dX12_named_13 ?_
    refine x_il2 dX12_named_14 ?_
    refine x_il3 dX12_named_15 ?_
    refine x_cv2Ip mX12_takes_ok lkX12_194 rfl (Nat.le_of_ble_eq_true rfl) (Nat.le_of_ble_eq_true rfl) dX12_named_16 W.hM  (e_takes W E) (fun r h hq => ?_)
    obtain rfl := hq
    exact x_iret rfl rfl dX12_named_19 ⟨_, rfl, rfl⟩
theorem o_closes {li : Nat} (W : MW h0 h s M L) (O : PO X s M p base) (e0 : M 63 0 = nI li) : Zm g (d + 7) 0 0 mX12_closes [.ref 59] h (rVp (fun h' => (tkK X p = 30 ∧ ∃ s', MW h0 h' s' (upM M 63 (upd (M 63) 0 (nI (li + 1)))) L ∧ PU s s' ∧ TKm X s' (tkB X p)) ∨ (tkK X p ≠ 30 ∧ ∃ s' M', MW h0 h' s' M' L ∧ PW s s' M M' ∧ PE s' (erK X p, tkA X p)))) := by
  show Zw g (d + 7) 0 0 mX12_closes 0 [some (.ref 59)] [] h _
  refine x_al0 rfl dX12_closes_0 ?_
  refine x_bipush (v := nI 30) dX12_closes_1 rfl ?_
  refine x_cv1Ip mX12_eats_ok lkX12_173 rfl (Nat.le_of_ble_eq_true rfl) (Nat.le_of_ble_eq_true rfl) dX12_closes_3 W.hM  (o_eats W O (by omega)) (fun r h hq => ?_)
  rcases hq with ⟨z, rfl, s2, W2, U2, K2⟩ | ⟨z, rfl, rfl⟩
  · refine x_if_ne (tgt := 14) dX12_closes_6 rfl (fun q6 => ?_) (fun q6 => ?_)
    · skip
      first | (simp only [cmp_lt, cmp_gt, cmp_eq, zN_cge, zN_cle, Decidable.not_not] at q6) | (simp (disch := omega) only [zN_le, zN_lt, zN_0, zN_1, nI_toInt, zN_eq, zN_eq0, b2_z, b2_nz, Decidable.not_not, Int.not_lt, Int.not_le, zK0, zK1, zK2, zK3, zK5, zK7, zK8, zK9, zK10, zK19, zK20, zK40, zK99, zK100, zK199] at q6) | skip
      refine x_al0 rfl dX12_closes_14 ?_
      refine x_gm fdX12_24 W2.hM (by decide) W2.hF.f4 dX12_closes_15 ?_
      refine x_iconst (v := nI 0) dX12_closes_18 rfl ?_
      refine x_dup2 rfl rfl dX12_closes_19 ?_
      refine x_mld (len := 956) W2 rfl rfl (by decide) (by omega) e0 dX12_closes_20 ?_
      refine x_iconst (v := nI 1) dX12_closes_21 rfl ?_
      first | refine x_iadd (nI_add _ _) dX12_closes_22 ?_ | refine x_iadd rfl dX12_closes_22 ?_
      refine x_mst (len := 956) W2 rfl rfl (by decide) (by omega) dX12_closes_23 (fun h W2 => ?_)
      exact x_vret rfl dX12_closes_24 ⟨rfl, Or.inl ⟨z, s2, W2, U2, K2⟩⟩
    · skip
      first | (simp only [cmp_lt, cmp_gt, cmp_eq, zN_cge, zN_cle, Decidable.not_not] at q6) | (simp (disch := omega) only [zN_le, zN_lt, zN_0, zN_1, nI_toInt, zN_eq, zN_eq0, b2_z, b2_nz, Decidable.not_not, Int.not_lt, Int.not_le, zK0, zK1, zK2, zK3, zK5, zK7, zK8, zK9, zK10, zK19, zK20, zK40, zK99, zK100, zK199] at q6) | skip
      exact absurd q6 (by decide)
  · refine x_if_ne (tgt := 14) dX12_closes_6 rfl (fun q6 => ?_) (fun q6 => ?_)
    · skip
      first | (simp only [cmp_lt, cmp_gt, cmp_eq, zN_cge, zN_cle, Decidable.not_not] at q6) | (simp (disch := omega) only [zN_le, zN_lt, zN_0, zN_1, nI_toInt, zN_eq, zN_eq0, b2_z, b2_nz, Decidable.not_not, Int.not_lt, Int.not_le, zK0, zK1, zK2, zK3, zK5, zK7, zK8, zK9, zK10, zK19, zK20, zK40, zK99, zK100, zK199] at q6) | skip
      exact absurd trivial q6
    · skip
      first | (simp only [cmp_lt, cmp_gt, cmp_eq, zN_cge, zN_cle, Decidable.not_not] at q6) | (simp (disch := omega) only [zN_le, zN_lt, zN_0, zN_1, nI_toInt, zN_eq, zN_eq0, b2_z, b2_nz, Decidable.not_not, Int.not_lt, Int.not_le, zK0, zK1, zK2, zK3, zK5, zK7, zK8, zK9, zK10, zK19, zK20, zK40, zK99, zK100, zK199] at q6) | skip
      refine x_al0 rfl dX12_closes_9 ?_
      refine x_iconst (v := nI 2) dX12_closes_10 rfl ?_
      refine x_cv1Vp mX12_fails_ok lkX12_153 rfl (Nat.le_of_ble_eq_true rfl) (Nat.le_of_ble_eq_true rfl) dX12_closes_11 W.hM  (o_fails (fa := 2) (by decide) (by decide) W O) (fun h hq => ?_)
      obtain ⟨s3, W, U3, E3⟩ := hq
      refine x_al0 rfl dX12_closes_14 ?_
      refine x_gm fdX12_24 W.hM (by decide) W.hF.f4 dX12_closes_15 ?_
      refine x_iconst (v := nI 0) dX12_closes_18 rfl ?_
      refine x_dup2 rfl rfl dX12_closes_19 ?_
      refine x_mld (len := 956) W rfl rfl (by decide) (by omega) rfl dX12_closes_20 ?_
      refine x_iconst (v := nI 1) dX12_closes_21 rfl ?_
      first | refine x_iadd (nI_add _ _) dX12_closes_22 ?_ | refine x_iadd rfl dX12_closes_22 ?_
      refine x_mst (len := 956) W rfl rfl (by decide) (by omega) dX12_closes_23 (fun h W => ?_)
      exact x_vret rfl dX12_closes_24 ⟨rfl, Or.inr ⟨z, s3, _, W, U3.tr ⟨fun _ _ _ _ _ _ _ => rfl, fun i hi => upM_ne hi⟩, E3⟩⟩
theorem e_closes (W : MW h0 h s M L) (E : PE s e) : Zm g (d + 2) 0 0 mX12_closes [.ref 59] h (rVp (fun h' => ∃ M', MW h0 h' s M' L ∧ PW s s M M')) := by
  show Zw g (d + 2) 0 0 mX12_closes 0 [some (.ref 59)] [] h _
  refine x_al0 rfl dX12_closes_0 ?_
  refine x_bipush (v := nI 30) dX12_closes_1 rfl ?_
  refine x_cv1I mX12_eats_ok lkX12_173 rfl (Nat.le_of_ble_eq_true rfl) (Nat.le_of_ble_eq_true rfl) dX12_closes_3 W.hM  (e_eats W E (by decide)) ?_
  refine x_if_ne (tgt := 14) dX12_closes_6 rfl (fun q6 => ?_) (fun q6 => ?_)
  · skip
    first | (simp only [cmp_lt, cmp_gt, cmp_eq, zN_cge, zN_cle, Decidable.not_not] at q6) | (simp (disch := omega) only [zN_le, zN_lt, zN_0, zN_1, nI_toInt, zN_eq, zN_eq0, b2_z, b2_nz, Decidable.not_not, Int.not_lt, Int.not_le, zK0, zK1, zK2, zK3, zK5, zK7, zK8, zK9, zK10, zK19, zK20, zK40, zK99, zK100, zK199] at q6) | skip
    exact absurd trivial q6
  · skip
    first | (simp only [cmp_lt, cmp_gt, cmp_eq, zN_cge, zN_cle, Decidable.not_not] at q6) | (simp (disch := omega) only [zN_le, zN_lt, zN_0, zN_1, nI_toInt, zN_eq, zN_eq0, b2_z, b2_nz, Decidable.not_not, Int.not_lt, Int.not_le, zK0, zK1, zK2, zK3, zK5, zK7, zK8, zK9, zK10, zK19, zK20, zK40, zK99, zK100, zK199] at q6) | skip
    refine x_al0 rfl dX12_closes_9 ?_
    refine x_iconst (v := nI 2) dX12_closes_10 rfl ?_
    refine x_cv1V mX12_fails_ok lkX12_153 rfl (Nat.le_of_ble_eq_true rfl) (Nat.le_of_ble_eq_true rfl) dX12_closes_11 W.hM  (e_fails W E) ?_
    refine x_al0 rfl dX12_closes_14 ?_
    refine x_gm fdX12_24 W.hM (by decide) W.hF.f4 dX12_closes_15 ?_
    refine x_iconst (v := nI 0) dX12_closes_18 rfl ?_
    refine x_dup2 rfl rfl dX12_closes_19 ?_
    refine x_mld (len := 956) W rfl rfl (by decide) (by omega) rfl dX12_closes_20 ?_
    refine x_iconst (v := nI 1) dX12_closes_21 rfl ?_
    first | refine x_iadd (nI_add _ _) dX12_closes_22 ?_ | refine x_iadd rfl dX12_closes_22 ?_
    refine x_mst (len := 956) W rfl rfl (by decide) (by omega) dX12_closes_23 (fun h W => ?_)
    exact x_vret rfl dX12_closes_24 ⟨rfl, _, W, fun _ _ _ _ _ _ _ => rfl, fun i hi => upM_ne hi⟩
theorem o_readDrawer {fm n : Nat} (hfm : fm = 9 ∨ fm = 15) (n0 : 0 < n) (n6 : n ≤ 6) (W : MW h0 h s M L) (O : PO X s M p base) (hK : tkK X p ≠ 24) (e1 : M 63 1 = nI n) : Zm g (d + 7) 0 0 mX12_readDrawer [.ref 59, .int (nI fm)] h (rVp (fun h' => match fDr X n p with
    | .inl e => ∃ s', MW h0 h' s' M L ∧ PW s s' M M ∧ PE s' e
    | .inr q => ∃ s', MW h0 h' s' (upM M 63 (upd (M 63) (fm + q.2.1) (nI q.2.2))) L ∧ PU s s' ∧ TKm X s' q.1)) := by
  obtain ⟨nu, e10, -⟩ := O.2.1.2.2.2.2
  have b := tkA_B O.2.1.1 hK
  have n1 : nI n - nI 1 = nI (n - 1) := pk_sub (by omega)
  show Zw g (d + 7) 0 0 mX12_readDrawer 0 [some (.ref 59), some (.int (nI fm)), none, none] [] h _
  refine x_al0 rfl dX12_readDrawer_0 ?_
  refine x_cv0Vp mX12_next_ok lkX12_150 rfl (Nat.le_of_ble_eq_true rfl) (Nat.le_of_ble_eq_true rfl) dX12_readDrawer_1 W.hM  (j_next W O.1 b.2 O.2.1.2.2.1 e10) (fun h hq => ?_)
  obtain ⟨s2, W, U2, K2⟩ := hq
  have O := O.nx U2 K2 (by omega)
  refine x_al0 rfl dX12_readDrawer_4 ?_
  refine x_iconst (v := nI 0) dX12_readDrawer_5 rfl ?_
  refine x_al0 rfl dX12_readDrawer_6 ?_
  refine x_gm fdX12_24 W.hM (by decide) W.hF.f4 dX12_readDrawer_7 ?_
  refine x_iconst (v := nI 1) dX12_readDrawer_10 rfl ?_
  refine x_mld (len := 956) W rfl rfl (by decide) (by omega) e1 dX12_readDrawer_11 ?_
  refine x_iconst (v := nI 1) dX12_readDrawer_12 rfl ?_
  refine x_isub (n1) dX12_readDrawer_13 ?_
  refine x_cv2Ip mX12_takes_ok lkX12_194 rfl (Nat.le_of_ble_eq_true rfl) (Nat.le_of_ble_eq_true rfl) dX12_readDrawer_14 W.hM  (o_takes (lo := 0) (hi := n - 1) (by omega) (by omega) W O) (fun r h hq => ?_)
  unfold fDr
  cases f1 : fNm X 0 (n - 1) (tkB X p) with
  | inl e9 =>
    rw [f1] at hq
    obtain ⟨s3, W, U3, E3⟩ := hq
    have e11 := E3.1
    refine x_is2 rfl dX12_readDrawer_17 ?_
    refine x_al0 rfl dX12_readDrawer_18 ?_
    refine x_iconst (v := nI 0) dX12_readDrawer_19 rfl ?_
    refine x_al0 rfl dX12_readDrawer_20 ?_
    refine x_gm fdX12_24 W.hM (by decide) W.hF.f4 dX12_readDrawer_21 ?_
    refine x_iconst (v := nI 1) dX12_readDrawer_24 rfl ?_
    refine x_mld (len := 956) W rfl rfl (by decide) (by omega) rfl dX12_readDrawer_25 ?_
    refine x_iconst (v := nI 1) dX12_readDrawer_26 rfl ?_
    refine x_isub (rfl) dX12_readDrawer_27 ?_
    refine x_cv2Ip mX12_takes_ok lkX12_194 rfl (Nat.le_of_ble_eq_true rfl) (Nat.le_of_ble_eq_true rfl) dX12_readDrawer_28 W.hM  (e_takes W E3) (fun r h hq => ?_)
    obtain rfl := hq
    refine x_is3 rfl dX12_readDrawer_31 ?_
    refine x_al0 rfl dX12_readDrawer_32 ?_
    refine x_gm fdX12_141 W.hM (by decide) (by first | assumption | rfl) dX12_readDrawer_33 ?_
    refine x_if_ne (tgt := 48) dX12_readDrawer_36 rfl (fun q36 => ?_) (fun q36 => ?_)
    · skip
      exact x_vret rfl dX12_readDrawer_48 ⟨rfl, s3, W, U2.pw.tr U3, E3⟩
    · skip
      exact absurd q36 (nI_n05 E3.2.2.1 E3.2.2.2)
  | inr q1 =>
    rw [f1] at hq
    obtain ⟨rfl, s3, W, U3, K3⟩ := hq
    have o1 := fNm_o b.2 f1
    have O := O.nx U3 K3 (by omega)
    refine x_is2 rfl dX12_readDrawer_17 ?_
    refine x_al0 rfl dX12_readDrawer_18 ?_
    refine x_iconst (v := nI 0) dX12_readDrawer_19 rfl ?_
    refine x_al0 rfl dX12_readDrawer_20 ?_
    refine x_gm fdX12_24 W.hM (by decide) W.hF.f4 dX12_readDrawer_21 ?_
    refine x_iconst (v := nI 1) dX12_readDrawer_24 rfl ?_
    refine x_mld (len := 956) W rfl rfl (by decide) (by omega) e1 dX12_readDrawer_25 ?_
    refine x_iconst (v := nI 1) dX12_readDrawer_26 rfl ?_
    refine x_isub (n1) dX12_readDrawer_27 ?_
    refine x_cv2Ip mX12_takes_ok lkX12_194 rfl (Nat.le_of_ble_eq_true rfl) (Nat.le_of_ble_eq_true rfl) dX12_readDrawer_28 W.hM  (o_takes (lo := 0) (hi := n - 1) (by omega) (by omega) W O) (fun r h hq => ?_)
    simp only
    cases f2 : fNm X 0 (n - 1) q1.1 with
    | inl e9 =>
      rw [f2] at hq
      obtain ⟨s4, W, U4, E4⟩ := hq
      have e11 := E4.1
      refine x_is3 rfl dX12_readDrawer_31 ?_
      refine x_al0 rfl dX12_readDrawer_32 ?_
      refine x_gm fdX12_141 W.hM (by decide) (by first | assumption | rfl) dX12_readDrawer_33 ?_
      refine x_if_ne (tgt := 48) dX12_readDrawer_36 rfl (fun q36 => ?_) (fun q36 => ?_)
      · skip
        exact x_vret rfl dX12_readDrawer_48 ⟨rfl, s4, W, (U2.tr U3).pw.tr U4, E4⟩
      · skip
        exact absurd q36 (nI_n05 E4.2.2.1 E4.2.2.2)
    | inr q2 =>
      rw [f2] at hq
      obtain ⟨rfl, s4, W, U4, K4⟩ := hq
      have e11 : s4 11 = .int 0 := by rw [U4 11 (by decide) (by decide) (by decide) (by decide)]; exact O.2.2.1
      refine x_is3 rfl dX12_readDrawer_31 ?_
      refine x_al0 rfl dX12_readDrawer_32 ?_
      refine x_gm fdX12_141 W.hM (by decide) (by first | assumption | rfl) dX12_readDrawer_33 ?_
      refine x_if_ne (tgt := 48) dX12_readDrawer_36 rfl (fun q36 => ?_) (fun q36 => ?_)
      · skip
        first | (simp only [cmp_lt, cmp_gt, cmp_eq, zN_cge, zN_cle, Decidable.not_not] at q36) | (simp (disch := omega) only [zN_le, zN_lt, zN_0, zN_1, nI_toInt, zN_eq, zN_eq0, b2_z, b2_nz, Decidable.not_not, Int.not_lt, Int.not_le, zK0, zK1, zK2, zK3, zK5, zK7, zK8, zK9, zK10, zK19, zK20, zK40, zK99, zK100, zK199] at q36) | skip
        exact absurd trivial q36
      · skip
        first | (simp only [cmp_lt, cmp_gt, cmp_eq, zN_cge, zN_cle, Decidable.not_not] at q36) | (simp (disch := omega) only [zN_le, zN_lt, zN_0, zN_1, nI_toInt, zN_eq, zN_eq0, b2_z, b2_nz, Decidable.not_not, Int.not_lt, Int.not_le, zK0, zK1, zK2, zK3, zK5, zK7, zK8, zK9, zK10, zK19, zK20, zK40, zK99, zK100, zK199] at q36) | skip
        refine x_al0 rfl dX12_readDrawer_39 ?_
        refine x_gm fdX12_24 W.hM (by decide) W.hF.f4 dX12_readDrawer_40 ?_
        refine x_il1 dX12_readDrawer_43 ?_
        refine x_il2 dX12_readDrawer_44 ?_
        first | refine x_iadd (nI_add _ _) dX12_readDrawer_45 ?_ | refine x_iadd rfl dX12_readDrawer_45 ?_
        refine x_il3 dX12_readDrawer_46 ?_
        refine x_mst (len := 956) W rfl rfl (by decide) (by omega) dX12_readDrawer_47 (fun h W => ?_)
        exact x_vret rfl dX12_readDrawer_48 ⟨rfl, s4, W, (U2.tr U3).tr U4, K4⟩
theorem e_readUnit {dp : Nat} : CtE g (d + 4) h0 L mX12_readUnit dp := by
  intro h s M e W E
  have C : CtE g (d + 3) h0 L mX12_readSum dp := e_readSum (e_readTerm e_readAtom)
  show Zw g (d + 4) 0 0 mX12_readUnit 0 [some (.ref 59), some (.int (nI dp)), none] [] h _
  refine x_al0 rfl dX12_readUnit_0 ?_
  refine x_bipush (v := nI 18) dX12_readUnit_1 rfl ?_
  refine x_cv1I mX12_is_ok lkX12_147 rfl (Nat.le_of_ble_eq_true rfl) (Nat.le_of_ble_eq_true rfl) dX12_readUnit_3 W.hM  (e_is W E (by decide)) ?_
  refine x_if_eq (tgt := 33) dX12_readUnit_6 rfl (fun q6 => ?_) (fun q6 => ?_)
  · skip
    first | (simp only [cmp_lt, cmp_gt, cmp_eq, zN_cge, zN_cle, Decidable.not_not] at q6) | (simp (disch := omega) only [zN_le, zN_lt, zN_0, zN_1, nI_toInt, zN_eq, zN_eq0, b2_z, b2_nz, Decidable.not_not, Int.not_lt, Int.not_le, zK0, zK1, zK2, zK3, zK5, zK7, zK8, zK9, zK10, zK19, zK20, zK40, zK99, zK100, zK199] at q6) | skip
    refine x_al0 rfl dX12_readUnit_33 ?_
    refine x_bipush (v := nI 37) dX12_readUnit_34 rfl ?_
    refine x_cv1I mX12_is_ok lkX12_147 rfl (Nat.le_of_ble_eq_true rfl) (Nat.le_of_ble_eq_true rfl) dX12_readUnit_36 W.hM  (e_is W E (by decide)) ?_
    refine x_if_eq (tgt := 73) dX12_readUnit_39 rfl (fun q39 => ?_) (fun q39 => ?_)
    · skip
      first | (simp only [cmp_lt, cmp_gt, cmp_eq, zN_cge, zN_cle, Decidable.not_not] at q39) | (simp (disch := omega) only [zN_le, zN_lt, zN_0, zN_1, nI_toInt, zN_eq, zN_eq0, b2_z, b2_nz, Decidable.not_not, Int.not_lt, Int.not_le, zK0, zK1, zK2, zK3, zK5, zK7, zK8, zK9, zK10, zK19, zK20, zK40, zK99, zK100, zK199] at q39) | skip
      refine x_al0 rfl dX12_readUnit_73 ?_
      refine x_il1 dX12_readUnit_74 ?_
      refine x_cv1V mX12_readSum_ok lkX12_170 rfl (Nat.le_of_ble_eq_true rfl) (Nat.le_of_ble_eq_true rfl) dX12_readUnit_75 W.hM  (C _ _ _ _ W E) ?_
      exact eu78 (d := d + 2) (x := none) W E C ⟨rfl, rfl⟩
    · skip
      first | (simp only [cmp_lt, cmp_gt, cmp_eq, zN_cge, zN_cle, Decidable.not_not] at q39) | (simp (disch := omega) only [zN_le, zN_lt, zN_0, zN_1, nI_toInt, zN_eq, zN_eq0, b2_z, b2_nz, Decidable.not_not, Int.not_lt, Int.not_le, zK0, zK1, zK2, zK3, zK5, zK7, zK8, zK9, zK10, zK19, zK20, zK40, zK99, zK100, zK199] at q39) | skip
      exact absurd trivial q39
  · skip
    first | (simp only [cmp_lt, cmp_gt, cmp_eq, zN_cge, zN_cle, Decidable.not_not] at q6) | (simp (disch := omega) only [zN_le, zN_lt, zN_0, zN_1, nI_toInt, zN_eq, zN_eq0, b2_z, b2_nz, Decidable.not_not, Int.not_lt, Int.not_le, zK0, zK1, zK2, zK3, zK5, zK7, zK8, zK9, zK10, zK19, zK20, zK40, zK99, zK100, zK199] at q6) | skip
    exact absurd trivial q6
theorem e_readTr {dp : Nat} : CtE g (d + 6) h0 L mX12_readTruth dp := e_readTruth (d := d + 4) (e_readBoth (d := d + 3) e_readUnit)
theorem e_readSm {dp : Nat} : CtE g (d + 3) h0 L mX12_readSum dp := e_readSum (e_readTerm e_readAtom)
/-- a law in the model's fresh row -/
def MLb (F : Nat → Int32) (lw : Nat) (base : Nat) (c : Option (List Nat)) : Prop := match c with
  | none => F (3 + lw) = nI 0
  | some cs => F (3 + lw) = nI 1 ∧ ∃ fr, fr + cs.length ≤ base ∧ F (7 + lw) = nI cs.length ∧ F (5 + lw) = nI fr ∧ ∀ j c, cs[j]? = some c → F (56 + fr + j) = nI c
theorem MLb.up {F F' : Nat → Int32} {lw base base' : Nat} {c : Option (List Nat)} (hl : lw < 2) (a : MLb F lw base c) (hb : base ≤ base') (h : ∀ k, (k = 3 + lw ∨ k = 5 + lw ∨ k = 7 + lw ∨ (56 ≤ k ∧ k < 56 + base)) → F' k = F k) : MLb F' lw base' c := by
  cases c with
  | none => show F' (3 + lw) = nI 0; rw [h _ (Or.inl rfl)]; exact a
  | some cs =>
    obtain ⟨a1, fr, a2, a3, a4, a5⟩ := a
    refine ⟨by rw [h _ (Or.inl rfl)]; exact a1, fr, by omega, by rw [h _ (by omega)]; exact a3, by rw [h _ (by omega)]; exact a4, fun j c hj => ?_⟩
    have := (List.getElem?_eq_some_iff.mp hj).1
    rw [h _ (by omega)]
    exact a5 j c hj
def QLw (X : zX) (h0 h : zH) (s : Nat → Value) (M : Nat → Nat → Int32) (L : Nat → Nat → Int64) (lw base : Nat) (S : zR) : Prop := match S with
  | .inl e => ∃ s' M', MW h0 h s' M' L ∧ PW s s' M M' ∧ PE s' e
  | .inr q => ∃ s' M', MW h0 h s' M' L ∧ PW s s' M M' ∧ PO X s' M' q.1 (base + q.2.length) ∧ MLb (M' 63) lw (base + q.2.length) (some q.2) ∧ ∀ k, k ≠ 3 + lw → k ≠ 5 + lw → k ≠ 7 + lw → k ≠ 55 → k < 56 + base → M' 63 k = M 63 k
theorem o_readLaw {lw : Nat} (hl : lw < 2) (W : MW h0 h s M L) (O : PO X s M p base) (hK : tkK X p ≠ 24) : Zm g (d + 55) 0 0 mX12_readLaw [.ref 59, .int (nI lw)] h (rVp (fun h' => QLw X h0 h' s M L lw base (fLw X (decide (lw = 1)) p))) := by
  obtain ⟨nu, e10, -⟩ := O.2.1.2.2.2.2
  have b := tkA_B O.2.1.1 hK
  obtain ⟨CS, CT, -⟩ := lvM (g := g) (d := d) (X := X) (h0 := h0) (L := L) 6 (Nat.le_refl _)
  have eS : fLw X (decide (lw = 1)) p = apR [] (sqR (waR X 31 (tkB X p)) (fun p => if decide (lw = 1) = true then fTr X (fLv X 6).2 p else fSm X (fLv X 6).1 p)) := by rw [apR_nil]; rfl
  have l0 := O.2.2.2.2
  have X9 := O.1.2.1
  have hS : ∀ q, fLw X (decide (lw = 1)) p = .inr q → q.2.length + tkA X p ≤ tkA X q.1 ∧ tkA X q.1 ≤ 900 := fun q z => by
    have := fLw_o X9 O.2.1.1 hK z
    have := tkA_le this.1
    omega
  generalize fLw X (decide (lw = 1)) p = S at eS hS ⊢
  show Zw g (d + 55) 0 0 mX12_readLaw 0 [some (.ref 59), some (.int (nI lw)), none] [] h _
  refine x_al0 rfl dX12_readLaw_0 ?_
  refine x_cv0Vp mX12_next_ok lkX12_150 rfl (Nat.le_of_ble_eq_true rfl) (Nat.le_of_ble_eq_true rfl) dX12_readLaw_1 W.hM  (j_next W O.1 b.2 O.2.1.2.2.1 e10) (fun h hq => ?_)
  obtain ⟨s2, W2, U2, K2⟩ := hq
  have A := (PA.rf W O).nx W2 U2 K2 (by omega)
  refine x_al0 rfl dX12_readLaw_4 ?_
  refine x_bipush (v := nI 31) dX12_readLaw_5 rfl ?_
  refine x_cv1Ip mX12_eats_ok lkX12_173 rfl (Nat.le_of_ble_eq_true rfl) (Nat.le_of_ble_eq_true rfl) dX12_readLaw_7 W2.hM  (o_eats W2 A.2.2.1 (by decide)) (fun r h hq => ?_)
  have err : ∀ (h : zH) (s3 : Nat → Value) (M3 : Nat → Nat → Int32) (e9 : Nat × Nat), MW h0 h s3 M3 L → PW s s3 M M3 → PE s3 e9 → S = .inl e9 → Zw g (d + 55) 0 0 mX12_readLaw 18 [some (.ref 59), some (.int (nI lw)), none] [] h (rVp (fun h' => QLw X h0 h' s M L lw base S)) := by
    intro h s3 M3 e9 W U E hS
    have e11 := E.1
    refine x_al0 rfl dX12_readLaw_18 ?_
    refine x_gm fdX12_24 W.hM (by decide) W.hF.f4 dX12_readLaw_19 ?_
    refine x_bipush (v := nI 55) dX12_readLaw_22 rfl ?_
    refine x_mld (len := 956) W rfl rfl (by decide) (by omega) rfl dX12_readLaw_24 ?_
    refine x_is2 rfl dX12_readLaw_25 ?_
    refine x_il1 dX12_readLaw_26 ?_
    refine x_if_ne (tgt := 38) dX12_readLaw_27 rfl (fun q27 => ?_) (fun q27 => ?_)
    · skip
      first | (simp only [cmp_lt, cmp_gt, cmp_eq, zN_cge, zN_cle, Decidable.not_not] at q27) | (simp (disch := omega) only [zN_le, zN_lt, zN_0, zN_1, nI_toInt, zN_eq, zN_eq0, b2_z, b2_nz, Decidable.not_not, Int.not_lt, Int.not_le, zK0, zK1, zK2, zK3, zK5, zK7, zK8, zK9, zK10, zK19, zK20, zK40, zK99, zK100, zK199] at q27) | skip
      refine x_al0 rfl dX12_readLaw_38 ?_
      refine x_iconst (v := nI 0) dX12_readLaw_39 rfl ?_
      refine x_cv1V mX12_readTruth_ok lkX12_179 rfl (Nat.le_of_ble_eq_true rfl) (Nat.le_of_ble_eq_true rfl) dX12_readLaw_40 W.hM  (e_readTr _ _ _ _ W E) ?_
      refine x_al0 rfl dX12_readLaw_43 ?_
      refine x_gm fdX12_141 W.hM (by decide) (by first | assumption | rfl) dX12_readLaw_44 ?_
      refine x_if_eq (tgt := 51) dX12_readLaw_47 rfl (fun q47 => ?_) (fun q47 => ?_)
      · skip
        exact absurd q47 (nI_n05 E.2.2.1 E.2.2.2)
      · skip
        exact x_vret rfl dX12_readLaw_50 ⟨rfl, by rw [hS]; exact ⟨s3, M3, W, U, E⟩⟩
    · skip
      first | (simp only [cmp_lt, cmp_gt, cmp_eq, zN_cge, zN_cle, Decidable.not_not] at q27) | (simp (disch := omega) only [zN_le, zN_lt, zN_0, zN_1, nI_toInt, zN_eq, zN_eq0, b2_z, b2_nz, Decidable.not_not, Int.not_lt, Int.not_le, zK0, zK1, zK2, zK3, zK5, zK7, zK8, zK9, zK10, zK19, zK20, zK40, zK99, zK100, zK199] at q27) | skip
      refine x_al0 rfl dX12_readLaw_30 ?_
      refine x_iconst (v := nI 0) dX12_readLaw_31 rfl ?_
      refine x_cv1V mX12_readSum_ok lkX12_170 rfl (Nat.le_of_ble_eq_true rfl) (Nat.le_of_ble_eq_true rfl) dX12_readLaw_32 W.hM  (e_readSm _ _ _ _ W E) ?_
      refine x_goto (tgt := 43) dX12_readLaw_35 rfl ?_
      refine x_al0 rfl dX12_readLaw_43 ?_
      refine x_gm fdX12_141 W.hM (by decide) (by first | assumption | rfl) dX12_readLaw_44 ?_
      refine x_if_eq (tgt := 51) dX12_readLaw_47 rfl (fun q47 => ?_) (fun q47 => ?_)
      · skip
        exact absurd q47 (nI_n05 E.2.2.1 E.2.2.2)
      · skip
        exact x_vret rfl dX12_readLaw_50 ⟨rfl, by rw [hS]; exact ⟨s3, M3, W, U, E⟩⟩
  have tail : ∀ (h : zH), PR X h0 h s M L base S → Zw g (d + 55) 0 0 mX12_readLaw 43 [some (.ref 59), some (.int (nI lw)), some (.int (nI base))] [] h (rVp (fun h' => QLw X h0 h' s M L lw base S)) := by
    intro h R
    cases f1 : S with
    | inl e9 =>
      rw [f1] at R
      obtain ⟨s3, M3, W, U, E⟩ := R
      have e11 := E.1
      refine x_al0 rfl dX12_readLaw_43 ?_
      refine x_gm fdX12_141 W.hM (by decide) (by first | assumption | rfl) dX12_readLaw_44 ?_
      refine x_if_eq (tgt := 51) dX12_readLaw_47 rfl (fun q47 => ?_) (fun q47 => ?_)
      · skip
        exact absurd q47 (nI_n05 E.2.2.1 E.2.2.2)
      · skip
        exact x_vret rfl dX12_readLaw_50 ⟨rfl, s3, M3, W, U, E⟩
    | inr q =>
      rw [f1] at R
      obtain ⟨s3, M3, W, U, O3, F3⟩ := R
      have e11 := O3.2.2.1
      have sl := hS q f1
      have sb : nI (base + q.2.length) - nI base = nI q.2.length := by rw [pk_sub (by omega), Nat.add_sub_cancel_left]
      refine x_al0 rfl dX12_readLaw_43 ?_
      refine x_gm fdX12_141 W.hM (by decide) (by first | assumption | rfl) dX12_readLaw_44 ?_
      refine x_if_eq (tgt := 51) dX12_readLaw_47 rfl (fun q47 => ?_) (fun q47 => ?_)
      · skip
        first | (simp only [cmp_lt, cmp_gt, cmp_eq, zN_cge, zN_cle, Decidable.not_not] at q47) | (simp (disch := omega) only [zN_le, zN_lt, zN_0, zN_1, nI_toInt, zN_eq, zN_eq0, b2_z, b2_nz, Decidable.not_not, Int.not_lt, Int.not_le, zK0, zK1, zK2, zK3, zK5, zK7, zK8, zK9, zK10, zK19, zK20, zK40, zK99, zK100, zK199] at q47) | skip
        refine x_al0 rfl dX12_readLaw_51 ?_
        refine x_gm fdX12_24 W.hM (by decide) W.hF.f4 dX12_readLaw_52 ?_
        refine x_iconst (v := nI 3) dX12_readLaw_55 rfl ?_
        refine x_il1 dX12_readLaw_56 ?_
        first | refine x_iadd (nI_add _ _) dX12_readLaw_57 ?_ | refine x_iadd rfl dX12_readLaw_57 ?_
        refine x_iconst (v := nI 1) dX12_readLaw_58 rfl ?_
        refine x_mst (len := 956) W rfl rfl (by decide) (by omega) dX12_readLaw_59 (fun h W => ?_)
        refine x_al0 rfl dX12_readLaw_60 ?_
        refine x_gm fdX12_24 W.hM (by decide) W.hF.f4 dX12_readLaw_61 ?_
        refine x_iconst (v := nI 5) dX12_readLaw_64 rfl ?_
        refine x_il1 dX12_readLaw_65 ?_
        first | refine x_iadd (nI_add _ _) dX12_readLaw_66 ?_ | refine x_iadd rfl dX12_readLaw_66 ?_
        refine x_il2 dX12_readLaw_67 ?_
        refine x_mst (len := 956) W rfl rfl (by decide) (by omega) dX12_readLaw_68 (fun h W => ?_)
        rw [upM_upM, upM_eq] at W
        refine x_al0 rfl dX12_readLaw_69 ?_
        refine x_gm fdX12_24 W.hM (by decide) W.hF.f4 dX12_readLaw_70 ?_
        refine x_bipush (v := nI 7) dX12_readLaw_73 rfl ?_
        refine x_il1 dX12_readLaw_75 ?_
        first | refine x_iadd (nI_add _ _) dX12_readLaw_76 ?_ | refine x_iadd rfl dX12_readLaw_76 ?_
        refine x_al0 rfl dX12_readLaw_77 ?_
        refine x_gm fdX12_24 W.hM (by decide) W.hF.f4 dX12_readLaw_78 ?_
        refine x_bipush (v := nI 55) dX12_readLaw_81 rfl ?_
        refine x_mld (len := 956) W rfl rfl (by decide) (by omega) (show upM M3 63 (upd (upd (M3 63) (3 + lw) (nI 1)) (5 + lw) (nI base)) 63 55 = nI (base + q.2.length) by rw [upM_eq, pk_un (by omega), pk_un (by omega)]; exact F3.1) dX12_readLaw_83 ?_
        refine x_il2 dX12_readLaw_84 ?_
        refine x_isub (sb) dX12_readLaw_85 ?_
        refine x_mst (len := 956) W rfl rfl (by decide) (by omega) dX12_readLaw_86 (fun h W => ?_)
        rw [upM_upM, upM_eq] at W
        refine x_vret rfl dX12_readLaw_87 ⟨rfl, s3, _, W, U.tr ⟨fun _ _ _ _ _ _ _ => rfl, fun i hi => upM_ne hi⟩, ⟨?_, O3.2.1, e11, ?_, O3.2.2.2.2⟩, ⟨?_, base, Nat.le_refl _, ?_, ?_, fun j c hj => ?_⟩, fun k k1 k2 k3 k4 k5 => ?_⟩
        · exact ⟨O3.1.1, O3.1.2.1, fun i hi => O3.1.2.2 i hi⟩
        · rw [upM_eq, pk_un (by omega), pk_un (by omega), pk_un (by omega)]; exact F3.1
        · rw [upM_eq, pk_un (by omega), pk_un (by omega)]; exact pk_us
        · rw [upM_eq]; exact pk_us
        · rw [upM_eq, pk_un (by omega)]; exact pk_us
        · rw [upM_eq, pk_un (by omega), pk_un (by omega), pk_un (by omega)]; exact F3.2.1 j c hj
        · rw [upM_eq, pk_un k3, pk_un k2, pk_un k1]; exact F3.2.2 k k4 k5
      · skip
        first | (simp only [cmp_lt, cmp_gt, cmp_eq, zN_cge, zN_cle, Decidable.not_not] at q47) | (simp (disch := omega) only [zN_le, zN_lt, zN_0, zN_1, nI_toInt, zN_eq, zN_eq0, b2_z, b2_nz, Decidable.not_not, Int.not_lt, Int.not_le, zK0, zK1, zK2, zK3, zK5, zK7, zK8, zK9, zK10, zK19, zK20, zK40, zK99, zK100, zK199] at q47) | skip
        exact absurd trivial q47
  rcases hq with ⟨z, rfl, s4, W4, U4, K4⟩ | ⟨z, rfl, rfl⟩
  · have bz := tkA_B b.2 (by omega)
    have eS := st_w eS z
    have A := A.nx W4 U4 K4 (by omega)
    have W := A.1
    have ebs : M 63 55 = nI base := O.2.2.2.1
    refine x_if_ne (tgt := 18) dX12_readLaw_10 rfl (fun q10 => ?_) (fun q10 => ?_)
    · skip
      first | (simp only [cmp_lt, cmp_gt, cmp_eq, zN_cge, zN_cle, Decidable.not_not] at q10) | (simp (disch := omega) only [zN_le, zN_lt, zN_0, zN_1, nI_toInt, zN_eq, zN_eq0, b2_z, b2_nz, Decidable.not_not, Int.not_lt, Int.not_le, zK0, zK1, zK2, zK3, zK5, zK7, zK8, zK9, zK10, zK19, zK20, zK40, zK99, zK100, zK199] at q10) | skip
      refine x_al0 rfl dX12_readLaw_18 ?_
      refine x_gm fdX12_24 W.hM (by decide) W.hF.f4 dX12_readLaw_19 ?_
      refine x_bipush (v := nI 55) dX12_readLaw_22 rfl ?_
      refine x_mld (len := 956) W rfl rfl (by decide) (by omega) ebs dX12_readLaw_24 ?_
      refine x_is2 rfl dX12_readLaw_25 ?_
      refine x_il1 dX12_readLaw_26 ?_
      refine x_if_ne (tgt := 38) dX12_readLaw_27 rfl (fun q27 => ?_) (fun q27 => ?_)
      · skip
        refine x_al0 rfl dX12_readLaw_38 ?_
        refine x_iconst (v := nI 0) dX12_readLaw_39 rfl ?_
        refine x_cv1Vp mX12_readTruth_ok lkX12_179 rfl (Nat.le_of_ble_eq_true rfl) (Nat.le_of_ble_eq_true rfl) dX12_readLaw_40 W.hM  (CT _ _ _ _ _ W A.2.2.1) (fun h hq => ?_)
        refine tail _ ?_
        rw [eS, if_pos (by rw [decide_eq_true_iff]; rw [zN_eq0 (by omega)] at q27; omega)]
        exact A.tn hq
      · skip
        refine x_al0 rfl dX12_readLaw_30 ?_
        refine x_iconst (v := nI 0) dX12_readLaw_31 rfl ?_
        refine x_cv1Vp mX12_readSum_ok lkX12_170 rfl (Nat.le_of_ble_eq_true rfl) (Nat.le_of_ble_eq_true rfl) dX12_readLaw_32 W.hM  ((CS.deep (show d + 9 + 7 * 6 ≤ d + 54 by omega)) _ _ _ _ _ W A.2.2.1) (fun h hq => ?_)
        refine x_goto (tgt := 43) dX12_readLaw_35 rfl ?_
        refine tail _ ?_
        rw [eS, if_neg (by rw [decide_eq_true_iff]; rw [zN_eq0 (by omega)] at q27; omega)]
        exact A.tn hq
    · skip
      first | (simp only [cmp_lt, cmp_gt, cmp_eq, zN_cge, zN_cle, Decidable.not_not] at q10) | (simp (disch := omega) only [zN_le, zN_lt, zN_0, zN_1, nI_toInt, zN_eq, zN_eq0, b2_z, b2_nz, Decidable.not_not, Int.not_lt, Int.not_le, zK0, zK1, zK2, zK3, zK5, zK7, zK8, zK9, zK10, zK19, zK20, zK40, zK99, zK100, zK199] at q10) | skip
      exact absurd q10 (by decide)
  · refine x_if_ne (tgt := 18) dX12_readLaw_10 rfl (fun q10 => ?_) (fun q10 => ?_)
    · skip
      first | (simp only [cmp_lt, cmp_gt, cmp_eq, zN_cge, zN_cle, Decidable.not_not] at q10) | (simp (disch := omega) only [zN_le, zN_lt, zN_0, zN_1, nI_toInt, zN_eq, zN_eq0, b2_z, b2_nz, Decidable.not_not, Int.not_lt, Int.not_le, zK0, zK1, zK2, zK3, zK5, zK7, zK8, zK9, zK10, zK19, zK20, zK40, zK99, zK100, zK199] at q10) | skip
      exact absurd trivial q10
    · skip
      first | (simp only [cmp_lt, cmp_gt, cmp_eq, zN_cge, zN_cle, Decidable.not_not] at q10) | (simp (disch := omega) only [zN_le, zN_lt, zN_0, zN_1, nI_toInt, zN_eq, zN_eq0, b2_z, b2_nz, Decidable.not_not, Int.not_lt, Int.not_le, zK0, zK1, zK2, zK3, zK5, zK7, zK8, zK9, zK10, zK19, zK20, zK40, zK99, zK100, zK199] at q10) | skip
      refine x_al0 rfl dX12_readLaw_13 ?_
      refine x_iconst (v := nI 2) dX12_readLaw_14 rfl ?_
      refine x_cv1Vp mX12_fails_ok lkX12_153 rfl (Nat.le_of_ble_eq_true rfl) (Nat.le_of_ble_eq_true rfl) dX12_readLaw_15 W2.hM  (o_fails (fa := 2) (by decide) (by decide) W2 A.2.2.1) (fun h hq => ?_)
      obtain ⟨s5, W5, U5, E5⟩ := hq
      exact err _ s5 _ _ W5 (A.2.1.tr U5) E5 (st_x eS z)
end ZMl

