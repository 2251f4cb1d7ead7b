/-! the model's next: a token -/
def TX (X : zX) (s : Nat → Value) (M : Nat → Nat → Int32) : Prop := s 8 = .int (nI X.2) ∧ X.2 ≤ 900 ∧ ∀ i, i < X.2 → M 62 i = nI (X.1 i) ∧ X.1 i < 256
def sv (X : zX) (k : Nat) : Int32 := if k < X.2 then nI (X.1 k) else -1
theorem kwA : ∀ j, j < 19 → kwP j + kwN j < 95 ∧ kc (kwP j + kwN j) = 32 ∧ kwP (j + 1) = kwP j + kwN j + 1 ∧ ∀ t, t < kwN j → kc (kwP j + t) ≠ 32 := by decide +kernel
theorem kwB : ∀ i, i < 95 → kb 2 i = nI (kc i) ∧ kc i < 256 := by decide +kernel
theorem kwC : ∀ k, k < 12 → kb 3 k = nI (zSg.getD k 0) ∧ zSg.getD k 0 < 256 := by decide +kernel
section ZNx
variable {g : zG} {d : Nat} {h0 h : zH} {s : Nat → Value} {M : Nat → Nat → Int32} {L : Nat → Nat → Int64} {X : zX} {a b k p : Nat}
theorem sv_t (hk : k < X.2) : sv X k = nI (X.1 k) := if_pos hk
theorem sv_e {c : Nat} (T : TX X s M) (hc : c < 256) : sv X k = nI c ↔ (k < X.2 ∧ X.1 k = c) := by
  unfold sv
  split
  · next q =>
    have := (T.2.2 k q).2
    rw [zN_eq (by omega) (by omega)]
    exact ⟨fun z => ⟨q, z⟩, fun z => z.2⟩
  · next q =>
    refine ⟨fun z => ?_, fun z => absurd z.1 q⟩
    have := congrArg Int32.toInt z
    rw [nI_toInt (by omega)] at this
    have e : (-1 : Int32).toInt = -1 := by decide
    omega
theorem sv_i (T : TX X s M) {lo hi : Nat} : ((lo : Int) ≤ (sv X k).toInt ∧ (sv X k).toInt ≤ (hi : Int)) ↔ (k < X.2 ∧ lo ≤ X.1 k ∧ X.1 k ≤ hi) := by
  unfold sv
  split
  · next q =>
    have := (T.2.2 k q).2
    rw [nI_toInt (by omega)]
    omega
  · next q =>
    have e : (-1 : Int32).toInt = -1 := by decide
    omega
theorem sv_lo (T : TX X s M) : (97 ≤ (sv X k).toInt ∧ (sv X k).toInt ≤ 122) ↔ (k < X.2 ∧ isLo (X.1 k) = true) := by
  rw [isLo, decide_eq_true_iff]
  exact sv_i (lo := 97) (hi := 122) T
theorem sv_dg (T : TX X s M) : (48 ≤ (sv X k).toInt ∧ (sv X k).toInt ≤ 57) ↔ (k < X.2 ∧ isDg (X.1 k) = true) := by
  rw [isDg, decide_eq_true_iff]
  exact sv_i (lo := 48) (hi := 57) T
theorem j_isSmall (T : TX X s M) : Zm g d 0 0 mX12_isSmall [.int (sv X k)] h (rI (b2 (k < X.2 ∧ isLo (X.1 k) = true)) h) := by
  have := c_isSmall (g := g) (d := d) (h := h) (x := sv X k)
  rw [b2_congr (sv_lo T)] at this
  exact this
theorem j_isDigit (T : TX X s M) : Zm g d 0 0 mX12_isDigit [.int (sv X k)] h (rI (b2 (k < X.2 ∧ isDg (X.1 k) = true)) h) := by
  have := c_isDigit (g := g) (d := d) (h := h) (x := sv X k)
  rw [b2_congr (sv_dg T)] at this
  exact this
theorem j_see (W : MW h0 h s M L) (T : TX X s M) (hk : k < 1000) : Zm g d 0 0 mX12_see [.ref 59, .int (nI k)] h (rI (sv X k) h) := by
  obtain ⟨t8, t9, t62⟩ := T
  show Zw g d 0 0 mX12_see 0 [some (.ref 59), some (.int (nI k))] [] h _
  refine x_il1 dX12_see_0 ?_
  refine x_al0 rfl dX12_see_1 ?_
  refine x_gm fdX12_98 W.hM (by decide) (by first | assumption | rfl) dX12_see_2 ?_
  refine x_icmp_ge (tgt := 17) dX12_see_5 rfl (fun q5 => ?_) (fun q5 => ?_)
  · skip
    first | (simp only [cmp_lt, cmp_gt, cmp_eq, zN_cge, zN_cle, Decidable.not_not] at q5) | (simp (disch := omega) only [zN_le, zN_lt, zN_0, zN_1, nI_toInt, zN_eq, zN_eq0, b2_z, b2_nz, Decidable.not_not, Int.not_lt, Int.not_le, zK0, zK1, zK2, zK3, zK5, zK7, zK8, zK9, zK10, zK19, zK20, zK40, zK99, zK100, zK199] at q5) | skip
    refine x_iconst (v := (-1)) dX12_see_17 rfl ?_
    exact x_iret rfl rfl dX12_see_18 ⟨by rw [sv, if_neg (by omega)], rfl⟩
  · skip
    first | (simp only [cmp_lt, cmp_gt, cmp_eq, zN_cge, zN_cle, Decidable.not_not] at q5) | (simp (disch := omega) only [zN_le, zN_lt, zN_0, zN_1, nI_toInt, zN_eq, zN_eq0, b2_z, b2_nz, Decidable.not_not, Int.not_lt, Int.not_le, zK0, zK1, zK2, zK3, zK5, zK7, zK8, zK9, zK10, zK19, zK20, zK40, zK99, zK100, zK199] at q5) | skip
    refine x_al0 rfl dX12_see_8 ?_
    refine x_gm fdX12_21 W.hM (by decide) W.hF.f3 dX12_see_9 ?_
    refine x_il1 dX12_see_12 ?_
    refine x_mld (len := 900) W rfl rfl (by decide) (by omega) (t62 k (by omega)).1 dX12_see_13 ?_
    refine x_goto (tgt := 18) dX12_see_14 rfl ?_
    exact x_iret rfl rfl dX12_see_18 ⟨by rw [sv, if_pos (by omega)], rfl⟩
theorem c_len2 : Zm g (d + 1) 0 0 mJ0_length_8abf5 [.retAddr 12] h (rI (nI 95) h) := c_len (i := 2) (by decide)
theorem c_len3 : Zm g (d + 1) 0 0 mJ0_length_8abf5 [.retAddr 13] h (rI (nI 12) h) := c_len (i := 3) (by decide)
theorem c_ch2 {i : Nat} (hi : i < 95) : Zm g (d + 3) 0 0 mJ0_charAt_5068e [.retAddr 12, .int (nI i)] h (rI (nI (kc i)) h) := by
  rw [← (kwB i hi).1]
  exact c_cha (i := 2) (by decide) hi
theorem c_ch3 {i : Nat} (hi : i < 12) : Zm g (d + 3) 0 0 mJ0_charAt_5068e [.retAddr 13, .int (nI i)] h (rI (nI (zSg.getD i 0)) h) := by
  rw [← (kwC i hi).1]
  exact c_cha (i := 3) (by decide) hi
theorem j_keyAt (W : MW h0 h s M L) (T : TX X s M) (ea : s 6 = .int (nI a)) (eb : s 7 = .int (nI b)) (hab : a ≤ b) (hb : b ≤ X.2) : Zm g (d + 4) 0 0 mX12_keyAt [.ref 59] h (rI (nI (keyX X a b)) h) := by
  obtain ⟨t8, t9, t62⟩ := T
  show Zw g (d + 4) 0 0 mX12_keyAt 0 [some (.ref 59), none, none, none] [] h _
  refine x_iconst (v := nI 0) dX12_keyAt_0 rfl ?_
  refine x_is1 rfl dX12_keyAt_1 ?_
  refine x_iconst (v := nI 1) dX12_keyAt_2 rfl ?_
  refine x_is2 rfl dX12_keyAt_3 ?_
  refine x_wh (fun (j : Nat) => [some (.ref 59), some (.int (nI j)), some (.int (nI (kwP j))), none]) (fun j h' => h' = h ∧ j ≤ 19 ∧ ∀ i, i < j → ¬ kwE X a b i) (fun j => 19 - j) 0 ⟨rfl, by decide, fun i hi => absurd hi (Nat.not_lt_zero _)⟩ (fun j h' hI ih => ?_)
  obtain ⟨hh, hj, hno⟩ := hI
  subst hh
  have hj9 : kwP j < 96 := by
    have : ∀ j, j < 20 → kwP j < 96 := by decide
    exact this j (by omega)
  refine x_il2 dX12_keyAt_4 ?_
  refine x_lit2 rfl dX12_keyAt_5 ?_
  refine x_ct0I (j := 2) mJ0_length_8abf5_ok lkX12_103 rfl (by omega) (Nat.le_of_ble_eq_true rfl) (Nat.le_of_ble_eq_true rfl) dX12_keyAt_7 c_len2 ?_
  refine x_icmp_ge (tgt := 123) dX12_keyAt_10 rfl (fun q10 => ?_) (fun q10 => ?_)
  · skip
    first | (simp only [cmp_lt, cmp_gt, cmp_eq, zN_cge, zN_cle, Decidable.not_not] at q10) | (simp (disch := omega) only [zN_le, zN_lt, zN_0, zN_1, nI_toInt, zN_eq, zN_eq0, b2_z, b2_nz, Decidable.not_not, Int.not_lt, Int.not_le, zK0, zK1, zK2, zK3, zK5, zK7, zK8, zK9, zK10, zK19, zK20, zK40, zK99, zK100, zK199] at q10) | skip
    have j19 : j = 19 := by
      rcases Nat.lt_or_ge j 19 with z | z
      · have := (kwA j z).1; omega
      · omega
    refine x_bipush (v := nI 22) dX12_keyAt_123 rfl ?_
    exact x_iret rfl rfl dX12_keyAt_125 ⟨by rw [keyX_f (fun i hi => hno i (by omega))], rfl⟩
  · skip
    first | (simp only [cmp_lt, cmp_gt, cmp_eq, zN_cge, zN_cle, Decidable.not_not] at q10) | (simp (disch := omega) only [zN_le, zN_lt, zN_0, zN_1, nI_toInt, zN_eq, zN_eq0, b2_z, b2_nz, Decidable.not_not, Int.not_lt, Int.not_le, zK0, zK1, zK2, zK3, zK5, zK7, zK8, zK9, zK10, zK19, zK20, zK40, zK99, zK100, zK199] at q10) | skip
    refine x_iconst (v := nI 0) dX12_keyAt_13 rfl ?_
    refine x_is3 rfl dX12_keyAt_14 ?_
    have j19 : j < 19 := by
      rcases Nat.lt_or_ge j 19 with z | z
      · exact z
      · obtain rfl : j = 19 := by omega
        exact absurd q10 (by decide)
    obtain ⟨k1, k2, k3, k4⟩ := kwA j j19
    generalize hP : kwP j = P at k1 k2 k3 k4 q10 hj9 ⊢
    generalize hN : kwN j = N at k1 k2 k3 k4
    have go : ∀ i, ¬ kwE X a b j → Zw g (d + 4) 0 0 mX12_keyAt 97 [some (.ref 59), some (.int (nI j)), some (.int (nI P)), some (.int (nI i))] [] h' (rI (nI (keyX X a b)) h') := by
      intro i hne
      refine x_wh (fun (t : Nat) => [some (.ref 59), some (.int (nI j)), some (.int (nI (P + t))), some (.int (nI i))]) (fun t h => h = h' ∧ t ≤ N) (fun t => N - t) 0 ⟨rfl, Nat.zero_le _⟩ (fun t h hI ih2 => ?_)
      obtain ⟨hh, ht⟩ := hI
      subst hh
      refine x_lit2 rfl dX12_keyAt_97 ?_
      refine x_il2 dX12_keyAt_99 ?_
      refine x_ct1I (j := 2) mJ0_charAt_5068e_ok lkX12_109 rfl (by omega) (Nat.le_of_ble_eq_true rfl) (Nat.le_of_ble_eq_true rfl) dX12_keyAt_100 (c_ch2 (by omega)) ?_
      refine x_bipush (v := nI 32) dX12_keyAt_103 rfl ?_
      have kt := (kwB (P + t) (by omega)).2
      refine x_icmp_eq (tgt := 114) dX12_keyAt_105 rfl (fun q105 => ?_) (fun q105 => ?_)
      · skip
        first | (simp only [cmp_lt, cmp_gt, cmp_eq, zN_cge, zN_cle, Decidable.not_not] at q105) | (simp (disch := omega) only [zN_le, zN_lt, zN_0, zN_1, nI_toInt, zN_eq, zN_eq0, b2_z, b2_nz, Decidable.not_not, Int.not_lt, Int.not_le, zK0, zK1, zK2, zK3, zK5, zK7, zK8, zK9, zK10, zK19, zK20, zK40, zK99, zK100, zK199] at q105) | skip
        first | refine x_ii2 rfl (nI_1 _) dX12_keyAt_114 ?_ | refine x_ii2 rfl rfl dX12_keyAt_114 ?_
        first | refine x_ii1 rfl (nI_1 _) dX12_keyAt_117 ?_ | refine x_ii1 rfl rfl dX12_keyAt_117 ?_
        refine x_goto (tgt := 4) dX12_keyAt_120 rfl ?_
        have tN : t = N := by
          rcases Nat.lt_or_ge t N with z | z
          · exact absurd q105 (k4 t z)
          · omega
        subst tN
        rw [← k3]
        exact x_kill 3 (ih (j + 1) _ (by omega) ⟨rfl, j19, fun i hi => by
          by_cases z : i = j
          · rw [z]; exact hne
          · exact hno i (by omega)⟩)
      · skip
        first | (simp only [cmp_lt, cmp_gt, cmp_eq, zN_cge, zN_cle, Decidable.not_not] at q105) | (simp (disch := omega) only [zN_le, zN_lt, zN_0, zN_1, nI_toInt, zN_eq, zN_eq0, b2_z, b2_nz, Decidable.not_not, Int.not_lt, Int.not_le, zK0, zK1, zK2, zK3, zK5, zK7, zK8, zK9, zK10, zK19, zK20, zK40, zK99, zK100, zK199] at q105) | skip
        first | refine x_ii2 rfl (nI_1 _) dX12_keyAt_108 ?_ | refine x_ii2 rfl rfl dX12_keyAt_108 ?_
        refine x_goto (tgt := 97) dX12_keyAt_111 rfl ?_
        have tN : t < N := by
          rcases Nat.lt_or_ge t N with z | z
          · exact z
          · obtain rfl : t = N := by omega
            exact absurd k2 q105
        exact ih2 (t + 1) _ (by omega) ⟨rfl, tN⟩
    have t69 : ∀ i, i ≤ N → a + i ≤ b → (∀ t, t < i → X.1 (a + t) = kc (P + t)) → (i = N ∨ a + i = b ∨ X.1 (a + i) ≠ kc (P + i)) → Zw g (d + 4) 0 0 mX12_keyAt 69 [some (.ref 59), some (.int (nI j)), some (.int (nI P)), some (.int (nI i))] [] h' (rI (nI (keyX X a b)) h') := by
      intro i hi hai hm hst
      refine x_lit2 rfl dX12_keyAt_69 ?_
      refine x_il2 dX12_keyAt_71 ?_
      refine x_il3 dX12_keyAt_72 ?_
      first | refine x_iadd (nI_add _ _) dX12_keyAt_73 ?_ | refine x_iadd rfl dX12_keyAt_73 ?_
      refine x_ct1I (j := 2) mJ0_charAt_5068e_ok lkX12_109 rfl (by omega) (Nat.le_of_ble_eq_true rfl) (Nat.le_of_ble_eq_true rfl) dX12_keyAt_74 (c_ch2 (by omega)) ?_
      refine x_bipush (v := nI 32) dX12_keyAt_77 rfl ?_
      have kt := (kwB (P + i) (by omega)).2
      refine x_icmp_ne (tgt := 97) dX12_keyAt_79 rfl (fun q79 => ?_) (fun q79 => ?_)
      · skip
        first | (simp only [cmp_lt, cmp_gt, cmp_eq, zN_cge, zN_cle, Decidable.not_not] at q79) | (simp (disch := omega) only [zN_le, zN_lt, zN_0, zN_1, nI_toInt, zN_eq, zN_eq0, b2_z, b2_nz, Decidable.not_not, Int.not_lt, Int.not_le, zK0, zK1, zK2, zK3, zK5, zK7, zK8, zK9, zK10, zK19, zK20, zK40, zK99, zK100, zK199] at q79) | skip
        refine go i (fun z => ?_)
        obtain ⟨z1, z2⟩ := z
        rw [hN] at z1 z2
        rw [hP] at z2
        rcases Nat.lt_or_ge i N with y | y
        · rcases hst with w | w | w
          · omega
          · omega
          · exact w (z2 i y)
        · obtain rfl : i = N := by omega
          exact q79 k2
      · skip
        first | (simp only [cmp_lt, cmp_gt, cmp_eq, zN_cge, zN_cle, Decidable.not_not] at q79) | (simp (disch := omega) only [zN_le, zN_lt, zN_0, zN_1, nI_toInt, zN_eq, zN_eq0, b2_z, b2_nz, Decidable.not_not, Int.not_lt, Int.not_le, zK0, zK1, zK2, zK3, zK5, zK7, zK8, zK9, zK10, zK19, zK20, zK40, zK99, zK100, zK199] at q79) | skip
        refine x_al0 rfl dX12_keyAt_82 ?_
        refine x_gm fdX12_113 W.hM (by decide) (by first | assumption | rfl) dX12_keyAt_83 ?_
        refine x_il3 dX12_keyAt_86 ?_
        first | refine x_iadd (nI_add _ _) dX12_keyAt_87 ?_ | refine x_iadd rfl dX12_keyAt_87 ?_
        refine x_al0 rfl dX12_keyAt_88 ?_
        refine x_gm fdX12_116 W.hM (by decide) (by first | assumption | rfl) dX12_keyAt_89 ?_
        refine x_icmp_ne (tgt := 97) dX12_keyAt_92 rfl (fun q92 => ?_) (fun q92 => ?_)
        · skip
          first | (simp only [cmp_lt, cmp_gt, cmp_eq, zN_cge, zN_cle, Decidable.not_not] at q92) | (simp (disch := omega) only [zN_le, zN_lt, zN_0, zN_1, nI_toInt, zN_eq, zN_eq0, b2_z, b2_nz, Decidable.not_not, Int.not_lt, Int.not_le, zK0, zK1, zK2, zK3, zK5, zK7, zK8, zK9, zK10, zK19, zK20, zK40, zK99, zK100, zK199] at q92) | skip
          refine go i (fun z => ?_)
          obtain ⟨z1, z2⟩ := z
          rw [hN] at z1 z2
          have iN : i = N := by
            rcases Nat.lt_or_ge i N with y | y
            · exact absurd q79 (k4 i y)
            · omega
          omega
        · skip
          first | (simp only [cmp_lt, cmp_gt, cmp_eq, zN_cge, zN_cle, Decidable.not_not] at q92) | (simp (disch := omega) only [zN_le, zN_lt, zN_0, zN_1, nI_toInt, zN_eq, zN_eq0, b2_z, b2_nz, Decidable.not_not, Int.not_lt, Int.not_le, zK0, zK1, zK2, zK3, zK5, zK7, zK8, zK9, zK10, zK19, zK20, zK40, zK99, zK100, zK199] at q92) | skip
          refine x_il1 dX12_keyAt_95 ?_
          have iN : i = N := by
            rcases Nat.lt_or_ge i N with y | y
            · exact absurd q79 (k4 i y)
            · omega
          subst iN
          have e := keyX_t j19 hno ⟨by rw [hN]; omega, fun t ht => by rw [hP]; rw [hN] at ht; exact hm t ht⟩
          exact x_iret rfl rfl dX12_keyAt_96 ⟨by rw [e], rfl⟩
    refine x_wh (fun (i : Nat) => [some (.ref 59), some (.int (nI j)), some (.int (nI P)), some (.int (nI i))]) (fun i h => h = h' ∧ i ≤ N ∧ a + i ≤ b ∧ ∀ t, t < i → X.1 (a + t) = kc (P + t)) (fun i => N - i) 0 ⟨rfl, Nat.zero_le _, hab, fun t ht => absurd ht (Nat.not_lt_zero _)⟩ (fun i h hI ih2 => ?_)
    obtain ⟨hh, hi, hai, hm⟩ := hI
    subst hh
    refine x_lit2 rfl dX12_keyAt_15 ?_
    refine x_il2 dX12_keyAt_17 ?_
    refine x_il3 dX12_keyAt_18 ?_
    first | refine x_iadd (nI_add _ _) dX12_keyAt_19 ?_ | refine x_iadd rfl dX12_keyAt_19 ?_
    refine x_ct1I (j := 2) mJ0_charAt_5068e_ok lkX12_109 rfl (by omega) (Nat.le_of_ble_eq_true rfl) (Nat.le_of_ble_eq_true rfl) dX12_keyAt_20 (c_ch2 (by omega)) ?_
    refine x_bipush (v := nI 32) dX12_keyAt_23 rfl ?_
    have kt := (kwB (P + i) (by omega)).2
    refine x_icmp_eq (tgt := 69) dX12_keyAt_25 rfl (fun q25 => ?_) (fun q25 => ?_)
    · skip
      first | (simp only [cmp_lt, cmp_gt, cmp_eq, zN_cge, zN_cle, Decidable.not_not] at q25) | (simp (disch := omega) only [zN_le, zN_lt, zN_0, zN_1, nI_toInt, zN_eq, zN_eq0, b2_z, b2_nz, Decidable.not_not, Int.not_lt, Int.not_le, zK0, zK1, zK2, zK3, zK5, zK7, zK8, zK9, zK10, zK19, zK20, zK40, zK99, zK100, zK199] at q25) | skip
      refine t69 i hi hai hm (Or.inl ?_)
      rcases Nat.lt_or_ge i N with y | y
      · exact absurd q25 (k4 i y)
      · omega
    · skip
      first | (simp only [cmp_lt, cmp_gt, cmp_eq, zN_cge, zN_cle, Decidable.not_not] at q25) | (simp (disch := omega) only [zN_le, zN_lt, zN_0, zN_1, nI_toInt, zN_eq, zN_eq0, b2_z, b2_nz, Decidable.not_not, Int.not_lt, Int.not_le, zK0, zK1, zK2, zK3, zK5, zK7, zK8, zK9, zK10, zK19, zK20, zK40, zK99, zK100, zK199] at q25) | skip
      refine x_al0 rfl dX12_keyAt_28 ?_
      refine x_gm fdX12_113 W.hM (by decide) (by first | assumption | rfl) dX12_keyAt_29 ?_
      refine x_il3 dX12_keyAt_32 ?_
      first | refine x_iadd (nI_add _ _) dX12_keyAt_33 ?_ | refine x_iadd rfl dX12_keyAt_33 ?_
      refine x_al0 rfl dX12_keyAt_34 ?_
      refine x_gm fdX12_116 W.hM (by decide) (by first | assumption | rfl) dX12_keyAt_35 ?_
      refine x_icmp_ge (tgt := 69) dX12_keyAt_38 rfl (fun q38 => ?_) (fun q38 => ?_)
      · skip
        first | (simp only [cmp_lt, cmp_gt, cmp_eq, zN_cge, zN_cle, Decidable.not_not] at q38) | (simp (disch := omega) only [zN_le, zN_lt, zN_0, zN_1, nI_toInt, zN_eq, zN_eq0, b2_z, b2_nz, Decidable.not_not, Int.not_lt, Int.not_le, zK0, zK1, zK2, zK3, zK5, zK7, zK8, zK9, zK10, zK19, zK20, zK40, zK99, zK100, zK199] at q38) | skip
        exact t69 i hi hai hm (Or.inr (Or.inl (by omega)))
      · skip
        first | (simp only [cmp_lt, cmp_gt, cmp_eq, zN_cge, zN_cle, Decidable.not_not] at q38) | (simp (disch := omega) only [zN_le, zN_lt, zN_0, zN_1, nI_toInt, zN_eq, zN_eq0, b2_z, b2_nz, Decidable.not_not, Int.not_lt, Int.not_le, zK0, zK1, zK2, zK3, zK5, zK7, zK8, zK9, zK10, zK19, zK20, zK40, zK99, zK100, zK199] at q38) | skip
        refine x_al0 rfl dX12_keyAt_41 ?_
        refine x_gm fdX12_21 W.hM (by decide) W.hF.f3 dX12_keyAt_42 ?_
        refine x_al0 rfl dX12_keyAt_45 ?_
        refine x_gm fdX12_113 W.hM (by decide) (by first | assumption | rfl) dX12_keyAt_46 ?_
        refine x_il3 dX12_keyAt_49 ?_
        first | refine x_iadd (nI_add _ _) dX12_keyAt_50 ?_ | refine x_iadd rfl dX12_keyAt_50 ?_
        refine x_mld (len := 900) W rfl rfl (by decide) (by omega) (t62 (a + i) (by omega)).1 dX12_keyAt_51 ?_
        refine x_lit2 rfl dX12_keyAt_52 ?_
        refine x_il2 dX12_keyAt_54 ?_
        refine x_il3 dX12_keyAt_55 ?_
        first | refine x_iadd (nI_add _ _) dX12_keyAt_56 ?_ | refine x_iadd rfl dX12_keyAt_56 ?_
        refine x_ct1I (j := 2) mJ0_charAt_5068e_ok lkX12_109 rfl (by omega) (Nat.le_of_ble_eq_true rfl) (Nat.le_of_ble_eq_true rfl) dX12_keyAt_57 (c_ch2 (by omega)) ?_
        have kx := (t62 (a + i) (by omega)).2
        refine x_icmp_ne (tgt := 69) dX12_keyAt_60 rfl (fun q60 => ?_) (fun q60 => ?_)
        · skip
          first | (simp only [cmp_lt, cmp_gt, cmp_eq, zN_cge, zN_cle, Decidable.not_not] at q60) | (simp (disch := omega) only [zN_le, zN_lt, zN_0, zN_1, nI_toInt, zN_eq, zN_eq0, b2_z, b2_nz, Decidable.not_not, Int.not_lt, Int.not_le, zK0, zK1, zK2, zK3, zK5, zK7, zK8, zK9, zK10, zK19, zK20, zK40, zK99, zK100, zK199] at q60) | skip
          exact t69 i hi hai hm (Or.inr (Or.inr q60))
        · skip
          first | (simp only [cmp_lt, cmp_gt, cmp_eq, zN_cge, zN_cle, Decidable.not_not] at q60) | (simp (disch := omega) only [zN_le, zN_lt, zN_0, zN_1, nI_toInt, zN_eq, zN_eq0, b2_z, b2_nz, Decidable.not_not, Int.not_lt, Int.not_le, zK0, zK1, zK2, zK3, zK5, zK7, zK8, zK9, zK10, zK19, zK20, zK40, zK99, zK100, zK199] at q60) | skip
          first | refine x_ii3 rfl (nI_1 _) dX12_keyAt_63 ?_ | refine x_ii3 rfl rfl dX12_keyAt_63 ?_
          refine x_goto (tgt := 15) dX12_keyAt_66 rfl ?_
          have iN : i < N := by
            rcases Nat.lt_or_ge i N with y | y
            · exact y
            · obtain rfl : i = N := by omega
              exact absurd k2 q25
          refine ih2 (i + 1) _ (by omega) ⟨rfl, iN, by omega, fun t ht => ?_⟩
          by_cases z : t = i
          · rw [z]; exact q60
          · exact hm t (by omega)
def TKm (X : zX) (s : Nat → Value) (p : Nat) : Prop := p ≤ X.2 ∧ s 6 = .int (nI (tkA X p)) ∧ s 7 = .int (nI (tkB X p)) ∧ s 9 = .int (nI (tkK X p)) ∧ ∃ nu, s 10 = .int nu ∧ (tkK X p = 23 → nu = nI (tkV X p))
/-- fields of the reading alone have changed -/
def PU (s s' : Nat → Value) : Prop := ∀ k, k ≠ 6 → k ≠ 7 → k ≠ 9 → k ≠ 10 → s' k = s k
theorem PU.rf {s : Nat → Value} : PU s s := fun _ _ _ _ _ => rfl
theorem PU.tr {s s' s2 : Nat → Value} (a : PU s s') (b : PU s' s2) : PU s s2 := fun k h1 h2 h3 h4 => (b k h1 h2 h3 h4).trans (a k h1 h2 h3 h4)
theorem PU.up {s s' : Nat → Value} {k : Nat} {v : Value} (a : PU s s') (hk : k = 6 ∨ k = 7 ∨ k = 9 ∨ k = 10) : PU s (va_up s' k v) := fun j h1 h2 h3 h4 => (va_up_ne _ _ (by omega)).trans (a j h1 h2 h3 h4)
theorem TX.pu {s s' : Nat → Value} (T : TX X s M) (u : PU s s') : TX X s' M := ⟨by rw [u 8 (by decide) (by decide) (by decide) (by decide)]; exact T.1, T.2⟩
theorem j_next {q : Nat} {nu : Int32} (W : MW h0 h s M L) (T : TX X s M) (hq : q ≤ X.2) (eb : s 7 = .int (nI q)) (en : s 10 = .int nu) : Zm g (d + 5) 0 0 mX12_next [.ref 59] h (rVp (fun h' => ∃ s', MW h0 h' s' M L ∧ PU s s' ∧ TKm X s' q)) := by
  obtain ⟨t8, t9, t62⟩ := id T
  show Zw g (d + 5) 0 0 mX12_next 0 [some (.ref 59), none] [] h _
  refine x_al0 rfl dX12_next_0 ?_
  refine x_al0 rfl dX12_next_1 ?_
  refine x_gm fdX12_116 W.hM (by decide) (by first | assumption | rfl) dX12_next_2 ?_
  refine x_mpf W fdX12_113 (by decide) rfl zf_i dX12_next_5 (fun h W => ?_)
  refine x_wh (fun (a : Nat) => [some (.ref 59), none]) (fun a h => ∃ s', MW h0 h s' M L ∧ PU s s' ∧ s' 6 = .int (nI a) ∧ s' 7 = .int (nI q) ∧ s' 10 = .int nu ∧ q ≤ a ∧ a ≤ X.2 ∧ rnX X isWs q = rnX X isWs a) (fun a => X.2 - a) q ⟨_, W, PU.rf.up (Or.inl rfl), rfl, eb, en, Nat.le_refl _, hq, rfl⟩ (fun a h hI ih => ?_)
  obtain ⟨s', W, U, e6, e7, e10, qa, aX, hr⟩ := hI
  have T' := T.pu U
  have t8 := T'.1
  refine x_al0 rfl dX12_next_8 ?_
  refine x_al0 rfl dX12_next_9 ?_
  refine x_gm fdX12_113 W.hM (by decide) (by first | assumption | rfl) dX12_next_10 ?_
  refine x_cv1I mX12_see_ok lkX12_119 rfl (Nat.le_of_ble_eq_true rfl) (Nat.le_of_ble_eq_true rfl) dX12_next_13 W.hM  (j_see W T' (by omega)) ?_
  refine x_bipush (v := nI 10) dX12_next_16 rfl ?_
  refine x_icmp_eq (tgt := 34) dX12_next_18 rfl (fun q18 => ?_) (fun q18 => ?_)
  · skip
    first | (simp only [cmp_lt, cmp_gt, cmp_eq, zN_cge, zN_cle, Decidable.not_not] at q18) | (simp (disch := omega) only [zN_le, zN_lt, zN_0, zN_1, nI_toInt, zN_eq, zN_eq0, b2_z, b2_nz, Decidable.not_not, Int.not_lt, Int.not_le, zK0, zK1, zK2, zK3, zK5, zK7, zK8, zK9, zK10, zK19, zK20, zK40, zK99, zK100, zK199] at q18) | skip
    have z := (sv_e T' (by decide)).mp q18
    refine x_al0 rfl dX12_next_34 ?_
    refine x_dup rfl dX12_next_35 ?_
    refine x_gm fdX12_113 W.hM (by decide) (by first | assumption | rfl) dX12_next_36 ?_
    refine x_iconst (v := nI 1) dX12_next_39 rfl ?_
    first | refine x_iadd (nI_add _ _) dX12_next_40 ?_ | refine x_iadd rfl dX12_next_40 ?_
    refine x_mpf W fdX12_113 (by decide) rfl zf_i dX12_next_41 (fun h W => ?_)
    refine x_goto (tgt := 8) dX12_next_44 rfl ?_
    exact ih (a + 1) _ (by omega) ⟨_, W, U.up (Or.inl rfl), rfl, e7, e10, by omega, by omega, by rw [hr, rnX_t z.1 (by rw [z.2]; rfl)]⟩
  · skip
    first | (simp only [cmp_lt, cmp_gt, cmp_eq, zN_cge, zN_cle, Decidable.not_not] at q18) | (simp (disch := omega) only [zN_le, zN_lt, zN_0, zN_1, nI_toInt, zN_eq, zN_eq0, b2_z, b2_nz, Decidable.not_not, Int.not_lt, Int.not_le, zK0, zK1, zK2, zK3, zK5, zK7, zK8, zK9, zK10, zK19, zK20, zK40, zK99, zK100, zK199] at q18) | skip
    refine x_al0 rfl dX12_next_21 ?_
    refine x_al0 rfl dX12_next_22 ?_
    refine x_gm fdX12_113 W.hM (by decide) (by first | assumption | rfl) dX12_next_23 ?_
    refine x_cv1I mX12_see_ok lkX12_119 rfl (Nat.le_of_ble_eq_true rfl) (Nat.le_of_ble_eq_true rfl) dX12_next_26 W.hM  (j_see W T' (by omega)) ?_
    refine x_bipush (v := nI 32) dX12_next_29 rfl ?_
    refine x_icmp_ne (tgt := 47) dX12_next_31 rfl (fun q31 => ?_) (fun q31 => ?_)
    · skip
      first | (simp only [cmp_lt, cmp_gt, cmp_eq, zN_cge, zN_cle, Decidable.not_not] at q31) | (simp (disch := omega) only [zN_le, zN_lt, zN_0, zN_1, nI_toInt, zN_eq, zN_eq0, b2_z, b2_nz, Decidable.not_not, Int.not_lt, Int.not_le, zK0, zK1, zK2, zK3, zK5, zK7, zK8, zK9, zK10, zK19, zK20, zK40, zK99, zK100, zK199] at q31) | skip
      have ea : tkA X q = a := by
        unfold tkA
        rw [hr]
        refine rnX_f (fun z => ?_)
        have z2 := z.2
        simp only [isWs, decide_eq_true_eq] at z2
        rcases z2 with y | y
        · exact q18 ((sv_e T' (by decide)).mpr ⟨z.1, y⟩)
        · exact q31 ((sv_e T' (by decide)).mpr ⟨z.1, y⟩)
      refine x_al0 rfl dX12_next_47 ?_
      refine x_al0 rfl dX12_next_48 ?_
      refine x_gm fdX12_113 W.hM (by decide) (by first | assumption | rfl) dX12_next_49 ?_
      refine x_mpf W fdX12_116 (by decide) rfl zf_i dX12_next_52 (fun h W => ?_)
      refine x_al0 rfl dX12_next_55 ?_
      refine x_gm fdX12_113 W.hM (by decide) (by first | assumption | rfl) dX12_next_56 ?_
      refine x_al0 rfl dX12_next_59 ?_
      refine x_gm fdX12_98 W.hM (by decide) (by first | assumption | rfl) dX12_next_60 ?_
      refine x_icmp_lt (tgt := 75) dX12_next_63 rfl (fun q63 => ?_) (fun q63 => ?_)
      · skip
        first | (simp only [cmp_lt, cmp_gt, cmp_eq, zN_cge, zN_cle, Decidable.not_not] at q63) | (simp (disch := omega) only [zN_le, zN_lt, zN_0, zN_1, nI_toInt, zN_eq, zN_eq0, b2_z, b2_nz, Decidable.not_not, Int.not_lt, Int.not_le, zK0, zK1, zK2, zK3, zK5, zK7, zK8, zK9, zK10, zK19, zK20, zK40, zK99, zK100, zK199] at q63) | skip
        have U := U.up (k := 7) (v := .int (nI a)) (Or.inr (Or.inl rfl))
        have T' := T.pu U
        have hK : tkK X q = if isLo (X.1 a) = true then keyX X a (rnX X isLo a) else if isDg (X.1 a) = true then (if 3 < rnX X isDg a - a then 25 else 23) else sgK (X.1 a) := by rw [tkK, ea, if_neg (by omega)]
        have hB : tkB X q = if isLo (X.1 a) = true then rnX X isLo a else if isDg (X.1 a) = true then rnX X isDg a else a + 1 := by rw [tkB, ea, if_neg (by omega)]
        refine x_al0 rfl dX12_next_75 ?_
        refine x_al0 rfl dX12_next_76 ?_
        refine x_gm fdX12_113 W.hM (by decide) (by first | assumption | rfl) dX12_next_77 ?_
        refine x_cv1I mX12_see_ok lkX12_119 rfl (Nat.le_of_ble_eq_true rfl) (Nat.le_of_ble_eq_true rfl) dX12_next_80 W.hM  (j_see W T' (by omega)) ?_
        refine x_cs1I mX12_isSmall_ok lkX12_126 (Nat.le_of_ble_eq_true rfl) (Nat.le_of_ble_eq_true rfl) dX12_next_83 (j_isSmall T') ?_
        refine x_if_eq (tgt := 127) dX12_next_86 rfl (fun q86 => ?_) (fun q86 => ?_)
        · skip
          first | (simp only [cmp_lt, cmp_gt, cmp_eq, zN_cge, zN_cle, Decidable.not_not] at q86) | (simp (disch := omega) only [zN_le, zN_lt, zN_0, zN_1, nI_toInt, zN_eq, zN_eq0, b2_z, b2_nz, Decidable.not_not, Int.not_lt, Int.not_le, zK0, zK1, zK2, zK3, zK5, zK7, zK8, zK9, zK10, zK19, zK20, zK40, zK99, zK100, zK199] at q86) | skip
          refine x_al0 rfl dX12_next_127 ?_
          refine x_al0 rfl dX12_next_128 ?_
          refine x_gm fdX12_113 W.hM (by decide) (by first | assumption | rfl) dX12_next_129 ?_
          refine x_cv1I mX12_see_ok lkX12_119 rfl (Nat.le_of_ble_eq_true rfl) (Nat.le_of_ble_eq_true rfl) dX12_next_132 W.hM  (j_see W T' (by omega)) ?_
          refine x_cs1I mX12_isDigit_ok lkX12_133 (Nat.le_of_ble_eq_true rfl) (Nat.le_of_ble_eq_true rfl) dX12_next_135 (j_isDigit T') ?_
          refine x_if_eq (tgt := 236) dX12_next_138 rfl (fun q138 => ?_) (fun q138 => ?_)
          · skip
            first | (simp only [cmp_lt, cmp_gt, cmp_eq, zN_cge, zN_cle, Decidable.not_not] at q138) | (simp (disch := omega) only [zN_le, zN_lt, zN_0, zN_1, nI_toInt, zN_eq, zN_eq0, b2_z, b2_nz, Decidable.not_not, Int.not_lt, Int.not_le, zK0, zK1, zK2, zK3, zK5, zK7, zK8, zK9, zK10, zK19, zK20, zK40, zK99, zK100, zK199] at q138) | skip
            refine x_al0 rfl dX12_next_236 ?_
            refine x_dup rfl dX12_next_237 ?_
            refine x_gm fdX12_116 W.hM (by decide) (by first | assumption | rfl) dX12_next_238 ?_
            refine x_iconst (v := nI 1) dX12_next_241 rfl ?_
            first | refine x_iadd (nI_add _ _) dX12_next_242 ?_ | refine x_iadd rfl dX12_next_242 ?_
            refine x_mpf W fdX12_116 (by decide) rfl zf_i dX12_next_243 (fun h W => ?_)
            refine x_al0 rfl dX12_next_246 ?_
            refine x_bipush (v := nI 25) dX12_next_247 rfl ?_
            refine x_mpf W fdX12_123 (by decide) rfl zf_i dX12_next_249 (fun h W => ?_)
            refine x_iconst (v := nI 0) dX12_next_252 rfl ?_
            refine x_is1 rfl dX12_next_253 ?_
            rw [if_neg (fun z => q86 ⟨by omega, z⟩), if_neg (fun z => q138 ⟨by omega, z⟩)] at hK hB
            refine x_for (e := 12) (fun k => [some (.ref 59), some (.int (nI k))]) (fun k h => ∃ s', MW h0 h s' M L ∧ PU s s' ∧ s' 6 = .int (nI a) ∧ s' 7 = .int (nI (a + 1)) ∧ s' 10 = .int nu ∧ s' 9 = .int (nI (sgN (X.1 a) k))) 0 (by decide) ⟨_, W, (U.up (Or.inr (Or.inl rfl))).up (Or.inr (Or.inr (Or.inl rfl))), e6, rfl, e10, rfl⟩ (fun h hI => ?_) (fun k h hk hI ih => ?_)
            · obtain ⟨s2, W, U, e6, e7, e10, e9⟩ := hI
              refine x_il1 dX12_next_254 ?_
              refine x_lit3 rfl dX12_next_255 ?_
              refine x_ct0I (j := 3) mJ0_length_8abf5_ok lkX12_103 rfl (by omega) (Nat.le_of_ble_eq_true rfl) (Nat.le_of_ble_eq_true rfl) dX12_next_257 c_len3 ?_
              refine x_icmp_ge (tgt := 294) dX12_next_260 rfl (fun q260 => ?_) (fun q260 => ?_)
              · skip
                first | (simp only [cmp_lt, cmp_gt, cmp_eq, zN_cge, zN_cle, Decidable.not_not] at q260) | (simp (disch := omega) only [zN_le, zN_lt, zN_0, zN_1, nI_toInt, zN_eq, zN_eq0, b2_z, b2_nz, Decidable.not_not, Int.not_lt, Int.not_le, zK0, zK1, zK2, zK3, zK5, zK7, zK8, zK9, zK10, zK19, zK20, zK40, zK99, zK100, zK199] at q260) | skip
                exact x_vret rfl dX12_next_294 ⟨rfl, _, W, U, hq, by rw [ea]; exact e6, by rw [hB]; exact e7, by rw [hK]; exact e9, nu, e10, fun z => by rw [hK] at z; rcases sgK_r (c := X.1 a) with y | y <;> omega⟩
              · skip
                first | (simp only [cmp_lt, cmp_gt, cmp_eq, zN_cge, zN_cle, Decidable.not_not] at q260) | (simp (disch := omega) only [zN_le, zN_lt, zN_0, zN_1, nI_toInt, zN_eq, zN_eq0, b2_z, b2_nz, Decidable.not_not, Int.not_lt, Int.not_le, zK0, zK1, zK2, zK3, zK5, zK7, zK8, zK9, zK10, zK19, zK20, zK40, zK99, zK100, zK199] at q260) | skip
                omega
            · obtain ⟨s2, W, U, e6, e7, e10, e9⟩ := hI
              have T' := T.pu U
              refine x_il1 dX12_next_254 ?_
              refine x_lit3 rfl dX12_next_255 ?_
              refine x_ct0I (j := 3) mJ0_length_8abf5_ok lkX12_103 rfl (by omega) (Nat.le_of_ble_eq_true rfl) (Nat.le_of_ble_eq_true rfl) dX12_next_257 c_len3 ?_
              refine x_icmp_ge (tgt := 294) dX12_next_260 rfl (fun q260 => ?_) (fun q260 => ?_)
              · skip
                first | (simp only [cmp_lt, cmp_gt, cmp_eq, zN_cge, zN_cle, Decidable.not_not] at q260) | (simp (disch := omega) only [zN_le, zN_lt, zN_0, zN_1, nI_toInt, zN_eq, zN_eq0, b2_z, b2_nz, Decidable.not_not, Int.not_lt, Int.not_le, zK0, zK1, zK2, zK3, zK5, zK7, zK8, zK9, zK10, zK19, zK20, zK40, zK99, zK100, zK199] at q260) | skip
                omega
              · skip
                first | (simp only [cmp_lt, cmp_gt, cmp_eq, zN_cge, zN_cle, Decidable.not_not] at q260) | (simp (disch := omega) only [zN_le, zN_lt, zN_0, zN_1, nI_toInt, zN_eq, zN_eq0, b2_z, b2_nz, Decidable.not_not, Int.not_lt, Int.not_le, zK0, zK1, zK2, zK3, zK5, zK7, zK8, zK9, zK10, zK19, zK20, zK40, zK99, zK100, zK199] at q260) | skip
                refine x_al0 rfl dX12_next_263 ?_
                refine x_al0 rfl dX12_next_264 ?_
                refine x_gm fdX12_113 W.hM (by decide) (by first | assumption | rfl) dX12_next_265 ?_
                refine x_cv1I mX12_see_ok lkX12_119 rfl (Nat.le_of_ble_eq_true rfl) (Nat.le_of_ble_eq_true rfl) dX12_next_268 W.hM  (j_see W T' (by omega)) ?_
                refine x_lit3 rfl dX12_next_271 ?_
                refine x_il1 dX12_next_273 ?_
                refine x_ct1I (j := 3) mJ0_charAt_5068e_ok lkX12_109 rfl (by omega) (Nat.le_of_ble_eq_true rfl) (Nat.le_of_ble_eq_true rfl) dX12_next_274 (c_ch3 hk) ?_
                rw [sv_t (by omega)]
                have cx := (t62 a (by omega)).2
                have cy := (kwC k hk).2
                refine x_icmp_ne (tgt := 288) dX12_next_277 rfl (fun q277 => ?_) (fun q277 => ?_)
                · skip
                  first | (simp only [cmp_lt, cmp_gt, cmp_eq, zN_cge, zN_cle, Decidable.not_not] at q277) | (simp (disch := omega) only [zN_le, zN_lt, zN_0, zN_1, nI_toInt, zN_eq, zN_eq0, b2_z, b2_nz, Decidable.not_not, Int.not_lt, Int.not_le, zK0, zK1, zK2, zK3, zK5, zK7, zK8, zK9, zK10, zK19, zK20, zK40, zK99, zK100, zK199] at q277) | skip
                  first | refine x_ii1 rfl (nI_1 _) dX12_next_288 ?_ | refine x_ii1 rfl rfl dX12_next_288 ?_
                  refine x_goto (tgt := 254) dX12_next_291 rfl ?_
                  exact ih _ ⟨_, W, U, e6, e7, e10, by rw [sgN, if_neg q277]; exact e9⟩
                · skip
                  first | (simp only [cmp_lt, cmp_gt, cmp_eq, zN_cge, zN_cle, Decidable.not_not] at q277) | (simp (disch := omega) only [zN_le, zN_lt, zN_0, zN_1, nI_toInt, zN_eq, zN_eq0, b2_z, b2_nz, Decidable.not_not, Int.not_lt, Int.not_le, zK0, zK1, zK2, zK3, zK5, zK7, zK8, zK9, zK10, zK19, zK20, zK40, zK99, zK100, zK199] at q277) | skip
                  refine x_al0 rfl dX12_next_280 ?_
                  refine x_bipush (v := nI 30) dX12_next_281 rfl ?_
                  refine x_il1 dX12_next_283 ?_
                  first | refine x_iadd (nI_add _ _) dX12_next_284 ?_ | refine x_iadd rfl dX12_next_284 ?_
                  refine x_mpf W fdX12_123 (by decide) rfl zf_i dX12_next_285 (fun h W => ?_)
                  first | refine x_ii1 rfl (nI_1 _) dX12_next_288 ?_ | refine x_ii1 rfl rfl dX12_next_288 ?_
                  refine x_goto (tgt := 254) dX12_next_291 rfl ?_
                  exact ih _ ⟨_, W, U.up (Or.inr (Or.inr (Or.inl rfl))), e6, e7, e10, by rw [sgN, if_pos q277]; rfl⟩
          · skip
            first | (simp only [cmp_lt, cmp_gt, cmp_eq, zN_cge, zN_cle, Decidable.not_not] at q138) | (simp (disch := omega) only [zN_le, zN_lt, zN_0, zN_1, nI_toInt, zN_eq, zN_eq0, b2_z, b2_nz, Decidable.not_not, Int.not_lt, Int.not_le, zK0, zK1, zK2, zK3, zK5, zK7, zK8, zK9, zK10, zK19, zK20, zK40, zK99, zK100, zK199] at q138) | skip
            refine x_al0 rfl dX12_next_141 ?_
            refine x_iconst (v := nI 0) dX12_next_142 rfl ?_
            refine x_mpf W fdX12_136 (by decide) rfl zf_i dX12_next_143 (fun h W => ?_)
            rw [if_neg (fun z => q86 ⟨by omega, z⟩), if_pos q138.2] at hK hB
            refine x_wh (fun (b : Nat) => [some (.ref 59), none]) (fun b h => ∃ s', MW h0 h s' M L ∧ PU s s' ∧ s' 6 = .int (nI a) ∧ s' 7 = .int (nI b) ∧ s' 10 = .int (nI (dgV X a (b - a))) ∧ a ≤ b ∧ b ≤ X.2 ∧ rnX X isDg a = rnX X isDg b) (fun b => X.2 - b) a ⟨_, W, U.up (Or.inr (Or.inr (Or.inr rfl))), e6, rfl, by rw [Nat.sub_self]; rfl, Nat.le_refl _, aX, rfl⟩ (fun b h hI ih => ?_)
            obtain ⟨s2, W, U, e6, e7, e10, ab, bX, hr2⟩ := hI
            have T' := T.pu U
            refine x_al0 rfl dX12_next_146 ?_
            refine x_al0 rfl dX12_next_147 ?_
            refine x_gm fdX12_116 W.hM (by decide) (by first | assumption | rfl) dX12_next_148 ?_
            refine x_cv1I mX12_see_ok lkX12_119 rfl (Nat.le_of_ble_eq_true rfl) (Nat.le_of_ble_eq_true rfl) dX12_next_151 W.hM  (j_see W T' (by omega)) ?_
            refine x_cs1I mX12_isDigit_ok lkX12_133 (Nat.le_of_ble_eq_true rfl) (Nat.le_of_ble_eq_true rfl) dX12_next_154 (j_isDigit T') ?_
            refine x_if_eq (tgt := 209) dX12_next_157 rfl (fun q157 => ?_) (fun q157 => ?_)
            · skip
              first | (simp only [cmp_lt, cmp_gt, cmp_eq, zN_cge, zN_cle, Decidable.not_not] at q157) | (simp (disch := omega) only [zN_le, zN_lt, zN_0, zN_1, nI_toInt, zN_eq, zN_eq0, b2_z, b2_nz, Decidable.not_not, Int.not_lt, Int.not_le, zK0, zK1, zK2, zK3, zK5, zK7, zK8, zK9, zK10, zK19, zK20, zK40, zK99, zK100, zK199] at q157) | skip
              have er : rnX X isDg a = b := by rw [hr2]; exact rnX_f q157
              have ev : tkV X q = dgV X a (b - a) := by rw [tkV, ea, er]
              refine x_al0 rfl dX12_next_209 ?_
              refine x_al0 rfl dX12_next_210 ?_
              refine x_gm fdX12_116 W.hM (by decide) (by first | assumption | rfl) dX12_next_211 ?_
              refine x_al0 rfl dX12_next_214 ?_
              refine x_gm fdX12_113 W.hM (by decide) (by first | assumption | rfl) dX12_next_215 ?_
              refine x_isub (pk_sub ab) dX12_next_218 ?_
              refine x_iconst (v := nI 3) dX12_next_219 rfl ?_
              refine x_icmp_le (tgt := 228) dX12_next_220 rfl (fun q220 => ?_) (fun q220 => ?_)
              · skip
                first | (simp only [cmp_lt, cmp_gt, cmp_eq, zN_cge, zN_cle, Decidable.not_not] at q220) | (simp (disch := omega) only [zN_le, zN_lt, zN_0, zN_1, nI_toInt, zN_eq, zN_eq0, b2_z, b2_nz, Decidable.not_not, Int.not_lt, Int.not_le, zK0, zK1, zK2, zK3, zK5, zK7, zK8, zK9, zK10, zK19, zK20, zK40, zK99, zK100, zK199] at q220) | skip
                refine x_bipush (v := nI 23) dX12_next_228 rfl ?_
                refine x_mpf W fdX12_123 (by decide) rfl zf_i dX12_next_230 (fun h W => ?_)
                refine x_goto (tgt := 294) dX12_next_233 rfl ?_
                exact x_vret rfl dX12_next_294 ⟨rfl, _, W, U.up (Or.inr (Or.inr (Or.inl rfl))), hq, by rw [ea]; exact e6, by rw [hB, er]; exact e7, by rw [hK, er, if_neg (by omega)]; rfl, _, e10, fun z => by rw [ev]⟩
              · skip
                first | (simp only [cmp_lt, cmp_gt, cmp_eq, zN_cge, zN_cle, Decidable.not_not] at q220) | (simp (disch := omega) only [zN_le, zN_lt, zN_0, zN_1, nI_toInt, zN_eq, zN_eq0, b2_z, b2_nz, Decidable.not_not, Int.not_lt, Int.not_le, zK0, zK1, zK2, zK3, zK5, zK7, zK8, zK9, zK10, zK19, zK20, zK40, zK99, zK100, zK199] at q220) | skip
                refine x_bipush (v := nI 25) dX12_next_223 rfl ?_
                refine x_goto (tgt := 230) dX12_next_225 rfl ?_
                refine x_mpf W fdX12_123 (by decide) rfl zf_i dX12_next_230 (fun h W => ?_)
                refine x_goto (tgt := 294) dX12_next_233 rfl ?_
                exact x_vret rfl dX12_next_294 ⟨rfl, _, W, U.up (Or.inr (Or.inr (Or.inl rfl))), hq, by rw [ea]; exact e6, by rw [hB, er]; exact e7, by rw [hK, er, if_pos (by omega)]; rfl, _, e10, fun z => by rw [ev]⟩
            · skip
              first | (simp only [cmp_lt, cmp_gt, cmp_eq, zN_cge, zN_cle, Decidable.not_not] at q157) | (simp (disch := omega) only [zN_le, zN_lt, zN_0, zN_1, nI_toInt, zN_eq, zN_eq0, b2_z, b2_nz, Decidable.not_not, Int.not_lt, Int.not_le, zK0, zK1, zK2, zK3, zK5, zK7, zK8, zK9, zK10, zK19, zK20, zK40, zK99, zK100, zK199] at q157) | skip
              have bx := (t62 b q157.1).2
              have bd := q157.2
              simp only [isDg, decide_eq_true_eq] at bd
              refine x_al0 rfl dX12_next_160 ?_
              refine x_gm fdX12_116 W.hM (by decide) (by first | assumption | rfl) dX12_next_161 ?_
              refine x_al0 rfl dX12_next_164 ?_
              refine x_gm fdX12_113 W.hM (by decide) (by first | assumption | rfl) dX12_next_165 ?_
              refine x_isub (pk_sub ab) dX12_next_168 ?_
              refine x_iconst (v := nI 3) dX12_next_169 rfl ?_
              refine x_icmp_ge (tgt := 196) dX12_next_170 rfl (fun q170 => ?_) (fun q170 => ?_)
              · skip
                first | (simp only [cmp_lt, cmp_gt, cmp_eq, zN_cge, zN_cle, Decidable.not_not] at q170) | (simp (disch := omega) only [zN_le, zN_lt, zN_0, zN_1, nI_toInt, zN_eq, zN_eq0, b2_z, b2_nz, Decidable.not_not, Int.not_lt, Int.not_le, zK0, zK1, zK2, zK3, zK5, zK7, zK8, zK9, zK10, zK19, zK20, zK40, zK99, zK100, zK199] at q170) | skip
                refine x_al0 rfl dX12_next_196 ?_
                refine x_dup rfl dX12_next_197 ?_
                refine x_gm fdX12_116 W.hM (by decide) (by first | assumption | rfl) dX12_next_198 ?_
                refine x_iconst (v := nI 1) dX12_next_201 rfl ?_
                first | refine x_iadd (nI_add _ _) dX12_next_202 ?_ | refine x_iadd rfl dX12_next_202 ?_
                refine x_mpf W fdX12_116 (by decide) rfl zf_i dX12_next_203 (fun h W => ?_)
                refine x_goto (tgt := 146) dX12_next_206 rfl ?_
                exact ih (b + 1) _ (by omega) ⟨_, W, U.up (Or.inr (Or.inl rfl)), e6, rfl, by rw [show b + 1 - a = (b - a) + 1 by omega, dgV, if_neg (by omega)]; exact e10, by omega, by omega, by rw [hr2, rnX_t q157.1 q157.2]⟩
              · skip
                first | (simp only [cmp_lt, cmp_gt, cmp_eq, zN_cge, zN_cle, Decidable.not_not] at q170) | (simp (disch := omega) only [zN_le, zN_lt, zN_0, zN_1, nI_toInt, zN_eq, zN_eq0, b2_z, b2_nz, Decidable.not_not, Int.not_lt, Int.not_le, zK0, zK1, zK2, zK3, zK5, zK7, zK8, zK9, zK10, zK19, zK20, zK40, zK99, zK100, zK199] at q170) | skip
                refine x_al0 rfl dX12_next_173 ?_
                refine x_bipush (v := nI 10) dX12_next_174 rfl ?_
                refine x_al0 rfl dX12_next_176 ?_
                refine x_gm fdX12_136 W.hM (by decide) (by first | assumption | rfl) dX12_next_177 ?_
                first | refine x_imul (pk_mul _ _) dX12_next_180 ?_ | refine x_imul rfl dX12_next_180 ?_
                refine x_al0 rfl dX12_next_181 ?_
                refine x_al0 rfl dX12_next_182 ?_
                refine x_gm fdX12_116 W.hM (by decide) (by first | assumption | rfl) dX12_next_183 ?_
                refine x_cv1I mX12_see_ok lkX12_119 rfl (Nat.le_of_ble_eq_true rfl) (Nat.le_of_ble_eq_true rfl) dX12_next_186 W.hM  (j_see W T' (by omega)) ?_
                rw [sv_t q157.1]
                first | refine x_iadd (nI_add _ _) dX12_next_189 ?_ | refine x_iadd rfl dX12_next_189 ?_
                refine x_bipush (v := nI 48) dX12_next_190 rfl ?_
                refine x_isub (pk_sub (by omega)) dX12_next_192 ?_
                refine x_mpf W fdX12_136 (by decide) rfl zf_i dX12_next_193 (fun h W => ?_)
                refine x_al0 rfl dX12_next_196 ?_
                refine x_dup rfl dX12_next_197 ?_
                refine x_gm fdX12_116 W.hM (by decide) (by first | assumption | rfl) dX12_next_198 ?_
                refine x_iconst (v := nI 1) dX12_next_201 rfl ?_
                first | refine x_iadd (nI_add _ _) dX12_next_202 ?_ | refine x_iadd rfl dX12_next_202 ?_
                refine x_mpf W fdX12_116 (by decide) rfl zf_i dX12_next_203 (fun h W => ?_)
                refine x_goto (tgt := 146) dX12_next_206 rfl ?_
                refine ih (b + 1) _ (by omega) ⟨_, W, (U.up (Or.inr (Or.inr (Or.inr rfl)))).up (Or.inr (Or.inl rfl)), e6, rfl, ?_, by omega, by omega, by rw [hr2, rnX_t q157.1 q157.2]⟩
                rw [show b + 1 - a = (b - a) + 1 by omega, dgV, if_pos (by omega), show a + (b - a) = b by omega, show dgV X a (b - a) * 10 + (X.1 b - 48) = 10 * dgV X a (b - a) + X.1 b - 48 by omega]
                rfl
        · skip
          first | (simp only [cmp_lt, cmp_gt, cmp_eq, zN_cge, zN_cle, Decidable.not_not] at q86) | (simp (disch := omega) only [zN_le, zN_lt, zN_0, zN_1, nI_toInt, zN_eq, zN_eq0, b2_z, b2_nz, Decidable.not_not, Int.not_lt, Int.not_le, zK0, zK1, zK2, zK3, zK5, zK7, zK8, zK9, zK10, zK19, zK20, zK40, zK99, zK100, zK199] at q86) | skip
          rw [if_pos q86.2] at hK hB
          refine x_wh (fun (b : Nat) => [some (.ref 59), none]) (fun b h => ∃ s', MW h0 h s' M L ∧ PU s s' ∧ s' 6 = .int (nI a) ∧ s' 7 = .int (nI b) ∧ s' 10 = .int nu ∧ a ≤ b ∧ b ≤ X.2 ∧ rnX X isLo a = rnX X isLo b) (fun b => X.2 - b) a ⟨_, W, U, e6, rfl, e10, Nat.le_refl _, aX, rfl⟩ (fun b h hI ih => ?_)
          obtain ⟨s2, W, U, e6, e7, e10, ab, bX, hr2⟩ := hI
          have T' := T.pu U
          refine x_al0 rfl dX12_next_89 ?_
          refine x_al0 rfl dX12_next_90 ?_
          refine x_gm fdX12_116 W.hM (by decide) (by first | assumption | rfl) dX12_next_91 ?_
          refine x_cv1I mX12_see_ok lkX12_119 rfl (Nat.le_of_ble_eq_true rfl) (Nat.le_of_ble_eq_true rfl) dX12_next_94 W.hM  (j_see W T' (by omega)) ?_
          refine x_cs1I mX12_isSmall_ok lkX12_126 (Nat.le_of_ble_eq_true rfl) (Nat.le_of_ble_eq_true rfl) dX12_next_97 (j_isSmall T') ?_
          refine x_if_eq (tgt := 116) dX12_next_100 rfl (fun q100 => ?_) (fun q100 => ?_)
          · skip
            first | (simp only [cmp_lt, cmp_gt, cmp_eq, zN_cge, zN_cle, Decidable.not_not] at q100) | (simp (disch := omega) only [zN_le, zN_lt, zN_0, zN_1, nI_toInt, zN_eq, zN_eq0, b2_z, b2_nz, Decidable.not_not, Int.not_lt, Int.not_le, zK0, zK1, zK2, zK3, zK5, zK7, zK8, zK9, zK10, zK19, zK20, zK40, zK99, zK100, zK199] at q100) | skip
            have er : rnX X isLo a = b := by rw [hr2]; exact rnX_f q100
            refine x_al0 rfl dX12_next_116 ?_
            refine x_al0 rfl dX12_next_117 ?_
            refine x_cv0I mX12_keyAt_ok lkX12_130 rfl (Nat.le_of_ble_eq_true rfl) (Nat.le_of_ble_eq_true rfl) dX12_next_118 W.hM  (j_keyAt W T' e6 e7 ab bX) ?_
            refine x_mpf W fdX12_123 (by decide) rfl zf_i dX12_next_121 (fun h W => ?_)
            refine x_goto (tgt := 294) dX12_next_124 rfl ?_
            exact x_vret rfl dX12_next_294 ⟨rfl, _, W, U.up (Or.inr (Or.inr (Or.inl rfl))), hq, by rw [ea]; exact e6, by rw [hB, er]; exact e7, by rw [hK, er]; rfl, nu, e10, fun z => by rw [hK] at z; rcases keyX_r (X := X) (a := a) (b := rnX X isLo a) with y | y <;> omega⟩
          · skip
            first | (simp only [cmp_lt, cmp_gt, cmp_eq, zN_cge, zN_cle, Decidable.not_not] at q100) | (simp (disch := omega) only [zN_le, zN_lt, zN_0, zN_1, nI_toInt, zN_eq, zN_eq0, b2_z, b2_nz, Decidable.not_not, Int.not_lt, Int.not_le, zK0, zK1, zK2, zK3, zK5, zK7, zK8, zK9, zK10, zK19, zK20, zK40, zK99, zK100, zK199] at q100) | skip
            refine x_al0 rfl dX12_next_103 ?_
            refine x_dup rfl dX12_next_104 ?_
            refine x_gm fdX12_116 W.hM (by decide) (by first | assumption | rfl) dX12_next_105 ?_
            refine x_iconst (v := nI 1) dX12_next_108 rfl ?_
            first | refine x_iadd (nI_add _ _) dX12_next_109 ?_ | refine x_iadd rfl dX12_next_109 ?_
            refine x_mpf W fdX12_116 (by decide) rfl zf_i dX12_next_110 (fun h W => ?_)
            refine x_goto (tgt := 89) dX12_next_113 rfl ?_
            exact ih (b + 1) _ (by omega) ⟨_, W, U.up (Or.inr (Or.inl rfl)), e6, rfl, e10, by omega, by omega, by rw [hr2, rnX_t q100.1 q100.2]⟩
      · skip
        first | (simp only [cmp_lt, cmp_gt, cmp_eq, zN_cge, zN_cle, Decidable.not_not] at q63) | (simp (disch := omega) only [zN_le, zN_lt, zN_0, zN_1, nI_toInt, zN_eq, zN_eq0, b2_z, b2_nz, Decidable.not_not, Int.not_lt, Int.not_le, zK0, zK1, zK2, zK3, zK5, zK7, zK8, zK9, zK10, zK19, zK20, zK40, zK99, zK100, zK199] at q63) | skip
        refine x_al0 rfl dX12_next_66 ?_
        refine x_bipush (v := nI 24) dX12_next_67 rfl ?_
        refine x_mpf W fdX12_123 (by decide) rfl zf_i dX12_next_69 (fun h W => ?_)
        refine x_goto (tgt := 294) dX12_next_72 rfl ?_
        exact x_vret rfl dX12_next_294 ⟨rfl, _, W, (((U.up (Or.inr (Or.inl rfl))).up (Or.inr (Or.inr (Or.inl rfl))))), hq, by rw [ea]; exact e6, by rw [tkB, if_pos (by omega), ea]; rfl, by rw [tkK, if_pos (by omega)]; rfl, nu, e10, fun z => by rw [tkK, if_pos (by omega)] at z; cases z⟩
    · skip
      first | (simp only [cmp_lt, cmp_gt, cmp_eq, zN_cge, zN_cle, Decidable.not_not] at q31) | (simp (disch := omega) only [zN_le, zN_lt, zN_0, zN_1, nI_toInt, zN_eq, zN_eq0, b2_z, b2_nz, Decidable.not_not, Int.not_lt, Int.not_le, zK0, zK1, zK2, zK3, zK5, zK7, zK8, zK9, zK10, zK19, zK20, zK40, zK99, zK100, zK199] at q31) | skip
      have z := (sv_e T' (by decide)).mp q31
      refine x_al0 rfl dX12_next_34 ?_
      refine x_dup rfl dX12_next_35 ?_
      refine x_gm fdX12_113 W.hM (by decide) (by first | assumption | rfl) dX12_next_36 ?_
      refine x_iconst (v := nI 1) dX12_next_39 rfl ?_
      first | refine x_iadd (nI_add _ _) dX12_next_40 ?_ | refine x_iadd rfl dX12_next_40 ?_
      refine x_mpf W fdX12_113 (by decide) rfl zf_i dX12_next_41 (fun h W => ?_)
      refine x_goto (tgt := 8) dX12_next_44 rfl ?_
      exact ih (a + 1) _ (by omega) ⟨_, W, U.up (Or.inl rfl), rfl, e7, e10, by omega, by omega, by rw [hr, rnX_t z.1 (by rw [z.2]; rfl)]⟩
end ZNx

