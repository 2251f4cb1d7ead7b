/-! the model's at, comesRound, first, often -/
section ZMn
variable {g : zG} {d : Nat} {h0 h : zH} {s : Nat → Value} {M : Nat → Nat → Int32} {L : Nat → Nat → Int64} {dk : zDk} {st : zSt} {un : List zSt} {tp : List Nat} {tr : Nat → zTr} {pi : Nat → zPi} {fl : Nat × Nat}
theorem j_laysLine (W : MW h0 h s M L) (J : MJ s M L dk st un tp tr pi fl) : Zm g (d + 2) 0 0 mX12_laysLine [.ref 59] h (rVp (fun h' => ∃ s' M' L', MW h0 h' s' M' L' ∧ MJ s' M' L' dk st un tp tr pi fl ∧ Un [36] [65, 78] [] s s' M M' L L' ∧ s' 36 = .int (nI (ordr dk.1 dk.2.2.1)) ∧ ∀ k, k < ordr dk.1 dk.2.2.1 → M' 78 k = nI (ngk dk.1 dk.2.2.1 k st.1))) := by
  obtain ⟨D, hn0, hn6, ho0, ho9, hng, hli, e0, e1, e2, m1, m2, m3, m4, m5, u1, u2, t1, t2, r1, hf⟩ := MJ.o J
  have of := rnd_facts hn6 hng
  show Zw g (d + 2) 0 0 mX12_laysLine 0 [some (.ref 59), none] [] h _
  refine x_al0 rfl dX12_laysLine_0 ?_
  refine x_gm fdX12_13 W.hM (by decide) W.hF.f1 dX12_laysLine_1 ?_
  refine x_bipush (v := nI 21) dX12_laysLine_4 rfl ?_
  refine x_mld (len := 2868) W rfl rfl (by decide) (by omega) (by first | assumption | rfl) dX12_laysLine_6 ?_
  refine x_is1 rfl dX12_laysLine_7 ?_
  refine x_al0 rfl dX12_laysLine_8 ?_
  refine x_iconst (v := nI 0) dX12_laysLine_9 rfl ?_
  refine x_mpfJ W J fdX12_388 (by decide) rfl rfl zf_i dX12_laysLine_10 (fun h W J => ?_)
  refine x_wh (fun (i : Nat) => [some (.ref 59), some (.int (nI (ngk dk.1 dk.2.2.1 i st.1)))]) (fun i h => i ≤ ordr dk.1 dk.2.2.1 ∧ ∃ s' M' L', MW h0 h s' M' L' ∧ MJ s' M' L' dk st un tp tr pi fl ∧ Un [36] [65, 78] [] s s' M M' L L' ∧ s' 36 = .int (nI i) ∧ ∀ k, k < i → M' 78 k = nI (ngk dk.1 dk.2.2.1 k st.1)) (fun i => 10 - i) 0 ⟨Nat.zero_le _, _, _, _, W, J, Un.rf.fs (by simp), rfl, fun q hq => absurd hq (Nat.not_lt_zero _)⟩ (fun i h hI ih => ?_)
  obtain ⟨hi, s', M', L', W, J, U, lm, hl⟩ := hI
  obtain ⟨D, hn0, hn6, ho0, ho9, hng, hli, e0, e1, e2, m1, m2, m3, m4, m5, u1, u2, t1, t2, r1, hf⟩ := MJ.o J
  have kr := (ngk_row hn0 hn6 hng i st.1 m4).1
  have kf := ngk_fix (k := i) hn0 hn6 hng m4
  refine x_al0 rfl dX12_laysLine_13 ?_
  refine x_gm fdX12_388 W.hM (by decide) (lm) dX12_laysLine_14 ?_
  refine x_if_eq (tgt := 31) dX12_laysLine_17 rfl (fun q17 => ?_) (fun q17 => ?_)
  · skip
    first | (simp only [cmp_lt, cmp_gt, cmp_eq, zN_cge, zN_cle, Decidable.not_not] at q17) | (simp (disch := omega) only [zN_le, zN_lt, zN_0, zN_1, nI_toInt, zN_eq, zN_eq0, b2_z, b2_nz, Decidable.not_not, Int.not_lt, Int.not_le, zK0, zK1, zK2, zK3, zK5, zK7, zK8, zK9, zK10, zK19, zK20, zK40, zK99, zK100, zK199] at q17) | skip
    have il : i < ordr dk.1 dk.2.2.1 := by omega
    refine x_al0 rfl dX12_laysLine_31 ?_
    refine x_gm fdX12_73 W.hM (by decide) W.hF.f35 dX12_laysLine_32 ?_
    refine x_al0 rfl dX12_laysLine_35 ?_
    refine x_gm fdX12_388 W.hM (by decide) (lm) dX12_laysLine_36 ?_
    refine x_il1 dX12_laysLine_39 ?_
    refine x_mstJ (len := 60) W J rfl rfl (by decide) rfl (by omega) dX12_laysLine_40 (fun h W J => ?_)
    refine x_al0 rfl dX12_laysLine_41 ?_
    refine x_dup rfl dX12_laysLine_42 ?_
    refine x_gm fdX12_388 W.hM (by decide) (lm) dX12_laysLine_43 ?_
    refine x_iconst (v := nI 1) dX12_laysLine_46 rfl ?_
    first | refine x_iadd (nI_add _ _) dX12_laysLine_47 ?_ | refine x_iadd rfl dX12_laysLine_47 ?_
    refine x_mpfJ W J fdX12_388 (by decide) rfl rfl zf_i dX12_laysLine_48 (fun h W J => ?_)
    refine x_al0 rfl dX12_laysLine_51 ?_
    refine x_il1 dX12_laysLine_52 ?_
    refine x_cv1Ip mX12_nightTo_ok lkX12_268 rfl (Nat.le_of_ble_eq_true rfl) (Nat.le_of_ble_eq_true rfl) dX12_laysLine_53 W.hM  (j_nightTo W J (by first | assumption | omega)) (fun r h hq => ?_)
    obtain ⟨rfl, s2, M2, L2, W, J, U2⟩ := hq
    refine x_is1 rfl dX12_laysLine_56 ?_
    refine x_goto (tgt := 13) dX12_laysLine_57 rfl ?_
    rw [← ngk_s]
    refine ih (i + 1) _ (by omega) ⟨il, _, _, _, W, J, ((U.m (by simp)).fs (by simp)).tr (U2.mono (by simp) (by simp) (by simp)), by rw [U2.1 36 (by simp)]; rfl, fun k hk => ?_⟩
    rw [U2.2.1 78 (by simp), upM_eq]
    by_cases z : k = i
    · subst z; exact pk_us
    · rw [pk_un z]; exact hl k (by omega)
  · skip
    first | (simp only [cmp_lt, cmp_gt, cmp_eq, zN_cge, zN_cle, Decidable.not_not] at q17) | (simp (disch := omega) only [zN_le, zN_lt, zN_0, zN_1, nI_toInt, zN_eq, zN_eq0, b2_z, b2_nz, Decidable.not_not, Int.not_lt, Int.not_le, zK0, zK1, zK2, zK3, zK5, zK7, zK8, zK9, zK10, zK19, zK20, zK40, zK99, zK100, zK199] at q17) | skip
    refine x_il1 dX12_laysLine_20 ?_
    refine x_al0 rfl dX12_laysLine_21 ?_
    refine x_gm fdX12_13 W.hM (by decide) W.hF.f1 dX12_laysLine_22 ?_
    refine x_bipush (v := nI 21) dX12_laysLine_25 rfl ?_
    refine x_mld (len := 2868) W rfl rfl (by decide) (by omega) (by first | assumption | rfl) dX12_laysLine_27 ?_
    refine x_icmp_eq (tgt := 60) dX12_laysLine_28 rfl (fun q28 => ?_) (fun q28 => ?_)
    · skip
      first | (simp only [cmp_lt, cmp_gt, cmp_eq, zN_cge, zN_cle, Decidable.not_not] at q28) | (simp (disch := omega) only [zN_le, zN_lt, zN_0, zN_1, nI_toInt, zN_eq, zN_eq0, b2_z, b2_nz, Decidable.not_not, Int.not_lt, Int.not_le, zK0, zK1, zK2, zK3, zK5, zK7, zK8, zK9, zK10, zK19, zK20, zK40, zK99, zK100, zK199] at q28) | skip
      have i9 : i = ordr dk.1 dk.2.2.1 := by
        have := kf.mp q28
        by_cases z : i < ordr dk.1 dk.2.2.1
        · rw [Nat.mod_eq_of_lt z] at this; omega
        · omega
      subst i9
      exact x_vret rfl dX12_laysLine_60 ⟨rfl, _, _, _, W, J, U, lm, hl⟩
    · skip
      first | (simp only [cmp_lt, cmp_gt, cmp_eq, zN_cge, zN_cle, Decidable.not_not] at q28) | (simp (disch := omega) only [zN_le, zN_lt, zN_0, zN_1, nI_toInt, zN_eq, zN_eq0, b2_z, b2_nz, Decidable.not_not, Int.not_lt, Int.not_le, zK0, zK1, zK2, zK3, zK5, zK7, zK8, zK9, zK10, zK19, zK20, zK40, zK99, zK100, zK199] at q28) | skip
      have il : i < ordr dk.1 dk.2.2.1 := by
        rcases Nat.lt_or_ge i (ordr dk.1 dk.2.2.1) with z | z
        · exact z
        · exact absurd (kf.mpr (by rw [show i = ordr dk.1 dk.2.2.1 by omega, Nat.mod_self])) q28
      refine x_al0 rfl dX12_laysLine_31 ?_
      refine x_gm fdX12_73 W.hM (by decide) W.hF.f35 dX12_laysLine_32 ?_
      refine x_al0 rfl dX12_laysLine_35 ?_
      refine x_gm fdX12_388 W.hM (by decide) (lm) dX12_laysLine_36 ?_
      refine x_il1 dX12_laysLine_39 ?_
      refine x_mstJ (len := 60) W J rfl rfl (by decide) rfl (by omega) dX12_laysLine_40 (fun h W J => ?_)
      refine x_al0 rfl dX12_laysLine_41 ?_
      refine x_dup rfl dX12_laysLine_42 ?_
      refine x_gm fdX12_388 W.hM (by decide) (lm) dX12_laysLine_43 ?_
      refine x_iconst (v := nI 1) dX12_laysLine_46 rfl ?_
      first | refine x_iadd (nI_add _ _) dX12_laysLine_47 ?_ | refine x_iadd rfl dX12_laysLine_47 ?_
      refine x_mpfJ W J fdX12_388 (by decide) rfl rfl zf_i dX12_laysLine_48 (fun h W J => ?_)
      refine x_al0 rfl dX12_laysLine_51 ?_
      refine x_il1 dX12_laysLine_52 ?_
      refine x_cv1Ip mX12_nightTo_ok lkX12_268 rfl (Nat.le_of_ble_eq_true rfl) (Nat.le_of_ble_eq_true rfl) dX12_laysLine_53 W.hM  (j_nightTo W J (by first | assumption | omega)) (fun r h hq => ?_)
      obtain ⟨rfl, s2, M2, L2, W, J, U2⟩ := hq
      refine x_is1 rfl dX12_laysLine_56 ?_
      refine x_goto (tgt := 13) dX12_laysLine_57 rfl ?_
      rw [← ngk_s]
      refine ih (i + 1) _ (by omega) ⟨il, _, _, _, W, J, ((U.m (by simp)).fs (by simp)).tr (U2.mono (by simp) (by simp) (by simp)), by rw [U2.1 36 (by simp)]; rfl, fun k hk => ?_⟩
      rw [U2.2.1 78 (by simp), upM_eq]
      by_cases z : k = i
      · subst z; exact pk_us
      · rw [pk_un z]; exact hl k (by omega)
theorem w_at {v : Int64} (I : MI h0 h dk st un tp tr pi fl) : Zm g (d + 3) 0 0 mX12_at [.ref 59, .long v] h (rIp (fun r h' => r = F_at dk st v ∧ MI h0 h' dk st un tp tr pi fl)) := by
  obtain ⟨s, M, L, W, J⟩ := I
  obtain ⟨D, hn0, hn6, ho0, ho9, hng, hli, e0, e1, e2, m1, m2, m3, m4, m5, u1, u2, t1, t2, r1, hf⟩ := MJ.o J
  have of := rnd_facts hn6 hng
  show Zw g (d + 3) 0 0 mX12_at 0 [some (.ref 59), some (.long v), none] [] h _
  refine x_al0 rfl dX12_at_0 ?_
  refine x_iconst (v := nI 0) dX12_at_1 rfl ?_
  refine x_mpfJ W J fdX12_1 (by decide) rfl rfl zf_i dX12_at_2 (fun h W J => ?_)
  refine x_ll1 dX12_at_5 ?_
  refine x_lconst (v := 0) dX12_at_6 rfl ?_
  refine x_ldc2 kcX12_346 dX12_at_7 ?_
  refine x_cs3I mX12_within_ok lkX12_157 (Nat.le_of_ble_eq_true rfl) (Nat.le_of_ble_eq_true rfl) dX12_at_10 c_X12_within ?_
  refine x_if_ne (tgt := 19) dX12_at_13 rfl (fun q13 => ?_) (fun q13 => ?_)
  · skip
    first | (simp only [cmp_lt, cmp_gt, cmp_eq, zN_cge, zN_cle, Decidable.not_not] at q13) | (simp (disch := omega) only [zN_le, zN_lt, zN_0, zN_1, nI_toInt, zN_eq, zN_eq0, b2_z, b2_nz, Decidable.not_not, Int.not_lt, Int.not_le, zK0, zK1, zK2, zK3, zK5, zK7, zK8, zK9, zK10, zK19, zK20, zK40, zK99, zK100, zK199] at q13) | skip
    rw [e15] at q13
    obtain ⟨K, hK, rfl⟩ := v15 q13
    have lt := Nat.mod_lt K of.2.2.1
    refine x_al0 rfl dX12_at_19 ?_
    refine x_cv0Vp mX12_laysLine_ok lkX12_391 rfl (Nat.le_of_ble_eq_true rfl) (Nat.le_of_ble_eq_true rfl) dX12_at_20 W.hM  (j_laysLine W J) (fun h hq => ?_)
    obtain ⟨s, M, L, W, J, U2, hlm, hln⟩ := hq
    obtain ⟨D, hn0, hn6, ho0, ho9, hng, hli, e0, e1, e2, m1, m2, m3, m4, m5, u1, u2, t1, t2, r1, hf⟩ := MJ.o J
    refine x_al0 rfl dX12_at_23 ?_
    refine x_gm fdX12_73 W.hM (by decide) W.hF.f35 dX12_at_24 ?_
    refine x_ll1 dX12_at_27 ?_
    refine x_al0 rfl dX12_at_28 ?_
    refine x_gm fdX12_388 W.hM (by decide) (hlm) dX12_at_29 ?_
    refine x_i2l (nI_l (by omega)) dX12_at_32 ?_
    refine x_lrem (by rw [show (0 : Int64) = lN 0 from rfl, lN_eq (by omega) (by omega)]; omega) (pk_lRem (by omega) (by omega) (by omega)) dX12_at_33 ?_
    refine x_l2i (lN_i _) dX12_at_34 ?_
    refine x_mld (len := 60) W rfl rfl (by decide) (by omega) (hln _ lt) dX12_at_35 ?_
    exact x_iret rfl rfl dX12_at_36 ⟨_, rfl, by rw [F_at, if_pos q13, pk_lT (by omega), Int.toNat_natCast, ngk_mod hn0 hn6 hng m4], _, _, _, W, J⟩
  · skip
    first | (simp only [cmp_lt, cmp_gt, cmp_eq, zN_cge, zN_cle, Decidable.not_not] at q13) | (simp (disch := omega) only [zN_le, zN_lt, zN_0, zN_1, nI_toInt, zN_eq, zN_eq0, b2_z, b2_nz, Decidable.not_not, Int.not_lt, Int.not_le, zK0, zK1, zK2, zK3, zK5, zK7, zK8, zK9, zK10, zK19, zK20, zK40, zK99, zK100, zK199] at q13) | skip
    refine x_bipush (v := (-3)) dX12_at_16 rfl ?_
    exact x_iret rfl rfl dX12_at_18 ⟨_, rfl, by rw [F_at, if_neg (fun z => q13 (e15.mpr z))], _, _, _, W, J⟩
theorem w_comesRound (I : MI h0 h dk st un tp tr pi fl) : Zm g (d + 3) 0 0 mX12_comesRound [.ref 59] h (rIp (fun r h' => r = nI (ordr dk.1 dk.2.2.1) ∧ MI h0 h' dk st un tp tr pi fl)) := by
  obtain ⟨s, M, L, W, J⟩ := I
  obtain ⟨D, hn0, hn6, ho0, ho9, hng, hli, e0, e1, e2, m1, m2, m3, m4, m5, u1, u2, t1, t2, r1, hf⟩ := MJ.o J
  show Zw g (d + 3) 0 0 mX12_comesRound 0 [some (.ref 59)] [] h _
  refine x_al0 rfl dX12_comesRound_0 ?_
  refine x_iconst (v := nI 0) dX12_comesRound_1 rfl ?_
  refine x_mpfJ W J fdX12_1 (by decide) rfl rfl zf_i dX12_comesRound_2 (fun h W J => ?_)
  refine x_al0 rfl dX12_comesRound_5 ?_
  refine x_cv0Vp mX12_laysLine_ok lkX12_391 rfl (Nat.le_of_ble_eq_true rfl) (Nat.le_of_ble_eq_true rfl) dX12_comesRound_6 W.hM  (j_laysLine W J) (fun h hq => ?_)
  obtain ⟨s, M, L, W, J, U2, hlm, hln⟩ := hq
  obtain ⟨D, hn0, hn6, ho0, ho9, hng, hli, e0, e1, e2, m1, m2, m3, m4, m5, u1, u2, t1, t2, r1, hf⟩ := MJ.o J
  refine x_al0 rfl dX12_comesRound_9 ?_
  refine x_gm fdX12_388 W.hM (by decide) (hlm) dX12_comesRound_10 ?_
  exact x_iret rfl rfl dX12_comesRound_13 ⟨_, rfl, rfl, _, _, _, W, J⟩
theorem w_first {x : Int32} (I : MI h0 h dk st un tp tr pi fl) : Zm g (d + 5) 0 0 mX12_first [.ref 59, .int x] h (rIp (fun r h' => r = F_first dk st x ∧ MI h0 h' dk st un tp tr pi fl)) := by
  obtain ⟨s, M, L, W, J⟩ := I
  obtain ⟨D, hn0, hn6, ho0, ho9, hng, hli, e0, e1, e2, m1, m2, m3, m4, m5, u1, u2, t1, t2, r1, hf⟩ := MJ.o J
  have of := rnd_facts hn6 hng
  show Zw g (d + 5) 0 0 mX12_first 0 [some (.ref 59), some (.int x), none] [] h _
  refine x_al0 rfl dX12_first_0 ?_
  refine x_iconst (v := nI 0) dX12_first_1 rfl ?_
  refine x_mpfJ W J fdX12_1 (by decide) rfl rfl zf_i dX12_first_2 (fun h W J => ?_)
  refine x_il1 dX12_first_5 ?_
  refine x_cs1I mX12_isAim_ok lkX12_369 (Nat.le_of_ble_eq_true rfl) (Nat.le_of_ble_eq_true rfl) dX12_first_6 j_isAim ?_
  refine x_if_ne (tgt := 15) dX12_first_9 rfl (fun q9 => ?_) (fun q9 => ?_)
  · skip
    first | (simp only [cmp_lt, cmp_gt, cmp_eq, zN_cge, zN_cle, Decidable.not_not] at q9) | (simp (disch := omega) only [zN_le, zN_lt, zN_0, zN_1, nI_toInt, zN_eq, zN_eq0, b2_z, b2_nz, Decidable.not_not, Int.not_lt, Int.not_le, zK0, zK1, zK2, zK3, zK5, zK7, zK8, zK9, zK10, zK19, zK20, zK40, zK99, zK100, zK199] at q9) | skip
    unfold F_first
    rw [if_pos q9]
    obtain ⟨k, hk, rfl⟩ := oneOf_ex q9
    rw [show tn (nI k) = k from nI_clamp (by omega)]
    refine x_al0 rfl dX12_first_15 ?_
    refine x_cv0Vp mX12_laysLet_ok lkX12_355 rfl (Nat.le_of_ble_eq_true rfl) (Nat.le_of_ble_eq_true rfl) dX12_first_16 W.hM  (j_laysLet W J) (fun h hq => ?_)
    obtain ⟨s, M, L, W, J, U, hlet⟩ := hq
    obtain ⟨D, hn0, hn6, ho0, ho9, hng, hli, e0, e1, e2, m1, m2, m3, m4, m5, u1, u2, t1, t2, r1, hf⟩ := MJ.o J
    refine x_al0 rfl dX12_first_19 ?_
    refine x_cv0Vp mX12_laysLine_ok lkX12_391 rfl (Nat.le_of_ble_eq_true rfl) (Nat.le_of_ble_eq_true rfl) dX12_first_20 W.hM  (j_laysLine W J) (fun h hq => ?_)
    obtain ⟨s, M, L, W, J, U2, hlm, hln⟩ := hq
    obtain ⟨D, hn0, hn6, ho0, ho9, hng, hli, e0, e1, e2, m1, m2, m3, m4, m5, u1, u2, t1, t2, r1, hf⟩ := MJ.o J
    replace hlet : ∀ q, q < fct dk.1 → M 72 q = nI (mskK dk q st.2.1) := by rw [U2.2.1 72 (by decide)]; exact hlet
    refine x_iconst (v := nI 0) dX12_first_23 rfl ?_
    refine x_is2 rfl dX12_first_24 ?_
    refine x_wh (fun (i : Nat) => [some (.ref 59), some (.int (nI k)), some (.int (nI i))]) (fun i h' => i ≤ ordr dk.1 dk.2.2.1 ∧ h' = h ∧ fstL (nightB dk st k) (ordr dk.1 dk.2.2.1) 0 = fstL (nightB dk st k) (ordr dk.1 dk.2.2.1 - i) i) (fun i => 10 - i) 0 ⟨Nat.zero_le _, rfl, rfl⟩ (fun i h' hI ih => ?_)
    obtain ⟨hi, rfl, hE⟩ := hI
    refine x_il2 dX12_first_25 ?_
    refine x_al0 rfl dX12_first_26 ?_
    refine x_gm fdX12_388 W.hM (by decide) (hlm) dX12_first_27 ?_
    refine x_icmp_ge (tgt := 55) dX12_first_30 rfl (fun q30 => ?_) (fun q30 => ?_)
    · skip
      first | (simp only [cmp_lt, cmp_gt, cmp_eq, zN_cge, zN_cle, Decidable.not_not] at q30) | (simp (disch := omega) only [zN_le, zN_lt, zN_0, zN_1, nI_toInt, zN_eq, zN_eq0, b2_z, b2_nz, Decidable.not_not, Int.not_lt, Int.not_le, zK0, zK1, zK2, zK3, zK5, zK7, zK8, zK9, zK10, zK19, zK20, zK40, zK99, zK100, zK199] at q30) | skip
      have i9 : i = ordr dk.1 dk.2.2.1 := by omega
      rw [hE, i9, Nat.sub_self]
      refine x_iconst (v := (-1)) dX12_first_55 rfl ?_
      exact x_iret rfl rfl dX12_first_56 ⟨_, rfl, rfl, _, _, _, W, J⟩
    · skip
      first | (simp only [cmp_lt, cmp_gt, cmp_eq, zN_cge, zN_cle, Decidable.not_not] at q30) | (simp (disch := omega) only [zN_le, zN_lt, zN_0, zN_1, nI_toInt, zN_eq, zN_eq0, b2_z, b2_nz, Decidable.not_not, Int.not_lt, Int.not_le, zK0, zK1, zK2, zK3, zK5, zK7, zK8, zK9, zK10, zK19, zK20, zK40, zK99, zK100, zK199] at q30) | skip
      have il : i < ordr dk.1 dk.2.2.1 := by omega
      rw [show ordr dk.1 dk.2.2.1 - i = ordr dk.1 dk.2.2.1 - (i + 1) + 1 by omega, fstL] at hE
      have kr := (ngk_row hn0 hn6 hng i st.1 m4).1
      refine x_al0 rfl dX12_first_33 ?_
      refine x_al0 rfl dX12_first_34 ?_
      refine x_gm fdX12_73 W.hM (by decide) W.hF.f35 dX12_first_35 ?_
      refine x_il2 dX12_first_38 ?_
      refine x_mld (len := 60) W rfl rfl (by decide) (by omega) (hln i il) dX12_first_39 ?_
      refine x_il1 dX12_first_40 ?_
      refine x_cv2I mX12_isSo_ok lkX12_364 rfl (Nat.le_of_ble_eq_true rfl) (Nat.le_of_ble_eq_true rfl) dX12_first_41 W.hM  (j_isSo W J kr hk (hlet _ kr) (by have := mskK_lt (row := ngk dk.1 dk.2.2.1 i st.1) (c := st.2.1) hn6; omega)) ?_
      refine x_if_eq (tgt := 49) dX12_first_44 rfl (fun q44 => ?_) (fun q44 => ?_)
      · skip
        first | (simp only [cmp_lt, cmp_gt, cmp_eq, zN_cge, zN_cle, Decidable.not_not] at q44) | (simp (disch := omega) only [zN_le, zN_lt, zN_0, zN_1, nI_toInt, zN_eq, zN_eq0, b2_z, b2_nz, Decidable.not_not, Int.not_lt, Int.not_le, zK0, zK1, zK2, zK3, zK5, zK7, zK8, zK9, zK10, zK19, zK20, zK40, zK99, zK100, zK199] at q44) | skip
        first | refine x_ii2 rfl (nI_1 _) dX12_first_49 ?_ | refine x_ii2 rfl rfl dX12_first_49 ?_
        refine x_goto (tgt := 25) dX12_first_52 rfl ?_
        exact ih (i + 1) _ (by omega) ⟨il, rfl, by rw [hE, if_neg (by unfold nightB soB; simpa using q44)]⟩
      · skip
        first | (simp only [cmp_lt, cmp_gt, cmp_eq, zN_cge, zN_cle, Decidable.not_not] at q44) | (simp (disch := omega) only [zN_le, zN_lt, zN_0, zN_1, nI_toInt, zN_eq, zN_eq0, b2_z, b2_nz, Decidable.not_not, Int.not_lt, Int.not_le, zK0, zK1, zK2, zK3, zK5, zK7, zK8, zK9, zK10, zK19, zK20, zK40, zK99, zK100, zK199] at q44) | skip
        refine x_il2 dX12_first_47 ?_
        exact x_iret rfl rfl dX12_first_48 ⟨_, rfl, by rw [hE, if_pos (show nightB dk st k i = true from decide_eq_true q44)], _, _, _, W, J⟩
  · skip
    first | (simp only [cmp_lt, cmp_gt, cmp_eq, zN_cge, zN_cle, Decidable.not_not] at q9) | (simp (disch := omega) only [zN_le, zN_lt, zN_0, zN_1, nI_toInt, zN_eq, zN_eq0, b2_z, b2_nz, Decidable.not_not, Int.not_lt, Int.not_le, zK0, zK1, zK2, zK3, zK5, zK7, zK8, zK9, zK10, zK19, zK20, zK40, zK99, zK100, zK199] at q9) | skip
    refine x_bipush (v := (-2)) dX12_first_12 rfl ?_
    exact x_iret rfl rfl dX12_first_14 ⟨_, rfl, by rw [F_first, if_neg q9], _, _, _, W, J⟩
theorem w_often {x : Int32} {v : Int64} (I : MI h0 h dk st un tp tr pi fl) : Zm g (d + 5) 0 0 mX12_often [.ref 59, .int x, .long v] h (rLp (fun r h' => r = F_often dk st x v ∧ MI h0 h' dk st un tp tr pi fl)) := by
  obtain ⟨s, M, L, W, J⟩ := I
  obtain ⟨D, hn0, hn6, ho0, ho9, hng, hli, e0, e1, e2, m1, m2, m3, m4, m5, u1, u2, t1, t2, r1, hf⟩ := MJ.o J
  have of := rnd_facts hn6 hng
  show Zw g (d + 5) 0 0 mX12_often 0 [some (.ref 59), some (.int x), some (.long v), none, none, none, none] [] h _
  refine x_al0 rfl dX12_often_0 ?_
  refine x_iconst (v := nI 0) dX12_often_1 rfl ?_
  refine x_mpfJ W J fdX12_1 (by decide) rfl rfl zf_i dX12_often_2 (fun h W J => ?_)
  refine x_il1 dX12_often_5 ?_
  refine x_cs1I mX12_isAim_ok lkX12_369 (Nat.le_of_ble_eq_true rfl) (Nat.le_of_ble_eq_true rfl) dX12_often_6 j_isAim ?_
  refine x_if_ne (tgt := 16) dX12_often_9 rfl (fun q9 => ?_) (fun q9 => ?_)
  · skip
    first | (simp only [cmp_lt, cmp_gt, cmp_eq, zN_cge, zN_cle, Decidable.not_not] at q9) | (simp (disch := omega) only [zN_le, zN_lt, zN_0, zN_1, nI_toInt, zN_eq, zN_eq0, b2_z, b2_nz, Decidable.not_not, Int.not_lt, Int.not_le, zK0, zK1, zK2, zK3, zK5, zK7, zK8, zK9, zK10, zK19, zK20, zK40, zK99, zK100, zK199] at q9) | skip
    refine x_ll2 dX12_often_16 ?_
    refine x_lconst (v := 0) dX12_often_17 rfl ?_
    refine x_ldc2 kcX12_346 dX12_often_18 ?_
    refine x_cs3I mX12_within_ok lkX12_157 (Nat.le_of_ble_eq_true rfl) (Nat.le_of_ble_eq_true rfl) dX12_often_21 c_X12_within ?_
    refine x_if_ne (tgt := 31) dX12_often_24 rfl (fun q24 => ?_) (fun q24 => ?_)
    · skip
      first | (simp only [cmp_lt, cmp_gt, cmp_eq, zN_cge, zN_cle, Decidable.not_not] at q24) | (simp (disch := omega) only [zN_le, zN_lt, zN_0, zN_1, nI_toInt, zN_eq, zN_eq0, b2_z, b2_nz, Decidable.not_not, Int.not_lt, Int.not_le, zK0, zK1, zK2, zK3, zK5, zK7, zK8, zK9, zK10, zK19, zK20, zK40, zK99, zK100, zK199] at q24) | skip
      rw [e15] at q24
      unfold F_often
      rw [if_pos q9, if_pos q24]
      obtain ⟨k, hk, rfl⟩ := oneOf_ex q9
      rw [show tn (nI k) = k from nI_clamp (by omega)]
      obtain ⟨N, hN, rfl⟩ := v15 q24
      rw [pk_lT (by omega), Int.toNat_natCast]
      have hper : ∀ i, nightB dk st k (i % ordr dk.1 dk.2.2.1) = nightB dk st k i := fun i => by unfold nightB; rw [ngk_mod hn0 hn6 hng m4]
      rw [← smk_hit of.2.2.1 hper]
      refine x_al0 rfl dX12_often_31 ?_
      refine x_cv0Vp mX12_laysLet_ok lkX12_355 rfl (Nat.le_of_ble_eq_true rfl) (Nat.le_of_ble_eq_true rfl) dX12_often_32 W.hM  (j_laysLet W J) (fun h hq => ?_)
      obtain ⟨s, M, L, W, J, U, hlet⟩ := hq
      obtain ⟨D, hn0, hn6, ho0, ho9, hng, hli, e0, e1, e2, m1, m2, m3, m4, m5, u1, u2, t1, t2, r1, hf⟩ := MJ.o J
      refine x_al0 rfl dX12_often_35 ?_
      refine x_cv0Vp mX12_laysLine_ok lkX12_391 rfl (Nat.le_of_ble_eq_true rfl) (Nat.le_of_ble_eq_true rfl) dX12_often_36 W.hM  (j_laysLine W J) (fun h hq => ?_)
      obtain ⟨s, M, L, W, J, U2, hlm, hln⟩ := hq
      obtain ⟨D, hn0, hn6, ho0, ho9, hng, hli, e0, e1, e2, m1, m2, m3, m4, m5, u1, u2, t1, t2, r1, hf⟩ := MJ.o J
      replace hlet : ∀ q, q < fct dk.1 → M 72 q = nI (mskK dk q st.2.1) := by rw [U2.2.1 72 (by decide)]; exact hlet
      refine x_lconst (v := 0) dX12_often_39 rfl ?_
      refine x_ls4 rfl dX12_often_40 ?_
      refine x_iconst (v := nI 1) dX12_often_42 rfl ?_
      refine x_is6 rfl dX12_often_43 ?_
      refine x_wh (fun (i : Nat) => [some (.ref 59), some (.int (nI k)), some (.long (lN N)), none, some (.long (lN (smk (nightB dk st k) (ordr dk.1 dk.2.2.1) N i))), none, some (.int (nI (i + 1)))]) (fun i h' => i ≤ ordr dk.1 dk.2.2.1 ∧ h' = h) (fun i => 10 - i) 0 ⟨Nat.zero_le _, rfl⟩ (fun i h' hI ih => ?_)
      obtain ⟨hi, rfl⟩ := hI
      refine x_il6 dX12_often_45 ?_
      refine x_al0 rfl dX12_often_47 ?_
      refine x_gm fdX12_388 W.hM (by decide) (hlm) dX12_often_48 ?_
      refine x_icmp_gt (tgt := 106) dX12_often_51 rfl (fun q51 => ?_) (fun q51 => ?_)
      · skip
        first | (simp only [cmp_lt, cmp_gt, cmp_eq, zN_cge, zN_cle, Decidable.not_not] at q51) | (simp (disch := omega) only [zN_le, zN_lt, zN_0, zN_1, nI_toInt, zN_eq, zN_eq0, b2_z, b2_nz, Decidable.not_not, Int.not_lt, Int.not_le, zK0, zK1, zK2, zK3, zK5, zK7, zK8, zK9, zK10, zK19, zK20, zK40, zK99, zK100, zK199] at q51) | skip
        have i9 : i = ordr dk.1 dk.2.2.1 := by omega
        subst i9
        refine x_ll4 dX12_often_106 ?_
        exact x_lret rfl dX12_often_108 ⟨_, rfl, rfl, _, _, _, W, J⟩
      · skip
        first | (simp only [cmp_lt, cmp_gt, cmp_eq, zN_cge, zN_cle, Decidable.not_not] at q51) | (simp (disch := omega) only [zN_le, zN_lt, zN_0, zN_1, nI_toInt, zN_eq, zN_eq0, b2_z, b2_nz, Decidable.not_not, Int.not_lt, Int.not_le, zK0, zK1, zK2, zK3, zK5, zK7, zK8, zK9, zK10, zK19, zK20, zK40, zK99, zK100, zK199] at q51) | skip
        have il : i < ordr dk.1 dk.2.2.1 := by omega
        have lt := Nat.mod_lt (i + 1) of.2.2.1
        have kr := (ngk_row hn0 hn6 hng ((i + 1) % ordr dk.1 dk.2.2.1) st.1 m4).1
        have es : smk (nightB dk st k) (ordr dk.1 dk.2.2.1) N (i + 1) = smk (nightB dk st k) (ordr dk.1 dk.2.2.1) N i + (if nightB dk st k (i + 1) then gk (ordr dk.1 dk.2.2.1) N (i + 1) else 0) := rfl
        refine x_al0 rfl dX12_often_54 ?_
        refine x_al0 rfl dX12_often_55 ?_
        refine x_gm fdX12_73 W.hM (by decide) W.hF.f35 dX12_often_56 ?_
        refine x_il6 dX12_often_59 ?_
        refine x_al0 rfl dX12_often_61 ?_
        refine x_gm fdX12_388 W.hM (by decide) (hlm) dX12_often_62 ?_
        refine x_irem (fun z => by have := (nI_eq (a := ordr dk.1 dk.2.2.1) (b := 0) (by omega) (by decide)).mp z; omega) (pk_rem (by omega) (by omega) (by omega)) dX12_often_65 ?_
        refine x_mld (len := 60) W rfl rfl (by decide) (by omega) (hln _ lt) dX12_often_66 ?_
        refine x_il1 dX12_often_67 ?_
        refine x_cv2I mX12_isSo_ok lkX12_364 rfl (Nat.le_of_ble_eq_true rfl) (Nat.le_of_ble_eq_true rfl) dX12_often_68 W.hM  (j_isSo W J kr hk (hlet _ kr) (by have := mskK_lt (row := ngk dk.1 dk.2.2.1 ((i + 1) % ordr dk.1 dk.2.2.1) st.1) (c := st.2.1) hn6; omega)) ?_
        have hB : nightB dk st k (i + 1) = decide (mskK dk (ngk dk.1 dk.2.2.1 ((i + 1) % ordr dk.1 dk.2.2.1) st.1) st.2.1 = goal dk.1 k) := (hper (i + 1)).symm
        refine x_if_eq (tgt := 100) dX12_often_71 rfl (fun q71 => ?_) (fun q71 => ?_)
        · skip
          first | (simp only [cmp_lt, cmp_gt, cmp_eq, zN_cge, zN_cle, Decidable.not_not] at q71) | (simp (disch := omega) only [zN_le, zN_lt, zN_0, zN_1, nI_toInt, zN_eq, zN_eq0, b2_z, b2_nz, Decidable.not_not, Int.not_lt, Int.not_le, zK0, zK1, zK2, zK3, zK5, zK7, zK8, zK9, zK10, zK19, zK20, zK40, zK99, zK100, zK199] at q71) | skip
          rw [hB, if_neg (by simpa using q71)] at es
          first | refine x_ii6 rfl (nI_1 _) dX12_often_100 ?_ | refine x_ii6 rfl rfl dX12_often_100 ?_
          refine x_goto (tgt := 45) dX12_often_103 rfl ?_
          rw [show smk (nightB dk st k) (ordr dk.1 dk.2.2.1) N i = smk (nightB dk st k) (ordr dk.1 dk.2.2.1) N (i + 1) from es.symm]
          exact ih (i + 1) _ (by omega) ⟨il, rfl⟩
        · skip
          first | (simp only [cmp_lt, cmp_gt, cmp_eq, zN_cge, zN_cle, Decidable.not_not] at q71) | (simp (disch := omega) only [zN_le, zN_lt, zN_0, zN_1, nI_toInt, zN_eq, zN_eq0, b2_z, b2_nz, Decidable.not_not, Int.not_lt, Int.not_le, zK0, zK1, zK2, zK3, zK5, zK7, zK8, zK9, zK10, zK19, zK20, zK40, zK99, zK100, zK199] at q71) | skip
          refine x_ll2 dX12_often_74 ?_
          refine x_il6 dX12_often_75 ?_
          refine x_i2l (nI_l (by omega)) dX12_often_77 ?_
          refine x_lcmp (rfl) dX12_often_78 ?_
          refine x_if_lt (tgt := 100) dX12_often_79 rfl (fun q79 => ?_) (fun q79 => ?_)
          · skip
            first | (simp only [cmp_lt, cmp_gt, cmp_eq, zN_cge, zN_cle, Decidable.not_not] at q79) | (simp (disch := omega) only [zN_le, zN_lt, zN_0, zN_1, nI_toInt, zN_eq, zN_eq0, b2_z, b2_nz, Decidable.not_not, Int.not_lt, Int.not_le, zK0, zK1, zK2, zK3, zK5, zK7, zK8, zK9, zK10, zK19, zK20, zK40, zK99, zK100, zK199] at q79) | skip
            rw [pk_lLT (by omega) (by omega)] at q79
            rw [show gk (ordr dk.1 dk.2.2.1) N (i + 1) = 0 from if_neg (by omega), ite_self] at es
            first | refine x_ii6 rfl (nI_1 _) dX12_often_100 ?_ | refine x_ii6 rfl rfl dX12_often_100 ?_
            refine x_goto (tgt := 45) dX12_often_103 rfl ?_
            rw [show smk (nightB dk st k) (ordr dk.1 dk.2.2.1) N i = smk (nightB dk st k) (ordr dk.1 dk.2.2.1) N (i + 1) from es.symm]
            exact ih (i + 1) _ (by omega) ⟨il, rfl⟩
          · skip
            first | (simp only [cmp_lt, cmp_gt, cmp_eq, zN_cge, zN_cle, Decidable.not_not] at q79) | (simp (disch := omega) only [zN_le, zN_lt, zN_0, zN_1, nI_toInt, zN_eq, zN_eq0, b2_z, b2_nz, Decidable.not_not, Int.not_lt, Int.not_le, zK0, zK1, zK2, zK3, zK5, zK7, zK8, zK9, zK10, zK19, zK20, zK40, zK99, zK100, zK199] at q79) | skip
            rw [pk_lLT (by omega) (by omega)] at q79
            rw [hB, if_pos (by simpa using q71), show gk (ordr dk.1 dk.2.2.1) N (i + 1) = (N - (i + 1)) / ordr dk.1 dk.2.2.1 + 1 from if_pos (by omega)] at es
            refine x_ll4 dX12_often_82 ?_
            refine x_ll2 dX12_often_84 ?_
            refine x_il6 dX12_often_85 ?_
            refine x_i2l (nI_l (by omega)) dX12_often_87 ?_
            refine x_lsub (lN_sub (by omega)) dX12_often_88 ?_
            refine x_al0 rfl dX12_often_89 ?_
            refine x_gm fdX12_388 W.hM (by decide) (hlm) dX12_often_90 ?_
            refine x_i2l (nI_l (by omega)) dX12_often_93 ?_
            refine x_ldiv (by rw [show (0 : Int64) = lN 0 from rfl, lN_eq (by omega) (by omega)]; omega) (pk_lDiv (by omega) (by omega) (by omega)) dX12_often_94 ?_
            refine x_lconst (v := 1) dX12_often_95 rfl ?_
            refine x_ladd (lN_1 _) dX12_often_96 ?_
            refine x_ladd (lN_add _ _) dX12_often_97 ?_
            refine x_ls4 rfl dX12_often_98 ?_
            first | refine x_ii6 rfl (nI_1 _) dX12_often_100 ?_ | refine x_ii6 rfl rfl dX12_often_100 ?_
            refine x_goto (tgt := 45) dX12_often_103 rfl ?_
            rw [← es]
            exact ih (i + 1) _ (by omega) ⟨il, rfl⟩
    · skip
      first | (simp only [cmp_lt, cmp_gt, cmp_eq, zN_cge, zN_cle, Decidable.not_not] at q24) | (simp (disch := omega) only [zN_le, zN_lt, zN_0, zN_1, nI_toInt, zN_eq, zN_eq0, b2_z, b2_nz, Decidable.not_not, Int.not_lt, Int.not_le, zK0, zK1, zK2, zK3, zK5, zK7, zK8, zK9, zK10, zK19, zK20, zK40, zK99, zK100, zK199] at q24) | skip
      refine x_ldc2 kcX12_353 dX12_often_27 ?_
      exact x_lret rfl dX12_often_30 ⟨_, rfl, by rw [F_often, if_pos q9, if_neg (fun z => q24 (e15.mpr z))], _, _, _, W, J⟩
  · skip
    first | (simp only [cmp_lt, cmp_gt, cmp_eq, zN_cge, zN_cle, Decidable.not_not] at q9) | (simp (disch := omega) only [zN_le, zN_lt, zN_0, zN_1, nI_toInt, zN_eq, zN_eq0, b2_z, b2_nz, Decidable.not_not, Int.not_lt, Int.not_le, zK0, zK1, zK2, zK3, zK5, zK7, zK8, zK9, zK10, zK19, zK20, zK40, zK99, zK100, zK199] at q9) | skip
    refine x_ldc2 kcX12_378 dX12_often_12 ?_
    exact x_lret rfl dX12_often_15 ⟨_, rfl, by rw [F_often, if_neg q9], _, _, _, W, J⟩
end ZMn

