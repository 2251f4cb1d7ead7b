/-! the class's at, comesRound, first, often -/
section ZCn
variable {g : zG} {d : Nat} {h0 h h' : zH} {dk : zDk} {st : zSt} {un : List zSt} {tp : List Nat} {tr : Nat → zTr} {pi : Nat → zPi} {fl : Nat × Nat} {ln : zLn} {sb sj : zS3} {dr : Int32}
theorem k_at {v : Int64} (I : CI h0 h dk st un tp tr pi fl ln sb sj dr) : Zm g (d + 4) 0 0 mX11_at [.ref 0, .long v] h (rIp (fun r h' => r = F_at dk st v ∧ CI h0 h' dk st un tp tr pi fl ln sb sj dr)) := by
  obtain ⟨rt, rn, rs, sw, rmv, rmk, moc, len, fre, fc, fr, vn, vs, qd, wst, wqu, wwe, wla, hx, hn, hd, hR, hv, hw, hs⟩ := I.o
  have e1 : v < 0 ↔ v.toInt < 0 := Int64.lt_iff_toInt_lt
  have e2 : v ≤ 1000000000000000 ↔ v.toInt ≤ 1000000000000000 := Int64.le_iff_toInt_le
  show Zw g (d + 4) 0 0 mX11_at 0 [some (.ref 0), some (.long v), none] [] h _
  refine x_ll1 dX11_at_0 ?_
  refine x_lconst (v := 0) dX11_at_1 rfl ?_
  refine x_lcmp (rfl) dX11_at_2 ?_
  refine x_if_lt (tgt := 14) dX11_at_3 rfl (fun q3 => ?_) (fun q3 => ?_)
  · skip
    first | (simp only [cmp_lt, cmp_gt, cmp_eq, zN_cge, zN_cle, Decidable.not_not] at q3) | (simp (disch := omega) only [zN_le, zN_lt, zN_0, zN_1, nI_toInt, zN_eq, zN_eq0, b2_z, b2_nz, Decidable.not_not, Int.not_lt, Int.not_le, zK0, zK1, zK2, zK3, zK5, zK7, zK8, zK9, zK10, zK19, zK20, zK40, zK99, zK100, zK199] at q3) | skip
    refine x_bipush (v := (-3)) dX11_at_14 rfl ?_
    refine x_iret rfl rfl dX11_at_16 ⟨_, rfl, ?_, I⟩
    rw [F_at, if_neg (by rw [e1] at q3; omega)]
  · skip
    first | (simp only [cmp_lt, cmp_gt, cmp_eq, zN_cge, zN_cle, Decidable.not_not] at q3) | (simp (disch := omega) only [zN_le, zN_lt, zN_0, zN_1, nI_toInt, zN_eq, zN_eq0, b2_z, b2_nz, Decidable.not_not, Int.not_lt, Int.not_le, zK0, zK1, zK2, zK3, zK5, zK7, zK8, zK9, zK10, zK19, zK20, zK40, zK99, zK100, zK199] at q3) | skip
    refine x_ll1 dX11_at_6 ?_
    refine x_ldc2 kcX11_279 dX11_at_7 ?_
    refine x_lcmp (rfl) dX11_at_10 ?_
    refine x_if_le (tgt := 17) dX11_at_11 rfl (fun q11 => ?_) (fun q11 => ?_)
    · skip
      first | (simp only [cmp_lt, cmp_gt, cmp_eq, zN_cge, zN_cle, Decidable.not_not] at q11) | (simp (disch := omega) only [zN_le, zN_lt, zN_0, zN_1, nI_toInt, zN_eq, zN_eq0, b2_z, b2_nz, Decidable.not_not, Int.not_lt, Int.not_le, zK0, zK1, zK2, zK3, zK5, zK7, zK8, zK9, zK10, zK19, zK20, zK40, zK99, zK100, zK199] at q11) | skip
      rw [e1] at q3
      rw [e2] at q11
      obtain ⟨K, hK, rfl⟩ := v15 (v := v) ⟨by omega, q11⟩
      refine x_al0 rfl dX11_at_17 ?_
      refine x_ll1 dX11_at_18 ?_
      refine x_cv1Ip mX11_rowBehind_ok lkX11_206 rfl (Nat.le_of_ble_eq_true rfl) (Nat.le_of_ble_eq_true rfl) dX11_at_19 hx  (k_rowBehind I (by first | assumption | omega)) (fun r h hq => ?_)
      obtain ⟨rfl, I⟩ := hq
      obtain ⟨rt, rn, rs, sw, rmv, rmk, moc, len, fre, fc, fr, vn, vs, qd, wst, wqu, wwe, wla, hx, hn, hd, hR, hv, hw, hs⟩ := I.o
      refine x_iret rfl rfl dX11_at_22 ⟨_, rfl, ?_, I⟩
      rw [F_at, if_pos (by omega), pk_lT (by omega), Int.toNat_natCast]
    · skip
      first | (simp only [cmp_lt, cmp_gt, cmp_eq, zN_cge, zN_cle, Decidable.not_not] at q11) | (simp (disch := omega) only [zN_le, zN_lt, zN_0, zN_1, nI_toInt, zN_eq, zN_eq0, b2_z, b2_nz, Decidable.not_not, Int.not_lt, Int.not_le, zK0, zK1, zK2, zK3, zK5, zK7, zK8, zK9, zK10, zK19, zK20, zK40, zK99, zK100, zK199] at q11) | skip
      refine x_bipush (v := (-3)) dX11_at_14 rfl ?_
      refine x_iret rfl rfl dX11_at_16 ⟨_, rfl, ?_, I⟩
      rw [F_at, if_neg (by rw [e2] at q11; omega)]
theorem k_comesRound (I : CI h0 h dk st un tp tr pi fl ln sb sj dr) : Zm g (d + 4) 0 0 mX11_comesRound [.ref 0] h (rIp (fun r h' => r = nI (ordr dk.1 dk.2.2.1) ∧ CI h0 h' dk st un tp tr pi fl ln sb sj dr)) := by
  obtain ⟨rt, rn, rs, sw, rmv, rmk, moc, len, fre, fc, fr, vn, vs, qd, wst, wqu, wwe, wla, hx, hn, hd, hR, hv, hw, hs⟩ := I.o
  obtain ⟨d1, d2, d3, d4, d5, d6, d7, d8⟩ := I.dkB
  show Zw g (d + 4) 0 0 mX11_comesRound 0 [some (.ref 0)] [] h _
  refine x_al0 rfl dX11_comesRound_0 ?_
  refine x_get fdX11_62 hx rfl dX11_comesRound_1 ?_
  refine x_al0 rfl dX11_comesRound_4 ?_
  refine x_get fdX11_106 hx rfl dX11_comesRound_5 ?_
  refine x_get fdX11_161 hd rfl dX11_comesRound_8 ?_
  refine x_cv1Ip mX5_orderOf_ok lkX11_270 rfl (Nat.le_of_ble_eq_true rfl) (Nat.le_of_ble_eq_true rfl) dX11_comesRound_11 hR  (k_orderOf I (by first | assumption | omega)) (fun r h hq => ?_)
  obtain ⟨rfl, I⟩ := hq
  obtain ⟨rt, rn, rs, sw, rmv, rmk, moc, len, fre, fc, fr, vn, vs, qd, wst, wqu, wwe, wla, hx, hn, hd, hR, hv, hw, hs⟩ := I.o
  exact x_iret rfl rfl dX11_comesRound_14 ⟨_, rfl, rfl, I⟩
theorem k_first {x : Int32} (I : CI h0 h dk st un tp tr pi fl ln sb sj dr) : Zm g (d + 6) 0 0 mX11_first [.ref 0, .int x] h (rIp (fun r h' => r = F_first dk st x ∧ CI h0 h' dk st un tp tr pi fl ln sb sj dr)) := by
  obtain ⟨rt, rn, rs, sw, rmv, rmk, moc, len, fre, fc, fr, vn, vs, qd, wst, wqu, wwe, wla, hx, hn, hd, hR, hv, hw, hs⟩ := I.o
  obtain ⟨d1, d2, d3, d4, d5, d6, d7, d8⟩ := I.dkB
  have of := rnd_facts d2 d5
  show Zw g (d + 6) 0 0 mX11_first 0 [some (.ref 0), some (.int x), none, none, none] [] h _
  refine x_il1 dX11_first_0 ?_
  refine x_cs1I mX11_isAim_ok lkX11_294 (Nat.le_of_ble_eq_true rfl) (Nat.le_of_ble_eq_true rfl) dX11_first_1 c_isAim ?_
  refine x_if_ne (tgt := 10) dX11_first_4 rfl (fun q4 => ?_) (fun q4 => ?_)
  · skip
    first | (simp only [cmp_lt, cmp_gt, cmp_eq, zN_cge, zN_cle, Decidable.not_not] at q4) | (simp (disch := omega) only [zN_le, zN_lt, zN_0, zN_1, nI_toInt, zN_eq, zN_eq0, b2_z, b2_nz, Decidable.not_not, Int.not_lt, Int.not_le, zK0, zK1, zK2, zK3, zK5, zK7, zK8, zK9, zK10, zK19, zK20, zK40, zK99, zK100, zK199] at q4) | skip
    unfold F_first
    rw [if_pos q4]
    obtain ⟨k, hk, rfl⟩ := oneOf_ex q4
    rw [show tn (nI k) = k from nI_clamp (by omega)]
    have gl := goal_lt (a := k) d2
    refine x_al0 rfl dX11_first_10 ?_
    refine x_get fdX11_62 hx rfl dX11_first_11 ?_
    refine x_al0 rfl dX11_first_14 ?_
    refine x_get fdX11_106 hx rfl dX11_first_15 ?_
    refine x_get fdX11_161 hd rfl dX11_first_18 ?_
    refine x_cv1Ip mX5_orderOf_ok lkX11_270 rfl (Nat.le_of_ble_eq_true rfl) (Nat.le_of_ble_eq_true rfl) dX11_first_21 hR  (k_orderOf I (by first | assumption | omega)) (fun r h hq => ?_)
    obtain ⟨rfl, I⟩ := hq
    obtain ⟨rt, rn, rs, sw, rmv, rmk, moc, len, fre, fc, fr, vn, vs, qd, wst, wqu, wwe, wla, hx, hn, hd, hR, hv, hw, hs⟩ := I.o
    refine x_is2 rfl dX11_first_24 ?_
    refine x_al0 rfl dX11_first_25 ?_
    refine x_get fdX11_71 hx rfl dX11_first_26 ?_
    refine x_il1 dX11_first_29 ?_
    refine x_cv1I mX9_goalOf_ok lkX11_324 rfl (Nat.le_of_ble_eq_true rfl) (Nat.le_of_ble_eq_true rfl) dX11_first_30 hv  (k_goalOf I (by first | assumption | omega)) ?_
    refine x_is3 rfl dX11_first_33 ?_
    refine x_iconst (v := nI 0) dX11_first_34 rfl ?_
    refine x_is4 rfl dX11_first_35 ?_
    refine x_wh (fun (i : Nat) => [some (.ref 0), some (.int (nI k)), some (.int (nI (ordr dk.1 dk.2.2.1))), some (.int (nI (goal dk.1 k))), some (.int (nI i))]) (fun i h => i ≤ ordr dk.1 dk.2.2.1 ∧ CI h0 h dk st un tp tr pi fl ln sb sj dr ∧ fstL (nightB dk st k) (ordr dk.1 dk.2.2.1) 0 = fstL (nightB dk st k) (ordr dk.1 dk.2.2.1 - i) i) (fun i => 10 - i) 0 ⟨Nat.zero_le _, I, rfl⟩ (fun i h hI ih => ?_)
    obtain ⟨hi, I, hE⟩ := hI
    obtain ⟨rt, rn, rs, sw, rmv, rmk, moc, len, fre, fc, fr, vn, vs, qd, wst, wqu, wwe, wla, hx, hn, hd, hR, hv, hw, hs⟩ := I.o
    refine x_il4 dX11_first_37 ?_
    refine x_il2 dX11_first_39 ?_
    refine x_icmp_ge (tgt := 77) dX11_first_40 rfl (fun q40 => ?_) (fun q40 => ?_)
    · skip
      first | (simp only [cmp_lt, cmp_gt, cmp_eq, zN_cge, zN_cle, Decidable.not_not] at q40) | (simp (disch := omega) only [zN_le, zN_lt, zN_0, zN_1, nI_toInt, zN_eq, zN_eq0, b2_z, b2_nz, Decidable.not_not, Int.not_lt, Int.not_le, zK0, zK1, zK2, zK3, zK5, zK7, zK8, zK9, zK10, zK19, zK20, zK40, zK99, zK100, zK199] at q40) | skip
      have i9 : i = ordr dk.1 dk.2.2.1 := by omega
      rw [hE, i9, Nat.sub_self]
      refine x_iconst (v := (-1)) dX11_first_77 rfl ?_
      exact x_iret rfl rfl dX11_first_78 ⟨_, rfl, rfl, I⟩
    · skip
      first | (simp only [cmp_lt, cmp_gt, cmp_eq, zN_cge, zN_cle, Decidable.not_not] at q40) | (simp (disch := omega) only [zN_le, zN_lt, zN_0, zN_1, nI_toInt, zN_eq, zN_eq0, b2_z, b2_nz, Decidable.not_not, Int.not_lt, Int.not_le, zK0, zK1, zK2, zK3, zK5, zK7, zK8, zK9, zK10, zK19, zK20, zK40, zK99, zK100, zK199] at q40) | skip
      have il : i < ordr dk.1 dk.2.2.1 := by omega
      rw [show ordr dk.1 dk.2.2.1 - i = ordr dk.1 dk.2.2.1 - (i + 1) + 1 by omega, fstL] at hE
      have kr := (ngk_row d1 d2 d5 i st.1 d7).1
      have ml := mskK_lt (row := ngk dk.1 dk.2.2.1 i st.1) (c := st.2.1) d2
      refine x_al0 rfl dX11_first_43 ?_
      refine x_get fdX11_71 hx rfl dX11_first_44 ?_
      refine x_al0 rfl dX11_first_47 ?_
      refine x_il4 dX11_first_48 ?_
      refine x_i2l (nI_l (by omega)) dX11_first_50 ?_
      refine x_cv1Ip mX11_rowBehind_ok lkX11_206 rfl (Nat.le_of_ble_eq_true rfl) (Nat.le_of_ble_eq_true rfl) dX11_first_51 hx  (k_rowBehind I (by first | assumption | omega)) (fun r h hq => ?_)
      obtain ⟨rfl, I⟩ := hq
      obtain ⟨rt, rn, rs, sw, rmv, rmk, moc, len, fre, fc, fr, vn, vs, qd, wst, wqu, wwe, wla, hx, hn, hd, hR, hv, hw, hs⟩ := I.o
      refine x_al0 rfl dX11_first_54 ?_
      refine x_get fdX11_27 hx rfl dX11_first_55 ?_
      refine x_get fdX11_134 hn rfl dX11_first_58 ?_
      refine x_cv2Ip mX9_maskOf_ok lkX11_183 rfl (Nat.le_of_ble_eq_true rfl) (Nat.le_of_ble_eq_true rfl) dX11_first_61 hv  (k_maskOf I (by first | assumption | omega) (by first | assumption | omega)) (fun r h hq => ?_)
      obtain ⟨rfl, I⟩ := hq
      obtain ⟨rt, rn, rs, sw, rmv, rmk, moc, len, fre, fc, fr, vn, vs, qd, wst, wqu, wwe, wla, hx, hn, hd, hR, hv, hw, hs⟩ := I.o
      refine x_il3 dX11_first_64 ?_
      refine x_icmp_ne (tgt := 71) dX11_first_65 rfl (fun q65 => ?_) (fun q65 => ?_)
      · skip
        first | (simp only [cmp_lt, cmp_gt, cmp_eq, zN_cge, zN_cle, Decidable.not_not] at q65) | (simp (disch := omega) only [zN_le, zN_lt, zN_0, zN_1, nI_toInt, zN_eq, zN_eq0, b2_z, b2_nz, Decidable.not_not, Int.not_lt, Int.not_le, zK0, zK1, zK2, zK3, zK5, zK7, zK8, zK9, zK10, zK19, zK20, zK40, zK99, zK100, zK199] at q65) | skip
        first | refine x_ii4 rfl (nI_1 _) dX11_first_71 ?_ | refine x_ii4 rfl rfl dX11_first_71 ?_
        refine x_goto (tgt := 37) dX11_first_74 rfl ?_
        exact ih (i + 1) _ (by omega) ⟨il, I, by rw [hE, if_neg (by unfold nightB soB; simpa using q65)]⟩
      · skip
        first | (simp only [cmp_lt, cmp_gt, cmp_eq, zN_cge, zN_cle, Decidable.not_not] at q65) | (simp (disch := omega) only [zN_le, zN_lt, zN_0, zN_1, nI_toInt, zN_eq, zN_eq0, b2_z, b2_nz, Decidable.not_not, Int.not_lt, Int.not_le, zK0, zK1, zK2, zK3, zK5, zK7, zK8, zK9, zK10, zK19, zK20, zK40, zK99, zK100, zK199] at q65) | skip
        refine x_il4 dX11_first_68 ?_
        exact x_iret rfl rfl dX11_first_70 ⟨_, rfl, by rw [hE, if_pos (show nightB dk st k i = true from decide_eq_true q65)], I⟩
  · skip
    first | (simp only [cmp_lt, cmp_gt, cmp_eq, zN_cge, zN_cle, Decidable.not_not] at q4) | (simp (disch := omega) only [zN_le, zN_lt, zN_0, zN_1, nI_toInt, zN_eq, zN_eq0, b2_z, b2_nz, Decidable.not_not, Int.not_lt, Int.not_le, zK0, zK1, zK2, zK3, zK5, zK7, zK8, zK9, zK10, zK19, zK20, zK40, zK99, zK100, zK199] at q4) | skip
    refine x_bipush (v := (-2)) dX11_first_7 rfl ?_
    exact x_iret rfl rfl dX11_first_9 ⟨_, rfl, by rw [F_first, if_neg q4], I⟩
theorem k_hitsWithin {a N : Nat} (I : CI h0 h dk st un tp tr pi fl ln sb sj dr) (ha : a < 2) (hN : N ≤ 6) : Zm g (d + 6) 0 0 mX11_hitsWithin [.ref 0, .int (nI a), .int (nI N)] h (rIp (fun r h' => r = nI (hit (nightB dk st a) N) ∧ CI h0 h' dk st un tp tr pi fl ln sb sj dr)) := by
  obtain ⟨rt, rn, rs, sw, rmv, rmk, moc, len, fre, fc, fr, vn, vs, qd, wst, wqu, wwe, wla, hx, hn, hd, hR, hv, hw, hs⟩ := I.o
  obtain ⟨d1, d2, d3, d4, d5, d6, d7, d8⟩ := I.dkB
  have gl := goal_lt (a := a) d2
  show Zw g (d + 6) 0 0 mX11_hitsWithin 0 [some (.ref 0), some (.int (nI a)), some (.int (nI N)), none, none, none] [] h _
  refine x_al0 rfl dX11_hitsWithin_0 ?_
  refine x_get fdX11_71 hx rfl dX11_hitsWithin_1 ?_
  refine x_il1 dX11_hitsWithin_4 ?_
  refine x_cv1I mX9_goalOf_ok lkX11_324 rfl (Nat.le_of_ble_eq_true rfl) (Nat.le_of_ble_eq_true rfl) dX11_hitsWithin_5 hv  (k_goalOf I (by first | assumption | omega)) ?_
  refine x_is3 rfl dX11_hitsWithin_8 ?_
  refine x_iconst (v := nI 0) dX11_hitsWithin_9 rfl ?_
  refine x_is4 rfl dX11_hitsWithin_10 ?_
  refine x_iconst (v := nI 1) dX11_hitsWithin_12 rfl ?_
  refine x_is5 rfl dX11_hitsWithin_13 ?_
  refine x_wh (fun (i : Nat) => [some (.ref 0), some (.int (nI a)), some (.int (nI N)), some (.int (nI (goal dk.1 a))), some (.int (nI (hit (nightB dk st a) i))), some (.int (nI (i + 1)))]) (fun i h => i ≤ N ∧ CI h0 h dk st un tp tr pi fl ln sb sj dr) (fun i => 10 - i) 0 ⟨Nat.zero_le _, I⟩ (fun i h hI ih => ?_)
  obtain ⟨hi, I⟩ := hI
  obtain ⟨rt, rn, rs, sw, rmv, rmk, moc, len, fre, fc, fr, vn, vs, qd, wst, wqu, wwe, wla, hx, hn, hd, hR, hv, hw, hs⟩ := I.o
  refine x_il5 dX11_hitsWithin_15 ?_
  refine x_il2 dX11_hitsWithin_17 ?_
  refine x_icmp_gt (tgt := 55) dX11_hitsWithin_18 rfl (fun q18 => ?_) (fun q18 => ?_)
  · skip
    first | (simp only [cmp_lt, cmp_gt, cmp_eq, zN_cge, zN_cle, Decidable.not_not] at q18) | (simp (disch := omega) only [zN_le, zN_lt, zN_0, zN_1, nI_toInt, zN_eq, zN_eq0, b2_z, b2_nz, Decidable.not_not, Int.not_lt, Int.not_le, zK0, zK1, zK2, zK3, zK5, zK7, zK8, zK9, zK10, zK19, zK20, zK40, zK99, zK100, zK199] at q18) | skip
    have i9 : i = N := by omega
    subst i9
    refine x_il4 dX11_hitsWithin_55 ?_
    exact x_iret rfl rfl dX11_hitsWithin_57 ⟨_, rfl, rfl, I⟩
  · skip
    first | (simp only [cmp_lt, cmp_gt, cmp_eq, zN_cge, zN_cle, Decidable.not_not] at q18) | (simp (disch := omega) only [zN_le, zN_lt, zN_0, zN_1, nI_toInt, zN_eq, zN_eq0, b2_z, b2_nz, Decidable.not_not, Int.not_lt, Int.not_le, zK0, zK1, zK2, zK3, zK5, zK7, zK8, zK9, zK10, zK19, zK20, zK40, zK99, zK100, zK199] at q18) | skip
    have kr := (ngk_row d1 d2 d5 (i + 1) st.1 d7).1
    have ml := mskK_lt (row := ngk dk.1 dk.2.2.1 (i + 1) st.1) (c := st.2.1) d2
    have eh : hit (nightB dk st a) (i + 1) = hit (nightB dk st a) i + (if nightB dk st a (i + 1) then 1 else 0) := rfl
    refine x_al0 rfl dX11_hitsWithin_21 ?_
    refine x_get fdX11_71 hx rfl dX11_hitsWithin_22 ?_
    refine x_al0 rfl dX11_hitsWithin_25 ?_
    refine x_il5 dX11_hitsWithin_26 ?_
    refine x_i2l (nI_l (by omega)) dX11_hitsWithin_28 ?_
    refine x_cv1Ip mX11_rowBehind_ok lkX11_206 rfl (Nat.le_of_ble_eq_true rfl) (Nat.le_of_ble_eq_true rfl) dX11_hitsWithin_29 hx  (k_rowBehind I (by first | assumption | omega)) (fun r h hq => ?_)
    obtain ⟨rfl, I⟩ := hq
    obtain ⟨rt, rn, rs, sw, rmv, rmk, moc, len, fre, fc, fr, vn, vs, qd, wst, wqu, wwe, wla, hx, hn, hd, hR, hv, hw, hs⟩ := I.o
    refine x_al0 rfl dX11_hitsWithin_32 ?_
    refine x_get fdX11_27 hx rfl dX11_hitsWithin_33 ?_
    refine x_get fdX11_134 hn rfl dX11_hitsWithin_36 ?_
    refine x_cv2Ip mX9_maskOf_ok lkX11_183 rfl (Nat.le_of_ble_eq_true rfl) (Nat.le_of_ble_eq_true rfl) dX11_hitsWithin_39 hv  (k_maskOf I (by first | assumption | omega) (by first | assumption | omega)) (fun r h hq => ?_)
    obtain ⟨rfl, I⟩ := hq
    obtain ⟨rt, rn, rs, sw, rmv, rmk, moc, len, fre, fc, fr, vn, vs, qd, wst, wqu, wwe, wla, hx, hn, hd, hR, hv, hw, hs⟩ := I.o
    refine x_il3 dX11_hitsWithin_42 ?_
    refine x_icmp_ne (tgt := 49) dX11_hitsWithin_43 rfl (fun q43 => ?_) (fun q43 => ?_)
    · skip
      first | (simp only [cmp_lt, cmp_gt, cmp_eq, zN_cge, zN_cle, Decidable.not_not] at q43) | (simp (disch := omega) only [zN_le, zN_lt, zN_0, zN_1, nI_toInt, zN_eq, zN_eq0, b2_z, b2_nz, Decidable.not_not, Int.not_lt, Int.not_le, zK0, zK1, zK2, zK3, zK5, zK7, zK8, zK9, zK10, zK19, zK20, zK40, zK99, zK100, zK199] at q43) | skip
      refine x_ii5 rfl (nI_1 _) dX11_hitsWithin_49 ?_
      refine x_goto (tgt := 15) dX11_hitsWithin_52 rfl ?_
      rw [if_neg (by unfold nightB soB; simpa using q43)] at eh
      rw [show hit (nightB dk st a) i = hit (nightB dk st a) (i + 1) from eh.symm]
      exact ih (i + 1) _ (by omega) ⟨by omega, I⟩
    · skip
      first | (simp only [cmp_lt, cmp_gt, cmp_eq, zN_cge, zN_cle, Decidable.not_not] at q43) | (simp (disch := omega) only [zN_le, zN_lt, zN_0, zN_1, nI_toInt, zN_eq, zN_eq0, b2_z, b2_nz, Decidable.not_not, Int.not_lt, Int.not_le, zK0, zK1, zK2, zK3, zK5, zK7, zK8, zK9, zK10, zK19, zK20, zK40, zK99, zK100, zK199] at q43) | skip
      first | refine x_ii4 rfl (nI_1 _) dX11_hitsWithin_46 ?_ | refine x_ii4 rfl rfl dX11_hitsWithin_46 ?_
      refine x_ii5 rfl (nI_1 _) dX11_hitsWithin_49 ?_
      refine x_goto (tgt := 15) dX11_hitsWithin_52 rfl ?_
      rw [if_pos (by unfold nightB soB; simpa using q43)] at eh
      rw [← eh]
      exact ih (i + 1) _ (by omega) ⟨by omega, I⟩
theorem k_often {x : Int32} {v : Int64} (I : CI h0 h dk st un tp tr pi fl ln sb sj dr) : Zm g (d + 7) 0 0 mX11_often [.ref 0, .int x, .long v] h (rLp (fun r h' => r = F_often dk st x v ∧ CI h0 h' dk st un tp tr pi fl ln sb sj dr)) := by
  obtain ⟨rt, rn, rs, sw, rmv, rmk, moc, len, fre, fc, fr, vn, vs, qd, wst, wqu, wwe, wla, hx, hn, hd, hR, hv, hw, hs⟩ := I.o
  obtain ⟨d1, d2, d3, d4, d5, d6, d7, d8⟩ := I.dkB
  have of := rnd_facts d2 d5
  have e1 : v < 0 ↔ v.toInt < 0 := Int64.lt_iff_toInt_lt
  have e2 : v ≤ 1000000000000000 ↔ v.toInt ≤ 1000000000000000 := Int64.le_iff_toInt_le
  show Zw g (d + 7) 0 0 mX11_often 0 [some (.ref 0), some (.int x), some (.long v), none, none] [] h _
  refine x_il1 dX11_often_0 ?_
  refine x_cs1I mX11_isAim_ok lkX11_294 (Nat.le_of_ble_eq_true rfl) (Nat.le_of_ble_eq_true rfl) dX11_often_1 c_isAim ?_
  refine x_if_ne (tgt := 11) dX11_often_4 rfl (fun q4 => ?_) (fun q4 => ?_)
  · skip
    first | (simp only [cmp_lt, cmp_gt, cmp_eq, zN_cge, zN_cle, Decidable.not_not] at q4) | (simp (disch := omega) only [zN_le, zN_lt, zN_0, zN_1, nI_toInt, zN_eq, zN_eq0, b2_z, b2_nz, Decidable.not_not, Int.not_lt, Int.not_le, zK0, zK1, zK2, zK3, zK5, zK7, zK8, zK9, zK10, zK19, zK20, zK40, zK99, zK100, zK199] at q4) | skip
    refine x_ll2 dX11_often_11 ?_
    refine x_lconst (v := 0) dX11_often_12 rfl ?_
    refine x_lcmp (rfl) dX11_often_13 ?_
    refine x_if_lt (tgt := 25) dX11_often_14 rfl (fun q14 => ?_) (fun q14 => ?_)
    · skip
      first | (simp only [cmp_lt, cmp_gt, cmp_eq, zN_cge, zN_cle, Decidable.not_not] at q14) | (simp (disch := omega) only [zN_le, zN_lt, zN_0, zN_1, nI_toInt, zN_eq, zN_eq0, b2_z, b2_nz, Decidable.not_not, Int.not_lt, Int.not_le, zK0, zK1, zK2, zK3, zK5, zK7, zK8, zK9, zK10, zK19, zK20, zK40, zK99, zK100, zK199] at q14) | skip
      refine x_ldc2 kcX11_288 dX11_often_25 ?_
      exact x_lret rfl dX11_often_28 ⟨_, rfl, by rw [F_often, if_pos q4, if_neg (by rw [e1] at q14; omega)], I⟩
    · skip
      first | (simp only [cmp_lt, cmp_gt, cmp_eq, zN_cge, zN_cle, Decidable.not_not] at q14) | (simp (disch := omega) only [zN_le, zN_lt, zN_0, zN_1, nI_toInt, zN_eq, zN_eq0, b2_z, b2_nz, Decidable.not_not, Int.not_lt, Int.not_le, zK0, zK1, zK2, zK3, zK5, zK7, zK8, zK9, zK10, zK19, zK20, zK40, zK99, zK100, zK199] at q14) | skip
      refine x_ll2 dX11_often_17 ?_
      refine x_ldc2 kcX11_279 dX11_often_18 ?_
      refine x_lcmp (rfl) dX11_often_21 ?_
      refine x_if_le (tgt := 29) dX11_often_22 rfl (fun q22 => ?_) (fun q22 => ?_)
      · skip
        first | (simp only [cmp_lt, cmp_gt, cmp_eq, zN_cge, zN_cle, Decidable.not_not] at q22) | (simp (disch := omega) only [zN_le, zN_lt, zN_0, zN_1, nI_toInt, zN_eq, zN_eq0, b2_z, b2_nz, Decidable.not_not, Int.not_lt, Int.not_le, zK0, zK1, zK2, zK3, zK5, zK7, zK8, zK9, zK10, zK19, zK20, zK40, zK99, zK100, zK199] at q22) | skip
        rw [e1] at q14
        rw [e2] at q22
        unfold F_often
        rw [if_pos q4, if_pos (by omega)]
        obtain ⟨k, hk, rfl⟩ := oneOf_ex q4
        rw [show tn (nI k) = k from nI_clamp (by omega)]
        obtain ⟨N, hN, rfl⟩ := v15 (v := v) ⟨by omega, q22⟩
        rw [pk_lT (by omega), Int.toNat_natCast]
        have hper : ∀ i, nightB dk st k (ordr dk.1 dk.2.2.1 + i) = nightB dk st k i := fun i => by unfold nightB; rw [← ngk_mod (k := ordr dk.1 dk.2.2.1 + i) d1 d2 d5 d7, Nat.add_mod_left, ngk_mod d1 d2 d5 d7]
        have eN : hit (nightB dk st k) N = N / ordr dk.1 dk.2.2.1 * hit (nightB dk st k) (ordr dk.1 dk.2.2.1) + hit (nightB dk st k) (N % ordr dk.1 dk.2.2.1) := by
          have z := hit_per hper (N % ordr dk.1 dk.2.2.1) (N / ordr dk.1 dk.2.2.1)
          rw [Nat.div_add_mod] at z
          exact z
        rw [eN]
        have lt := Nat.mod_lt N of.2.2.1
        have hl : ∀ m, hit (nightB dk st k) m ≤ m := fun m => cnt_le m
        have hl1 := hl (ordr dk.1 dk.2.2.1)
        have hl2 := hl (N % ordr dk.1 dk.2.2.1)
        refine x_iconst (v := nI 1) dX11_often_29 rfl ?_
        refine x_al0 rfl dX11_often_30 ?_
        refine x_get fdX11_62 hx rfl dX11_often_31 ?_
        refine x_al0 rfl dX11_often_34 ?_
        refine x_get fdX11_106 hx rfl dX11_often_35 ?_
        refine x_get fdX11_161 hd rfl dX11_often_38 ?_
        refine x_cv1Ip mX5_orderOf_ok lkX11_270 rfl (Nat.le_of_ble_eq_true rfl) (Nat.le_of_ble_eq_true rfl) dX11_often_41 hR  (k_orderOf I (by first | assumption | omega)) (fun r h hq => ?_)
        obtain ⟨rfl, I⟩ := hq
        obtain ⟨rt, rn, rs, sw, rmv, rmk, moc, len, fre, fc, fr, vn, vs, qd, wst, wqu, wwe, wla, hx, hn, hd, hR, hv, hw, hs⟩ := I.o
        refine x_mmax kjX11_333 (Nat.le_of_ble_eq_true rfl) (mx_n (by decide) (by omega)) dX11_often_44 ?_
        rw [show max 1 (ordr dk.1 dk.2.2.1) = ordr dk.1 dk.2.2.1 by omega]
        refine x_is4 rfl dX11_often_47 ?_
        refine x_ll2 dX11_often_49 ?_
        refine x_il4 dX11_often_50 ?_
        refine x_i2l (nI_l (by omega)) dX11_often_52 ?_
        refine x_ldiv (by rw [show (0 : Int64) = lN 0 from rfl, lN_eq (by omega) (by omega)]; omega) (pk_lDiv (by omega) (by omega) (by omega)) dX11_often_53 ?_
        refine x_al0 rfl dX11_often_54 ?_
        refine x_il1 dX11_often_55 ?_
        refine x_il4 dX11_often_56 ?_
        refine x_cv2Ip mX11_hitsWithin_ok lkX11_338 rfl (Nat.le_of_ble_eq_true rfl) (Nat.le_of_ble_eq_true rfl) dX11_often_58 hx  (k_hitsWithin I (by first | assumption | omega) (by first | assumption | omega)) (fun r h hq => ?_)
        obtain ⟨rfl, I⟩ := hq
        obtain ⟨rt, rn, rs, sw, rmv, rmk, moc, len, fre, fc, fr, vn, vs, qd, wst, wqu, wwe, wla, hx, hn, hd, hR, hv, hw, hs⟩ := I.o
        refine x_i2l (nI_l (by omega)) dX11_often_61 ?_
        refine x_lmul (lN_mul _ _) dX11_often_62 ?_
        refine x_al0 rfl dX11_often_63 ?_
        refine x_il1 dX11_often_64 ?_
        refine x_ll2 dX11_often_65 ?_
        refine x_il4 dX11_often_66 ?_
        refine x_i2l (nI_l (by omega)) dX11_often_68 ?_
        refine x_lrem (by rw [show (0 : Int64) = lN 0 from rfl, lN_eq (by omega) (by omega)]; omega) (pk_lRem (by omega) (by omega) (by omega)) dX11_often_69 ?_
        refine x_l2i (lN_i _) dX11_often_70 ?_
        refine x_cv2Ip mX11_hitsWithin_ok lkX11_338 rfl (Nat.le_of_ble_eq_true rfl) (Nat.le_of_ble_eq_true rfl) dX11_often_71 hx  (k_hitsWithin I (by first | assumption | omega) (by first | assumption | omega)) (fun r h hq => ?_)
        obtain ⟨rfl, I⟩ := hq
        obtain ⟨rt, rn, rs, sw, rmv, rmk, moc, len, fre, fc, fr, vn, vs, qd, wst, wqu, wwe, wla, hx, hn, hd, hR, hv, hw, hs⟩ := I.o
        refine x_i2l (nI_l (by omega)) dX11_often_74 ?_
        refine x_ladd (lN_add _ _) dX11_often_75 ?_
        exact x_lret rfl dX11_often_76 ⟨_, rfl, rfl, I⟩
      · skip
        first | (simp only [cmp_lt, cmp_gt, cmp_eq, zN_cge, zN_cle, Decidable.not_not] at q22) | (simp (disch := omega) only [zN_le, zN_lt, zN_0, zN_1, nI_toInt, zN_eq, zN_eq0, b2_z, b2_nz, Decidable.not_not, Int.not_lt, Int.not_le, zK0, zK1, zK2, zK3, zK5, zK7, zK8, zK9, zK10, zK19, zK20, zK40, zK99, zK100, zK199] at q22) | skip
        refine x_ldc2 kcX11_288 dX11_often_25 ?_
        exact x_lret rfl dX11_often_28 ⟨_, rfl, by rw [F_often, if_pos q4, if_neg (by rw [e2] at q22; omega)], I⟩
  · skip
    first | (simp only [cmp_lt, cmp_gt, cmp_eq, zN_cge, zN_cle, Decidable.not_not] at q4) | (simp (disch := omega) only [zN_le, zN_lt, zN_0, zN_1, nI_toInt, zN_eq, zN_eq0, b2_z, b2_nz, Decidable.not_not, Int.not_lt, Int.not_le, zK0, zK1, zK2, zK3, zK5, zK7, zK8, zK9, zK10, zK19, zK20, zK40, zK99, zK100, zK199] at q4) | skip
    refine x_ldc2 kcX11_313 dX11_often_7 ?_
    exact x_lret rfl dX11_often_10 ⟨_, rfl, by rw [F_often, if_neg q4], I⟩
end ZCn

