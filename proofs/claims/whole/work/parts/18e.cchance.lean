/-! the class's weightOf, rows, chance, mean -/
section ZCc
variable {g : zG} {d : Nat} {h0 h h' : zH} {dk : zDk} {st : zSt} {un : List zSt} {tp : List Nat} {tr : Nat → zTr} {pi : Nat → zPi} {fl : Nat × Nat} {ln : zLn} {sb sj : zS3} {dr : Int32}
theorem k_weightOf {aim : Nat} {w : Nat → Nat} (P : SpQ h0 h dk st un tp tr pi fl ln sb sj dr w) (ha : aim < 2) : Zm g (d + 6) 0 0 mX11_weightOf [.ref 0, .int (nI aim)] h (rLp (fun r h' => r = lN (smS (soB dk st.2.1 aim) w (fct dk.1)) ∧ SpQ h0 h' dk st un tp tr pi fl ln sb sj dr w)) := by
  have I := P.ci
  obtain ⟨rt, rn, rs, sw, rmv, rmk, moc, len, fre, fc, fr, vn, vs, qd, wst, wqu, wwe, wla, hx, hn, hd, hR, hv, hw, hs⟩ := I.o
  obtain ⟨d1, d2, d3, d4, d5, d6, d7, d8⟩ := I.dkB
  have gl := goal_lt (a := aim) d2
  have fl6 := fct_le d2
  show Zw g (d + 6) 0 0 mX11_weightOf 0 [some (.ref 0), some (.int (nI aim)), none, none, none, none, none, none] [] h _
  refine x_al0 rfl dX11_weightOf_0 ?_
  refine x_get fdX11_71 hx rfl dX11_weightOf_1 ?_
  refine x_il1 dX11_weightOf_4 ?_
  refine x_cv1I mX9_goalOf_ok lkX11_324 rfl (Nat.le_of_ble_eq_true rfl) (Nat.le_of_ble_eq_true rfl) dX11_weightOf_5 hv  (k_goalOf I (by first | assumption | omega)) ?_
  refine x_is2 rfl dX11_weightOf_8 ?_
  refine x_lconst (v := 0) dX11_weightOf_9 rfl ?_
  refine x_ls3 rfl dX11_weightOf_10 ?_
  refine x_iconst (v := nI 0) dX11_weightOf_11 rfl ?_
  refine x_is5 rfl dX11_weightOf_12 ?_
  refine x_wh (fun (a : Nat × Option Value) => [some (.ref 0), some (.int (nI aim)), some (.int (nI (goal dk.1 aim))), some (.long (lN (smS (soB dk st.2.1 aim) w a.1))), none, some (.int (nI a.1)), a.2, none]) (fun a h => a.1 ≤ fct dk.1 ∧ SpQ h0 h dk st un tp tr pi fl ln sb sj dr w) (fun a => fct dk.1 - a.1) (0, none) ⟨Nat.zero_le _, P⟩ (fun a h hI ih => ?_)
  obtain ⟨q, lv⟩ := a
  obtain ⟨hq, P⟩ := hI
  simp only at hq
  dsimp only
  have I := P.ci
  clear hx hn hd hR hv hw hs
  obtain ⟨rt, rn, rs, sw, rmv, rmk, moc, len, fre, fc, fr, vn, vs, qd, wst, wqu, wwe, wla, hx, hn, hd, hR, hv, hw, hs⟩ := I.o
  obtain ⟨wst, wqu, wwe, wla, qd, fs, fq, fw, fa, G, hS, hl, hwt⟩ := id P
  refine x_il5 dX11_weightOf_14 ?_
  refine x_al0 rfl dX11_weightOf_16 ?_
  refine x_get fdX11_62 hx rfl dX11_weightOf_17 ?_
  refine x_get fdX11_281 hR rfl dX11_weightOf_20 ?_
  refine x_icmp_ge (tgt := 75) dX11_weightOf_23 rfl (fun q23 => ?_) (fun q23 => ?_)
  · skip
    first | (simp only [cmp_lt, cmp_gt, cmp_eq, zN_cge, zN_cle, Decidable.not_not] at q23) | (simp (disch := omega) only [zN_le, zN_lt, zN_0, zN_1, nI_toInt, zN_eq, zN_eq0, b2_z, b2_nz, Decidable.not_not, Int.not_lt, Int.not_le, zK0, zK1, zK2, zK3, zK5, zK7, zK8, zK9, zK10, zK19, zK20, zK40, zK99, zK100, zK199] at q23) | skip
    have q9 : q = fct dk.1 := by omega
    subst q9
    refine x_ll3 dX11_weightOf_75 ?_
    exact x_lret rfl dX11_weightOf_76 ⟨_, rfl, rfl, P⟩
  · skip
    first | (simp only [cmp_lt, cmp_gt, cmp_eq, zN_cge, zN_cle, Decidable.not_not] at q23) | (simp (disch := omega) only [zN_le, zN_lt, zN_0, zN_1, nI_toInt, zN_eq, zN_eq0, b2_z, b2_nz, Decidable.not_not, Int.not_lt, Int.not_le, zK0, zK1, zK2, zK3, zK5, zK7, zK8, zK9, zK10, zK19, zK20, zK40, zK99, zK100, zK199] at q23) | skip
    have ql : q < fct dk.1 := by omega
    have ml := mskK_lt (row := q) (c := st.2.1) d2
    refine x_al0 rfl dX11_weightOf_26 ?_
    refine x_get fdX11_87 hx rfl dX11_weightOf_27 ?_
    refine x_il5 dX11_weightOf_30 ?_
    refine x_cv1L mX6_weightAt_ok lkX11_327 rfl (Nat.le_of_ble_eq_true rfl) (Nat.le_of_ble_eq_true rfl) dX11_weightOf_32 hs  (g_weightAt G (by omega)) ?_
    rw [hwt q ql]
    refine x_ls6 rfl dX11_weightOf_35 ?_
    refine x_ll6 dX11_weightOf_37 ?_
    refine x_lconst (v := 0) dX11_weightOf_39 rfl ?_
    refine x_lcmp (rfl) dX11_weightOf_40 ?_
    refine x_if_eq (tgt := 69) dX11_weightOf_41 rfl (fun q41 => ?_) (fun q41 => ?_)
    · skip
      first | (simp only [cmp_lt, cmp_gt, cmp_eq, zN_cge, zN_cle, Decidable.not_not] at q41) | (simp (disch := omega) only [zN_le, zN_lt, zN_0, zN_1, nI_toInt, zN_eq, zN_eq0, b2_z, b2_nz, Decidable.not_not, Int.not_lt, Int.not_le, zK0, zK1, zK2, zK3, zK5, zK7, zK8, zK9, zK10, zK19, zK20, zK40, zK99, zK100, zK199] at q41) | skip
      first | refine x_ii5 rfl (nI_1 _) dX11_weightOf_69 ?_ | refine x_ii5 rfl rfl dX11_weightOf_69 ?_
      refine x_goto (tgt := 14) dX11_weightOf_72 rfl ?_
      rw [← smS_z (B := soB dk st.2.1 aim) q41]
      exact ih (q + 1, _) _ (by simp only; omega) ⟨ql, P⟩
    · skip
      first | (simp only [cmp_lt, cmp_gt, cmp_eq, zN_cge, zN_cle, Decidable.not_not] at q41) | (simp (disch := omega) only [zN_le, zN_lt, zN_0, zN_1, nI_toInt, zN_eq, zN_eq0, b2_z, b2_nz, Decidable.not_not, Int.not_lt, Int.not_le, zK0, zK1, zK2, zK3, zK5, zK7, zK8, zK9, zK10, zK19, zK20, zK40, zK99, zK100, zK199] at q41) | skip
      refine x_al0 rfl dX11_weightOf_44 ?_
      refine x_get fdX11_71 hx rfl dX11_weightOf_45 ?_
      refine x_il5 dX11_weightOf_48 ?_
      refine x_al0 rfl dX11_weightOf_50 ?_
      refine x_get fdX11_27 hx rfl dX11_weightOf_51 ?_
      refine x_get fdX11_134 hn rfl dX11_weightOf_54 ?_
      refine x_cv2Ip mX9_maskOf_ok lkX11_183 rfl (Nat.le_of_ble_eq_true rfl) (Nat.le_of_ble_eq_true rfl) dX11_weightOf_57 hv  (g_maskOf G ql d8) (fun r h hq => ?_)
      obtain ⟨rfl, G⟩ := hq
      refine x_il2 dX11_weightOf_60 ?_
      refine x_icmp_ne (tgt := 69) dX11_weightOf_61 rfl (fun q61 => ?_) (fun q61 => ?_)
      · skip
        first | (simp only [cmp_lt, cmp_gt, cmp_eq, zN_cge, zN_cle, Decidable.not_not] at q61) | (simp (disch := omega) only [zN_le, zN_lt, zN_0, zN_1, nI_toInt, zN_eq, zN_eq0, b2_z, b2_nz, Decidable.not_not, Int.not_lt, Int.not_le, zK0, zK1, zK2, zK3, zK5, zK7, zK8, zK9, zK10, zK19, zK20, zK40, zK99, zK100, zK199] at q61) | skip
        first | refine x_ii5 rfl (nI_1 _) dX11_weightOf_69 ?_ | refine x_ii5 rfl rfl dX11_weightOf_69 ?_
        refine x_goto (tgt := 14) dX11_weightOf_72 rfl ?_
        rw [show smS (soB dk st.2.1 aim) w q = smS (soB dk st.2.1 aim) w (q + 1) by rw [smS, show soB dk st.2.1 aim q = false from decide_eq_false q61]; rfl]
        exact ih (q + 1, _) _ (by simp only; omega) ⟨ql, wst, wqu, wwe, wla, qd, fs, fq, fw, fa, G, hS, hl, hwt⟩
      · skip
        first | (simp only [cmp_lt, cmp_gt, cmp_eq, zN_cge, zN_cle, Decidable.not_not] at q61) | (simp (disch := omega) only [zN_le, zN_lt, zN_0, zN_1, nI_toInt, zN_eq, zN_eq0, b2_z, b2_nz, Decidable.not_not, Int.not_lt, Int.not_le, zK0, zK1, zK2, zK3, zK5, zK7, zK8, zK9, zK10, zK19, zK20, zK40, zK99, zK100, zK199] at q61) | skip
        refine x_ll3 dX11_weightOf_64 ?_
        refine x_ll6 dX11_weightOf_65 ?_
        refine x_ladd (lN_add _ _) dX11_weightOf_67 ?_
        refine x_ls3 rfl dX11_weightOf_68 ?_
        first | refine x_ii5 rfl (nI_1 _) dX11_weightOf_69 ?_ | refine x_ii5 rfl rfl dX11_weightOf_69 ?_
        refine x_goto (tgt := 14) dX11_weightOf_72 rfl ?_
        rw [show smS (soB dk st.2.1 aim) w q + w q = smS (soB dk st.2.1 aim) w (q + 1) by rw [smS, show soB dk st.2.1 aim q = true from decide_eq_true q61]; rfl]
        exact ih (q + 1, _) _ (by simp only; omega) ⟨ql, wst, wqu, wwe, wla, qd, fs, fq, fw, fa, G, hS, hl, hwt⟩
theorem k_rows {x y : Int32} (I : CI h0 h dk st un tp tr pi fl ln sb sj dr) : Zm g (d + 7) 3 (sS dk.1 ln + sV dk.1 ln) mX11_rows [.ref 0, .int x, .int y] h (rLp (fun r h' => r = F_rows dk st x y ∧ (CI h0 h' dk st un tp tr pi fl ln sb sj dr ∨ CI h0 h' dk st un tp tr pi fl (pV dk.1 (pS dk.1 ln)) sb sj dr))) := by
  obtain ⟨rt, rn, rs, sw, rmv, rmk, moc, len, fre, fc, fr, vn, vs, qd, wst, wqu, wwe, wla, hx, hn, hd, hR, hv, hw, hs⟩ := I.o
  obtain ⟨d1, d2, d3, d4, d5, d6, d7, d8⟩ := I.dkB
  have fl6 := fct_le d2
  have z7 : (7 : Int32).toInt = 7 := rfl
  show Zw g (d + 7) 3 (sS dk.1 ln + sV dk.1 ln) mX11_rows 0 [some (.ref 0), some (.int x), some (.int y), none] [] h _
  refine x_il1 dX11_rows_0 ?_
  refine x_cs1I mX11_isAim_ok lkX11_294 (Nat.le_of_ble_eq_true rfl) (Nat.le_of_ble_eq_true rfl) dX11_rows_1 c_isAim ?_
  refine x_if_ne (tgt := 11) dX11_rows_4 rfl (fun q4 => ?_) (fun q4 => ?_)
  · skip
    first | (simp only [cmp_lt, cmp_gt, cmp_eq, zN_cge, zN_cle, Decidable.not_not] at q4) | (simp (disch := omega) only [zN_le, zN_lt, zN_0, zN_1, nI_toInt, zN_eq, zN_eq0, b2_z, b2_nz, Decidable.not_not, Int.not_lt, Int.not_le, zK0, zK1, zK2, zK3, zK5, zK7, zK8, zK9, zK10, zK19, zK20, zK40, zK99, zK100, zK199] at q4) | skip
    refine x_il2 dX11_rows_11 ?_
    refine x_if_lt (tgt := 21) dX11_rows_12 rfl (fun q12 => ?_) (fun q12 => ?_)
    · skip
      refine x_ldc2 kcX11_288 dX11_rows_21 ?_
      refine x_lret rfl dX11_rows_24 ⟨_, rfl, ?_, Or.inl I⟩
      rw [Int32.lt_iff_toInt_lt, show (0 : Int32).toInt = 0 from rfl] at q12
      rw [F_rows, if_pos q4, if_neg (by omega)]
    · skip
      refine x_il2 dX11_rows_15 ?_
      refine x_bipush (v := nI 7) dX11_rows_16 rfl ?_
      refine x_icmp_le (tgt := 25) dX11_rows_18 rfl (fun q18 => ?_) (fun q18 => ?_)
      · skip
        rw [Int32.lt_iff_toInt_lt, show (0 : Int32).toInt = 0 from rfl] at q12
        rw [Int32.le_iff_toInt_le, show (nI 7).toInt = 7 from rfl] at q18
        have q27 : 0 ≤ y.toInt ∧ y.toInt ≤ 7 := by omega
        unfold F_rows
        rw [if_pos q4, if_pos q27]
        obtain ⟨k, hk, rfl⟩ := oneOf_ex q4
        obtain ⟨n, -, hn7, rfl⟩ := rng_ex (a := 0) (b := 7) q27 (by decide)
        rw [show tn (nI n) = n from nI_clamp (by omega), show tn (nI k) = k from nI_clamp (by omega)]
        refine x_al0 rfl dX11_rows_25 ?_
        refine x_get fdX11_87 hx rfl dX11_rows_26 ?_
        refine x_al0 rfl dX11_rows_29 ?_
        refine x_get fdX11_27 hx rfl dX11_rows_30 ?_
        refine x_get fdX11_128 hn rfl dX11_rows_33 ?_
        refine x_cv1Vr (κ2 := 0) (σ2 := 0) mX6_begin_ok lkX11_315 rfl (Nat.le_of_ble_eq_true rfl) (Nat.le_of_ble_eq_true rfl) dX11_rows_36 hs (Nat.le_refl _) (Nat.le_refl _) (k_begin I d7) (fun h P => ?_)
        refine x_iconst (v := nI 0) dX11_rows_39 rfl ?_
        refine x_is3 rfl dX11_rows_40 ?_
        refine x_wh (fun (i : Nat) => [some (.ref 0), some (.int (nI k)), some (.int (nI n)), some (.int (nI i))]) (fun i h => i ≤ n ∧ SpQ h0 h dk st un tp tr pi fl (pV dk.1 (pS dk.1 ln)) sb sj dr (wSk dk.1 st.1 i)) (fun i => n - i) 0 ⟨Nat.zero_le _, P⟩ (fun i h hI ih => ?_)
        obtain ⟨hi, P⟩ := hI
        have I := P.ci
        clear hx hn hd hR hv hw hs
        obtain ⟨rt, rn, rs, sw, rmv, rmk, moc, len, fre, fc, fr, vn, vs, qd, wst, wqu, wwe, wla, hx, hn, hd, hR, hv, hw, hs⟩ := I.o
        refine x_il3 dX11_rows_41 ?_
        refine x_il2 dX11_rows_42 ?_
        refine x_icmp_ge (tgt := 59) dX11_rows_43 rfl (fun q43 => ?_) (fun q43 => ?_)
        · skip
          first | (simp only [cmp_lt, cmp_gt, cmp_eq, zN_cge, zN_cle, Decidable.not_not] at q43) | (simp (disch := omega) only [zN_le, zN_lt, zN_0, zN_1, nI_toInt, zN_eq, zN_eq0, b2_z, b2_nz, Decidable.not_not, Int.not_lt, Int.not_le, zK0, zK1, zK2, zK3, zK5, zK7, zK8, zK9, zK10, zK19, zK20, zK40, zK99, zK100, zK199] at q43) | skip
          refine x_al0 rfl dX11_rows_59 ?_
          refine x_il1 dX11_rows_60 ?_
          refine x_cv1Lp mX11_weightOf_ok lkX11_321 rfl (Nat.le_of_ble_eq_true rfl) (Nat.le_of_ble_eq_true rfl) dX11_rows_61 hx  (k_weightOf P hk) (fun r h hq => ?_)
          obtain ⟨rfl, P⟩ := hq
          have i9 : i = n := by omega
          subst i9
          exact x_lret rfl dX11_rows_64 ⟨_, rfl, rfl, Or.inr P.ci⟩
        · skip
          first | (simp only [cmp_lt, cmp_gt, cmp_eq, zN_cge, zN_cle, Decidable.not_not] at q43) | (simp (disch := omega) only [zN_le, zN_lt, zN_0, zN_1, nI_toInt, zN_eq, zN_eq0, b2_z, b2_nz, Decidable.not_not, Int.not_lt, Int.not_le, zK0, zK1, zK2, zK3, zK5, zK7, zK8, zK9, zK10, zK19, zK20, zK40, zK99, zK100, zK199] at q43) | skip
          refine x_al0 rfl dX11_rows_46 ?_
          refine x_get fdX11_87 hx rfl dX11_rows_47 ?_
          refine x_cv0Vp mX6_bySwaps_ok lkX11_318 rfl (Nat.le_of_ble_eq_true rfl) (Nat.le_of_ble_eq_true rfl) dX11_rows_50 hs  (g_bySwaps P) (fun h hq => ?_)
          have P := hq
          first | refine x_ii3 rfl (nI_1 _) dX11_rows_53 ?_ | refine x_ii3 rfl rfl dX11_rows_53 ?_
          refine x_goto (tgt := 41) dX11_rows_56 rfl ?_
          exact ih (i + 1) _ (by omega) ⟨by omega, P⟩
      · skip
        refine x_ldc2 kcX11_288 dX11_rows_21 ?_
        refine x_lret rfl dX11_rows_24 ⟨_, rfl, ?_, Or.inl I⟩
        rw [Int32.le_iff_toInt_le, show (nI 7).toInt = 7 from rfl] at q18
        rw [F_rows, if_pos q4, if_neg (by omega)]
  · skip
    first | (simp only [cmp_lt, cmp_gt, cmp_eq, zN_cge, zN_cle, Decidable.not_not] at q4) | (simp (disch := omega) only [zN_le, zN_lt, zN_0, zN_1, nI_toInt, zN_eq, zN_eq0, b2_z, b2_nz, Decidable.not_not, Int.not_lt, Int.not_le, zK0, zK1, zK2, zK3, zK5, zK7, zK8, zK9, zK10, zK19, zK20, zK40, zK99, zK100, zK199] at q4) | skip
    refine x_ldc2 kcX11_313 dX11_rows_7 ?_
    exact x_lret rfl dX11_rows_10 ⟨_, rfl, by rw [F_rows, if_neg q4], Or.inl I⟩
theorem k_drawLots {n : Nat} (I : CI h0 h dk st un tp tr pi fl ln sb sj dr) (hn7 : n ≤ 7) : Zm g (d + 5) 3 (sS dk.1 ln + sV dk.1 ln) mX11_drawLots [.ref 0, .int (nI n)] h (rLp (fun r h' => r = lN (10 ^ n) ∧ SpQ h0 h' dk st un tp tr pi fl (pV dk.1 (pS dk.1 ln)) sb sj dr (wLk dk.1 st.1 n))) := by
  obtain ⟨rt, rn, rs, sw, rmv, rmk, moc, len, fre, fc, fr, vn, vs, qd, wst, wqu, wwe, wla, hx, hn, hd, hR, hv, hw, hs⟩ := I.o
  obtain ⟨d1, d2, d3, d4, d5, d6, d7, d8⟩ := I.dkB
  show Zw g (d + 5) 3 (sS dk.1 ln + sV dk.1 ln) mX11_drawLots 0 [some (.ref 0), some (.int (nI n)), none, none, none] [] h _
  refine x_lconst (v := 1) dX11_drawLots_0 rfl ?_
  refine x_ls2 rfl dX11_drawLots_1 ?_
  refine x_al0 rfl dX11_drawLots_2 ?_
  refine x_get fdX11_87 hx rfl dX11_drawLots_3 ?_
  refine x_al0 rfl dX11_drawLots_6 ?_
  refine x_get fdX11_27 hx rfl dX11_drawLots_7 ?_
  refine x_get fdX11_128 hn rfl dX11_drawLots_10 ?_
  refine x_cv1Vr (κ2 := 0) (σ2 := 0) mX6_begin_ok lkX11_315 rfl (Nat.le_of_ble_eq_true rfl) (Nat.le_of_ble_eq_true rfl) dX11_drawLots_13 hs (Nat.le_refl _) (Nat.le_refl _) (k_begin I d7) (fun h P => ?_)
  refine x_iconst (v := nI 0) dX11_drawLots_16 rfl ?_
  refine x_is4 rfl dX11_drawLots_17 ?_
  refine x_wh (fun (i : Nat) => [some (.ref 0), some (.int (nI n)), some (.long (lN (10 ^ i))), none, some (.int (nI i))]) (fun i h => i ≤ n ∧ SpQ h0 h dk st un tp tr pi fl (pV dk.1 (pS dk.1 ln)) sb sj dr (wLk dk.1 st.1 i)) (fun i => n - i) 0 ⟨Nat.zero_le _, P⟩ (fun i h hI ih => ?_)
  obtain ⟨hi, P⟩ := hI
  have I := P.ci
  clear hx hn hd hR hv hw hs
  obtain ⟨rt, rn, rs, sw, rmv, rmk, moc, len, fre, fc, fr, vn, vs, qd, wst, wqu, wwe, wla, hx, hn, hd, hR, hv, hw, hs⟩ := I.o
  refine x_il4 dX11_drawLots_19 ?_
  refine x_il1 dX11_drawLots_21 ?_
  refine x_icmp_ge (tgt := 44) dX11_drawLots_22 rfl (fun q22 => ?_) (fun q22 => ?_)
  · skip
    first | (simp only [cmp_lt, cmp_gt, cmp_eq, zN_cge, zN_cle, Decidable.not_not] at q22) | (simp (disch := omega) only [zN_le, zN_lt, zN_0, zN_1, nI_toInt, zN_eq, zN_eq0, b2_z, b2_nz, Decidable.not_not, Int.not_lt, Int.not_le, zK0, zK1, zK2, zK3, zK5, zK7, zK8, zK9, zK10, zK19, zK20, zK40, zK99, zK100, zK199] at q22) | skip
    refine x_ll2 dX11_drawLots_44 ?_
    have i9 : i = n := by omega
    subst i9
    exact x_lret rfl dX11_drawLots_45 ⟨_, rfl, rfl, P⟩
  · skip
    first | (simp only [cmp_lt, cmp_gt, cmp_eq, zN_cge, zN_cle, Decidable.not_not] at q22) | (simp (disch := omega) only [zN_le, zN_lt, zN_0, zN_1, nI_toInt, zN_eq, zN_eq0, b2_z, b2_nz, Decidable.not_not, Int.not_lt, Int.not_le, zK0, zK1, zK2, zK3, zK5, zK7, zK8, zK9, zK10, zK19, zK20, zK40, zK99, zK100, zK199] at q22) | skip
    refine x_al0 rfl dX11_drawLots_25 ?_
    refine x_get fdX11_87 hx rfl dX11_drawLots_26 ?_
    refine x_cv0Vp mX6_byLots_ok lkX11_390 rfl (Nat.le_of_ble_eq_true rfl) (Nat.le_of_ble_eq_true rfl) dX11_drawLots_29 hs  (g_byLots P) (fun h hq => ?_)
    have P := hq
    refine x_ll2 dX11_drawLots_32 ?_
    refine x_ldc2 kcX11_242 dX11_drawLots_33 ?_
    refine x_lmul ((lN_mul _ 10).trans (by rw [← Nat.pow_succ])) dX11_drawLots_36 ?_
    refine x_ls2 rfl dX11_drawLots_37 ?_
    first | refine x_ii4 rfl (nI_1 _) dX11_drawLots_38 ?_ | refine x_ii4 rfl rfl dX11_drawLots_38 ?_
    refine x_goto (tgt := 19) dX11_drawLots_41 rfl ?_
    exact ih (i + 1) _ (by omega) ⟨by omega, P⟩
end ZCc

