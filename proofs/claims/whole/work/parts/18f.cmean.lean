/-! the class's chance, mean -/
section ZCm
variable {g : zG} {d : Nat} {h0 h h' : zH} {dk : zDk} {st : zSt} {un : List zSt} {tp : List Nat} {tr : Nat → zTr} {pi : Nat → zPi} {fl : Nat × Nat} {ln : zLn} {sb sj : zS3} {dr : Int32}
theorem k_chance {x y z : Int32} (I : CI h0 h dk st un tp tr pi fl ln sb sj dr) : Zm g (d + 7) 3 (sS dk.1 ln + sV dk.1 ln) mX11_chance [.ref 0, .int x, .int y, .int z] h (rIp (fun r h' => r = F_chance dk st x y z ∧ (CI h0 h' dk st un tp tr pi fl ln sb sj dr ∨ CI h0 h' dk st un tp tr pi fl (pV dk.1 (pS dk.1 ln)) sb sj dr))) := by
  obtain ⟨rt, rn, rs, sw, rmv, rmk, moc, len, fre, fc, fr, vn, vs, qd, wst, wqu, wwe, wla, hx, hn, hd, hR, hv, hw, hs⟩ := I.o
  obtain ⟨d1, d2, d3, d4, d5, d6, d7, d8⟩ := I.dkB
  show Zw g (d + 7) 3 (sS dk.1 ln + sV dk.1 ln) mX11_chance 0 [some (.ref 0), some (.int x), some (.int y), some (.int z), none, none] [] h _
  refine x_il1 dX11_chance_0 ?_
  refine x_cs1I mX11_isAim_ok lkX11_294 (Nat.le_of_ble_eq_true rfl) (Nat.le_of_ble_eq_true rfl) dX11_chance_1 c_isAim ?_
  refine x_if_eq (tgt := 15) dX11_chance_4 rfl (fun q4 => ?_) (fun q4 => ?_)
  · skip
    first | (simp only [cmp_lt, cmp_gt, cmp_eq, zN_cge, zN_cle, Decidable.not_not] at q4) | (simp (disch := omega) only [zN_le, zN_lt, zN_0, zN_1, nI_toInt, zN_eq, zN_eq0, b2_z, b2_nz, Decidable.not_not, Int.not_lt, Int.not_le, zK0, zK1, zK2, zK3, zK5, zK7, zK8, zK9, zK10, zK19, zK20, zK40, zK99, zK100, zK199] at q4) | skip
    refine x_bipush (v := (-2)) dX11_chance_15 rfl ?_
    exact x_iret rfl rfl dX11_chance_17 ⟨_, rfl, by rw [F_chance, if_neg (fun c => q4 c.1)], Or.inl I⟩
  · skip
    first | (simp only [cmp_lt, cmp_gt, cmp_eq, zN_cge, zN_cle, Decidable.not_not] at q4) | (simp (disch := omega) only [zN_le, zN_lt, zN_0, zN_1, nI_toInt, zN_eq, zN_eq0, b2_z, b2_nz, Decidable.not_not, Int.not_lt, Int.not_le, zK0, zK1, zK2, zK3, zK5, zK7, zK8, zK9, zK10, zK19, zK20, zK40, zK99, zK100, zK199] at q4) | skip
    refine x_il3 dX11_chance_7 ?_
    refine x_iconst (v := nI 2) dX11_chance_8 rfl ?_
    refine x_cs2I mX11_isOneOf_ok lkX11_157 (Nat.le_of_ble_eq_true rfl) (Nat.le_of_ble_eq_true rfl) dX11_chance_9 (c_isOneOf (by decide)) ?_
    refine x_if_ne (tgt := 18) dX11_chance_12 rfl (fun q12 => ?_) (fun q12 => ?_)
    · skip
      first | (simp only [cmp_lt, cmp_gt, cmp_eq, zN_cge, zN_cle, Decidable.not_not] at q12) | (simp (disch := omega) only [zN_le, zN_lt, zN_0, zN_1, nI_toInt, zN_eq, zN_eq0, b2_z, b2_nz, Decidable.not_not, Int.not_lt, Int.not_le, zK0, zK1, zK2, zK3, zK5, zK7, zK8, zK9, zK10, zK19, zK20, zK40, zK99, zK100, zK199] at q12) | skip
      refine x_il2 dX11_chance_18 ?_
      refine x_if_lt (tgt := 28) dX11_chance_19 rfl (fun q19 => ?_) (fun q19 => ?_)
      · skip
        refine x_bipush (v := (-3)) dX11_chance_28 rfl ?_
        refine x_iret rfl rfl dX11_chance_30 ⟨_, rfl, ?_, Or.inl I⟩
        rw [Int32.lt_iff_toInt_lt, show (0 : Int32).toInt = 0 from rfl] at q19
        rw [F_chance, if_pos ⟨q4, q12⟩, if_neg (by omega)]
      · skip
        refine x_il2 dX11_chance_22 ?_
        refine x_bipush (v := nI 7) dX11_chance_23 rfl ?_
        refine x_icmp_le (tgt := 31) dX11_chance_25 rfl (fun q25 => ?_) (fun q25 => ?_)
        · skip
          rw [Int32.lt_iff_toInt_lt, show (0 : Int32).toInt = 0 from rfl] at q19
          rw [Int32.le_iff_toInt_le, show (nI 7).toInt = 7 from rfl] at q25
          have q27 : 0 ≤ y.toInt ∧ y.toInt ≤ 7 := by omega
          unfold F_chance
          rw [if_pos ⟨q4, q12⟩, if_pos q27]
          obtain ⟨k, hk, rfl⟩ := oneOf_ex q4
          obtain ⟨n, -, hn7, rfl⟩ := rng_ex (a := 0) (b := 7) q27 (by decide)
          rw [show tn (nI n) = n from nI_clamp (by omega), show tn (nI k) = k from nI_clamp (by omega)]
          have p := p10 hn7
          have b1 := smS_le (B := soB dk st.2.1 k) (w := wLk dk.1 st.1 n) (fct dk.1)
          rw [wLk_sum d1 d2 d7] at b1
          refine x_al0 rfl dX11_chance_31 ?_
          refine x_il2 dX11_chance_32 ?_
          refine x_cv1Lr (κ2 := 0) (σ2 := 0) mX11_drawLots_ok lkX11_383 rfl (Nat.le_of_ble_eq_true rfl) (Nat.le_of_ble_eq_true rfl) dX11_chance_33 hx (Nat.le_refl _) (Nat.le_refl _) (k_drawLots I hn7) (fun r h hq => ?_)
          obtain ⟨rfl, P⟩ := hq
          have I := P.ci
          clear hx hn hd hR hv hw hs
          obtain ⟨rt, rn, rs, sw, rmv, rmk, moc, len, fre, fc, fr, vn, vs, qd, wst, wqu, wwe, wla, hx, hn, hd, hR, hv, hw, hs⟩ := I.o
          refine x_ls4 rfl dX11_chance_36 ?_
          refine x_al0 rfl dX11_chance_38 ?_
          refine x_il1 dX11_chance_39 ?_
          refine x_cv1Lp mX11_weightOf_ok lkX11_321 rfl (Nat.le_of_ble_eq_true rfl) (Nat.le_of_ble_eq_true rfl) dX11_chance_40 hx  (k_weightOf P hk) (fun r h hq => ?_)
          obtain ⟨rfl, P⟩ := hq
          refine x_ll4 dX11_chance_43 ?_
          refine x_il3 dX11_chance_45 ?_
          refine x_cs3I mX11_inLowestTerms_ok lkX11_386 (Nat.le_of_ble_eq_true rfl) (Nat.le_of_ble_eq_true rfl) dX11_chance_46 (c_inLowest (by omega) p.1 (by omega)) ?_
          exact x_iret rfl rfl dX11_chance_49 ⟨_, rfl, rfl, Or.inr P.ci⟩
        · skip
          refine x_bipush (v := (-3)) dX11_chance_28 rfl ?_
          refine x_iret rfl rfl dX11_chance_30 ⟨_, rfl, ?_, Or.inl I⟩
          rw [Int32.le_iff_toInt_le, show (nI 7).toInt = 7 from rfl] at q25
          rw [F_chance, if_pos ⟨q4, q12⟩, if_neg (by omega)]
    · skip
      first | (simp only [cmp_lt, cmp_gt, cmp_eq, zN_cge, zN_cle, Decidable.not_not] at q12) | (simp (disch := omega) only [zN_le, zN_lt, zN_0, zN_1, nI_toInt, zN_eq, zN_eq0, b2_z, b2_nz, Decidable.not_not, Int.not_lt, Int.not_le, zK0, zK1, zK2, zK3, zK5, zK7, zK8, zK9, zK10, zK19, zK20, zK40, zK99, zK100, zK199] at q12) | skip
      refine x_bipush (v := (-2)) dX11_chance_15 rfl ?_
      exact x_iret rfl rfl dX11_chance_17 ⟨_, rfl, by rw [F_chance, if_neg (fun c => q12 c.2)], Or.inl I⟩
theorem k_mean {y z : Int32} (I : CI h0 h dk st un tp tr pi fl ln sb sj dr) : Zm g (d + 6) 3 (sS dk.1 ln + sV dk.1 ln) mX11_mean [.ref 0, .int y, .int z] h (rIp (fun r h' => r = F_mean dk st y z ∧ (CI h0 h' dk st un tp tr pi fl ln sb sj dr ∨ CI h0 h' dk st un tp tr pi fl (pV dk.1 (pS dk.1 ln)) sb sj dr))) := by
  obtain ⟨rt, rn, rs, sw, rmv, rmk, moc, len, fre, fc, fr, vn, vs, qd, wst, wqu, wwe, wla, hx, hn, hd, hR, hv, hw, hs⟩ := I.o
  obtain ⟨d1, d2, d3, d4, d5, d6, d7, d8⟩ := I.dkB
  have fl6 := fct_le d2
  show Zw g (d + 6) 3 (sS dk.1 ln + sV dk.1 ln) mX11_mean 0 [some (.ref 0), some (.int y), some (.int z), none, none, none, none, none, none, none] [] h _
  refine x_il2 dX11_mean_0 ?_
  refine x_iconst (v := nI 2) dX11_mean_1 rfl ?_
  refine x_cs2I mX11_isOneOf_ok lkX11_157 (Nat.le_of_ble_eq_true rfl) (Nat.le_of_ble_eq_true rfl) dX11_mean_2 (c_isOneOf (by decide)) ?_
  refine x_if_ne (tgt := 11) dX11_mean_5 rfl (fun q5 => ?_) (fun q5 => ?_)
  · skip
    first | (simp only [cmp_lt, cmp_gt, cmp_eq, zN_cge, zN_cle, Decidable.not_not] at q5) | (simp (disch := omega) only [zN_le, zN_lt, zN_0, zN_1, nI_toInt, zN_eq, zN_eq0, b2_z, b2_nz, Decidable.not_not, Int.not_lt, Int.not_le, zK0, zK1, zK2, zK3, zK5, zK7, zK8, zK9, zK10, zK19, zK20, zK40, zK99, zK100, zK199] at q5) | skip
    refine x_il1 dX11_mean_11 ?_
    refine x_if_lt (tgt := 21) dX11_mean_12 rfl (fun q12 => ?_) (fun q12 => ?_)
    · skip
      refine x_bipush (v := (-3)) dX11_mean_21 rfl ?_
      refine x_iret rfl rfl dX11_mean_23 ⟨_, rfl, ?_, Or.inl I⟩
      rw [Int32.lt_iff_toInt_lt, show (0 : Int32).toInt = 0 from rfl] at q12
      rw [F_mean, if_pos q5, if_neg (by omega)]
    · skip
      refine x_il1 dX11_mean_15 ?_
      refine x_bipush (v := nI 7) dX11_mean_16 rfl ?_
      refine x_icmp_le (tgt := 24) dX11_mean_18 rfl (fun q18 => ?_) (fun q18 => ?_)
      · skip
        rw [Int32.lt_iff_toInt_lt, show (0 : Int32).toInt = 0 from rfl] at q12
        rw [Int32.le_iff_toInt_le, show (nI 7).toInt = 7 from rfl] at q18
        have q27 : 0 ≤ y.toInt ∧ y.toInt ≤ 7 := by omega
        unfold F_mean
        rw [if_pos q5, if_pos q27]
        obtain ⟨n, -, hn7, rfl⟩ := rng_ex (a := 0) (b := 7) q27 (by decide)
        rw [show tn (nI n) = n from nI_clamp (by omega)]
        have p := p10 hn7
        have b1 := smM_le (F := fun t => popc (mskK dk t st.2.1)) (w := wLk dk.1 st.1 n) (fun t => popc_le) (fct dk.1)
        rw [wLk_sum d1 d2 d7] at b1
        refine x_al0 rfl dX11_mean_24 ?_
        refine x_il1 dX11_mean_25 ?_
        refine x_cv1Lr (κ2 := 0) (σ2 := 0) mX11_drawLots_ok lkX11_383 rfl (Nat.le_of_ble_eq_true rfl) (Nat.le_of_ble_eq_true rfl) dX11_mean_26 hx (Nat.le_refl _) (Nat.le_refl _) (k_drawLots I hn7) (fun r h hq => ?_)
        obtain ⟨rfl, P⟩ := hq
        refine x_ls3 rfl dX11_mean_29 ?_
        refine x_lconst (v := 0) dX11_mean_30 rfl ?_
        refine x_ls5 rfl dX11_mean_31 ?_
        refine x_iconst (v := nI 0) dX11_mean_33 rfl ?_
        refine x_is7 rfl dX11_mean_34 ?_
        refine x_wh (fun (a : Nat × Option Value) => [some (.ref 0), some (.int (nI n)), some (.int z), some (.long (lN (10 ^ n))), none, some (.long (lN (smM (fun t => popc (mskK dk t st.2.1)) (wLk dk.1 st.1 n) a.1))), none, some (.int (nI a.1)), a.2, none]) (fun a h => a.1 ≤ fct dk.1 ∧ SpQ h0 h dk st un tp tr pi fl (pV dk.1 (pS dk.1 ln)) sb sj dr (wLk dk.1 st.1 n)) (fun a => fct dk.1 - a.1) (0, none) ⟨Nat.zero_le _, P⟩ (fun a h hI ih => ?_)
        obtain ⟨q, lv⟩ := a
        obtain ⟨hq, P⟩ := hI
        simp only at hq
        dsimp only
        have I := P.ci
        clear hx hn hd hR hv hw hs
        obtain ⟨rt, rn, rs, sw, rmv, rmk, moc, len, fre, fc, fr, vn, vs, qd, wst, wqu, wwe, wla, hx, hn, hd, hR, hv, hw, hs⟩ := I.o
        obtain ⟨wst, wqu, wwe, wla, qd, fs, fq, fw, fa, G, hS, hl, hwt⟩ := id P
        refine x_il7 dX11_mean_36 ?_
        refine x_al0 rfl dX11_mean_38 ?_
        refine x_get fdX11_62 hx rfl dX11_mean_39 ?_
        refine x_get fdX11_281 hR rfl dX11_mean_42 ?_
        refine x_icmp_ge (tgt := 100) dX11_mean_45 rfl (fun q45 => ?_) (fun q45 => ?_)
        · skip
          first | (simp only [cmp_lt, cmp_gt, cmp_eq, zN_cge, zN_cle, Decidable.not_not] at q45) | (simp (disch := omega) only [zN_le, zN_lt, zN_0, zN_1, nI_toInt, zN_eq, zN_eq0, b2_z, b2_nz, Decidable.not_not, Int.not_lt, Int.not_le, zK0, zK1, zK2, zK3, zK5, zK7, zK8, zK9, zK10, zK19, zK20, zK40, zK99, zK100, zK199] at q45) | skip
          have q9 : q = fct dk.1 := by omega
          subst q9
          refine x_ll5 dX11_mean_100 ?_
          refine x_ll3 dX11_mean_102 ?_
          refine x_il2 dX11_mean_103 ?_
          refine x_cs3I mX11_inLowestTerms_ok lkX11_386 (Nat.le_of_ble_eq_true rfl) (Nat.le_of_ble_eq_true rfl) dX11_mean_104 (c_inLowest (by omega) p.1 (by omega)) ?_
          exact x_iret rfl rfl dX11_mean_107 ⟨_, rfl, rfl, Or.inr I⟩
        · skip
          first | (simp only [cmp_lt, cmp_gt, cmp_eq, zN_cge, zN_cle, Decidable.not_not] at q45) | (simp (disch := omega) only [zN_le, zN_lt, zN_0, zN_1, nI_toInt, zN_eq, zN_eq0, b2_z, b2_nz, Decidable.not_not, Int.not_lt, Int.not_le, zK0, zK1, zK2, zK3, zK5, zK7, zK8, zK9, zK10, zK19, zK20, zK40, zK99, zK100, zK199] at q45) | skip
          have ql : q < fct dk.1 := by omega
          have ml := mskK_lt (row := q) (c := st.2.1) d2
          have pl : popc (mskK dk q st.2.1) ≤ 6 := popc_le
          refine x_al0 rfl dX11_mean_48 ?_
          refine x_get fdX11_87 hx rfl dX11_mean_49 ?_
          refine x_il7 dX11_mean_52 ?_
          refine x_cv1L mX6_weightAt_ok lkX11_327 rfl (Nat.le_of_ble_eq_true rfl) (Nat.le_of_ble_eq_true rfl) dX11_mean_54 hs  (g_weightAt G (by omega)) ?_
          rw [hwt q ql]
          refine x_ls8 rfl dX11_mean_57 ?_
          refine x_ll8 dX11_mean_59 ?_
          refine x_lconst (v := 0) dX11_mean_61 rfl ?_
          refine x_lcmp (rfl) dX11_mean_62 ?_
          refine x_if_eq (tgt := 94) dX11_mean_63 rfl (fun q63 => ?_) (fun q63 => ?_)
          · skip
            first | (simp only [cmp_lt, cmp_gt, cmp_eq, zN_cge, zN_cle, Decidable.not_not] at q63) | (simp (disch := omega) only [zN_le, zN_lt, zN_0, zN_1, nI_toInt, zN_eq, zN_eq0, b2_z, b2_nz, Decidable.not_not, Int.not_lt, Int.not_le, zK0, zK1, zK2, zK3, zK5, zK7, zK8, zK9, zK10, zK19, zK20, zK40, zK99, zK100, zK199] at q63) | skip
            first | refine x_ii7 rfl (nI_1 _) dX11_mean_94 ?_ | refine x_ii7 rfl rfl dX11_mean_94 ?_
            refine x_goto (tgt := 36) dX11_mean_97 rfl ?_
            rw [← smM_z (F := fun t => popc (mskK dk t st.2.1)) q63]
            exact ih (q + 1, _) _ (by simp only; omega) ⟨ql, P⟩
          · skip
            first | (simp only [cmp_lt, cmp_gt, cmp_eq, zN_cge, zN_cle, Decidable.not_not] at q63) | (simp (disch := omega) only [zN_le, zN_lt, zN_0, zN_1, nI_toInt, zN_eq, zN_eq0, b2_z, b2_nz, Decidable.not_not, Int.not_lt, Int.not_le, zK0, zK1, zK2, zK3, zK5, zK7, zK8, zK9, zK10, zK19, zK20, zK40, zK99, zK100, zK199] at q63) | skip
            refine x_ll5 dX11_mean_66 ?_
            refine x_ll8 dX11_mean_68 ?_
            refine x_al0 rfl dX11_mean_70 ?_
            refine x_get fdX11_71 hx rfl dX11_mean_71 ?_
            refine x_il7 dX11_mean_74 ?_
            refine x_al0 rfl dX11_mean_76 ?_
            refine x_get fdX11_27 hx rfl dX11_mean_77 ?_
            refine x_get fdX11_134 hn rfl dX11_mean_80 ?_
            refine x_cv2Ip mX9_maskOf_ok lkX11_183 rfl (Nat.le_of_ble_eq_true rfl) (Nat.le_of_ble_eq_true rfl) dX11_mean_83 hv  (g_maskOf G ql d8) (fun r h hq => ?_)
            obtain ⟨rfl, G⟩ := hq
            refine x_cs1I mJ6_bitCount_0f7a4_ok lkX11_186 (Nat.le_of_ble_eq_true rfl) (Nat.le_of_ble_eq_true rfl) dX11_mean_86 (c_bitCount (msk_lt d2)) ?_
            refine x_i2l (nI_l (by omega)) dX11_mean_89 ?_
            refine x_lmul (lN_mul _ _) dX11_mean_90 ?_
            refine x_ladd (lN_add _ _) dX11_mean_91 ?_
            refine x_ls5 rfl dX11_mean_92 ?_
            first | refine x_ii7 rfl (nI_1 _) dX11_mean_94 ?_ | refine x_ii7 rfl rfl dX11_mean_94 ?_
            refine x_goto (tgt := 36) dX11_mean_97 rfl ?_
            exact ih (q + 1, _) _ (by simp only; omega) ⟨ql, wst, wqu, wwe, wla, qd, fs, fq, fw, fa, G, hS, hl, hwt⟩
      · skip
        refine x_bipush (v := (-3)) dX11_mean_21 rfl ?_
        refine x_iret rfl rfl dX11_mean_23 ⟨_, rfl, ?_, Or.inl I⟩
        rw [Int32.le_iff_toInt_le, show (nI 7).toInt = 7 from rfl] at q18
        rw [F_mean, if_pos q5, if_neg (by omega)]
  · skip
    first | (simp only [cmp_lt, cmp_gt, cmp_eq, zN_cge, zN_cle, Decidable.not_not] at q5) | (simp (disch := omega) only [zN_le, zN_lt, zN_0, zN_1, nI_toInt, zN_eq, zN_eq0, b2_z, b2_nz, Decidable.not_not, Int.not_lt, Int.not_le, zK0, zK1, zK2, zK3, zK5, zK7, zK8, zK9, zK10, zK19, zK20, zK40, zK99, zK100, zK199] at q5) | skip
    refine x_bipush (v := (-2)) dX11_mean_8 rfl ?_
    exact x_iret rfl rfl dX11_mean_10 ⟨_, rfl, by rw [F_mean, if_neg q5], Or.inl I⟩
end ZCm

