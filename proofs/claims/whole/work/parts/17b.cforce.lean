/-! the class's forces, best -/
theorem nI_nm {k : Nat} (h : k < 2 ^ 31) : ¬ nI k = -1 := fun z => by
  have := congrArg Int32.toInt z
  rw [nI_toInt h, show (-1 : Int32).toInt = -1 from rfl] at this
  omega
section ZCf
variable {g : zG} {d : Nat} {h0 h h' : zH} {dk : zDk} {st : zSt} {un : List zSt} {tp : List Nat} {tr : Nat → zTr} {pi : Nat → zPi} {fl : Nat × Nat} {ln : zLn} {sb sj : zS3} {dr : Int32}
theorem k_pairTo {aim : Nat} (I : CI h0 h dk st un tp tr pi fl ln sb sj dr) (ha : aim < 2) : Zm g (d + 6) 1 (sS dk.1 ln) mX11_pairTo [.ref 0, .int (nI aim)] h (rIp (fun r h' => CI h0 h' dk st un tp tr pi fl (pS dk.1 ln) sb sj dr ∧ ((∃ k, k < np dk.1 ∧ soB dk st.2.1 aim (swp dk.1 st.1 k) = true ∧ (∀ j, j < k → soB dk st.2.1 aim (swp dk.1 st.1 j) = false) ∧ r = nI k) ∨ (¬ hasN dk.1 (soB dk st.2.1 aim) st.1 ∧ r = -1)))) := by
  obtain ⟨rt, rn, rs, sw, rmv, rmk, moc, len, fre, fc, fr, vn, vs, qd, wst, wqu, wwe, wla, hx, hn, hd, hR, hv, hw, hs⟩ := I.o
  obtain ⟨d1, d2, d3, d4, d5, d6, d7, d8⟩ := I.dkB
  have gl := goal_lt (a := aim) d2
  have npl := np_le d2
  show Zw g (d + 6) 1 (sS dk.1 ln) mX11_pairTo 0 [some (.ref 0), some (.int (nI aim)), none, none] [] h _
  refine x_al0 rfl dX11_pairTo_0 ?_
  refine x_get fdX11_71 hx rfl dX11_pairTo_1 ?_
  refine x_il1 dX11_pairTo_4 ?_
  refine x_cv1I mX9_goalOf_ok lkX11_324 rfl (Nat.le_of_ble_eq_true rfl) (Nat.le_of_ble_eq_true rfl) dX11_pairTo_5 hv  (k_goalOf I (by first | assumption | omega)) ?_
  refine x_is2 rfl dX11_pairTo_8 ?_
  refine x_al0 rfl dX11_pairTo_9 ?_
  refine x_get fdX11_62 hx rfl dX11_pairTo_10 ?_
  refine x_cv0Vr (κ2 := 0) (σ2 := 0) mX5_prepareSwaps_ok lkX11_377 rfl (Nat.le_of_ble_eq_true rfl) (Nat.le_of_ble_eq_true rfl) dX11_pairTo_13 hR (Nat.le_refl _) (Nat.le_refl _) (k_prepareSwaps I) (fun h I => ?_)
  have hS : (pS dk.1 ln).2.2.1 = true := rfl
  generalize pS dk.1 ln = ln at I hS ⊢
  obtain ⟨rt, rn, rs, sw, rmv, rmk, moc, len, fre, fc, fr, vn, vs, qd, wst, wqu, wwe, wla, hx, hn, hd, hR, hv, hw, hs⟩ := I.o
  refine x_iconst (v := nI 0) dX11_pairTo_16 rfl ?_
  refine x_is3 rfl dX11_pairTo_17 ?_
  refine x_wh (fun (j : Nat) => [some (.ref 0), some (.int (nI aim)), some (.int (nI (goal dk.1 aim))), some (.int (nI j))]) (fun j h => CI h0 h dk st un tp tr pi fl ln sb sj dr ∧ j ≤ np dk.1 ∧ ∀ i, i < j → soB dk st.2.1 aim (swp dk.1 st.1 i) = false) (fun j => np dk.1 - j) 0 ⟨I, Nat.zero_le _, fun i hi => absurd hi (Nat.not_lt_zero _)⟩ (fun j h hA ih => ?_)
  obtain ⟨I, hj, hn0⟩ := hA
  obtain ⟨rt, rn, rs, sw, rmv, rmk, moc, len, fre, fc, fr, vn, vs, qd, wst, wqu, wwe, wla, hx, hn, hd, hR, hv, hw, hs⟩ := I.o
  refine x_il3 dX11_pairTo_18 ?_
  refine x_al0 rfl dX11_pairTo_19 ?_
  refine x_get fdX11_62 hx rfl dX11_pairTo_20 ?_
  refine x_get fdX11_380 hR rfl dX11_pairTo_23 ?_
  rw [show dk.1 * (dk.1 - 1) / 2 = np dk.1 from rfl]
  refine x_icmp_ge (tgt := 70) dX11_pairTo_26 rfl (fun q26 => ?_) (fun q26 => ?_)
  · skip
    first | (simp only [cmp_lt, cmp_gt, cmp_eq, zN_cge, zN_cle, Decidable.not_not] at q26) | (simp (disch := omega) only [zN_le, zN_lt, zN_0, zN_1, nI_toInt, zN_eq, zN_eq0, b2_z, b2_nz, Decidable.not_not, Int.not_lt, Int.not_le, zK0, zK1, zK2, zK3, zK5, zK7, zK8, zK9, zK10, zK19, zK20, zK40, zK99, zK100, zK199] at q26) | skip
    refine x_iconst (v := (-1)) dX11_pairTo_70 rfl ?_
    exact x_iret rfl rfl dX11_pairTo_71 ⟨_, rfl, I, Or.inr ⟨fun z => (by obtain ⟨i, i1, i2⟩ := z; rw [hn0 i (by omega)] at i2; cases i2), rfl⟩⟩
  · skip
    first | (simp only [cmp_lt, cmp_gt, cmp_eq, zN_cge, zN_cle, Decidable.not_not] at q26) | (simp (disch := omega) only [zN_le, zN_lt, zN_0, zN_1, nI_toInt, zN_eq, zN_eq0, b2_z, b2_nz, Decidable.not_not, Int.not_lt, Int.not_le, zK0, zK1, zK2, zK3, zK5, zK7, zK8, zK9, zK10, zK19, zK20, zK40, zK99, zK100, zK199] at q26) | skip
    have jl : j < np dk.1 := by omega
    have sl := swp_lt d1 d2 d7 jl
    have ml := mskK_lt (row := swp dk.1 st.1 j) (c := st.2.1) d2
    refine x_al0 rfl dX11_pairTo_29 ?_
    refine x_get fdX11_71 hx rfl dX11_pairTo_30 ?_
    refine x_al0 rfl dX11_pairTo_33 ?_
    refine x_get fdX11_62 hx rfl dX11_pairTo_34 ?_
    refine x_al0 rfl dX11_pairTo_37 ?_
    refine x_get fdX11_27 hx rfl dX11_pairTo_38 ?_
    refine x_get fdX11_128 hn rfl dX11_pairTo_41 ?_
    refine x_il3 dX11_pairTo_44 ?_
    refine x_cv2I mX5_bySwap_ok lkX11_307 rfl (Nat.le_of_ble_eq_true rfl) (Nat.le_of_ble_eq_true rfl) dX11_pairTo_45 hR  (k_bySwap I hS d7 jl) ?_
    refine x_al0 rfl dX11_pairTo_48 ?_
    refine x_get fdX11_27 hx rfl dX11_pairTo_49 ?_
    refine x_get fdX11_134 hn rfl dX11_pairTo_52 ?_
    refine x_cv2Ip mX9_maskOf_ok lkX11_183 rfl (Nat.le_of_ble_eq_true rfl) (Nat.le_of_ble_eq_true rfl) dX11_pairTo_55 hv  (k_maskOf I (by first | assumption | omega) (by first | assumption | omega)) (fun r h hq => ?_)
    obtain ⟨rfl, I⟩ := hq
    obtain ⟨rt, rn, rs, sw, rmv, rmk, moc, len, fre, fc, fr, vn, vs, qd, wst, wqu, wwe, wla, hx, hn, hd, hR, hv, hw, hs⟩ := I.o
    refine x_il2 dX11_pairTo_58 ?_
    refine x_icmp_ne (tgt := 64) dX11_pairTo_59 rfl (fun q59 => ?_) (fun q59 => ?_)
    · skip
      first | (simp only [cmp_lt, cmp_gt, cmp_eq, zN_cge, zN_cle, Decidable.not_not] at q59) | (simp (disch := omega) only [zN_le, zN_lt, zN_0, zN_1, nI_toInt, zN_eq, zN_eq0, b2_z, b2_nz, Decidable.not_not, Int.not_lt, Int.not_le, zK0, zK1, zK2, zK3, zK5, zK7, zK8, zK9, zK10, zK19, zK20, zK40, zK99, zK100, zK199] at q59) | skip
      first | refine x_ii3 rfl (nI_1 _) dX11_pairTo_64 ?_ | refine x_ii3 rfl rfl dX11_pairTo_64 ?_
      refine x_goto (tgt := 18) dX11_pairTo_67 rfl ?_
      refine ih (j + 1) _ (by omega) ⟨I, jl, fun i hi => ?_⟩
      by_cases c : i = j
      · rw [c]; exact decide_eq_false q59
      · exact hn0 i (by omega)
    · skip
      first | (simp only [cmp_lt, cmp_gt, cmp_eq, zN_cge, zN_cle, Decidable.not_not] at q59) | (simp (disch := omega) only [zN_le, zN_lt, zN_0, zN_1, nI_toInt, zN_eq, zN_eq0, b2_z, b2_nz, Decidable.not_not, Int.not_lt, Int.not_le, zK0, zK1, zK2, zK3, zK5, zK7, zK8, zK9, zK10, zK19, zK20, zK40, zK99, zK100, zK199] at q59) | skip
      refine x_il3 dX11_pairTo_62 ?_
      exact x_iret rfl rfl dX11_pairTo_63 ⟨_, rfl, I, Or.inl ⟨j, jl, decide_eq_true q59, hn0, rfl⟩⟩
theorem k_forces {x : Int32} (I : CI h0 h dk st un tp tr pi fl ln sb sj dr) : Zm g (d + 7) 1 (sS dk.1 ln) mX11_forces [.ref 0, .int x] h (rIp (fun r h' => A_forces dk st x r ∧ (CI h0 h' dk st un tp tr pi fl ln sb sj dr ∨ CI h0 h' dk st un tp tr pi fl (pS dk.1 ln) sb sj dr))) := by
  obtain ⟨rt, rn, rs, sw, rmv, rmk, moc, len, fre, fc, fr, vn, vs, qd, wst, wqu, wwe, wla, hx, hn, hd, hR, hv, hw, hs⟩ := I.o
  obtain ⟨d1, d2, d3, d4, d5, d6, d7, d8⟩ := I.dkB
  show Zw g (d + 7) 1 (sS dk.1 ln) mX11_forces 0 [some (.ref 0), some (.int x)] [] h _
  refine x_il1 dX11_forces_0 ?_
  refine x_cs1I mX11_isAim_ok lkX11_294 (Nat.le_of_ble_eq_true rfl) (Nat.le_of_ble_eq_true rfl) dX11_forces_1 c_isAim ?_
  refine x_if_ne (tgt := 10) dX11_forces_4 rfl (fun q4 => ?_) (fun q4 => ?_)
  · skip
    first | (simp only [cmp_lt, cmp_gt, cmp_eq, zN_cge, zN_cle, Decidable.not_not] at q4) | (simp (disch := omega) only [zN_le, zN_lt, zN_0, zN_1, nI_toInt, zN_eq, zN_eq0, b2_z, b2_nz, Decidable.not_not, Int.not_lt, Int.not_le, zK0, zK1, zK2, zK3, zK5, zK7, zK8, zK9, zK10, zK19, zK20, zK40, zK99, zK100, zK199] at q4) | skip
    obtain ⟨k, hk, rfl⟩ := oneOf_ex q4
    have gl := goal_lt (a := k) d2
    have ml := mskK_lt (row := st.1) (c := st.2.1) d2
    have fin : ∀ r, isF dk.1 (soB dk st.2.1 k) st.1 r → A_forces dk st (nI k) r := fun r z => Or.inl ⟨q4, by rw [show tn (nI k) = k from nI_clamp (by omega)]; exact z⟩
    refine x_al0 rfl dX11_forces_10 ?_
    refine x_get fdX11_71 hx rfl dX11_forces_11 ?_
    refine x_al0 rfl dX11_forces_14 ?_
    refine x_get fdX11_27 hx rfl dX11_forces_15 ?_
    refine x_get fdX11_128 hn rfl dX11_forces_18 ?_
    refine x_al0 rfl dX11_forces_21 ?_
    refine x_get fdX11_27 hx rfl dX11_forces_22 ?_
    refine x_get fdX11_134 hn rfl dX11_forces_25 ?_
    refine x_cv2Ip mX9_maskOf_ok lkX11_183 rfl (Nat.le_of_ble_eq_true rfl) (Nat.le_of_ble_eq_true rfl) dX11_forces_28 hv  (k_maskOf I (by first | assumption | omega) (by first | assumption | omega)) (fun r h hq => ?_)
    obtain ⟨rfl, I⟩ := hq
    obtain ⟨rt, rn, rs, sw, rmv, rmk, moc, len, fre, fc, fr, vn, vs, qd, wst, wqu, wwe, wla, hx, hn, hd, hR, hv, hw, hs⟩ := I.o
    refine x_al0 rfl dX11_forces_31 ?_
    refine x_get fdX11_71 hx rfl dX11_forces_32 ?_
    refine x_il1 dX11_forces_35 ?_
    refine x_cv1I mX9_goalOf_ok lkX11_324 rfl (Nat.le_of_ble_eq_true rfl) (Nat.le_of_ble_eq_true rfl) dX11_forces_36 hv  (k_goalOf I (by first | assumption | omega)) ?_
    refine x_icmp_ne (tgt := 44) dX11_forces_39 rfl (fun q39 => ?_) (fun q39 => ?_)
    · skip
      first | (simp only [cmp_lt, cmp_gt, cmp_eq, zN_cge, zN_cle, Decidable.not_not] at q39) | (simp (disch := omega) only [zN_le, zN_lt, zN_0, zN_1, nI_toInt, zN_eq, zN_eq0, b2_z, b2_nz, Decidable.not_not, Int.not_lt, Int.not_le, zK0, zK1, zK2, zK3, zK5, zK7, zK8, zK9, zK10, zK19, zK20, zK40, zK99, zK100, zK199] at q39) | skip
      refine x_al0 rfl dX11_forces_44 ?_
      refine x_il1 dX11_forces_45 ?_
      refine x_cv1Ir (κ2 := 0) (σ2 := 0) mX11_pairTo_ok lkX11_374 rfl (Nat.le_of_ble_eq_true rfl) (Nat.le_of_ble_eq_true rfl) dX11_forces_46 hx (Nat.le_refl _) (Nat.le_refl _) (k_pairTo I hk) (fun r h hq => ?_)
      obtain ⟨I, hr⟩ := hq
      have npl := np_le d2
      rcases hr with ⟨k2, a1, a2, a3, rfl⟩ | ⟨a1, rfl⟩
      · refine x_iconst (v := (-1)) dX11_forces_49 rfl ?_
        refine x_icmp_ne (tgt := 57) dX11_forces_50 rfl (fun q50 => ?_) (fun q50 => ?_)
        · skip
          refine x_iconst (v := nI 1) dX11_forces_57 rfl ?_
          exact x_iret rfl rfl dX11_forces_58 ⟨_, rfl, fin _ (Or.inr (Or.inl ⟨decide_eq_false q39, ⟨k2, a1, a2⟩, rfl⟩)), Or.inr I⟩
        · skip
          exact absurd q50 (nI_nm (by omega))
      · refine x_iconst (v := (-1)) dX11_forces_49 rfl ?_
        refine x_icmp_ne (tgt := 57) dX11_forces_50 rfl (fun q50 => ?_) (fun q50 => ?_)
        · skip
          exact absurd rfl q50
        · skip
          refine x_iconst (v := (-1)) dX11_forces_53 rfl ?_
          refine x_goto (tgt := 58) dX11_forces_54 rfl ?_
          exact x_iret rfl rfl dX11_forces_58 ⟨_, rfl, fin _ (Or.inr (Or.inr ⟨decide_eq_false q39, a1, rfl⟩)), Or.inr I⟩
    · skip
      first | (simp only [cmp_lt, cmp_gt, cmp_eq, zN_cge, zN_cle, Decidable.not_not] at q39) | (simp (disch := omega) only [zN_le, zN_lt, zN_0, zN_1, nI_toInt, zN_eq, zN_eq0, b2_z, b2_nz, Decidable.not_not, Int.not_lt, Int.not_le, zK0, zK1, zK2, zK3, zK5, zK7, zK8, zK9, zK10, zK19, zK20, zK40, zK99, zK100, zK199] at q39) | skip
      refine x_iconst (v := nI 0) dX11_forces_42 rfl ?_
      exact x_iret rfl rfl dX11_forces_43 ⟨_, rfl, fin _ (Or.inl ⟨decide_eq_true q39, rfl⟩), Or.inl I⟩
  · skip
    first | (simp only [cmp_lt, cmp_gt, cmp_eq, zN_cge, zN_cle, Decidable.not_not] at q4) | (simp (disch := omega) only [zN_le, zN_lt, zN_0, zN_1, nI_toInt, zN_eq, zN_eq0, b2_z, b2_nz, Decidable.not_not, Int.not_lt, Int.not_le, zK0, zK1, zK2, zK3, zK5, zK7, zK8, zK9, zK10, zK19, zK20, zK40, zK99, zK100, zK199] at q4) | skip
    refine x_bipush (v := (-2)) dX11_forces_7 rfl ?_
    exact x_iret rfl rfl dX11_forces_9 ⟨_, rfl, Or.inr ⟨q4, rfl⟩, Or.inl I⟩
theorem k_best {x : Int32} (I : CI h0 h dk st un tp tr pi fl ln sb sj dr) : Zm g (d + 7) 1 (sS dk.1 ln) mX11_best [.ref 0, .int x] h (rIp (fun r h' => A_best dk st x r ∧ (CI h0 h' dk st un tp tr pi fl ln sb sj dr ∨ CI h0 h' dk st un tp tr pi fl (pS dk.1 ln) sb sj dr))) := by
  obtain ⟨rt, rn, rs, sw, rmv, rmk, moc, len, fre, fc, fr, vn, vs, qd, wst, wqu, wwe, wla, hx, hn, hd, hR, hv, hw, hs⟩ := I.o
  obtain ⟨d1, d2, d3, d4, d5, d6, d7, d8⟩ := I.dkB
  show Zw g (d + 7) 1 (sS dk.1 ln) mX11_best 0 [some (.ref 0), some (.int x), none] [] h _
  refine x_il1 dX11_best_0 ?_
  refine x_cs1I mX11_isAim_ok lkX11_294 (Nat.le_of_ble_eq_true rfl) (Nat.le_of_ble_eq_true rfl) dX11_best_1 c_isAim ?_
  refine x_if_ne (tgt := 10) dX11_best_4 rfl (fun q4 => ?_) (fun q4 => ?_)
  · skip
    first | (simp only [cmp_lt, cmp_gt, cmp_eq, zN_cge, zN_cle, Decidable.not_not] at q4) | (simp (disch := omega) only [zN_le, zN_lt, zN_0, zN_1, nI_toInt, zN_eq, zN_eq0, b2_z, b2_nz, Decidable.not_not, Int.not_lt, Int.not_le, zK0, zK1, zK2, zK3, zK5, zK7, zK8, zK9, zK10, zK19, zK20, zK40, zK99, zK100, zK199] at q4) | skip
    obtain ⟨k, hk, rfl⟩ := oneOf_ex q4
    have gl := goal_lt (a := k) d2
    have ml := mskK_lt (row := st.1) (c := st.2.1) d2
    have fin : ∀ r, isBst dk.1 (soB dk st.2.1 k) st.1 r → A_best dk st (nI k) r := fun r z => Or.inl ⟨q4, by rw [show tn (nI k) = k from nI_clamp (by omega)]; exact z⟩
    refine x_al0 rfl dX11_best_10 ?_
    refine x_get fdX11_71 hx rfl dX11_best_11 ?_
    refine x_al0 rfl dX11_best_14 ?_
    refine x_get fdX11_27 hx rfl dX11_best_15 ?_
    refine x_get fdX11_128 hn rfl dX11_best_18 ?_
    refine x_al0 rfl dX11_best_21 ?_
    refine x_get fdX11_27 hx rfl dX11_best_22 ?_
    refine x_get fdX11_134 hn rfl dX11_best_25 ?_
    refine x_cv2Ip mX9_maskOf_ok lkX11_183 rfl (Nat.le_of_ble_eq_true rfl) (Nat.le_of_ble_eq_true rfl) dX11_best_28 hv  (k_maskOf I (by first | assumption | omega) (by first | assumption | omega)) (fun r h hq => ?_)
    obtain ⟨rfl, I⟩ := hq
    obtain ⟨rt, rn, rs, sw, rmv, rmk, moc, len, fre, fc, fr, vn, vs, qd, wst, wqu, wwe, wla, hx, hn, hd, hR, hv, hw, hs⟩ := I.o
    refine x_al0 rfl dX11_best_31 ?_
    refine x_get fdX11_71 hx rfl dX11_best_32 ?_
    refine x_il1 dX11_best_35 ?_
    refine x_cv1I mX9_goalOf_ok lkX11_324 rfl (Nat.le_of_ble_eq_true rfl) (Nat.le_of_ble_eq_true rfl) dX11_best_36 hv  (k_goalOf I (by first | assumption | omega)) ?_
    refine x_icmp_ne (tgt := 44) dX11_best_39 rfl (fun q39 => ?_) (fun q39 => ?_)
    · skip
      first | (simp only [cmp_lt, cmp_gt, cmp_eq, zN_cge, zN_cle, Decidable.not_not] at q39) | (simp (disch := omega) only [zN_le, zN_lt, zN_0, zN_1, nI_toInt, zN_eq, zN_eq0, b2_z, b2_nz, Decidable.not_not, Int.not_lt, Int.not_le, zK0, zK1, zK2, zK3, zK5, zK7, zK8, zK9, zK10, zK19, zK20, zK40, zK99, zK100, zK199] at q39) | skip
      refine x_al0 rfl dX11_best_44 ?_
      refine x_il1 dX11_best_45 ?_
      refine x_cv1Ir (κ2 := 0) (σ2 := 0) mX11_pairTo_ok lkX11_374 rfl (Nat.le_of_ble_eq_true rfl) (Nat.le_of_ble_eq_true rfl) dX11_best_46 hx (Nat.le_refl _) (Nat.le_refl _) (k_pairTo I hk) (fun r h hq => ?_)
      obtain ⟨I, hr⟩ := hq
      have npl := np_le d2
      obtain ⟨rt, rn, rs, sw, rmv, rmk, moc, len, fre, fc, fr, vn, vs, qd, wst, wqu, wwe, wla, hx, hn, hd, hR, hv, hw, hs⟩ := I.o
      rcases hr with ⟨k2, a1, a2, a3, rfl⟩ | ⟨a1, rfl⟩
      · refine x_is2 rfl dX11_best_49 ?_
        refine x_il2 dX11_best_50 ?_
        refine x_iconst (v := (-1)) dX11_best_51 rfl ?_
        refine x_icmp_ne (tgt := 59) dX11_best_52 rfl (fun q52 => ?_) (fun q52 => ?_)
        · skip
          refine x_al0 rfl dX11_best_59 ?_
          refine x_get fdX11_62 hx rfl dX11_best_60 ?_
          refine x_il2 dX11_best_63 ?_
          refine x_cv1I mX5_codeOf_ok lkX11_310 rfl (Nat.le_of_ble_eq_true rfl) (Nat.le_of_ble_eq_true rfl) dX11_best_64 hR  (k_codeOf I rfl a1) ?_
          exact x_iret rfl rfl dX11_best_67 ⟨_, rfl, fin _ (Or.inl ⟨k2, decide_eq_false q39, a1, a2, a3, rfl⟩), Or.inr I⟩
        · skip
          exact absurd q52 (nI_nm (by omega))
      · refine x_is2 rfl dX11_best_49 ?_
        refine x_il2 dX11_best_50 ?_
        refine x_iconst (v := (-1)) dX11_best_51 rfl ?_
        refine x_icmp_ne (tgt := 59) dX11_best_52 rfl (fun q52 => ?_) (fun q52 => ?_)
        · skip
          exact absurd rfl q52
        · skip
          refine x_iconst (v := (-1)) dX11_best_55 rfl ?_
          refine x_goto (tgt := 67) dX11_best_56 rfl ?_
          exact x_iret rfl rfl dX11_best_67 ⟨_, rfl, fin _ (Or.inr ⟨Or.inr a1, rfl⟩), Or.inr I⟩
    · skip
      first | (simp only [cmp_lt, cmp_gt, cmp_eq, zN_cge, zN_cle, Decidable.not_not] at q39) | (simp (disch := omega) only [zN_le, zN_lt, zN_0, zN_1, nI_toInt, zN_eq, zN_eq0, b2_z, b2_nz, Decidable.not_not, Int.not_lt, Int.not_le, zK0, zK1, zK2, zK3, zK5, zK7, zK8, zK9, zK10, zK19, zK20, zK40, zK99, zK100, zK199] at q39) | skip
      refine x_iconst (v := (-1)) dX11_best_42 rfl ?_
      exact x_iret rfl rfl dX11_best_43 ⟨_, rfl, fin _ (Or.inr ⟨Or.inl (decide_eq_true q39), rfl⟩), Or.inl I⟩
  · skip
    first | (simp only [cmp_lt, cmp_gt, cmp_eq, zN_cge, zN_cle, Decidable.not_not] at q4) | (simp (disch := omega) only [zN_le, zN_lt, zN_0, zN_1, nI_toInt, zN_eq, zN_eq0, b2_z, b2_nz, Decidable.not_not, Int.not_lt, Int.not_le, zK0, zK1, zK2, zK3, zK5, zK7, zK8, zK9, zK10, zK19, zK20, zK40, zK99, zK100, zK199] at q4) | skip
    refine x_bipush (v := (-2)) dX11_best_7 rfl ?_
    exact x_iret rfl rfl dX11_best_9 ⟨_, rfl, Or.inr ⟨q4, rfl⟩, Or.inl I⟩
end ZCf

