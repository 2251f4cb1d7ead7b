/-! the model's chance, mean -/
theorem lN_z {a : Nat} (h : a < 2 ^ 63) : lN a = 0 ↔ a = 0 := by
  rw [show (0 : Int64) = lN 0 from rfl, pk_lEQ h (by decide)]
section ZMl
variable {g : zG} {d : Nat} {h0 h : zH} {s : Nat → Value} {M : Nat → Nat → Int32} {L : Nat → Nat → Int64} {dk : zDk} {st : zSt} {un : List zSt} {tp : List Nat} {tr : Nat → zTr} {pi : Nat → zPi} {fl : Nat × Nat}
theorem j_laysLikely {n : Nat} (W : MW h0 h s M L) (J : MJ s M L dk st un tp tr pi fl) (hn7 : n ≤ 7) : Zm g (d + 5) 0 0 mX12_laysLikely [.ref 59, .int (nI n)] h (rVp (fun h' => ∃ s' M' L', MW h0 h' s' M' L' ∧ MJ s' M' L' dk st un tp tr pi fl ∧ (∀ q, q < fct dk.1 → M' 72 q = nI (mskK dk q st.2.1)) ∧ ∀ t, t < 720 → L' 76 t = lN (wLk dk.1 st.1 n t))) := by
  obtain ⟨D, hn0, hn6, ho0, ho9, hng, hli, e0, e1, e2, m1, m2, m3, m4, m5, u1, u2, t1, t2, r1, hf⟩ := MJ.o J
  show Zw g (d + 5) 0 0 mX12_laysLikely 0 [some (.ref 59), some (.int (nI n)), none, none, none] [] h _
  refine x_al0 rfl dX12_laysLikely_0 ?_
  refine x_cv0Vp mX12_laysLet_ok lkX12_355 rfl (Nat.le_of_ble_eq_true rfl) (Nat.le_of_ble_eq_true rfl) dX12_laysLikely_1 W.hM  (j_laysLet W J) (fun h hq => ?_)
  obtain ⟨s1, M1, L1, W, J, U, hlet⟩ := hq
  obtain ⟨D, hn0, hn6, ho0, ho9, hng, hli, e0, e1, e2, m1, m2, m3, m4, m5, u1, u2, t1, t2, r1, hf⟩ := MJ.o J
  refine x_al0 rfl dX12_laysLikely_4 ?_
  refine x_cv0Vp mX12_beginsMany_ok lkX12_382 rfl (Nat.le_of_ble_eq_true rfl) (Nat.le_of_ble_eq_true rfl) dX12_laysLikely_5 W.hM  (j_beginsMany W J) (fun h hq => ?_)
  obtain ⟨L2, W, J, U2, hw, hz⟩ := hq
  refine x_iconst (v := nI 0) dX12_laysLikely_8 rfl ?_
  refine x_is2 rfl dX12_laysLikely_9 ?_
  refine x_wh (fun (a : Nat × Option Value × Option Value) => [some (.ref 59), some (.int (nI n)), some (.int (nI a.1)), a.2.1, a.2.2]) (fun a h => a.1 ≤ n ∧ ∃ s' M' L', MW h0 h s' M' L' ∧ MJ s' M' L' dk st un tp tr pi fl ∧ (∀ q, q < fct dk.1 → M' 72 q = nI (mskK dk q st.2.1)) ∧ (∀ t, t < 720 → L' 76 t = lN (wLk dk.1 st.1 a.1 t)) ∧ ∀ t, t < 720 → L' 77 t = lN 0) (fun a => n - a.1) (0, none, none) ⟨Nat.zero_le _, _, _, _, W, J, hlet, hw, hz⟩ (fun a h hI ih => ?_)
  obtain ⟨i, v1, v2⟩ := a
  obtain ⟨hi, s3, M3', L3, W, J, hlet, hw, hz⟩ := hI
  simp only at hi hw
  dsimp only
  refine x_il2 dX12_laysLikely_10 ?_
  refine x_il1 dX12_laysLikely_11 ?_
  refine x_icmp_ge (tgt := 128) dX12_laysLikely_12 rfl (fun q12 => ?_) (fun q12 => ?_)
  · skip
    first | (simp only [cmp_lt, cmp_gt, cmp_eq, zN_cge, zN_cle, Decidable.not_not] at q12) | (simp (disch := omega) only [zN_le, zN_lt, zN_0, zN_1, nI_toInt, zN_eq, zN_eq0, b2_z, b2_nz, Decidable.not_not, Int.not_lt, Int.not_le, zK0, zK1, zK2, zK3, zK5, zK7, zK8, zK9, zK10, zK19, zK20, zK40, zK99, zK100, zK199] at q12) | skip
    have i9 : i = n := by omega
    subst i9
    exact x_vret rfl dX12_laysLikely_128 ⟨rfl, _, _, _, W, J, hlet, hw⟩
  · skip
    first | (simp only [cmp_lt, cmp_gt, cmp_eq, zN_cge, zN_cle, Decidable.not_not] at q12) | (simp (disch := omega) only [zN_le, zN_lt, zN_0, zN_1, nI_toInt, zN_eq, zN_eq0, b2_z, b2_nz, Decidable.not_not, Int.not_lt, Int.not_le, zK0, zK1, zK2, zK3, zK5, zK7, zK8, zK9, zK10, zK19, zK20, zK40, zK99, zK100, zK199] at q12) | skip
    refine x_iconst (v := nI 0) dX12_laysLikely_15 rfl ?_
    refine x_is3 rfl dX12_laysLikely_16 ?_
    refine x_wh (fun (a : Nat × Option Value) => [some (.ref 59), some (.int (nI n)), some (.int (nI i)), some (.int (nI a.1)), a.2]) (fun a h => a.1 ≤ fct dk.1 ∧ ∃ s' M' L', MW h0 h s' M' L' ∧ MJ s' M' L' dk st un tp tr pi fl ∧ (∀ q, q < fct dk.1 → M' 72 q = nI (mskK dk q st.2.1)) ∧ (∀ t, t < 720 → L' 76 t = lN (wLk dk.1 st.1 i t)) ∧ ∀ t, t < 720 → L' 77 t = lN (lS dk.1 (wLk dk.1 st.1 i) a.1 t)) (fun a => fct dk.1 - a.1) (0, v2) ⟨Nat.zero_le _, _, _, _, W, J, hlet, hw, hz⟩ (fun a h hI ih2 => ?_)
    obtain ⟨q, v3⟩ := a
    obtain ⟨hq, s4, M4, L4, W, J, hlet, hw, hz⟩ := hI
    simp only at hq hz
    dsimp only
    obtain ⟨D, hn0, hn6, ho0, ho9, hng, hli, e0, e1, e2, m1, m2, m3, m4, m5, u1, u2, t1, t2, r1, hf⟩ := MJ.o J
    refine x_il3 dX12_laysLikely_17 ?_
    refine x_al0 rfl dX12_laysLikely_18 ?_
    refine x_gm fdX12_223 W.hM (by decide) (by first | assumption | rfl) dX12_laysLikely_19 ?_
    refine x_icmp_ge (tgt := 118) dX12_laysLikely_22 rfl (fun q22 => ?_) (fun q22 => ?_)
    · skip
      first | (simp only [cmp_lt, cmp_gt, cmp_eq, zN_cge, zN_cle, Decidable.not_not] at q22) | (simp (disch := omega) only [zN_le, zN_lt, zN_0, zN_1, nI_toInt, zN_eq, zN_eq0, b2_z, b2_nz, Decidable.not_not, Int.not_lt, Int.not_le, zK0, zK1, zK2, zK3, zK5, zK7, zK8, zK9, zK10, zK19, zK20, zK40, zK99, zK100, zK199] at q22) | skip
      have q9' : q = fct dk.1 := by omega
      subst q9'
      refine x_al0 rfl dX12_laysLikely_118 ?_
      refine x_cv0Vp mX12_isThen_ok lkX12_385 rfl (Nat.le_of_ble_eq_true rfl) (Nat.le_of_ble_eq_true rfl) dX12_laysLikely_119 W.hM  (j_isThen W J hz) (fun h hq => ?_)
      obtain ⟨L5, W, J, U5, hw5, hz5⟩ := hq
      first | refine x_ii2 rfl (nI_1 _) dX12_laysLikely_122 ?_ | refine x_ii2 rfl rfl dX12_laysLikely_122 ?_
      refine x_goto (tgt := 10) dX12_laysLikely_125 rfl ?_
      exact ih (i + 1, _, _) _ (by simp only; omega) ⟨by simp only; omega, _, _, _, W, J, hlet, hw5, hz5⟩
    · skip
      first | (simp only [cmp_lt, cmp_gt, cmp_eq, zN_cge, zN_cle, Decidable.not_not] at q22) | (simp (disch := omega) only [zN_le, zN_lt, zN_0, zN_1, nI_toInt, zN_eq, zN_eq0, b2_z, b2_nz, Decidable.not_not, Int.not_lt, Int.not_le, zK0, zK1, zK2, zK3, zK5, zK7, zK8, zK9, zK10, zK19, zK20, zK40, zK99, zK100, zK199] at q22) | skip
      have ql : q < fct dk.1 := by omega
      have wl : wLk dk.1 st.1 i q < 2 ^ 63 := by
        have z := wLk_sum hn0 hn6 m4 i
        have z2 : ∀ m, q < m → wLk dk.1 st.1 i q ≤ sumN (wLk dk.1 st.1 i) m := by
          intro m
          induction m with
          | zero => intro c; omega
          | succ m ihm => intro c; rw [sumN]; by_cases c2 : q = m; rw [c2]; omega; have := ihm (by omega); omega
        have z3 := z2 _ ql
        have z4 : 10 ^ i ≤ 10 ^ 7 := Nat.pow_le_pow_right (by decide) (by omega)
        omega
      refine x_al0 rfl dX12_laysLikely_25 ?_
      refine x_gm fdX12_67 W.hM (by decide) W.hF.f33 dX12_laysLikely_26 ?_
      refine x_il3 dX12_laysLikely_29 ?_
      refine x_mldl (len := 720) W rfl rfl (by decide) (by omega) (hw q (by omega)) dX12_laysLikely_30 ?_
      refine x_lconst (v := 0) dX12_laysLikely_31 rfl ?_
      refine x_lcmp (rfl) dX12_laysLikely_32 ?_
      refine x_if_ne (tgt := 39) dX12_laysLikely_33 rfl (fun q33 => ?_) (fun q33 => ?_)
      · skip
        first | (simp only [cmp_lt, cmp_gt, cmp_eq, zN_cge, zN_cle, Decidable.not_not] at q33) | (simp (disch := omega) only [zN_le, zN_lt, zN_0, zN_1, nI_toInt, zN_eq, zN_eq0, b2_z, b2_nz, Decidable.not_not, Int.not_lt, Int.not_le, zK0, zK1, zK2, zK3, zK5, zK7, zK8, zK9, zK10, zK19, zK20, zK40, zK99, zK100, zK199] at q33) | skip
        refine x_iconst (v := nI 0) dX12_laysLikely_39 rfl ?_
        refine x_is4 rfl dX12_laysLikely_40 ?_
        refine x_for (e := dk.1 - 1) (fun k => [some (.ref 59), some (.int (nI n)), some (.int (nI i)), some (.int (nI q)), some (.int (nI k))]) (fun k h => ∃ s' M' L', MW h0 h s' M' L' ∧ MJ s' M' L' dk st un tp tr pi fl ∧ (∀ q, q < fct dk.1 → M' 72 q = nI (mskK dk q st.2.1)) ∧ (∀ t, t < 720 → L' 76 t = lN (wLk dk.1 st.1 i t)) ∧ ∀ t, t < 720 → L' 77 t = lN (ltN dk.1 (wLk dk.1 st.1 i) q (lS dk.1 (wLk dk.1 st.1 i) q) k t)) 0 (by omega) ⟨_, _, _, W, J, hlet, hw, hz⟩ (fun h hI => ?_) (fun k h hk hI ih4 => ?_)
        · obtain ⟨s5, M5, L5, W, J, hlet, hw, hz⟩ := hI
          obtain ⟨D, hn0, hn6, ho0, ho9, hng, hli, e0, e1, e2, m1, m2, m3, m4, m5, u1, u2, t1, t2, r1, hf⟩ := MJ.o J
          refine x_il4 dX12_laysLikely_42 ?_
          refine x_al0 rfl dX12_laysLikely_44 ?_
          refine x_gm fdX12_13 W.hM (by decide) W.hF.f1 dX12_laysLikely_45 ?_
          refine x_iconst (v := nI 1) dX12_laysLikely_48 rfl ?_
          refine x_mld (len := 2868) W rfl rfl (by decide) (by omega) (by first | assumption | rfl) dX12_laysLikely_49 ?_
          refine x_iconst (v := nI 1) dX12_laysLikely_50 rfl ?_
          refine x_isub (pk_sub (by omega)) dX12_laysLikely_51 ?_
          refine x_icmp_ge (tgt := 86) dX12_laysLikely_52 rfl (fun q52 => ?_) (fun q52 => ?_)
          · skip
            first | (simp only [cmp_lt, cmp_gt, cmp_eq, zN_cge, zN_cle, Decidable.not_not] at q52) | (simp (disch := omega) only [zN_le, zN_lt, zN_0, zN_1, nI_toInt, zN_eq, zN_eq0, b2_z, b2_nz, Decidable.not_not, Int.not_lt, Int.not_le, zK0, zK1, zK2, zK3, zK5, zK7, zK8, zK9, zK10, zK19, zK20, zK40, zK99, zK100, zK199] at q52) | skip
            refine x_al0 rfl dX12_laysLikely_86 ?_
            refine x_gm fdX12_70 W.hM (by decide) W.hF.f34 dX12_laysLikely_87 ?_
            refine x_il3 dX12_laysLikely_90 ?_
            refine x_dup2 rfl rfl dX12_laysLikely_91 ?_
            refine x_mldl (len := 720) W rfl rfl (by decide) (by omega) (hz _ (by omega)) dX12_laysLikely_92 ?_
            refine x_al0 rfl dX12_laysLikely_93 ?_
            refine x_gm fdX12_67 W.hM (by decide) W.hF.f33 dX12_laysLikely_94 ?_
            refine x_il3 dX12_laysLikely_97 ?_
            refine x_mldl (len := 720) W rfl rfl (by decide) (by omega) (hw q (by omega)) dX12_laysLikely_98 ?_
            refine x_bipush (v := nI 11) dX12_laysLikely_99 rfl ?_
            refine x_al0 rfl dX12_laysLikely_101 ?_
            refine x_gm fdX12_13 W.hM (by decide) W.hF.f1 dX12_laysLikely_102 ?_
            refine x_iconst (v := nI 1) dX12_laysLikely_105 rfl ?_
            refine x_mld (len := 2868) W rfl rfl (by decide) (by omega) (by first | assumption | rfl) dX12_laysLikely_106 ?_
            refine x_isub (pk_sub (by omega)) dX12_laysLikely_107 ?_
            refine x_i2l (nI_l (by omega)) dX12_laysLikely_108 ?_
            refine x_lmul (lN_mul _ _) dX12_laysLikely_109 ?_
            refine x_ladd (lN_add _ _) dX12_laysLikely_110 ?_
            refine x_mstlJ (len := 720) W J rfl rfl (by decide) (by decide) (by omega) dX12_laysLikely_111 (fun h W J => ?_)
            first | refine x_ii3 rfl (nI_1 _) dX12_laysLikely_112 ?_ | refine x_ii3 rfl rfl dX12_laysLikely_112 ?_
            refine x_goto (tgt := 17) dX12_laysLikely_115 rfl ?_
            exact ih2 (q + 1, _) _ (by simp only; omega) ⟨ql, _, _, _, W, J, hlet, hw, adN_u hz (by omega)⟩
          · skip
            first | (simp only [cmp_lt, cmp_gt, cmp_eq, zN_cge, zN_cle, Decidable.not_not] at q52) | (simp (disch := omega) only [zN_le, zN_lt, zN_0, zN_1, nI_toInt, zN_eq, zN_eq0, b2_z, b2_nz, Decidable.not_not, Int.not_lt, Int.not_le, zK0, zK1, zK2, zK3, zK5, zK7, zK8, zK9, zK10, zK19, zK20, zK40, zK99, zK100, zK199] at q52) | skip
            omega
        · obtain ⟨s5, M5, L5, W, J, hlet, hw, hz⟩ := hI
          obtain ⟨D, hn0, hn6, ho0, ho9, hng, hli, e0, e1, e2, m1, m2, m3, m4, m5, u1, u2, t1, t2, r1, hf⟩ := MJ.o J
          have sl := (sw1_row hn0 hn6 ql (show k < dk.1 by omega) (show k + 1 < dk.1 by omega)).1
          refine x_il4 dX12_laysLikely_42 ?_
          refine x_al0 rfl dX12_laysLikely_44 ?_
          refine x_gm fdX12_13 W.hM (by decide) W.hF.f1 dX12_laysLikely_45 ?_
          refine x_iconst (v := nI 1) dX12_laysLikely_48 rfl ?_
          refine x_mld (len := 2868) W rfl rfl (by decide) (by omega) (by first | assumption | rfl) dX12_laysLikely_49 ?_
          refine x_iconst (v := nI 1) dX12_laysLikely_50 rfl ?_
          refine x_isub (pk_sub (by omega)) dX12_laysLikely_51 ?_
          refine x_icmp_ge (tgt := 86) dX12_laysLikely_52 rfl (fun q52 => ?_) (fun q52 => ?_)
          · skip
            first | (simp only [cmp_lt, cmp_gt, cmp_eq, zN_cge, zN_cle, Decidable.not_not] at q52) | (simp (disch := omega) only [zN_le, zN_lt, zN_0, zN_1, nI_toInt, zN_eq, zN_eq0, b2_z, b2_nz, Decidable.not_not, Int.not_lt, Int.not_le, zK0, zK1, zK2, zK3, zK5, zK7, zK8, zK9, zK10, zK19, zK20, zK40, zK99, zK100, zK199] at q52) | skip
            omega
          · skip
            first | (simp only [cmp_lt, cmp_gt, cmp_eq, zN_cge, zN_cle, Decidable.not_not] at q52) | (simp (disch := omega) only [zN_le, zN_lt, zN_0, zN_1, nI_toInt, zN_eq, zN_eq0, b2_z, b2_nz, Decidable.not_not, Int.not_lt, Int.not_le, zK0, zK1, zK2, zK3, zK5, zK7, zK8, zK9, zK10, zK19, zK20, zK40, zK99, zK100, zK199] at q52) | skip
            refine x_al0 rfl dX12_laysLikely_55 ?_
            refine x_gm fdX12_70 W.hM (by decide) W.hF.f34 dX12_laysLikely_56 ?_
            refine x_al0 rfl dX12_laysLikely_59 ?_
            refine x_il3 dX12_laysLikely_60 ?_
            refine x_il4 dX12_laysLikely_61 ?_
            refine x_il4 dX12_laysLikely_63 ?_
            refine x_iconst (v := nI 1) dX12_laysLikely_65 rfl ?_
            first | refine x_iadd (nI_add _ _) dX12_laysLikely_66 ?_ | refine x_iadd rfl dX12_laysLikely_66 ?_
            refine x_cv3Ip mX12_swapTo_ok lkX12_278 rfl (Nat.le_of_ble_eq_true rfl) (Nat.le_of_ble_eq_true rfl) dX12_laysLikely_67 W.hM  (j_swapTo W J ql (by omega) (by omega)) (fun r h hq => ?_)
            obtain ⟨rfl, s6, M6, L6, W, J, U6⟩ := hq
            rw [← U6.2.2 77 (by simp)] at hz
            rw [← U6.2.2 76 (by simp)] at hw
            rw [← U6.2.1 72 (by simp)] at hlet
            refine x_dup2 rfl rfl dX12_laysLikely_70 ?_
            refine x_mldl (len := 720) W rfl rfl (by decide) (by omega) (hz _ (by omega)) dX12_laysLikely_71 ?_
            refine x_al0 rfl dX12_laysLikely_72 ?_
            refine x_gm fdX12_67 W.hM (by decide) W.hF.f33 dX12_laysLikely_73 ?_
            refine x_il3 dX12_laysLikely_76 ?_
            refine x_mldl (len := 720) W rfl rfl (by decide) (by omega) (hw q (by omega)) dX12_laysLikely_77 ?_
            refine x_ladd (lN_add _ _) dX12_laysLikely_78 ?_
            refine x_mstlJ (len := 720) W J rfl rfl (by decide) (by decide) (by omega) dX12_laysLikely_79 (fun h W J => ?_)
            first | refine x_ii4 rfl (nI_1 _) dX12_laysLikely_80 ?_ | refine x_ii4 rfl rfl dX12_laysLikely_80 ?_
            refine x_goto (tgt := 42) dX12_laysLikely_83 rfl ?_
            exact ih4 _ ⟨_, _, _, W, J, hlet, hw, adN_u hz (by omega)⟩
      · skip
        first | (simp only [cmp_lt, cmp_gt, cmp_eq, zN_cge, zN_cle, Decidable.not_not] at q33) | (simp (disch := omega) only [zN_le, zN_lt, zN_0, zN_1, nI_toInt, zN_eq, zN_eq0, b2_z, b2_nz, Decidable.not_not, Int.not_lt, Int.not_le, zK0, zK1, zK2, zK3, zK5, zK7, zK8, zK9, zK10, zK19, zK20, zK40, zK99, zK100, zK199] at q33) | skip
        have w00 : wLk dk.1 st.1 i q = 0 := (lN_z wl).mp q33
        have e0 : lS dk.1 (wLk dk.1 st.1 i) (q + 1) = lS dk.1 (wLk dk.1 st.1 i) q := by rw [lS, ltN_0 w00, w00, Nat.zero_mul, adN_0]
        refine x_goto (tgt := 112) dX12_laysLikely_36 rfl ?_
        first | refine x_ii3 rfl (nI_1 _) dX12_laysLikely_112 ?_ | refine x_ii3 rfl rfl dX12_laysLikely_112 ?_
        refine x_goto (tgt := 17) dX12_laysLikely_115 rfl ?_
        refine ih2 (q + 1, _) _ (by simp only; omega) ⟨ql, _, _, _, W, J, hlet, hw, ?_⟩
        simp only
        rw [e0]
        exact hz
theorem c_wholeOf {n : Nat} (hn : n ≤ 7) : Zm g d 0 0 mX12_wholeOf [.int (nI n)] h (rL (lN (10 ^ n)) h) := by
  show Zw g d 0 0 mX12_wholeOf 0 [some (.int (nI n)), none, none, none] [] h _
  refine x_lconst (v := 1) dX12_wholeOf_0 rfl ?_
  refine x_ls1 rfl dX12_wholeOf_1 ?_
  refine x_iconst (v := nI 0) dX12_wholeOf_2 rfl ?_
  refine x_is3 rfl dX12_wholeOf_3 ?_
  refine x_for (e := n) (fun i => [some (.int (nI n)), some (.long (lN (10 ^ i))), none, some (.int (nI i))]) (fun i h' => h' = h) 0 (by omega) rfl (fun h' hI => ?_) (fun i h' hi hI ih => ?_)
  · subst hI
    refine x_il3 dX12_wholeOf_4 ?_
    refine x_il0 dX12_wholeOf_5 ?_
    refine x_icmp_ge (tgt := 21) dX12_wholeOf_6 rfl (fun q6 => ?_) (fun q6 => ?_)
    · skip
      first | (simp only [cmp_lt, cmp_gt, cmp_eq, zN_cge, zN_cle, Decidable.not_not] at q6) | (simp (disch := omega) only [zN_le, zN_lt, zN_0, zN_1, nI_toInt, zN_eq, zN_eq0, b2_z, b2_nz, Decidable.not_not, Int.not_lt, Int.not_le, zK0, zK1, zK2, zK3, zK5, zK7, zK8, zK9, zK10, zK19, zK20, zK40, zK99, zK100, zK199] at q6) | skip
      refine x_ll1 dX12_wholeOf_21 ?_
      exact x_lret rfl dX12_wholeOf_22 ⟨rfl, rfl⟩
    · skip
      first | (simp only [cmp_lt, cmp_gt, cmp_eq, zN_cge, zN_cle, Decidable.not_not] at q6) | (simp (disch := omega) only [zN_le, zN_lt, zN_0, zN_1, nI_toInt, zN_eq, zN_eq0, b2_z, b2_nz, Decidable.not_not, Int.not_lt, Int.not_le, zK0, zK1, zK2, zK3, zK5, zK7, zK8, zK9, zK10, zK19, zK20, zK40, zK99, zK100, zK199] at q6) | skip
      omega
  · subst hI
    refine x_il3 dX12_wholeOf_4 ?_
    refine x_il0 dX12_wholeOf_5 ?_
    refine x_icmp_ge (tgt := 21) dX12_wholeOf_6 rfl (fun q6 => ?_) (fun q6 => ?_)
    · skip
      first | (simp only [cmp_lt, cmp_gt, cmp_eq, zN_cge, zN_cle, Decidable.not_not] at q6) | (simp (disch := omega) only [zN_le, zN_lt, zN_0, zN_1, nI_toInt, zN_eq, zN_eq0, b2_z, b2_nz, Decidable.not_not, Int.not_lt, Int.not_le, zK0, zK1, zK2, zK3, zK5, zK7, zK8, zK9, zK10, zK19, zK20, zK40, zK99, zK100, zK199] at q6) | skip
      omega
    · skip
      first | (simp only [cmp_lt, cmp_gt, cmp_eq, zN_cge, zN_cle, Decidable.not_not] at q6) | (simp (disch := omega) only [zN_le, zN_lt, zN_0, zN_1, nI_toInt, zN_eq, zN_eq0, b2_z, b2_nz, Decidable.not_not, Int.not_lt, Int.not_le, zK0, zK1, zK2, zK3, zK5, zK7, zK8, zK9, zK10, zK19, zK20, zK40, zK99, zK100, zK199] at q6) | skip
      refine x_ll1 dX12_wholeOf_9 ?_
      refine x_ldc2 kcX12_294 dX12_wholeOf_10 ?_
      refine x_lmul ((lN_mul _ 10).trans (by rw [← Nat.pow_succ])) dX12_wholeOf_13 ?_
      refine x_ls1 rfl dX12_wholeOf_14 ?_
      first | refine x_ii3 rfl (nI_1 _) dX12_wholeOf_15 ?_ | refine x_ii3 rfl rfl dX12_wholeOf_15 ?_
      refine x_goto (tgt := 4) dX12_wholeOf_18 rfl ?_
      exact ih _ rfl
theorem mod_half {a b : Nat} (hb : 0 < b) (h : b ≤ a) : 2 * (a % b) ≤ a := by
  have h1 := Nat.mod_lt a hb
  have h2 := Nat.div_add_mod a b
  have h3 : 1 ≤ a / b := Nat.div_pos h hb
  have h4 : b * 1 ≤ b * (a / b) := Nat.mul_le_mul_left b h3
  omega
theorem c_commonOf : ∀ (k a b : Nat), a < 2 ^ 63 → b < 2 ^ k → k ≤ 30 → Zm g (d + 2 * k + 1) 0 0 mX12_commonOf [.long (lN a), .long (lN b)] h (rL (lN (Nat.gcd a b)) h) := by
  have base : ∀ (D a : Nat), Zm g D 0 0 mX12_commonOf [.long (lN a), .long (lN 0)] h (rL (lN (Nat.gcd a 0)) h) := fun D a => by
    show Zw g D 0 0 mX12_commonOf 0 [some (.long (lN a)), none, some (.long (lN 0)), none] [] h _
    refine x_ll2 dX12_commonOf_0 ?_
    refine x_lconst (v := 0) dX12_commonOf_1 rfl ?_
    refine x_lcmp (rfl) dX12_commonOf_2 ?_
    refine x_if_ne (tgt := 10) dX12_commonOf_3 rfl (fun q3 => ?_) (fun q3 => ?_)
    · skip
      first | (simp only [cmp_lt, cmp_gt, cmp_eq, zN_cge, zN_cle, Decidable.not_not] at q3) | (simp (disch := omega) only [zN_le, zN_lt, zN_0, zN_1, nI_toInt, zN_eq, zN_eq0, b2_z, b2_nz, Decidable.not_not, Int.not_lt, Int.not_le, zK0, zK1, zK2, zK3, zK5, zK7, zK8, zK9, zK10, zK19, zK20, zK40, zK99, zK100, zK199] at q3) | skip
      exact absurd rfl q3
    · skip
      first | (simp only [cmp_lt, cmp_gt, cmp_eq, zN_cge, zN_cle, Decidable.not_not] at q3) | (simp (disch := omega) only [zN_le, zN_lt, zN_0, zN_1, nI_toInt, zN_eq, zN_eq0, b2_z, b2_nz, Decidable.not_not, Int.not_lt, Int.not_le, zK0, zK1, zK2, zK3, zK5, zK7, zK8, zK9, zK10, zK19, zK20, zK40, zK99, zK100, zK199] at q3) | skip
      refine x_ll0 dX12_commonOf_6 ?_
      refine x_goto (tgt := 17) dX12_commonOf_7 rfl ?_
      exact x_lret rfl dX12_commonOf_17 ⟨by rw [Nat.gcd_zero_right], rfl⟩
  intro k
  induction k with
  | zero =>
    intro a b ha hb hk
    obtain rfl : b = 0 := by omega
    exact base _ a
  | succ k ih =>
    intro a b ha hb hk
    have hb63 : b < 2 ^ 63 := Nat.lt_of_lt_of_le hb (Nat.pow_le_pow_right (by decide) (by omega))
    rcases Nat.eq_zero_or_pos b with hb0 | hb0
    · subst hb0; exact base _ a
    · have step : ∀ (D x y : Nat), 0 < y → x < 2 ^ 63 → y < 2 ^ 63 → Zm g D 0 0 mX12_commonOf [.long (lN y), .long (lN (x % y))] h (rL (lN (Nat.gcd y (x % y))) h) → Zm g (D + 1) 0 0 mX12_commonOf [.long (lN x), .long (lN y)] h (rL (lN (Nat.gcd x y)) h) := fun D x y hy hx hy2 z => by
        have ne : ¬ lN y = 0 := fun c => by
          rw [show (0 : Int64) = lN 0 from rfl, pk_lEQ hy2 (by decide)] at c
          omega
        show Zw g (D + 1) 0 0 mX12_commonOf 0 [some (.long (lN x)), none, some (.long (lN y)), none] [] h _
        refine x_ll2 dX12_commonOf_0 ?_
        refine x_lconst (v := 0) dX12_commonOf_1 rfl ?_
        refine x_lcmp (rfl) dX12_commonOf_2 ?_
        refine x_if_ne (tgt := 10) dX12_commonOf_3 rfl (fun q3 => ?_) (fun q3 => ?_)
        · skip
          first | (simp only [cmp_lt, cmp_gt, cmp_eq, zN_cge, zN_cle, Decidable.not_not] at q3) | (simp (disch := omega) only [zN_le, zN_lt, zN_0, zN_1, nI_toInt, zN_eq, zN_eq0, b2_z, b2_nz, Decidable.not_not, Int.not_lt, Int.not_le, zK0, zK1, zK2, zK3, zK5, zK7, zK8, zK9, zK10, zK19, zK20, zK40, zK99, zK100, zK199] at q3) | skip
          refine x_ll2 dX12_commonOf_10 ?_
          refine x_ll0 dX12_commonOf_11 ?_
          refine x_ll2 dX12_commonOf_12 ?_
          refine x_lrem ne (pk_lRem hx hy hy2) dX12_commonOf_13 ?_
          refine x_cs2L mX12_commonOf_ok lkX12_423 (Nat.le_of_ble_eq_true rfl) (Nat.le_of_ble_eq_true rfl) dX12_commonOf_14 z ?_
          exact x_lret rfl dX12_commonOf_17 ⟨by rw [show Nat.gcd y (x % y) = Nat.gcd x y by rw [Nat.gcd_comm y, ← Nat.gcd_rec, Nat.gcd_comm]], rfl⟩
        · skip
          first | (simp only [cmp_lt, cmp_gt, cmp_eq, zN_cge, zN_cle, Decidable.not_not] at q3) | (simp (disch := omega) only [zN_le, zN_lt, zN_0, zN_1, nI_toInt, zN_eq, zN_eq0, b2_z, b2_nz, Decidable.not_not, Int.not_lt, Int.not_le, zK0, zK1, zK2, zK3, zK5, zK7, zK8, zK9, zK10, zK19, zK20, zK40, zK99, zK100, zK199] at q3) | skip
          exact absurd q3 ne
      have hr := Nat.mod_lt a hb0
      rcases Nat.eq_zero_or_pos (a % b) with hr0 | hr0
      · exact step _ a b hb0 ha hb63 (by rw [hr0]; exact base _ b)
      · refine step (d + 2 * k + 2) a b hb0 ha hb63 ?_
        refine step (d + 2 * k + 1) b (a % b) hr0 hb63 (by omega) ?_
        refine ih (a % b) (b % (a % b)) (by omega) ?_ (by omega)
        have := mod_half hr0 (show a % b ≤ b by omega)
        rw [Nat.pow_succ] at hb
        omega
theorem c_part {a b : Nat} {y : Int32} (ha : a < 2 ^ 31) (h1 : 0 < b) (hb : b < 2 ^ 30) : Zm g (d + 62) 0 0 mX12_part [.long (lN a), .long (lN b), .int y] h (rI (ptN a b y) h) := by
  have gp : 0 < Nat.gcd a b := Nat.gcd_pos_of_pos_right _ h1
  have gl : Nat.gcd a b ≤ b := Nat.gcd_le_right _ h1
  have ne : ¬ lN (Nat.gcd a b) = 0 := fun c => by
    rw [show (0 : Int64) = lN 0 from rfl, pk_lEQ (by omega) (by decide)] at c
    omega
  show Zw g (d + 62) 0 0 mX12_part 0 [some (.long (lN a)), none, some (.long (lN b)), none, some (.int y)] [] h _
  refine x_il4 dX12_part_0 ?_
  refine x_if_ne (tgt := 9) dX12_part_2 rfl (fun q2 => ?_) (fun q2 => ?_)
  · skip
    first | (simp only [cmp_lt, cmp_gt, cmp_eq, zN_cge, zN_cle, Decidable.not_not] at q2) | (simp (disch := omega) only [zN_le, zN_lt, zN_0, zN_1, nI_toInt, zN_eq, zN_eq0, b2_z, b2_nz, Decidable.not_not, Int.not_lt, Int.not_le, zK0, zK1, zK2, zK3, zK5, zK7, zK8, zK9, zK10, zK19, zK20, zK40, zK99, zK100, zK199] at q2) | skip
    refine x_ll2 dX12_part_9 ?_
    refine x_ll0 dX12_part_10 ?_
    refine x_ll2 dX12_part_11 ?_
    refine x_cs2L mX12_commonOf_ok lkX12_423 (Nat.le_of_ble_eq_true rfl) (Nat.le_of_ble_eq_true rfl) dX12_part_12 (c_commonOf 30 a b (by omega) hb (by omega)) ?_
    refine x_ldiv ne (pk_lDiv (by omega) gp (by omega)) dX12_part_15 ?_
    refine x_l2i (lN_i _) dX12_part_16 ?_
    exact x_iret rfl rfl dX12_part_17 ⟨by rw [ptN, if_neg q2], rfl⟩
  · skip
    first | (simp only [cmp_lt, cmp_gt, cmp_eq, zN_cge, zN_cle, Decidable.not_not] at q2) | (simp (disch := omega) only [zN_le, zN_lt, zN_0, zN_1, nI_toInt, zN_eq, zN_eq0, b2_z, b2_nz, Decidable.not_not, Int.not_lt, Int.not_le, zK0, zK1, zK2, zK3, zK5, zK7, zK8, zK9, zK10, zK19, zK20, zK40, zK99, zK100, zK199] at q2) | skip
    refine x_ll0 dX12_part_5 ?_
    refine x_goto (tgt := 10) dX12_part_6 rfl ?_
    refine x_ll0 dX12_part_10 ?_
    refine x_ll2 dX12_part_11 ?_
    refine x_cs2L mX12_commonOf_ok lkX12_423 (Nat.le_of_ble_eq_true rfl) (Nat.le_of_ble_eq_true rfl) dX12_part_12 (c_commonOf 30 a b (by omega) hb (by omega)) ?_
    refine x_ldiv ne (pk_lDiv (by omega) gp (by omega)) dX12_part_15 ?_
    refine x_l2i (lN_i _) dX12_part_16 ?_
    exact x_iret rfl rfl dX12_part_17 ⟨by rw [ptN, if_pos q2], rfl⟩
theorem p10 {n : Nat} (hn : n ≤ 7) : 0 < 10 ^ n ∧ 10 ^ n ≤ 10 ^ 7 := ⟨Nat.pow_pos (by decide), Nat.pow_le_pow_right (by decide) hn⟩
theorem w_chance {x y z : Int32} (I : MI h0 h dk st un tp tr pi fl) : Zm g (d + 63) 0 0 mX12_chance [.ref 59, .int x, .int y, .int z] h (rIp (fun r h' => r = F_chance dk st x y z ∧ MI h0 h' dk st un tp tr pi fl)) := by
  obtain ⟨s, M, L, W, J⟩ := I
  obtain ⟨D, hn0, hn6, ho0, ho9, hng, hli, e0, e1, e2, m1, m2, m3, m4, m5, u1, u2, t1, t2, r1, hf⟩ := MJ.o J
  have e2 : oneOf z 2 ↔ 0 ≤ z.toInt ∧ z.toInt ≤ 1 := by
    unfold oneOf
    omega
  show Zw g (d + 63) 0 0 mX12_chance 0 [some (.ref 59), some (.int x), some (.int y), some (.int z), none, none, none] [] h _
  refine x_al0 rfl dX12_chance_0 ?_
  refine x_iconst (v := nI 0) dX12_chance_1 rfl ?_
  refine x_mpfJ W J fdX12_1 (by decide) rfl rfl zf_i dX12_chance_2 (fun h W J => ?_)
  refine x_il1 dX12_chance_5 ?_
  refine x_cs1I mX12_isAim_ok lkX12_369 (Nat.le_of_ble_eq_true rfl) (Nat.le_of_ble_eq_true rfl) dX12_chance_6 j_isAim ?_
  refine x_if_eq (tgt := 22) dX12_chance_9 rfl (fun q9 => ?_) (fun q9 => ?_)
  · skip
    first | (simp only [cmp_lt, cmp_gt, cmp_eq, zN_cge, zN_cle, Decidable.not_not] at q9) | (simp (disch := omega) only [zN_le, zN_lt, zN_0, zN_1, nI_toInt, zN_eq, zN_eq0, b2_z, b2_nz, Decidable.not_not, Int.not_lt, Int.not_le, zK0, zK1, zK2, zK3, zK5, zK7, zK8, zK9, zK10, zK19, zK20, zK40, zK99, zK100, zK199] at q9) | skip
    refine x_bipush (v := (-2)) dX12_chance_22 rfl ?_
    exact x_iret rfl rfl dX12_chance_24 ⟨_, rfl, by rw [F_chance, if_neg (fun c => q9 c.1)], _, _, _, W, J⟩
  · skip
    first | (simp only [cmp_lt, cmp_gt, cmp_eq, zN_cge, zN_cle, Decidable.not_not] at q9) | (simp (disch := omega) only [zN_le, zN_lt, zN_0, zN_1, nI_toInt, zN_eq, zN_eq0, b2_z, b2_nz, Decidable.not_not, Int.not_lt, Int.not_le, zK0, zK1, zK2, zK3, zK5, zK7, zK8, zK9, zK10, zK19, zK20, zK40, zK99, zK100, zK199] at q9) | skip
    refine x_il3 dX12_chance_12 ?_
    refine x_i2l (rfl) dX12_chance_13 ?_
    refine x_lconst (v := 0) dX12_chance_14 rfl ?_
    refine x_lconst (v := 1) dX12_chance_15 rfl ?_
    refine x_cs3I mX12_within_ok lkX12_157 (Nat.le_of_ble_eq_true rfl) (Nat.le_of_ble_eq_true rfl) dX12_chance_16 j_within ?_
    refine x_if_ne (tgt := 25) dX12_chance_19 rfl (fun q19 => ?_) (fun q19 => ?_)
    · skip
      first | (simp only [cmp_lt, cmp_gt, cmp_eq, zN_cge, zN_cle, Decidable.not_not] at q19) | (simp (disch := omega) only [zN_le, zN_lt, zN_0, zN_1, nI_toInt, zN_eq, zN_eq0, b2_z, b2_nz, Decidable.not_not, Int.not_lt, Int.not_le, zK0, zK1, zK2, zK3, zK5, zK7, zK8, zK9, zK10, zK19, zK20, zK40, zK99, zK100, zK199] at q19) | skip
      have c : oneOf x 2 ∧ oneOf z 2 := ⟨q9, e2.mpr q19⟩
      refine x_il2 dX12_chance_25 ?_
      refine x_i2l (rfl) dX12_chance_26 ?_
      refine x_lconst (v := 0) dX12_chance_27 rfl ?_
      refine x_ldc2 kcX12_380 dX12_chance_28 ?_
      refine x_cs3I mX12_within_ok lkX12_157 (Nat.le_of_ble_eq_true rfl) (Nat.le_of_ble_eq_true rfl) dX12_chance_31 j_within ?_
      refine x_if_ne (tgt := 40) dX12_chance_34 rfl (fun q34 => ?_) (fun q34 => ?_)
      · skip
        first | (simp only [cmp_lt, cmp_gt, cmp_eq, zN_cge, zN_cle, Decidable.not_not] at q34) | (simp (disch := omega) only [zN_le, zN_lt, zN_0, zN_1, nI_toInt, zN_eq, zN_eq0, b2_z, b2_nz, Decidable.not_not, Int.not_lt, Int.not_le, zK0, zK1, zK2, zK3, zK5, zK7, zK8, zK9, zK10, zK19, zK20, zK40, zK99, zK100, zK199] at q34) | skip
        unfold F_chance
        rw [if_pos c, if_pos q34]
        obtain ⟨aim, ha, rfl⟩ := oneOf_ex q9
        obtain ⟨n, -, hn7, rfl⟩ := rng_ex (a := 0) (b := 7) q34 (by decide)
        rw [show tn (nI aim) = aim from nI_clamp (by omega), show tn (nI n) = n from nI_clamp (by omega)]
        refine x_al0 rfl dX12_chance_40 ?_
        refine x_il2 dX12_chance_41 ?_
        refine x_cv1Vp mX12_laysLikely_ok lkX12_427 rfl (Nat.le_of_ble_eq_true rfl) (Nat.le_of_ble_eq_true rfl) dX12_chance_42 W.hM  (j_laysLikely W J hn7) (fun h hq => ?_)
        obtain ⟨s1, M1, L1, W, J, hlet, hw⟩ := hq
        obtain ⟨D, hn0, hn6, ho0, ho9, hng, hli, e0, e1, e2, m1, m2, m3, m4, m5, u1, u2, t1, t2, r1, hf⟩ := MJ.o J
        refine x_lconst (v := 0) dX12_chance_45 rfl ?_
        refine x_ls4 rfl dX12_chance_46 ?_
        refine x_iconst (v := nI 0) dX12_chance_48 rfl ?_
        refine x_is6 rfl dX12_chance_49 ?_
        refine x_for (e := fct dk.1) (fun q => [some (.ref 59), some (.int (nI aim)), some (.int (nI n)), some (.int z), some (.long (lN (smS (soB dk st.2.1 aim) (wLk dk.1 st.1 n) q))), none, some (.int (nI q))]) (fun q h' => h' = h) 0 (by omega) rfl (fun h' hI => ?_) (fun q h' hq hI ih3 => ?_)
        · subst hI
          have p := p10 hn7
          have b1 := smS_le (B := soB dk st.2.1 aim) (w := wLk dk.1 st.1 n) (fct dk.1)
          rw [wLk_sum hn0 hn6 m4] at b1
          refine x_il6 dX12_chance_51 ?_
          refine x_al0 rfl dX12_chance_53 ?_
          refine x_gm fdX12_223 W.hM (by decide) (by first | assumption | rfl) dX12_chance_54 ?_
          refine x_icmp_ge (tgt := 92) dX12_chance_57 rfl (fun q57 => ?_) (fun q57 => ?_)
          · skip
            first | (simp only [cmp_lt, cmp_gt, cmp_eq, zN_cge, zN_cle, Decidable.not_not] at q57) | (simp (disch := omega) only [zN_le, zN_lt, zN_0, zN_1, nI_toInt, zN_eq, zN_eq0, b2_z, b2_nz, Decidable.not_not, Int.not_lt, Int.not_le, zK0, zK1, zK2, zK3, zK5, zK7, zK8, zK9, zK10, zK19, zK20, zK40, zK99, zK100, zK199] at q57) | skip
            refine x_ll4 dX12_chance_92 ?_
            refine x_il2 dX12_chance_94 ?_
            refine x_cs1L mX12_wholeOf_ok lkX12_430 (Nat.le_of_ble_eq_true rfl) (Nat.le_of_ble_eq_true rfl) dX12_chance_95 (c_wholeOf hn7) ?_
            refine x_il3 dX12_chance_98 ?_
            refine x_cs3I mX12_part_ok lkX12_434 (Nat.le_of_ble_eq_true rfl) (Nat.le_of_ble_eq_true rfl) dX12_chance_99 (c_part (by omega) p.1 (by omega)) ?_
            exact x_iret rfl rfl dX12_chance_102 ⟨_, rfl, rfl, _, _, _, W, J⟩
          · skip
            first | (simp only [cmp_lt, cmp_gt, cmp_eq, zN_cge, zN_cle, Decidable.not_not] at q57) | (simp (disch := omega) only [zN_le, zN_lt, zN_0, zN_1, nI_toInt, zN_eq, zN_eq0, b2_z, b2_nz, Decidable.not_not, Int.not_lt, Int.not_le, zK0, zK1, zK2, zK3, zK5, zK7, zK8, zK9, zK10, zK19, zK20, zK40, zK99, zK100, zK199] at q57) | skip
            omega
        · subst hI
          have ml := mskK_lt (row := q) (c := st.2.1) hn6
          refine x_il6 dX12_chance_51 ?_
          refine x_al0 rfl dX12_chance_53 ?_
          refine x_gm fdX12_223 W.hM (by decide) (by first | assumption | rfl) dX12_chance_54 ?_
          refine x_icmp_ge (tgt := 92) dX12_chance_57 rfl (fun q57 => ?_) (fun q57 => ?_)
          · skip
            first | (simp only [cmp_lt, cmp_gt, cmp_eq, zN_cge, zN_cle, Decidable.not_not] at q57) | (simp (disch := omega) only [zN_le, zN_lt, zN_0, zN_1, nI_toInt, zN_eq, zN_eq0, b2_z, b2_nz, Decidable.not_not, Int.not_lt, Int.not_le, zK0, zK1, zK2, zK3, zK5, zK7, zK8, zK9, zK10, zK19, zK20, zK40, zK99, zK100, zK199] at q57) | skip
            omega
          · skip
            first | (simp only [cmp_lt, cmp_gt, cmp_eq, zN_cge, zN_cle, Decidable.not_not] at q57) | (simp (disch := omega) only [zN_le, zN_lt, zN_0, zN_1, nI_toInt, zN_eq, zN_eq0, b2_z, b2_nz, Decidable.not_not, Int.not_lt, Int.not_le, zK0, zK1, zK2, zK3, zK5, zK7, zK8, zK9, zK10, zK19, zK20, zK40, zK99, zK100, zK199] at q57) | skip
            refine x_ll4 dX12_chance_60 ?_
            refine x_al0 rfl dX12_chance_62 ?_
            refine x_il6 dX12_chance_63 ?_
            refine x_il1 dX12_chance_65 ?_
            refine x_cv2I mX12_isSo_ok lkX12_364 rfl (Nat.le_of_ble_eq_true rfl) (Nat.le_of_ble_eq_true rfl) dX12_chance_66 W.hM  (j_isSo W J hq ha (hlet q hq) (by omega)) ?_
            refine x_if_eq (tgt := 82) dX12_chance_69 rfl (fun q69 => ?_) (fun q69 => ?_)
            · skip
              first | (simp only [cmp_lt, cmp_gt, cmp_eq, zN_cge, zN_cle, Decidable.not_not] at q69) | (simp (disch := omega) only [zN_le, zN_lt, zN_0, zN_1, nI_toInt, zN_eq, zN_eq0, b2_z, b2_nz, Decidable.not_not, Int.not_lt, Int.not_le, zK0, zK1, zK2, zK3, zK5, zK7, zK8, zK9, zK10, zK19, zK20, zK40, zK99, zK100, zK199] at q69) | skip
              refine x_lconst (v := 0) dX12_chance_82 rfl ?_
              refine x_ladd ((lN_add _ 0).trans (congrArg lN (show _ = smS (soB dk st.2.1 aim) (wLk dk.1 st.1 n) (q + 1) by rw [smS, if_neg (by simpa using q69)]))) dX12_chance_83 ?_
              refine x_ls4 rfl dX12_chance_84 ?_
              first | refine x_ii6 rfl (nI_1 _) dX12_chance_86 ?_ | refine x_ii6 rfl rfl dX12_chance_86 ?_
              refine x_goto (tgt := 51) dX12_chance_89 rfl ?_
              exact ih3 _ rfl
            · skip
              first | (simp only [cmp_lt, cmp_gt, cmp_eq, zN_cge, zN_cle, Decidable.not_not] at q69) | (simp (disch := omega) only [zN_le, zN_lt, zN_0, zN_1, nI_toInt, zN_eq, zN_eq0, b2_z, b2_nz, Decidable.not_not, Int.not_lt, Int.not_le, zK0, zK1, zK2, zK3, zK5, zK7, zK8, zK9, zK10, zK19, zK20, zK40, zK99, zK100, zK199] at q69) | skip
              refine x_al0 rfl dX12_chance_72 ?_
              refine x_gm fdX12_67 W.hM (by decide) W.hF.f33 dX12_chance_73 ?_
              refine x_il6 dX12_chance_76 ?_
              refine x_mldl (len := 720) W rfl rfl (by decide) (by omega) (hw q (by omega)) dX12_chance_78 ?_
              refine x_goto (tgt := 83) dX12_chance_79 rfl ?_
              refine x_ladd ((lN_add _ _).trans (congrArg lN (show _ = smS (soB dk st.2.1 aim) (wLk dk.1 st.1 n) (q + 1) by rw [smS, if_pos (by simpa using q69)]))) dX12_chance_83 ?_
              refine x_ls4 rfl dX12_chance_84 ?_
              first | refine x_ii6 rfl (nI_1 _) dX12_chance_86 ?_ | refine x_ii6 rfl rfl dX12_chance_86 ?_
              refine x_goto (tgt := 51) dX12_chance_89 rfl ?_
              exact ih3 _ rfl
      · skip
        first | (simp only [cmp_lt, cmp_gt, cmp_eq, zN_cge, zN_cle, Decidable.not_not] at q34) | (simp (disch := omega) only [zN_le, zN_lt, zN_0, zN_1, nI_toInt, zN_eq, zN_eq0, b2_z, b2_nz, Decidable.not_not, Int.not_lt, Int.not_le, zK0, zK1, zK2, zK3, zK5, zK7, zK8, zK9, zK10, zK19, zK20, zK40, zK99, zK100, zK199] at q34) | skip
        refine x_bipush (v := (-3)) dX12_chance_37 rfl ?_
        exact x_iret rfl rfl dX12_chance_39 ⟨_, rfl, by rw [F_chance, if_pos c, if_neg q34], _, _, _, W, J⟩
    · skip
      first | (simp only [cmp_lt, cmp_gt, cmp_eq, zN_cge, zN_cle, Decidable.not_not] at q19) | (simp (disch := omega) only [zN_le, zN_lt, zN_0, zN_1, nI_toInt, zN_eq, zN_eq0, b2_z, b2_nz, Decidable.not_not, Int.not_lt, Int.not_le, zK0, zK1, zK2, zK3, zK5, zK7, zK8, zK9, zK10, zK19, zK20, zK40, zK99, zK100, zK199] at q19) | skip
      refine x_bipush (v := (-2)) dX12_chance_22 rfl ?_
      exact x_iret rfl rfl dX12_chance_24 ⟨_, rfl, by rw [F_chance, if_neg (fun c => q19 (e2.mp c.2))], _, _, _, W, J⟩
theorem w_mean {y z : Int32} (I : MI h0 h dk st un tp tr pi fl) : Zm g (d + 63) 0 0 mX12_mean [.ref 59, .int y, .int z] h (rIp (fun r h' => r = F_mean dk st y z ∧ MI h0 h' dk st un tp tr pi fl)) := by
  obtain ⟨s, M, L, W, J⟩ := I
  obtain ⟨D, hn0, hn6, ho0, ho9, hng, hli, e0, e1, e2, m1, m2, m3, m4, m5, u1, u2, t1, t2, r1, hf⟩ := MJ.o J
  have e2 : oneOf z 2 ↔ 0 ≤ z.toInt ∧ z.toInt ≤ 1 := by
    unfold oneOf
    omega
  show Zw g (d + 63) 0 0 mX12_mean 0 [some (.ref 59), some (.int y), some (.int z), none, none, none] [] h _
  refine x_al0 rfl dX12_mean_0 ?_
  refine x_iconst (v := nI 0) dX12_mean_1 rfl ?_
  refine x_mpfJ W J fdX12_1 (by decide) rfl rfl zf_i dX12_mean_2 (fun h W J => ?_)
  refine x_il2 dX12_mean_5 ?_
  refine x_i2l (rfl) dX12_mean_6 ?_
  refine x_lconst (v := 0) dX12_mean_7 rfl ?_
  refine x_lconst (v := 1) dX12_mean_8 rfl ?_
  refine x_cs3I mX12_within_ok lkX12_157 (Nat.le_of_ble_eq_true rfl) (Nat.le_of_ble_eq_true rfl) dX12_mean_9 j_within ?_
  refine x_if_ne (tgt := 18) dX12_mean_12 rfl (fun q12 => ?_) (fun q12 => ?_)
  · skip
    first | (simp only [cmp_lt, cmp_gt, cmp_eq, zN_cge, zN_cle, Decidable.not_not] at q12) | (simp (disch := omega) only [zN_le, zN_lt, zN_0, zN_1, nI_toInt, zN_eq, zN_eq0, b2_z, b2_nz, Decidable.not_not, Int.not_lt, Int.not_le, zK0, zK1, zK2, zK3, zK5, zK7, zK8, zK9, zK10, zK19, zK20, zK40, zK99, zK100, zK199] at q12) | skip
    have c : oneOf z 2 := e2.mpr q12
    refine x_il1 dX12_mean_18 ?_
    refine x_i2l (rfl) dX12_mean_19 ?_
    refine x_lconst (v := 0) dX12_mean_20 rfl ?_
    refine x_ldc2 kcX12_380 dX12_mean_21 ?_
    refine x_cs3I mX12_within_ok lkX12_157 (Nat.le_of_ble_eq_true rfl) (Nat.le_of_ble_eq_true rfl) dX12_mean_24 j_within ?_
    refine x_if_ne (tgt := 33) dX12_mean_27 rfl (fun q27 => ?_) (fun q27 => ?_)
    · skip
      first | (simp only [cmp_lt, cmp_gt, cmp_eq, zN_cge, zN_cle, Decidable.not_not] at q27) | (simp (disch := omega) only [zN_le, zN_lt, zN_0, zN_1, nI_toInt, zN_eq, zN_eq0, b2_z, b2_nz, Decidable.not_not, Int.not_lt, Int.not_le, zK0, zK1, zK2, zK3, zK5, zK7, zK8, zK9, zK10, zK19, zK20, zK40, zK99, zK100, zK199] at q27) | skip
      unfold F_mean
      rw [if_pos c, if_pos q27]
      obtain ⟨n, -, hn7, rfl⟩ := rng_ex (a := 0) (b := 7) q27 (by decide)
      rw [show tn (nI n) = n from nI_clamp (by omega)]
      refine x_al0 rfl dX12_mean_33 ?_
      refine x_il1 dX12_mean_34 ?_
      refine x_cv1Vp mX12_laysLikely_ok lkX12_427 rfl (Nat.le_of_ble_eq_true rfl) (Nat.le_of_ble_eq_true rfl) dX12_mean_35 W.hM  (j_laysLikely W J hn7) (fun h hq => ?_)
      obtain ⟨s1, M1, L1, W, J, hlet, hw⟩ := hq
      obtain ⟨D, hn0, hn6, ho0, ho9, hng, hli, e0, e1, e2, m1, m2, m3, m4, m5, u1, u2, t1, t2, r1, hf⟩ := MJ.o J
      refine x_lconst (v := 0) dX12_mean_38 rfl ?_
      refine x_ls3 rfl dX12_mean_39 ?_
      refine x_iconst (v := nI 0) dX12_mean_40 rfl ?_
      refine x_is5 rfl dX12_mean_41 ?_
      refine x_for (e := fct dk.1) (fun q => [some (.ref 59), some (.int (nI n)), some (.int z), some (.long (lN (smM (fun t => popc (mskK dk t st.2.1)) (wLk dk.1 st.1 n) q))), none, some (.int (nI q))]) (fun q h' => h' = h) 0 (by omega) rfl (fun h' hI => ?_) (fun q h' hq hI ih3 => ?_)
      · subst hI
        have p := p10 hn7
        have b1 := smM_le (F := fun t => popc (mskK dk t st.2.1)) (w := wLk dk.1 st.1 n) (fun t => popc_le) (fct dk.1)
        rw [wLk_sum hn0 hn6 m4] at b1
        refine x_il5 dX12_mean_43 ?_
        refine x_al0 rfl dX12_mean_45 ?_
        refine x_gm fdX12_223 W.hM (by decide) (by first | assumption | rfl) dX12_mean_46 ?_
        refine x_icmp_ge (tgt := 80) dX12_mean_49 rfl (fun q49 => ?_) (fun q49 => ?_)
        · skip
          first | (simp only [cmp_lt, cmp_gt, cmp_eq, zN_cge, zN_cle, Decidable.not_not] at q49) | (simp (disch := omega) only [zN_le, zN_lt, zN_0, zN_1, nI_toInt, zN_eq, zN_eq0, b2_z, b2_nz, Decidable.not_not, Int.not_lt, Int.not_le, zK0, zK1, zK2, zK3, zK5, zK7, zK8, zK9, zK10, zK19, zK20, zK40, zK99, zK100, zK199] at q49) | skip
          refine x_ll3 dX12_mean_80 ?_
          refine x_il1 dX12_mean_81 ?_
          refine x_cs1L mX12_wholeOf_ok lkX12_430 (Nat.le_of_ble_eq_true rfl) (Nat.le_of_ble_eq_true rfl) dX12_mean_82 (c_wholeOf hn7) ?_
          refine x_il2 dX12_mean_85 ?_
          refine x_cs3I mX12_part_ok lkX12_434 (Nat.le_of_ble_eq_true rfl) (Nat.le_of_ble_eq_true rfl) dX12_mean_86 (c_part (by omega) p.1 (by omega)) ?_
          exact x_iret rfl rfl dX12_mean_89 ⟨_, rfl, rfl, _, _, _, W, J⟩
        · skip
          first | (simp only [cmp_lt, cmp_gt, cmp_eq, zN_cge, zN_cle, Decidable.not_not] at q49) | (simp (disch := omega) only [zN_le, zN_lt, zN_0, zN_1, nI_toInt, zN_eq, zN_eq0, b2_z, b2_nz, Decidable.not_not, Int.not_lt, Int.not_le, zK0, zK1, zK2, zK3, zK5, zK7, zK8, zK9, zK10, zK19, zK20, zK40, zK99, zK100, zK199] at q49) | skip
          omega
      · subst hI
        have ml := mskK_lt (row := q) (c := st.2.1) hn6
        have pl : popc (mskK dk q st.2.1) ≤ 6 := popc_le
        refine x_il5 dX12_mean_43 ?_
        refine x_al0 rfl dX12_mean_45 ?_
        refine x_gm fdX12_223 W.hM (by decide) (by first | assumption | rfl) dX12_mean_46 ?_
        refine x_icmp_ge (tgt := 80) dX12_mean_49 rfl (fun q49 => ?_) (fun q49 => ?_)
        · skip
          first | (simp only [cmp_lt, cmp_gt, cmp_eq, zN_cge, zN_cle, Decidable.not_not] at q49) | (simp (disch := omega) only [zN_le, zN_lt, zN_0, zN_1, nI_toInt, zN_eq, zN_eq0, b2_z, b2_nz, Decidable.not_not, Int.not_lt, Int.not_le, zK0, zK1, zK2, zK3, zK5, zK7, zK8, zK9, zK10, zK19, zK20, zK40, zK99, zK100, zK199] at q49) | skip
          omega
        · skip
          first | (simp only [cmp_lt, cmp_gt, cmp_eq, zN_cge, zN_cle, Decidable.not_not] at q49) | (simp (disch := omega) only [zN_le, zN_lt, zN_0, zN_1, nI_toInt, zN_eq, zN_eq0, b2_z, b2_nz, Decidable.not_not, Int.not_lt, Int.not_le, zK0, zK1, zK2, zK3, zK5, zK7, zK8, zK9, zK10, zK19, zK20, zK40, zK99, zK100, zK199] at q49) | skip
          refine x_ll3 dX12_mean_52 ?_
          refine x_al0 rfl dX12_mean_53 ?_
          refine x_gm fdX12_67 W.hM (by decide) W.hF.f33 dX12_mean_54 ?_
          refine x_il5 dX12_mean_57 ?_
          refine x_mldl (len := 720) W rfl rfl (by decide) (by omega) (hw q (by omega)) dX12_mean_59 ?_
          refine x_al0 rfl dX12_mean_60 ?_
          refine x_gm fdX12_55 W.hM (by decide) W.hF.f28 dX12_mean_61 ?_
          refine x_il5 dX12_mean_64 ?_
          refine x_mld (len := 720) W rfl rfl (by decide) (by omega) (hlet q hq) dX12_mean_66 ?_
          refine x_cs1I mX12_bitsOf_ok lkX12_284 (Nat.le_of_ble_eq_true rfl) (Nat.le_of_ble_eq_true rfl) dX12_mean_67 (m_bitsOf ml) ?_
          refine x_i2l (nI_l (by omega)) dX12_mean_70 ?_
          refine x_lmul (lN_mul _ _) dX12_mean_71 ?_
          refine x_ladd (lN_add _ _) dX12_mean_72 ?_
          refine x_ls3 rfl dX12_mean_73 ?_
          first | refine x_ii5 rfl (nI_1 _) dX12_mean_74 ?_ | refine x_ii5 rfl rfl dX12_mean_74 ?_
          refine x_goto (tgt := 43) dX12_mean_77 rfl ?_
          exact ih3 _ rfl
    · skip
      first | (simp only [cmp_lt, cmp_gt, cmp_eq, zN_cge, zN_cle, Decidable.not_not] at q27) | (simp (disch := omega) only [zN_le, zN_lt, zN_0, zN_1, nI_toInt, zN_eq, zN_eq0, b2_z, b2_nz, Decidable.not_not, Int.not_lt, Int.not_le, zK0, zK1, zK2, zK3, zK5, zK7, zK8, zK9, zK10, zK19, zK20, zK40, zK99, zK100, zK199] at q27) | skip
      refine x_bipush (v := (-3)) dX12_mean_30 rfl ?_
      exact x_iret rfl rfl dX12_mean_32 ⟨_, rfl, by rw [F_mean, if_pos c, if_neg q27], _, _, _, W, J⟩
  · skip
    first | (simp only [cmp_lt, cmp_gt, cmp_eq, zN_cge, zN_cle, Decidable.not_not] at q12) | (simp (disch := omega) only [zN_le, zN_lt, zN_0, zN_1, nI_toInt, zN_eq, zN_eq0, b2_z, b2_nz, Decidable.not_not, Int.not_lt, Int.not_le, zK0, zK1, zK2, zK3, zK5, zK7, zK8, zK9, zK10, zK19, zK20, zK40, zK99, zK100, zK199] at q12) | skip
    refine x_bipush (v := (-2)) dX12_mean_15 rfl ?_
    exact x_iret rfl rfl dX12_mean_17 ⟨_, rfl, by rw [F_mean, if_neg (fun c => q12 (e2.mp c))], _, _, _, W, J⟩
end ZMl

