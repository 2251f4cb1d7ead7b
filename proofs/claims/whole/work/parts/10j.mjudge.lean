/-! the model's judge, perform, year -/
section ZMg
variable {g : zG} {d : Nat} {h0 h : zH} {s : Nat → Value} {M : Nat → Nat → Int32} {L : Nat → Nat → Int64} {dk : zDk} {st : zSt} {un : List zSt} {tp : List Nat} {tr : Nat → zTr} {pi : Nat → zPi} {fl : Nat × Nat}
theorem noT_0 {x : Int32} (h : noT tr x = 0) : oneOf x 4 ∧ ∃ q, tr (tn x) = some q := by
  unfold noT at h
  split at h
  · next q =>
    refine ⟨q, ?_⟩
    cases z : tr (tn x) with
    | none => rw [z] at h; exact absurd h (by decide)
    | some q => exact ⟨q, rfl⟩
  · exact absurd h (by decide)
theorem w_judge {x y : Int32} (I : MI h0 h dk st un tp tr pi fl) : Zm g (d + 6) 0 0 mX12_judge [.ref 59, .int x, .int y] h (rIp (fun r h' => r = F_judge dk st tr x y ∧ MI h0 h' dk st un tp tr pi fl)) := by
  obtain ⟨s, M, L, W, J⟩ := I
  obtain ⟨D, hn0, hn6, ho0, ho9, hng, hli, e0, e1, e2, m1, m2, m3, m4, m5, u1, u2, t1, t2, r1, hf⟩ := MJ.o J
  have e4 : oneOf y 4 ↔ 0 ≤ y.toInt ∧ y.toInt ≤ 3 := by
    unfold oneOf
    omega
  show Zw g (d + 6) 0 0 mX12_judge 0 [some (.ref 59), some (.int x), some (.int y), none, none, none, none] [] h _
  refine x_al0 rfl dX12_judge_0 ?_
  refine x_iconst (v := nI 0) dX12_judge_1 rfl ?_
  refine x_mpfJ W J fdX12_1 (by decide) rfl rfl zf_i dX12_judge_2 (fun h W J => ?_)
  refine x_il2 dX12_judge_5 ?_
  refine x_i2l (rfl) dX12_judge_6 ?_
  refine x_lconst (v := 0) dX12_judge_7 rfl ?_
  refine x_ldc2 kcX12_312 dX12_judge_8 ?_
  refine x_cs3I mX12_within_ok lkX12_157 (Nat.le_of_ble_eq_true rfl) (Nat.le_of_ble_eq_true rfl) dX12_judge_11 j_within ?_
  refine x_if_ne (tgt := 20) dX12_judge_14 rfl (fun q14 => ?_) (fun q14 => ?_)
  · skip
    first | (simp only [cmp_lt, cmp_gt, cmp_eq, zN_cge, zN_cle, Decidable.not_not] at q14) | (simp (disch := omega) only [zN_le, zN_lt, zN_0, zN_1, nI_toInt, zN_eq, zN_eq0, b2_z, b2_nz, Decidable.not_not, Int.not_lt, Int.not_le, zK0, zK1, zK2, zK3, zK5, zK7, zK8, zK9, zK10, zK19, zK20, zK40, zK99, zK100, zK199] at q14) | skip
    rw [← e4] at q14
    refine x_al0 rfl dX12_judge_20 ?_
    refine x_il1 dX12_judge_21 ?_
    refine x_cv1I mX12_noTray_ok lkX12_314 rfl (Nat.le_of_ble_eq_true rfl) (Nat.le_of_ble_eq_true rfl) dX12_judge_22 W.hM  (j_noTray W J) ?_
    refine x_is3 rfl dX12_judge_25 ?_
    refine x_il3 dX12_judge_26 ?_
    refine x_if_eq (tgt := 32) dX12_judge_27 rfl (fun q27 => ?_) (fun q27 => ?_)
    · skip
      obtain ⟨x4, q, hq0⟩ := noT_0 q27
      have o1 : st.1 < fct dk.1 ∧ st.2.1 < 10 := ⟨m4, m5⟩
      have eF : F_judge dk st tr x y = jdgQ dk st q.2 y := by rw [F_judge, if_pos ⟨x4, q14⟩, hq0]
      obtain ⟨k, hk, rfl⟩ := oneOf_ex x4
      rw [show tn (nI k) = k from nI_clamp (by omega)] at hq0
      have dle := deedL_le (dk := dk) q.2 st
      have l40 := (J.tray hk hq0).2.2.2.1
      refine x_al0 rfl dX12_judge_32 ?_
      refine x_cv0Vp mX12_stores_ok lkX12_275 rfl (Nat.le_of_ble_eq_true rfl) (Nat.le_of_ble_eq_true rfl) dX12_judge_33 W.hM  (j_stores W J) (fun h hq => ?_)
      obtain ⟨M, W, J, U, hw⟩ := hq
      obtain ⟨D, hn0, hn6, ho0, ho9, hng, hli, e0, e1, e2, m1, m2, m3, m4, m5, u1, u2, t1, t2, r1, hf⟩ := MJ.o J
      refine x_al0 rfl dX12_judge_36 ?_
      refine x_il1 dX12_judge_37 ?_
      refine x_cv1Ip mX12_tells_ok lkX12_317 rfl (Nat.le_of_ble_eq_true rfl) (Nat.le_of_ble_eq_true rfl) dX12_judge_38 W.hM  (j_tells W J hk hq0) (fun r h hq => ?_)
      obtain ⟨rfl, s, M, L, W, J, U2, tw⟩ := hq
      replace hw : Was M st := by unfold Was; rw [U2.2.1 69 (by decide)]; exact hw
      obtain ⟨D, hn0, hn6, ho0, ho9, hng, hli, e0, e1, e2, m1, m2, m3, m4, m5, u1, u2, t1, t2, r1, hf⟩ := MJ.o J
      refine x_is4 rfl dX12_judge_41 ?_
      refine x_al0 rfl dX12_judge_43 ?_
      refine x_gm fdX12_13 W.hM (by decide) W.hF.f1 dX12_judge_44 ?_
      refine x_bipush (v := nI 21) dX12_judge_47 rfl ?_
      refine x_mld (len := 2868) W rfl rfl (by decide) (by omega) (by first | assumption | rfl) dX12_judge_49 ?_
      refine x_is5 rfl dX12_judge_50 ?_
      refine x_al0 rfl dX12_judge_52 ?_
      refine x_cv0Ip mX12_letNow_ok lkX12_265 rfl (Nat.le_of_ble_eq_true rfl) (Nat.le_of_ble_eq_true rfl) dX12_judge_53 W.hM  (j_letNow W J) (fun r h hq => ?_)
      obtain ⟨rfl, s, M, L, W, J, U3⟩ := hq
      replace hw : Was M st := by unfold Was; rw [U3.2.1 69 (by decide)]; exact hw
      rw [← U3.1 24 (by decide)] at tw
      obtain ⟨D, hn0, hn6, ho0, ho9, hng, hli, e0, e1, e2, m1, m2, m3, m4, m5, u1, u2, t1, t2, r1, hf⟩ := MJ.o J
      refine x_is6 rfl dX12_judge_56 ?_
      refine x_al0 rfl dX12_judge_58 ?_
      refine x_cv0Vp mX12_isAgain_ok lkX12_320 rfl (Nat.le_of_ble_eq_true rfl) (Nat.le_of_ble_eq_true rfl) dX12_judge_59 W.hM  (j_isAgain W J hw o1) (fun h hq => ?_)
      obtain ⟨M, W, J, U4⟩ := hq
      refine x_il2 dX12_judge_62 ?_
      refine x_if_ne (tgt := 82) dX12_judge_63 rfl (fun q63 => ?_) (fun q63 => ?_)
      · skip
        first | (simp only [cmp_lt, cmp_gt, cmp_eq, zN_cge, zN_cle, Decidable.not_not] at q63) | (simp (disch := omega) only [zN_le, zN_lt, zN_0, zN_1, nI_toInt, zN_eq, zN_eq0, b2_z, b2_nz, Decidable.not_not, Int.not_lt, Int.not_le, zK0, zK1, zK2, zK3, zK5, zK7, zK8, zK9, zK10, zK19, zK20, zK40, zK99, zK100, zK199] at q63) | skip
        refine x_il2 dX12_judge_82 ?_
        refine x_iconst (v := nI 1) dX12_judge_83 rfl ?_
        refine x_icmp_ne (tgt := 94) dX12_judge_84 rfl (fun q84 => ?_) (fun q84 => ?_)
        · skip
          first | (simp only [cmp_lt, cmp_gt, cmp_eq, zN_cge, zN_cle, Decidable.not_not] at q84) | (simp (disch := omega) only [zN_le, zN_lt, zN_0, zN_1, nI_toInt, zN_eq, zN_eq0, b2_z, b2_nz, Decidable.not_not, Int.not_lt, Int.not_le, zK0, zK1, zK2, zK3, zK5, zK7, zK8, zK9, zK10, zK19, zK20, zK40, zK99, zK100, zK199] at q84) | skip
          refine x_il2 dX12_judge_94 ?_
          refine x_iconst (v := nI 2) dX12_judge_95 rfl ?_
          refine x_icmp_ne (tgt := 104) dX12_judge_96 rfl (fun q96 => ?_) (fun q96 => ?_)
          · skip
            first | (simp only [cmp_lt, cmp_gt, cmp_eq, zN_cge, zN_cle, Decidable.not_not] at q96) | (simp (disch := omega) only [zN_le, zN_lt, zN_0, zN_1, nI_toInt, zN_eq, zN_eq0, b2_z, b2_nz, Decidable.not_not, Int.not_lt, Int.not_le, zK0, zK1, zK2, zK3, zK5, zK7, zK8, zK9, zK10, zK19, zK20, zK40, zK99, zK100, zK199] at q96) | skip
            refine x_il6 dX12_judge_104 ?_
            exact x_iret rfl rfl dX12_judge_106 ⟨_, rfl, by rw [eF, jdgQ, if_neg q63, if_neg q84, if_neg q96], _, _, _, W, J⟩
          · skip
            first | (simp only [cmp_lt, cmp_gt, cmp_eq, zN_cge, zN_cle, Decidable.not_not] at q96) | (simp (disch := omega) only [zN_le, zN_lt, zN_0, zN_1, nI_toInt, zN_eq, zN_eq0, b2_z, b2_nz, Decidable.not_not, Int.not_lt, Int.not_le, zK0, zK1, zK2, zK3, zK5, zK7, zK8, zK9, zK10, zK19, zK20, zK40, zK99, zK100, zK199] at q96) | skip
            refine x_il5 dX12_judge_99 ?_
            refine x_goto (tgt := 106) dX12_judge_101 rfl ?_
            exact x_iret rfl rfl dX12_judge_106 ⟨_, rfl, by rw [eF, jdgQ, if_neg q63, if_neg q84, if_pos q96], _, _, _, W, J⟩
        · skip
          first | (simp only [cmp_lt, cmp_gt, cmp_eq, zN_cge, zN_cle, Decidable.not_not] at q84) | (simp (disch := omega) only [zN_le, zN_lt, zN_0, zN_1, nI_toInt, zN_eq, zN_eq0, b2_z, b2_nz, Decidable.not_not, Int.not_lt, Int.not_le, zK0, zK1, zK2, zK3, zK5, zK7, zK8, zK9, zK10, zK19, zK20, zK40, zK99, zK100, zK199] at q84) | skip
          refine x_al0 rfl dX12_judge_87 ?_
          refine x_gm fdX12_302 W.hM (by decide) (tw) dX12_judge_88 ?_
          refine x_goto (tgt := 106) dX12_judge_91 rfl ?_
          exact x_iret rfl rfl dX12_judge_106 ⟨_, rfl, by rw [eF, jdgQ, if_neg q63, if_pos q84], _, _, _, W, J⟩
      · skip
        first | (simp only [cmp_lt, cmp_gt, cmp_eq, zN_cge, zN_cle, Decidable.not_not] at q63) | (simp (disch := omega) only [zN_le, zN_lt, zN_0, zN_1, nI_toInt, zN_eq, zN_eq0, b2_z, b2_nz, Decidable.not_not, Int.not_lt, Int.not_le, zK0, zK1, zK2, zK3, zK5, zK7, zK8, zK9, zK10, zK19, zK20, zK40, zK99, zK100, zK199] at q63) | skip
        refine x_al0 rfl dX12_judge_66 ?_
        refine x_gm fdX12_302 W.hM (by decide) (tw) dX12_judge_67 ?_
        refine x_if_ne (tgt := 77) dX12_judge_70 rfl (fun q70 => ?_) (fun q70 => ?_)
        · skip
          have lt : (deedL dk q.2 st).1 < q.2.length := Decidable.by_contra (fun z => q70 (by rw [if_neg z]))
          refine x_il4 dX12_judge_77 ?_
          refine x_goto (tgt := 106) dX12_judge_79 rfl ?_
          exact x_iret rfl rfl dX12_judge_106 ⟨_, rfl, by rw [eF, jdgQ, if_pos q63, if_pos lt], _, _, _, W, J⟩
        · skip
          have lt : ¬ (deedL dk q.2 st).1 < q.2.length := fun z => by rw [if_pos z] at q70; exact absurd q70 (by decide)
          refine x_iconst (v := (-1)) dX12_judge_73 rfl ?_
          refine x_goto (tgt := 106) dX12_judge_74 rfl ?_
          exact x_iret rfl rfl dX12_judge_106 ⟨_, rfl, by rw [eF, jdgQ, if_pos q63, if_neg lt], _, _, _, W, J⟩
    · skip
      refine x_il3 dX12_judge_30 ?_
      refine x_iret rfl rfl dX12_judge_31 ⟨_, rfl, ?_, _, _, _, W, J⟩
      unfold noT at q27 ⊢
      unfold F_judge
      by_cases z : oneOf x 4
      · rw [if_pos z] at q27 ⊢
        rw [if_pos (show oneOf x 4 ∧ oneOf y 4 from ⟨z, q14⟩)]
        cases z2 : tr (tn x) with
        | none => rfl
        | some q => rw [z2] at q27; exact absurd rfl q27
      · rw [if_neg z, if_neg (fun q => z q.1)]
  · skip
    first | (simp only [cmp_lt, cmp_gt, cmp_eq, zN_cge, zN_cle, Decidable.not_not] at q14) | (simp (disch := omega) only [zN_le, zN_lt, zN_0, zN_1, nI_toInt, zN_eq, zN_eq0, b2_z, b2_nz, Decidable.not_not, Int.not_lt, Int.not_le, zK0, zK1, zK2, zK3, zK5, zK7, zK8, zK9, zK10, zK19, zK20, zK40, zK99, zK100, zK199] at q14) | skip
    refine x_bipush (v := (-2)) dX12_judge_17 rfl ?_
    exact x_iret rfl rfl dX12_judge_19 ⟨_, rfl, by rw [F_judge, if_neg (fun z => q14 (e4.mp z.2))], _, _, _, W, J⟩
theorem w_perform {x : Int32} (I : MI h0 h dk st un tp tr pi fl) : Zm g (d + 6) 0 0 mX12_perform [.ref 59, .int x] h (rIp (fun r h' => r = (D_perform dk st un tr x).1 ∧ MI h0 h' dk (D_perform dk st un tr x).2.1 (D_perform dk st un tr x).2.2 tp tr pi fl)) := by
  obtain ⟨s, M, L, W, J⟩ := I
  obtain ⟨D, hn0, hn6, ho0, ho9, hng, hli, e0, e1, e2, m1, m2, m3, m4, m5, u1, u2, t1, t2, r1, hf⟩ := MJ.o J
  show Zw g (d + 6) 0 0 mX12_perform 0 [some (.ref 59), some (.int x), none, none] [] h _
  refine x_al0 rfl dX12_perform_0 ?_
  refine x_iconst (v := nI 0) dX12_perform_1 rfl ?_
  refine x_mpfJ W J fdX12_1 (by decide) rfl rfl zf_i dX12_perform_2 (fun h W J => ?_)
  refine x_al0 rfl dX12_perform_5 ?_
  refine x_il1 dX12_perform_6 ?_
  refine x_cv1I mX12_noTray_ok lkX12_314 rfl (Nat.le_of_ble_eq_true rfl) (Nat.le_of_ble_eq_true rfl) dX12_perform_7 W.hM  (j_noTray W J) ?_
  refine x_is2 rfl dX12_perform_10 ?_
  refine x_il2 dX12_perform_11 ?_
  refine x_if_eq (tgt := 17) dX12_perform_12 rfl (fun q12 => ?_) (fun q12 => ?_)
  · skip
    obtain ⟨x4, q, hq0⟩ := noT_0 q12
    have eD : D_perform dk st un tr x = prfQ dk st un q.2 := by rw [D_perform, if_pos x4, hq0]
    rw [eD]
    have o1 : st.1 < fct dk.1 ∧ st.2.1 < 10 := ⟨m4, m5⟩
    obtain ⟨k, hk, rfl⟩ := oneOf_ex x4
    rw [show tn (nI k) = k from nI_clamp (by omega)] at hq0
    have dle := deedL_le (dk := dk) q.2 st
    have l40 := (J.tray hk hq0).2.2.2.1
    refine x_al0 rfl dX12_perform_17 ?_
    refine x_cv0Vp mX12_stores_ok lkX12_275 rfl (Nat.le_of_ble_eq_true rfl) (Nat.le_of_ble_eq_true rfl) dX12_perform_18 W.hM  (j_stores W J) (fun h hq => ?_)
    obtain ⟨M, W, J, U, hw⟩ := hq
    obtain ⟨D, hn0, hn6, ho0, ho9, hng, hli, e0, e1, e2, m1, m2, m3, m4, m5, u1, u2, t1, t2, r1, hf⟩ := MJ.o J
    refine x_al0 rfl dX12_perform_21 ?_
    refine x_il1 dX12_perform_22 ?_
    refine x_cv1Ip mX12_tells_ok lkX12_317 rfl (Nat.le_of_ble_eq_true rfl) (Nat.le_of_ble_eq_true rfl) dX12_perform_23 W.hM  (j_tells W J hk hq0) (fun r h hq => ?_)
    obtain ⟨rfl, s, M, L, W, J, U2, tw⟩ := hq
    replace hw : Was M st := by unfold Was; rw [U2.2.1 69 (by decide)]; exact hw
    refine x_is3 rfl dX12_perform_26 ?_
    refine x_il3 dX12_perform_27 ?_
    refine x_if_le (tgt := 35) dX12_perform_28 rfl (fun q28 => ?_) (fun q28 => ?_)
    · skip
      first | (simp only [cmp_lt, cmp_gt, cmp_eq, zN_cge, zN_cle, Decidable.not_not] at q28) | (simp (disch := omega) only [zN_le, zN_lt, zN_0, zN_1, nI_toInt, zN_eq, zN_eq0, b2_z, b2_nz, Decidable.not_not, Int.not_lt, Int.not_le, zK0, zK1, zK2, zK3, zK5, zK7, zK8, zK9, zK10, zK19, zK20, zK40, zK99, zK100, zK199] at q28) | skip
      refine x_il3 dX12_perform_35 ?_
      exact x_iret rfl rfl dX12_perform_36 ⟨_, rfl, rfl, by rw [show (prfQ dk st un q.2).2.2 = un from if_pos (by omega)]; exact ⟨_, _, _, W, J⟩⟩
    · skip
      first | (simp only [cmp_lt, cmp_gt, cmp_eq, zN_cge, zN_cle, Decidable.not_not] at q28) | (simp (disch := omega) only [zN_le, zN_lt, zN_0, zN_1, nI_toInt, zN_eq, zN_eq0, b2_z, b2_nz, Decidable.not_not, Int.not_lt, Int.not_le, zK0, zK1, zK2, zK3, zK5, zK7, zK8, zK9, zK10, zK19, zK20, zK40, zK99, zK100, zK199] at q28) | skip
      refine x_al0 rfl dX12_perform_31 ?_
      refine x_cv0Vp mX12_notes_ok lkX12_281 rfl (Nat.le_of_ble_eq_true rfl) (Nat.le_of_ble_eq_true rfl) dX12_perform_32 W.hM  (j_notes W J hw (by first | assumption | omega)) (fun h hq => ?_)
      obtain ⟨M, W, J, U⟩ := hq
      obtain ⟨D, hn0, hn6, ho0, ho9, hng, hli, e0, e1, e2, m1, m2, m3, m4, m5, u1, u2, t1, t2, r1, hf⟩ := MJ.o J
      refine x_il3 dX12_perform_35 ?_
      exact x_iret rfl rfl dX12_perform_36 ⟨_, rfl, rfl, by rw [show (prfQ dk st un q.2).2.2 = pushU un st from if_neg (by omega)]; exact ⟨_, _, _, W, J⟩⟩
  · skip
    have eD : D_perform dk st un tr x = (noT tr x, st, un) := by
      unfold noT at q12 ⊢
      unfold D_perform
      by_cases z : oneOf x 4
      · rw [if_pos z] at q12 ⊢
        rw [if_pos z]
        cases z2 : tr (tn x) with
        | none => rfl
        | some q => rw [z2] at q12; exact absurd rfl q12
      · rw [if_neg z, if_neg z]
    refine x_il2 dX12_perform_15 ?_
    exact x_iret rfl rfl dX12_perform_16 ⟨_, rfl, by rw [eD], by rw [eD]; exact ⟨_, _, _, W, J⟩⟩
theorem drN_e (x : Int32) : (x.toUInt32 >>> ((nI 16).toUInt32 &&& Int32.toUInt32 31)).toInt32 = nI (drN x) := by
  have h1 := pk_ushr x (nI 16) 16 (by decide)
  have h2 : drN x < 2 ^ 32 := by
    unfold drN
    have := x.toBitVec.isLt
    omega
  apply Int32.toBitVec_inj.mp
  apply BitVec.eq_of_toNat_eq
  rw [h1, pk_tn h2]
  rfl
theorem drN_lt (x : Int32) : drN x < 65536 := by
  unfold drN
  have := x.toBitVec.isLt
  omega
theorem j_draw {x : Int32} {b : Nat} (W : MW h0 h s M L) (J : MJ s M L dk st un tp tr pi fl) (hx : s 25 = .int x) (h1 : 0 < b) (h2 : b < 100) : Zm g d 0 0 mX12_draw [.ref 59, .int (nI b)] h (rIp (fun r h' => r = nI (drN (dr1 x) % b) ∧ ∃ s', MW h0 h' s' M L ∧ MJ s' M L dk st un tp tr pi fl ∧ Un [25] [] [] s s' M M L L ∧ s' 25 = .int (dr1 x))) := by
  have := drN_lt (dr1 x)
  show Zw g d 0 0 mX12_draw 0 [some (.ref 59), some (.int (nI b))] [] h _
  refine x_al0 rfl dX12_draw_0 ?_
  refine x_ldcw kcX12_323 dX12_draw_1 ?_
  refine x_al0 rfl dX12_draw_4 ?_
  refine x_gm fdX12_324 W.hM (by decide) (by first | assumption | rfl) dX12_draw_5 ?_
  refine x_imul (rfl) dX12_draw_8 ?_
  refine x_sipush (v := nI 12345) dX12_draw_9 (by decide) ?_
  refine x_iadd (dr1_e x) dX12_draw_12 ?_
  refine x_mpfJ W J fdX12_324 (by decide) rfl rfl zf_i dX12_draw_13 (fun h W J => ?_)
  refine x_al0 rfl dX12_draw_16 ?_
  refine x_gm fdX12_324 W.hM (by decide) (by first | assumption | rfl) dX12_draw_17 ?_
  refine x_bipush (v := nI 16) dX12_draw_20 rfl ?_
  refine x_iushr (drN_e (dr1 x)) dX12_draw_22 ?_
  refine x_il1 dX12_draw_23 ?_
  refine x_irem (fun z => by have := (nI_eq (a := b) (b := 0) (by omega) (by decide)).mp z; omega) (pk_rem (by omega) h1 (by omega)) dX12_draw_24 ?_
  exact x_iret rfl rfl dX12_draw_25 ⟨_, rfl, rfl, _, W, J, Un.rf.fs (by simp), rfl⟩
theorem j_drawn {x : Int32} (W : MW h0 h s M L) (J : MJ s M L dk st un tp tr pi fl) (hx : s 25 = .int x) : Zm g (d + 1) 0 0 mX12_drawn [.ref 59] h (rIp (fun r h' => r = nI (drD x).1 ∧ ∃ s', MW h0 h' s' M L ∧ MJ s' M L dk st un tp tr pi fl ∧ Un [25] [] [] s s' M M L L ∧ s' 25 = .int (drD x).2)) := by
  show Zw g (d + 1) 0 0 mX12_drawn 0 [some (.ref 59), none, none] [] h _
  refine x_al0 rfl dX12_drawn_0 ?_
  refine x_iconst (v := nI 4) dX12_drawn_1 rfl ?_
  refine x_cv1Ip mX12_draw_ok lkX12_327 rfl (Nat.le_of_ble_eq_true rfl) (Nat.le_of_ble_eq_true rfl) dX12_drawn_2 W.hM  (j_draw W J hx (b := 4) (by decide) (by decide)) (fun r h hq => ?_)
  obtain ⟨rfl, s, W, J, U, hx⟩ := hq
  refine x_is1 rfl dX12_drawn_5 ?_
  refine x_il1 dX12_drawn_6 ?_
  refine x_iconst (v := nI 3) dX12_drawn_7 rfl ?_
  have m4 : drN (dr1 x) % 4 < 4 := Nat.mod_lt _ (by decide)
  refine x_icmp_ge (tgt := 30) dX12_drawn_8 rfl (fun q8 => ?_) (fun q8 => ?_)
  · skip
    first | (simp only [cmp_lt, cmp_gt, cmp_eq, zN_cge, zN_cle, Decidable.not_not] at q8) | (simp (disch := omega) only [zN_le, zN_lt, zN_0, zN_1, nI_toInt, zN_eq, zN_eq0, b2_z, b2_nz, Decidable.not_not, Int.not_lt, Int.not_le, zK0, zK1, zK2, zK3, zK5, zK7, zK8, zK9, zK10, zK19, zK20, zK40, zK99, zK100, zK199] at q8) | skip
    refine x_al0 rfl dX12_drawn_30 ?_
    refine x_bipush (v := nI 6) dX12_drawn_31 rfl ?_
    refine x_cv1Ip mX12_draw_ok lkX12_327 rfl (Nat.le_of_ble_eq_true rfl) (Nat.le_of_ble_eq_true rfl) dX12_drawn_33 W.hM  (j_draw W J hx (b := 6) (by decide) (by decide)) (fun r h hq => ?_)
    obtain ⟨rfl, s, W, J, U2, hx⟩ := hq
    refine x_is2 rfl dX12_drawn_36 ?_
    refine x_bipush (v := nI 100) dX12_drawn_37 rfl ?_
    refine x_bipush (v := nI 10) dX12_drawn_39 rfl ?_
    refine x_il2 dX12_drawn_41 ?_
    first | refine x_imul (pk_mul _ _) dX12_drawn_42 ?_ | refine x_imul rfl dX12_drawn_42 ?_
    first | refine x_iadd (nI_add _ _) dX12_drawn_43 ?_ | refine x_iadd rfl dX12_drawn_43 ?_
    refine x_al0 rfl dX12_drawn_44 ?_
    refine x_bipush (v := nI 6) dX12_drawn_45 rfl ?_
    refine x_cv1Ip mX12_draw_ok lkX12_327 rfl (Nat.le_of_ble_eq_true rfl) (Nat.le_of_ble_eq_true rfl) dX12_drawn_47 W.hM  (j_draw W J hx (b := 6) (by decide) (by decide)) (fun r h hq => ?_)
    obtain ⟨rfl, s, W, J, U3, hx⟩ := hq
    first | refine x_iadd (nI_add _ _) dX12_drawn_50 ?_ | refine x_iadd rfl dX12_drawn_50 ?_
    rw [drD_3 (by omega)]
    exact x_iret rfl rfl dX12_drawn_51 ⟨_, rfl, rfl, _, W, J, (U.tr U2).tr U3, hx⟩
  · skip
    first | (simp only [cmp_lt, cmp_gt, cmp_eq, zN_cge, zN_cle, Decidable.not_not] at q8) | (simp (disch := omega) only [zN_le, zN_lt, zN_0, zN_1, nI_toInt, zN_eq, zN_eq0, b2_z, b2_nz, Decidable.not_not, Int.not_lt, Int.not_le, zK0, zK1, zK2, zK3, zK5, zK7, zK8, zK9, zK10, zK19, zK20, zK40, zK99, zK100, zK199] at q8) | skip
    refine x_il1 dX12_drawn_11 ?_
    refine x_iconst (v := nI 2) dX12_drawn_12 rfl ?_
    refine x_icmp_ge (tgt := 20) dX12_drawn_13 rfl (fun q13 => ?_) (fun q13 => ?_)
    · skip
      first | (simp only [cmp_lt, cmp_gt, cmp_eq, zN_cge, zN_cle, Decidable.not_not] at q13) | (simp (disch := omega) only [zN_le, zN_lt, zN_0, zN_1, nI_toInt, zN_eq, zN_eq0, b2_z, b2_nz, Decidable.not_not, Int.not_lt, Int.not_le, zK0, zK1, zK2, zK3, zK5, zK7, zK8, zK9, zK10, zK19, zK20, zK40, zK99, zK100, zK199] at q13) | skip
      refine x_bipush (v := nI 10) dX12_drawn_20 rfl ?_
      refine x_al0 rfl dX12_drawn_22 ?_
      refine x_bipush (v := nI 10) dX12_drawn_23 rfl ?_
      refine x_cv1Ip mX12_draw_ok lkX12_327 rfl (Nat.le_of_ble_eq_true rfl) (Nat.le_of_ble_eq_true rfl) dX12_drawn_25 W.hM  (j_draw W J hx (b := 10) (by decide) (by decide)) (fun r h hq => ?_)
      obtain ⟨rfl, s, W, J, U2, hx⟩ := hq
      first | refine x_iadd (nI_add _ _) dX12_drawn_28 ?_ | refine x_iadd rfl dX12_drawn_28 ?_
      rw [drD_2 (by omega)]
      exact x_iret rfl rfl dX12_drawn_29 ⟨_, rfl, rfl, _, W, J, U.tr U2, hx⟩
    · skip
      first | (simp only [cmp_lt, cmp_gt, cmp_eq, zN_cge, zN_cle, Decidable.not_not] at q13) | (simp (disch := omega) only [zN_le, zN_lt, zN_0, zN_1, nI_toInt, zN_eq, zN_eq0, b2_z, b2_nz, Decidable.not_not, Int.not_lt, Int.not_le, zK0, zK1, zK2, zK3, zK5, zK7, zK8, zK9, zK10, zK19, zK20, zK40, zK99, zK100, zK199] at q13) | skip
      refine x_iconst (v := nI 0) dX12_drawn_16 rfl ?_
      refine x_goto (tgt := 29) dX12_drawn_17 rfl ?_
      rw [drD_0 (by omega)]
      exact x_iret rfl rfl dX12_drawn_29 ⟨_, rfl, rfl, _, W, J, U, hx⟩
theorem w_year {x y : Int32} (I : MI h0 h dk st un tp tr pi fl) : Zm g (d + 6) 0 0 mX12_year [.ref 59, .int x, .int y] h (rIp (fun r h' => r = (D_year dk st un x y).1 ∧ MI h0 h' dk (D_year dk st un x y).2.1 (D_year dk st un x y).2.2 tp tr pi fl)) := by
  obtain ⟨s, M, L, W, J⟩ := I
  obtain ⟨D, hn0, hn6, ho0, ho9, hng, hli, e0, e1, e2, m1, m2, m3, m4, m5, u1, u2, t1, t2, r1, hf⟩ := MJ.o J
  show Zw g (d + 6) 0 0 mX12_year 0 [some (.ref 59), some (.int x), some (.int y), none, none, none] [] h _
  refine x_al0 rfl dX12_year_0 ?_
  refine x_iconst (v := nI 0) dX12_year_1 rfl ?_
  refine x_mpfJ W J fdX12_1 (by decide) rfl rfl zf_i dX12_year_2 (fun h W J => ?_)
  refine x_il2 dX12_year_5 ?_
  refine x_i2l (rfl) dX12_year_6 ?_
  refine x_lconst (v := 1) dX12_year_7 rfl ?_
  refine x_ldc2 kcX12_330 dX12_year_8 ?_
  refine x_cs3I mX12_within_ok lkX12_157 (Nat.le_of_ble_eq_true rfl) (Nat.le_of_ble_eq_true rfl) dX12_year_11 j_within ?_
  refine x_if_ne (tgt := 20) dX12_year_14 rfl (fun q14 => ?_) (fun q14 => ?_)
  · skip
    first | (simp only [cmp_lt, cmp_gt, cmp_eq, zN_cge, zN_cle, Decidable.not_not] at q14) | (simp (disch := omega) only [zN_le, zN_lt, zN_0, zN_1, nI_toInt, zN_eq, zN_eq0, b2_z, b2_nz, Decidable.not_not, Int.not_lt, Int.not_le, zK0, zK1, zK2, zK3, zK5, zK7, zK8, zK9, zK10, zK19, zK20, zK40, zK99, zK100, zK199] at q14) | skip
    unfold D_year
    rw [if_pos q14]
    obtain ⟨k, hk1, hk2, rfl⟩ := rng_ex (a := 1) (b := 40) q14 (by decide)
    rw [show tn (nI k) = k from nI_clamp (by omega)]
    refine x_al0 rfl dX12_year_20 ?_
    refine x_cv0Vp mX12_stores_ok lkX12_275 rfl (Nat.le_of_ble_eq_true rfl) (Nat.le_of_ble_eq_true rfl) dX12_year_21 W.hM  (j_stores W J) (fun h hq => ?_)
    obtain ⟨M, W, J, U, hw⟩ := hq
    obtain ⟨D, hn0, hn6, ho0, ho9, hng, hli, e0, e1, e2, m1, m2, m3, m4, m5, u1, u2, t1, t2, r1, hf⟩ := MJ.o J
    have o1 : st.1 < fct dk.1 ∧ st.2.1 < 10 := ⟨m4, m5⟩
    refine x_al0 rfl dX12_year_24 ?_
    refine x_il1 dX12_year_25 ?_
    refine x_mpfJ W J fdX12_324 (by decide) rfl rfl zf_i dX12_year_26 (fun h W J => ?_)
    refine x_iconst (v := nI 0) dX12_year_29 rfl ?_
    refine x_is3 rfl dX12_year_30 ?_
    refine x_iconst (v := nI 0) dX12_year_31 rfl ?_
    refine x_is4 rfl dX12_year_32 ?_
    refine x_wh (fun (a : Nat × Nat × Option Value) => [some (.ref 59), some (.int x), some (.int (nI k)), some (.int (nI a.2.1)), some (.int (nI a.1)), a.2.2]) (fun a h => a.1 ≤ k ∧ a.2.1 ≤ a.1 ∧ ∃ s M L st' x', MW h0 h s M L ∧ MJ s M L dk st' un tp tr pi fl ∧ Was M st ∧ s 25 = .int x' ∧ yrL dk k x st = (a.2.1 + (yrL dk (k - a.1) x' st').1, (yrL dk (k - a.1) x' st').2)) (fun a => k - a.1) (0, 0, none) ⟨Nat.zero_le _, Nat.le_refl _, _, _, _, st, x, W, J, hw, rfl, by rw [Nat.sub_zero, Nat.zero_add]⟩ (fun a h hI ih => ?_)
    obtain ⟨i, n, lc⟩ := a
    obtain ⟨hi, hni, s, M, L, st', x', W, J, hw, hx, hE⟩ := hI
    simp only at hi hni hE
    dsimp only
    obtain ⟨D, hn0, hn6, ho0, ho9, hng, hli, e0, e1, e2, m1, m2, m3, m4, m5, u1, u2, t1, t2, r1, hf⟩ := MJ.o J
    refine x_il4 dX12_year_34 ?_
    refine x_il2 dX12_year_36 ?_
    refine x_icmp_ge (tgt := 74) dX12_year_37 rfl (fun q37 => ?_) (fun q37 => ?_)
    · skip
      first | (simp only [cmp_lt, cmp_gt, cmp_eq, zN_cge, zN_cle, Decidable.not_not] at q37) | (simp (disch := omega) only [zN_le, zN_lt, zN_0, zN_1, nI_toInt, zN_eq, zN_eq0, b2_z, b2_nz, Decidable.not_not, Int.not_lt, Int.not_le, zK0, zK1, zK2, zK3, zK5, zK7, zK8, zK9, zK10, zK19, zK20, zK40, zK99, zK100, zK199] at q37) | skip
      have : i = k := by omega
      subst this
      simp only [Nat.sub_self, yrL, Nat.add_zero] at hE
      rw [hE]
      refine x_il3 dX12_year_74 ?_
      refine x_if_le (tgt := 82) dX12_year_75 rfl (fun q75 => ?_) (fun q75 => ?_)
      · skip
        first | (simp only [cmp_lt, cmp_gt, cmp_eq, zN_cge, zN_cle, Decidable.not_not] at q75) | (simp (disch := omega) only [zN_le, zN_lt, zN_0, zN_1, nI_toInt, zN_eq, zN_eq0, b2_z, b2_nz, Decidable.not_not, Int.not_lt, Int.not_le, zK0, zK1, zK2, zK3, zK5, zK7, zK8, zK9, zK10, zK19, zK20, zK40, zK99, zK100, zK199] at q75) | skip
        refine x_il3 dX12_year_82 ?_
        exact x_iret rfl rfl dX12_year_83 ⟨_, rfl, rfl, by simp only; rw [if_pos (by omega)]; exact ⟨_, _, _, W, J⟩⟩
      · skip
        first | (simp only [cmp_lt, cmp_gt, cmp_eq, zN_cge, zN_cle, Decidable.not_not] at q75) | (simp (disch := omega) only [zN_le, zN_lt, zN_0, zN_1, nI_toInt, zN_eq, zN_eq0, b2_z, b2_nz, Decidable.not_not, Int.not_lt, Int.not_le, zK0, zK1, zK2, zK3, zK5, zK7, zK8, zK9, zK10, zK19, zK20, zK40, zK99, zK100, zK199] at q75) | skip
        refine x_al0 rfl dX12_year_78 ?_
        refine x_cv0Vp mX12_notes_ok lkX12_281 rfl (Nat.le_of_ble_eq_true rfl) (Nat.le_of_ble_eq_true rfl) dX12_year_79 W.hM  (j_notes W J hw (by first | assumption | omega)) (fun h hq => ?_)
        obtain ⟨M, W, J, U⟩ := hq
        obtain ⟨D, hn0, hn6, ho0, ho9, hng, hli, e0, e1, e2, m1, m2, m3, m4, m5, u1, u2, t1, t2, r1, hf⟩ := MJ.o J
        refine x_il3 dX12_year_82 ?_
        exact x_iret rfl rfl dX12_year_83 ⟨_, rfl, rfl, by simp only; rw [if_neg (by omega)]; exact ⟨_, _, _, W, J⟩⟩
    · skip
      first | (simp only [cmp_lt, cmp_gt, cmp_eq, zN_cge, zN_cle, Decidable.not_not] at q37) | (simp (disch := omega) only [zN_le, zN_lt, zN_0, zN_1, nI_toInt, zN_eq, zN_eq0, b2_z, b2_nz, Decidable.not_not, Int.not_lt, Int.not_le, zK0, zK1, zK2, zK3, zK5, zK7, zK8, zK9, zK10, zK19, zK20, zK40, zK99, zK100, zK199] at q37) | skip
      have hk' : k - i = k - (i + 1) + 1 := by omega
      rw [hk'] at hE
      refine x_al0 rfl dX12_year_40 ?_
      refine x_cv0Ip mX12_drawn_ok lkX12_332 rfl (Nat.le_of_ble_eq_true rfl) (Nat.le_of_ble_eq_true rfl) dX12_year_41 W.hM  (j_drawn W J hx) (fun r h hq => ?_)
      obtain ⟨rfl, s, W, J, U, hx⟩ := hq
      have lt := drD_lt (x := x')
      refine x_is5 rfl dX12_year_44 ?_
      refine x_al0 rfl dX12_year_46 ?_
      refine x_il5 dX12_year_47 ?_
      refine x_i2l (nI_l (by omega)) dX12_year_49 ?_
      refine x_cv1I mX12_whyNot_ok lkX12_305 rfl (Nat.le_of_ble_eq_true rfl) (Nat.le_of_ble_eq_true rfl) dX12_year_50 W.hM  (j_whyNot W J) ?_
      rw [deed1_k lt]
      refine x_if_eq (tgt := 59) dX12_year_53 rfl (fun q53 => ?_) (fun q53 => ?_)
      · skip
        obtain ⟨st2, yes⟩ : ∃ st2, deedN dk st' (drD x').1 = some st2 := by cases z : deedN dk st' (drD x').1; rw [z] at q53; exact absurd q53 (by decide); exact ⟨_, rfl⟩
        rw [show yrL dk (k - (i + 1) + 1) x' st' = ((yrL dk (k - (i + 1)) (drD x').2 st2).1 + 1, (yrL dk (k - (i + 1)) (drD x').2 st2).2) by rw [yrL, yes]] at hE
        refine x_al0 rfl dX12_year_59 ?_
        refine x_il5 dX12_year_60 ?_
        refine x_cv1Vp mX12_does_ok lkX12_309 rfl (Nat.le_of_ble_eq_true rfl) (Nat.le_of_ble_eq_true rfl) dX12_year_62 W.hM  (j_does W J yes lt) (fun h hq => ?_)
        obtain ⟨s2, M2, L2, W, J, U2⟩ := hq
        first | refine x_ii3 rfl (nI_1 _) dX12_year_65 ?_ | refine x_ii3 rfl rfl dX12_year_65 ?_
        refine x_ii4 rfl (nI_1 _) dX12_year_68 ?_
        refine x_goto (tgt := 34) dX12_year_71 rfl ?_
        refine ih (i + 1, n + 1, _) _ (by simp only; omega) ⟨by simp only; omega, by simp only; omega, _, _, _, _, _, W, J, by unfold Was; rw [U2.2.1 69 (by decide)]; exact hw, by rw [U2.1 25 (by simp)]; exact hx, by rw [hE]; simp only [Prod.mk.injEq, and_true]; omega⟩
      · skip
        have no : deedN dk st' (drD x').1 = none := by cases z : deedN dk st' (drD x').1; rfl; rw [z] at q53; exact absurd rfl q53
        rw [show yrL dk (k - (i + 1) + 1) x' st' = yrL dk (k - (i + 1)) (drD x').2 st' by rw [yrL, no]] at hE
        refine x_goto (tgt := 68) dX12_year_56 rfl ?_
        refine x_ii4 rfl (nI_1 _) dX12_year_68 ?_
        refine x_goto (tgt := 34) dX12_year_71 rfl ?_
        refine ih (i + 1, n, _) _ (by simp only; omega) ⟨by simp only; omega, by simp only; omega, _, _, _, _, _, W, J, hw, hx, hE⟩
  · skip
    first | (simp only [cmp_lt, cmp_gt, cmp_eq, zN_cge, zN_cle, Decidable.not_not] at q14) | (simp (disch := omega) only [zN_le, zN_lt, zN_0, zN_1, nI_toInt, zN_eq, zN_eq0, b2_z, b2_nz, Decidable.not_not, Int.not_lt, Int.not_le, zK0, zK1, zK2, zK3, zK5, zK7, zK8, zK9, zK10, zK19, zK20, zK40, zK99, zK100, zK199] at q14) | skip
    refine x_bipush (v := (-3)) dX12_year_17 rfl ?_
    exact x_iret rfl rfl dX12_year_19 ⟨_, rfl, by rw [D_year, if_neg q14], by rw [D_year, if_neg q14]; exact ⟨_, _, _, W, J⟩⟩
end ZMg

