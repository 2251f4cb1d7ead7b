/-! the model's visit, opened, letOff -/
section ZMv
variable {g : zG} {d : Nat} {h0 h : zH} {s : Nat → Value} {M : Nat → Nat → Int32} {L : Nat → Nat → Int64} {dk : zDk} {st : zSt} {un : List zSt} {tp : List Nat} {tr : Nat → zTr} {pi : Nat → zPi} {fl : Nat × Nat}
theorem w_visit {x y : Int32} (I : MI h0 h dk st un tp tr pi fl) : Zm g (d + 5) 0 0 mX12_visit [.ref 59, .int x, .int y] h (rIp (fun r h' => r = F_visit dk st x y ∧ MI h0 h' dk st un tp tr pi fl)) := by
  obtain ⟨s, M, L, W, J⟩ := I
  obtain ⟨D, hn0, hn6, ho0, ho9, hng, hli, e0, e1, e2, m1, m2, m3, m4, m5, u1, u2, t1, t2, r1, hf⟩ := MJ.o J
  show Zw g (d + 5) 0 0 mX12_visit 0 [some (.ref 59), some (.int x), some (.int y)] [] h _
  have e2 : oneOf y 2 ↔ 0 ≤ y.toInt ∧ y.toInt ≤ 1 := by
    unfold oneOf
    omega
  refine x_al0 rfl dX12_visit_0 ?_
  refine x_iconst (v := nI 0) dX12_visit_1 rfl ?_
  refine x_mpfJ W J fdX12_1 (by decide) rfl rfl zf_i dX12_visit_2 (fun h W J => ?_)
  refine x_al0 rfl dX12_visit_5 ?_
  refine x_il1 dX12_visit_6 ?_
  refine x_i2l (rfl) dX12_visit_7 ?_
  refine x_cv1I mX12_isDrawer_ok lkX12_261 rfl (Nat.le_of_ble_eq_true rfl) (Nat.le_of_ble_eq_true rfl) dX12_visit_8 W.hM  (j_isDrawer W J) ?_
  refine x_if_eq (tgt := 24) dX12_visit_11 rfl (fun q11 => ?_) (fun q11 => ?_)
  · skip
    first | (simp only [cmp_lt, cmp_gt, cmp_eq, zN_cge, zN_cle, Decidable.not_not] at q11) | (simp (disch := omega) only [zN_le, zN_lt, zN_0, zN_1, nI_toInt, zN_eq, zN_eq0, b2_z, b2_nz, Decidable.not_not, Int.not_lt, Int.not_le, zK0, zK1, zK2, zK3, zK5, zK7, zK8, zK9, zK10, zK19, zK20, zK40, zK99, zK100, zK199] at q11) | skip
    refine x_bipush (v := (-2)) dX12_visit_24 rfl ?_
    refine x_iret rfl rfl dX12_visit_26 ⟨_, rfl, ?_, _, _, _, W, J⟩
    rw [F_visit, if_neg (fun z => q11 z.1)]
    all_goals rfl
  · skip
    first | (simp only [cmp_lt, cmp_gt, cmp_eq, zN_cge, zN_cle, Decidable.not_not] at q11) | (simp (disch := omega) only [zN_le, zN_lt, zN_0, zN_1, nI_toInt, zN_eq, zN_eq0, b2_z, b2_nz, Decidable.not_not, Int.not_lt, Int.not_le, zK0, zK1, zK2, zK3, zK5, zK7, zK8, zK9, zK10, zK19, zK20, zK40, zK99, zK100, zK199] at q11) | skip
    refine x_il2 dX12_visit_14 ?_
    refine x_i2l (rfl) dX12_visit_15 ?_
    refine x_lconst (v := 0) dX12_visit_16 rfl ?_
    refine x_lconst (v := 1) dX12_visit_17 rfl ?_
    refine x_cs3I mX12_within_ok lkX12_157 (Nat.le_of_ble_eq_true rfl) (Nat.le_of_ble_eq_true rfl) dX12_visit_18 j_within ?_
    refine x_if_ne (tgt := 27) dX12_visit_21 rfl (fun q21 => ?_) (fun q21 => ?_)
    · skip
      first | (simp only [cmp_lt, cmp_gt, cmp_eq, zN_cge, zN_cle, Decidable.not_not] at q21) | (simp (disch := omega) only [zN_le, zN_lt, zN_0, zN_1, nI_toInt, zN_eq, zN_eq0, b2_z, b2_nz, Decidable.not_not, Int.not_lt, Int.not_le, zK0, zK1, zK2, zK3, zK5, zK7, zK8, zK9, zK10, zK19, zK20, zK40, zK99, zK100, zK199] at q21) | skip
      unfold F_visit
      rw [if_pos ⟨q11, e2.mpr q21⟩]
      obtain ⟨k, hk, rfl⟩ := oneOf_ex q11
      rw [show tn (nI k) = k from nI_clamp (by omega)]
      refine x_al0 rfl dX12_visit_27 ?_
      refine x_al0 rfl dX12_visit_28 ?_
      refine x_gm fdX12_13 W.hM (by decide) W.hF.f1 dX12_visit_29 ?_
      refine x_bipush (v := nI 21) dX12_visit_32 rfl ?_
      refine x_mld (len := 2868) W rfl rfl (by decide) (by omega) (by first | assumption | rfl) dX12_visit_34 ?_
      refine x_il1 dX12_visit_35 ?_
      refine x_al0 rfl dX12_visit_36 ?_
      refine x_gm fdX12_13 W.hM (by decide) W.hF.f1 dX12_visit_37 ?_
      refine x_bipush (v := nI 22) dX12_visit_40 rfl ?_
      refine x_mld (len := 2868) W rfl rfl (by decide) (by omega) (by first | assumption | rfl) dX12_visit_42 ?_
      refine x_cv3Vp mX12_goesVisit_ok lkX12_254 rfl (Nat.le_of_ble_eq_true rfl) (Nat.le_of_ble_eq_true rfl) dX12_visit_43 W.hM  (j_goesVisit W J (by first | assumption | omega) (by first | assumption | omega)) (fun h hq => ?_)
      obtain ⟨s, M, W, J, U, v1, v2, v3⟩ := hq
      obtain ⟨D, hn0, hn6, ho0, ho9, hng, hli, e0, e1, e2, m1, m2, m3, m4, m5, u1, u2, t1, t2, r1, hf⟩ := MJ.o J
      refine x_il2 dX12_visit_46 ?_
      refine x_iconst (v := nI 1) dX12_visit_47 rfl ?_
      refine x_icmp_ne (tgt := 58) dX12_visit_48 rfl (fun q48 => ?_) (fun q48 => ?_)
      · skip
        first | (simp only [cmp_lt, cmp_gt, cmp_eq, zN_cge, zN_cle, Decidable.not_not] at q48) | (simp (disch := omega) only [zN_le, zN_lt, zN_0, zN_1, nI_toInt, zN_eq, zN_eq0, b2_z, b2_nz, Decidable.not_not, Int.not_lt, Int.not_le, zK0, zK1, zK2, zK3, zK5, zK7, zK8, zK9, zK10, zK19, zK20, zK40, zK99, zK100, zK199] at q48) | skip
        refine x_al0 rfl dX12_visit_58 ?_
        refine x_gm fdX12_244 W.hM (by decide) (by first | assumption | rfl) dX12_visit_59 ?_
        refine x_if_eq (tgt := 69) dX12_visit_62 rfl (fun q62 => ?_) (fun q62 => ?_)
        · skip
          refine x_iconst (v := nI 0) dX12_visit_69 rfl ?_
          refine x_iret rfl rfl dX12_visit_70 ⟨_, rfl, ?_, _, _, _, W, J⟩
          rw [if_neg q48]
          exact q62.symm
        · skip
          refine x_iconst (v := nI 1) dX12_visit_65 rfl ?_
          refine x_goto (tgt := 70) dX12_visit_66 rfl ?_
          refine x_iret rfl rfl dX12_visit_70 ⟨_, rfl, ?_, _, _, _, W, J⟩
          rw [if_neg q48]
          exact (b2o (b2n q62)).symm
      · skip
        first | (simp only [cmp_lt, cmp_gt, cmp_eq, zN_cge, zN_cle, Decidable.not_not] at q48) | (simp (disch := omega) only [zN_le, zN_lt, zN_0, zN_1, nI_toInt, zN_eq, zN_eq0, b2_z, b2_nz, Decidable.not_not, Int.not_lt, Int.not_le, zK0, zK1, zK2, zK3, zK5, zK7, zK8, zK9, zK10, zK19, zK20, zK40, zK99, zK100, zK199] at q48) | skip
        refine x_al0 rfl dX12_visit_51 ?_
        refine x_gm fdX12_241 W.hM (by decide) (by first | assumption | rfl) dX12_visit_52 ?_
        refine x_goto (tgt := 70) dX12_visit_55 rfl ?_
        refine x_iret rfl rfl dX12_visit_70 ⟨_, rfl, ?_, _, _, _, W, J⟩
        rw [if_pos q48]
        all_goals rfl
    · skip
      first | (simp only [cmp_lt, cmp_gt, cmp_eq, zN_cge, zN_cle, Decidable.not_not] at q21) | (simp (disch := omega) only [zN_le, zN_lt, zN_0, zN_1, nI_toInt, zN_eq, zN_eq0, b2_z, b2_nz, Decidable.not_not, Int.not_lt, Int.not_le, zK0, zK1, zK2, zK3, zK5, zK7, zK8, zK9, zK10, zK19, zK20, zK40, zK99, zK100, zK199] at q21) | skip
      refine x_bipush (v := (-2)) dX12_visit_24 rfl ?_
      refine x_iret rfl rfl dX12_visit_26 ⟨_, rfl, ?_, _, _, _, W, J⟩
      rw [F_visit, if_neg (fun z => q21 (e2.mp z.2))]
      all_goals rfl
theorem w_drawer {x y : Int32} (I : MI h0 h dk st un tp tr pi fl) : Zm g (d + 2) 0 0 mX12_drawer [.ref 59, .int x, .int y] h (rIp (fun r h' => r = F_drawer dk st x y ∧ MI h0 h' dk st un tp tr pi fl)) := by
  obtain ⟨s, M, L, W, J⟩ := I
  obtain ⟨D, hn0, hn6, ho0, ho9, hng, hli, e0, e1, e2, m1, m2, m3, m4, m5, u1, u2, t1, t2, r1, hf⟩ := MJ.o J
  show Zw g (d + 2) 0 0 mX12_drawer 0 [some (.ref 59), some (.int x), some (.int y)] [] h _
  refine x_al0 rfl dX12_drawer_0 ?_
  refine x_iconst (v := nI 0) dX12_drawer_1 rfl ?_
  refine x_mpfJ W J fdX12_1 (by decide) rfl rfl zf_i dX12_drawer_2 (fun h W J => ?_)
  refine x_al0 rfl dX12_drawer_5 ?_
  refine x_il1 dX12_drawer_6 ?_
  refine x_i2l (rfl) dX12_drawer_7 ?_
  refine x_cv1I mX12_isDrawer_ok lkX12_261 rfl (Nat.le_of_ble_eq_true rfl) (Nat.le_of_ble_eq_true rfl) dX12_drawer_8 W.hM  (j_isDrawer W J) ?_
  refine x_if_ne (tgt := 17) dX12_drawer_11 rfl (fun q11 => ?_) (fun q11 => ?_)
  · skip
    first | (simp only [cmp_lt, cmp_gt, cmp_eq, zN_cge, zN_cle, Decidable.not_not] at q11) | (simp (disch := omega) only [zN_le, zN_lt, zN_0, zN_1, nI_toInt, zN_eq, zN_eq0, b2_z, b2_nz, Decidable.not_not, Int.not_lt, Int.not_le, zK0, zK1, zK2, zK3, zK5, zK7, zK8, zK9, zK10, zK19, zK20, zK40, zK99, zK100, zK199] at q11) | skip
    unfold F_drawer
    rw [if_pos q11]
    obtain ⟨k, hk, rfl⟩ := oneOf_ex q11
    rw [show tn (nI k) = k from nI_clamp (by omega)]
    refine x_il2 dX12_drawer_17 ?_
    refine x_if_ne (tgt := 36) dX12_drawer_18 rfl (fun q18 => ?_) (fun q18 => ?_)
    · skip
      first | (simp only [cmp_lt, cmp_gt, cmp_eq, zN_cge, zN_cle, Decidable.not_not] at q18) | (simp (disch := omega) only [zN_le, zN_lt, zN_0, zN_1, nI_toInt, zN_eq, zN_eq0, b2_z, b2_nz, Decidable.not_not, Int.not_lt, Int.not_le, zK0, zK1, zK2, zK3, zK5, zK7, zK8, zK9, zK10, zK19, zK20, zK40, zK99, zK100, zK199] at q18) | skip
      refine x_il2 dX12_drawer_36 ?_
      refine x_iconst (v := nI 1) dX12_drawer_37 rfl ?_
      refine x_icmp_ne (tgt := 53) dX12_drawer_38 rfl (fun q38 => ?_) (fun q38 => ?_)
      · skip
        first | (simp only [cmp_lt, cmp_gt, cmp_eq, zN_cge, zN_cle, Decidable.not_not] at q38) | (simp (disch := omega) only [zN_le, zN_lt, zN_0, zN_1, nI_toInt, zN_eq, zN_eq0, b2_z, b2_nz, Decidable.not_not, Int.not_lt, Int.not_le, zK0, zK1, zK2, zK3, zK5, zK7, zK8, zK9, zK10, zK19, zK20, zK40, zK99, zK100, zK199] at q38) | skip
        refine x_bipush (v := (-2)) dX12_drawer_53 rfl ?_
        refine x_iret rfl rfl dX12_drawer_55 ⟨_, rfl, ?_, _, _, _, W, J⟩
        rw [if_neg q18, if_neg q38]
        all_goals rfl
      · skip
        first | (simp only [cmp_lt, cmp_gt, cmp_eq, zN_cge, zN_cle, Decidable.not_not] at q38) | (simp (disch := omega) only [zN_le, zN_lt, zN_0, zN_1, nI_toInt, zN_eq, zN_eq0, b2_z, b2_nz, Decidable.not_not, Int.not_lt, Int.not_le, zK0, zK1, zK2, zK3, zK5, zK7, zK8, zK9, zK10, zK19, zK20, zK40, zK99, zK100, zK199] at q38) | skip
        refine x_al0 rfl dX12_drawer_41 ?_
        refine x_gm fdX12_13 W.hM (by decide) W.hF.f1 dX12_drawer_42 ?_
        refine x_bipush (v := nI 15) dX12_drawer_45 rfl ?_
        refine x_il1 dX12_drawer_47 ?_
        first | refine x_iadd (nI_add _ _) dX12_drawer_48 ?_ | refine x_iadd rfl dX12_drawer_48 ?_
        refine x_mld (len := 2868) W rfl rfl (by decide) (by omega) (D.2.2.2.2.2.2.1 _ hk) dX12_drawer_49 ?_
        refine x_goto (tgt := 55) dX12_drawer_50 rfl ?_
        refine x_iret rfl rfl dX12_drawer_55 ⟨_, rfl, ?_, _, _, _, W, J⟩
        rw [if_neg q18, if_pos q38]
    · skip
      first | (simp only [cmp_lt, cmp_gt, cmp_eq, zN_cge, zN_cle, Decidable.not_not] at q18) | (simp (disch := omega) only [zN_le, zN_lt, zN_0, zN_1, nI_toInt, zN_eq, zN_eq0, b2_z, b2_nz, Decidable.not_not, Int.not_lt, Int.not_le, zK0, zK1, zK2, zK3, zK5, zK7, zK8, zK9, zK10, zK19, zK20, zK40, zK99, zK100, zK199] at q18) | skip
      refine x_al0 rfl dX12_drawer_21 ?_
      refine x_al0 rfl dX12_drawer_22 ?_
      refine x_gm fdX12_13 W.hM (by decide) W.hF.f1 dX12_drawer_23 ?_
      refine x_bipush (v := nI 21) dX12_drawer_26 rfl ?_
      refine x_mld (len := 2868) W rfl rfl (by decide) (by omega) (by first | assumption | rfl) dX12_drawer_28 ?_
      refine x_il1 dX12_drawer_29 ?_
      refine x_cv2I mX12_nameIn_ok lkX12_251 rfl (Nat.le_of_ble_eq_true rfl) (Nat.le_of_ble_eq_true rfl) dX12_drawer_30 W.hM  (j_nameIn W J (by first | assumption | omega) (by first | assumption | omega)) ?_
      refine x_goto (tgt := 55) dX12_drawer_33 rfl ?_
      refine x_iret rfl rfl dX12_drawer_55 ⟨_, rfl, ?_, _, _, _, W, J⟩
      rw [if_pos q18]
  · skip
    first | (simp only [cmp_lt, cmp_gt, cmp_eq, zN_cge, zN_cle, Decidable.not_not] at q11) | (simp (disch := omega) only [zN_le, zN_lt, zN_0, zN_1, nI_toInt, zN_eq, zN_eq0, b2_z, b2_nz, Decidable.not_not, Int.not_lt, Int.not_le, zK0, zK1, zK2, zK3, zK5, zK7, zK8, zK9, zK10, zK19, zK20, zK40, zK99, zK100, zK199] at q11) | skip
    refine x_bipush (v := (-2)) dX12_drawer_14 rfl ?_
    refine x_iret rfl rfl dX12_drawer_16 ⟨_, rfl, ?_, _, _, _, W, J⟩
    rw [F_drawer, if_neg q11]
    all_goals rfl
theorem w_opened {x y : Int32} (I : MI h0 h dk st un tp tr pi fl) : Zm g (d + 5) 0 0 mX12_opened [.ref 59, .int x, .int y] h (rIp (fun r h' => r = F_opened dk st x y ∧ MI h0 h' dk st un tp tr pi fl)) := by
  obtain ⟨s, M, L, W, J⟩ := I
  obtain ⟨D, hn0, hn6, ho0, ho9, hng, hli, e0, e1, e2, m1, m2, m3, m4, m5, u1, u2, t1, t2, r1, hf⟩ := MJ.o J
  show Zw g (d + 5) 0 0 mX12_opened 0 [some (.ref 59), some (.int x), some (.int y)] [] h _
  refine x_al0 rfl dX12_opened_0 ?_
  refine x_iconst (v := nI 0) dX12_opened_1 rfl ?_
  refine x_mpfJ W J fdX12_1 (by decide) rfl rfl zf_i dX12_opened_2 (fun h W J => ?_)
  refine x_al0 rfl dX12_opened_5 ?_
  refine x_il1 dX12_opened_6 ?_
  refine x_i2l (rfl) dX12_opened_7 ?_
  refine x_cv1I mX12_isDrawer_ok lkX12_261 rfl (Nat.le_of_ble_eq_true rfl) (Nat.le_of_ble_eq_true rfl) dX12_opened_8 W.hM  (j_isDrawer W J) ?_
  refine x_if_ne (tgt := 17) dX12_opened_11 rfl (fun q11 => ?_) (fun q11 => ?_)
  · skip
    first | (simp only [cmp_lt, cmp_gt, cmp_eq, zN_cge, zN_cle, Decidable.not_not] at q11) | (simp (disch := omega) only [zN_le, zN_lt, zN_0, zN_1, nI_toInt, zN_eq, zN_eq0, b2_z, b2_nz, Decidable.not_not, Int.not_lt, Int.not_le, zK0, zK1, zK2, zK3, zK5, zK7, zK8, zK9, zK10, zK19, zK20, zK40, zK99, zK100, zK199] at q11) | skip
    unfold F_opened
    rw [if_pos q11]
    obtain ⟨k, hk, rfl⟩ := oneOf_ex q11
    rw [show tn (nI k) = k from nI_clamp (by omega)]
    have vl : (visK dk st k).1.length ≤ dk.2.1 := vis_len
    change (visK dk st k).1.length ≤ dk.2.1 at vl
    refine x_il2 dX12_opened_17 ?_
    refine x_if_ge (tgt := 24) dX12_opened_18 rfl (fun q18 => ?_) (fun q18 => ?_)
    · skip
      refine x_al0 rfl dX12_opened_24 ?_
      refine x_al0 rfl dX12_opened_25 ?_
      refine x_gm fdX12_13 W.hM (by decide) W.hF.f1 dX12_opened_26 ?_
      refine x_bipush (v := nI 21) dX12_opened_29 rfl ?_
      refine x_mld (len := 2868) W rfl rfl (by decide) (by omega) (by first | assumption | rfl) dX12_opened_31 ?_
      refine x_il1 dX12_opened_32 ?_
      refine x_al0 rfl dX12_opened_33 ?_
      refine x_gm fdX12_13 W.hM (by decide) W.hF.f1 dX12_opened_34 ?_
      refine x_bipush (v := nI 22) dX12_opened_37 rfl ?_
      refine x_mld (len := 2868) W rfl rfl (by decide) (by omega) (by first | assumption | rfl) dX12_opened_39 ?_
      refine x_cv3Vp mX12_goesVisit_ok lkX12_254 rfl (Nat.le_of_ble_eq_true rfl) (Nat.le_of_ble_eq_true rfl) dX12_opened_40 W.hM  (j_goesVisit W J (by first | assumption | omega) (by first | assumption | omega)) (fun h hq => ?_)
      obtain ⟨s, M, W, J, U, v1, v2, v3⟩ := hq
      obtain ⟨D, hn0, hn6, ho0, ho9, hng, hli, e0, e1, e2, m1, m2, m3, m4, m5, u1, u2, t1, t2, r1, hf⟩ := MJ.o J
      refine x_il2 dX12_opened_43 ?_
      refine x_al0 rfl dX12_opened_44 ?_
      refine x_gm fdX12_241 W.hM (by decide) (by first | assumption | rfl) dX12_opened_45 ?_
      refine x_icmp_ge (tgt := 60) dX12_opened_48 rfl (fun q48 => ?_) (fun q48 => ?_)
      · skip
        refine x_iconst (v := (-1)) dX12_opened_60 rfl ?_
        refine x_iret rfl rfl dX12_opened_61 ⟨_, rfl, ?_, _, _, _, W, J⟩
        rw [if_neg (fun z => absurd q18 (Int32.not_le.mpr z)), if_neg]
        all_goals try rfl
        · intro z
          rw [Int32.le_iff_toInt_le, nI_toInt (by have : (vis dk.1 dk.2.1 dk.2.2.2.2.1 dk.2.2.2.2.2 st.1 k st.2.1).1.length ≤ dk.2.1 := vl; omega)] at q48
          have z2 : y.toInt < ((vis dk.1 dk.2.1 dk.2.2.2.2.1 dk.2.2.2.2.2 st.1 k st.2.1).1.length : Int) := z.2
          omega
      · skip
        have oy : oneOf y (visK dk st k).1.length := by
          rw [Int32.le_iff_toInt_le, nI_toInt (by have : (vis dk.1 dk.2.1 dk.2.2.2.2.1 dk.2.2.2.2.2 st.1 k st.2.1).1.length ≤ dk.2.1 := vl; omega)] at q48
          rw [Int32.le_iff_toInt_le] at q18
          exact ⟨q18, by show y.toInt < ((vis dk.1 dk.2.1 dk.2.2.2.2.1 dk.2.2.2.2.2 st.1 k st.2.1).1.length : Int); omega⟩
        rw [if_neg (fun z => absurd q18 (Int32.not_le.mpr z)), if_pos oy]
        obtain ⟨i, hi, rfl⟩ := oneOf_ex oy
        rw [show tn (nI i) = i from nI_clamp (by omega)]
        refine x_al0 rfl dX12_opened_51 ?_
        refine x_gm fdX12_42 W.hM (by decide) W.hF.f20 dX12_opened_52 ?_
        refine x_il2 dX12_opened_55 ?_
        refine x_mld (len := 9) W rfl rfl (by decide) (by omega) (v3 i hi) dX12_opened_56 ?_
        refine x_goto (tgt := 61) dX12_opened_57 rfl ?_
        refine x_iret rfl rfl dX12_opened_61 ⟨_, rfl, ?_, _, _, _, W, J⟩
        all_goals rfl
    · skip
      refine x_bipush (v := (-3)) dX12_opened_21 rfl ?_
      refine x_iret rfl rfl dX12_opened_23 ⟨_, rfl, ?_, _, _, _, W, J⟩
      rw [if_pos (Int32.not_le.mp q18)]
      all_goals rfl
  · skip
    first | (simp only [cmp_lt, cmp_gt, cmp_eq, zN_cge, zN_cle, Decidable.not_not] at q11) | (simp (disch := omega) only [zN_le, zN_lt, zN_0, zN_1, nI_toInt, zN_eq, zN_eq0, b2_z, b2_nz, Decidable.not_not, Int.not_lt, Int.not_le, zK0, zK1, zK2, zK3, zK5, zK7, zK8, zK9, zK10, zK19, zK20, zK40, zK99, zK100, zK199] at q11) | skip
    refine x_bipush (v := (-2)) dX12_opened_14 rfl ?_
    refine x_iret rfl rfl dX12_opened_16 ⟨_, rfl, ?_, _, _, _, W, J⟩
    rw [F_opened, if_neg q11]
    all_goals rfl
theorem w_letOff (I : MI h0 h dk st un tp tr pi fl) : Zm g (d + 5) 0 0 mX12_letOff [.ref 59] h (rIp (fun r h' => r = nI (mskK dk st.1 st.2.1) ∧ MI h0 h' dk st un tp tr pi fl)) := by
  obtain ⟨s, M, L, W, J⟩ := I
  obtain ⟨D, hn0, hn6, ho0, ho9, hng, hli, e0, e1, e2, m1, m2, m3, m4, m5, u1, u2, t1, t2, r1, hf⟩ := MJ.o J
  show Zw g (d + 5) 0 0 mX12_letOff 0 [some (.ref 59)] [] h _
  refine x_al0 rfl dX12_letOff_0 ?_
  refine x_iconst (v := nI 0) dX12_letOff_1 rfl ?_
  refine x_mpfJ W J fdX12_1 (by decide) rfl rfl zf_i dX12_letOff_2 (fun h W J => ?_)
  refine x_al0 rfl dX12_letOff_5 ?_
  refine x_cv0Ip mX12_letNow_ok lkX12_265 rfl (Nat.le_of_ble_eq_true rfl) (Nat.le_of_ble_eq_true rfl) dX12_letOff_6 W.hM  (j_letNow W J) (fun r h hq => ?_)
  obtain ⟨rfl, s, M, L, W, J, U⟩ := hq
  obtain ⟨D, hn0, hn6, ho0, ho9, hng, hli, e0, e1, e2, m1, m2, m3, m4, m5, u1, u2, t1, t2, r1, hf⟩ := MJ.o J
  exact x_iret rfl rfl dX12_letOff_9 ⟨_, rfl, rfl, _, _, _, W, J⟩
end ZMv

