/-! the model's found, names, look, clues -/
section ZMd
variable {g : zG} {d : Nat} {h0 h : zH} {s : Nat → Value} {M : Nat → Nat → Int32} {L : Nat → Nat → Int64} {dk : zDk} {st : zSt} {un : List zSt} {tp : List Nat} {tr : Nat → zTr} {pi : Nat → zPi} {fl : Nat × Nat}
theorem j_noFound {x : Int32} (W : MW h0 h s M L) (J : MJ s M L dk st un tp tr pi fl) : Zm g (d + 2) 0 0 mX12_noFound [.ref 59, .int x] h (rI (noTl tr (-1) ((dk.1 : Int) - 1) x) h) := by
  obtain ⟨D, hn0, hn6, ho0, ho9, hng, hli, e0, e1, e2, m1, m2, m3, m4, m5, u1, u2, t1, t2, r1, hf⟩ := MJ.o J
  show Zw g (d + 2) 0 0 mX12_noFound 0 [some (.ref 59), some (.int x), none, none] [] h _
  refine x_al0 rfl dX12_noFound_0 ?_
  refine x_il1 dX12_noFound_1 ?_
  refine x_cv1I mX12_noTray_ok lkX12_314 rfl (Nat.le_of_ble_eq_true rfl) (Nat.le_of_ble_eq_true rfl) dX12_noFound_2 W.hM  (j_noTray W J) ?_
  refine x_is2 rfl dX12_noFound_5 ?_
  refine x_il2 dX12_noFound_6 ?_
  refine x_if_eq (tgt := 12) dX12_noFound_7 rfl (fun q7 => ?_) (fun q7 => ?_)
  · skip
    obtain ⟨x4, q, hq0⟩ := noT_0 q7
    obtain ⟨k, hk, rfl⟩ := oneOf_ex x4
    rw [show tn (nI k) = k from nI_clamp (by omega)] at hq0
    have e0 : noTl tr (-1) ((dk.1 : Int) - 1) (nI k) = rfs (-1) ((dk.1 : Int) - 1) q.2 := by rw [noTl, if_pos x4, show tn (nI k) = k from nI_clamp (by omega), hq0]
    rw [e0]
    obtain ⟨b1, b2, b3, b4, b5⟩ := J.tray hk hq0
    refine x_al0 rfl dX12_noFound_12 ?_
    refine x_gm fdX12_82 W.hM (by decide) W.hF.f39 dX12_noFound_13 ?_
    refine x_il1 dX12_noFound_16 ?_
    refine x_mld (len := 4) W rfl rfl (by decide) (by omega) (by first | assumption | rfl) dX12_noFound_17 ?_
    refine x_i2l (rfl) dX12_noFound_18 ?_
    refine x_lconst (v := 1) dX12_noFound_19 rfl ?_
    refine x_ldc2 kcX12_394 dX12_noFound_20 ?_
    refine x_cs3I mX12_within_ok lkX12_157 (Nat.le_of_ble_eq_true rfl) (Nat.le_of_ble_eq_true rfl) dX12_noFound_23 j_within ?_
    refine x_if_ne (tgt := 32) dX12_noFound_26 rfl (fun q26 => ?_) (fun q26 => ?_)
    · skip
      first | (simp only [cmp_lt, cmp_gt, cmp_eq, zN_cge, zN_cle, Decidable.not_not] at q26) | (simp (disch := omega) only [zN_le, zN_lt, zN_0, zN_1, nI_toInt, zN_eq, zN_eq0, b2_z, b2_nz, Decidable.not_not, Int.not_lt, Int.not_le, zK0, zK1, zK2, zK3, zK5, zK7, zK8, zK9, zK10, zK19, zK20, zK40, zK99, zK100, zK199] at q26) | skip
      have e1 : rfs (-1) ((dk.1 : Int) - 1) q.2 = if allL (rngB (-1) ((dk.1 : Int) - 1) q.2) q.2.length 0 then 0 else -3 := if_pos (by omega)
      rw [e1]
      refine x_iconst (v := nI 0) dX12_noFound_32 rfl ?_
      refine x_is3 rfl dX12_noFound_33 ?_
      refine x_wh (fun (i : Nat) => [some (.ref 59), some (.int (nI k)), some (.int (noT tr (nI k))), some (.int (nI i))]) (fun i h' => i ≤ q.2.length ∧ h' = h ∧ allL (rngB (-1) ((dk.1 : Int) - 1) q.2) q.2.length 0 = allL (rngB (-1) ((dk.1 : Int) - 1) q.2) (q.2.length - i) i) (fun i => 50 - i) 0 ⟨Nat.zero_le _, rfl, rfl⟩ (fun i h' hI ih => ?_)
      obtain ⟨hi, rfl, hE⟩ := hI
      refine x_il3 dX12_noFound_34 ?_
      refine x_al0 rfl dX12_noFound_35 ?_
      refine x_gm fdX12_82 W.hM (by decide) W.hF.f39 dX12_noFound_36 ?_
      refine x_il1 dX12_noFound_39 ?_
      refine x_mld (len := 4) W rfl rfl (by decide) (by omega) (by first | assumption | rfl) dX12_noFound_40 ?_
      refine x_icmp_ge (tgt := 82) dX12_noFound_41 rfl (fun q41 => ?_) (fun q41 => ?_)
      · skip
        first | (simp only [cmp_lt, cmp_gt, cmp_eq, zN_cge, zN_cle, Decidable.not_not] at q41) | (simp (disch := omega) only [zN_le, zN_lt, zN_0, zN_1, nI_toInt, zN_eq, zN_eq0, b2_z, b2_nz, Decidable.not_not, Int.not_lt, Int.not_le, zK0, zK1, zK2, zK3, zK5, zK7, zK8, zK9, zK10, zK19, zK20, zK40, zK99, zK100, zK199] at q41) | skip
        rw [hE, show i = q.2.length by omega, Nat.sub_self]
        refine x_iconst (v := nI 0) dX12_noFound_82 rfl ?_
        exact x_iret rfl rfl dX12_noFound_83 ⟨rfl, rfl⟩
      · skip
        first | (simp only [cmp_lt, cmp_gt, cmp_eq, zN_cge, zN_cle, Decidable.not_not] at q41) | (simp (disch := omega) only [zN_le, zN_lt, zN_0, zN_1, nI_toInt, zN_eq, zN_eq0, b2_z, b2_nz, Decidable.not_not, Int.not_lt, Int.not_le, zK0, zK1, zK2, zK3, zK5, zK7, zK8, zK9, zK10, zK19, zK20, zK40, zK99, zK100, zK199] at q41) | skip
        have il : i < q.2.length := by omega
        rw [allL_s il] at hE
        refine x_al0 rfl dX12_noFound_44 ?_
        refine x_gm fdX12_85 W.hM (by decide) W.hF.f40 dX12_noFound_45 ?_
        refine x_bipush (v := nI 40) dX12_noFound_48 rfl ?_
        refine x_il1 dX12_noFound_50 ?_
        first | refine x_imul (pk_mul _ _) dX12_noFound_51 ?_ | refine x_imul rfl dX12_noFound_51 ?_
        refine x_il3 dX12_noFound_52 ?_
        first | refine x_iadd (nI_add _ _) dX12_noFound_53 ?_ | refine x_iadd rfl dX12_noFound_53 ?_
        refine x_mldl (len := 160) W rfl rfl (by decide) (by omega) (b5 i il) dX12_noFound_54 ?_
        refine x_ldc2 kcX12_396 dX12_noFound_55 ?_
        refine x_al0 rfl dX12_noFound_58 ?_
        refine x_gm fdX12_13 W.hM (by decide) W.hF.f1 dX12_noFound_59 ?_
        refine x_iconst (v := nI 1) dX12_noFound_62 rfl ?_
        refine x_mld (len := 2868) W rfl rfl (by decide) (by omega) (by first | assumption | rfl) dX12_noFound_63 ?_
        refine x_iconst (v := nI 1) dX12_noFound_64 rfl ?_
        refine x_isub (rfl) dX12_noFound_65 ?_
        refine x_i2l (rfl) dX12_noFound_66 ?_
        refine x_cs3I mX12_within_ok lkX12_157 (Nat.le_of_ble_eq_true rfl) (Nat.le_of_ble_eq_true rfl) dX12_noFound_67 c_X12_within ?_
        have eb : ((-1 : Int64) ≤ q.2.getD i 0 ∧ q.2.getD i 0 ≤ (nI dk.1 - nI 1).toInt64) ↔ rngB (-1) ((dk.1 : Int) - 1) q.2 i = true := by
          rw [Int64.le_iff_toInt_le, Int64.le_iff_toInt_le, show (nI dk.1 - nI 1).toInt64.toInt = (dk.1 : Int) - 1 from i64_nm1 hn0 (by omega), rngB, decide_eq_true_eq]
          exact Iff.rfl
        refine x_if_ne (tgt := 76) dX12_noFound_70 rfl (fun q70 => ?_) (fun q70 => ?_)
        · skip
          first | (simp only [cmp_lt, cmp_gt, cmp_eq, zN_cge, zN_cle, Decidable.not_not] at q70) | (simp (disch := omega) only [zN_le, zN_lt, zN_0, zN_1, nI_toInt, zN_eq, zN_eq0, b2_z, b2_nz, Decidable.not_not, Int.not_lt, Int.not_le, zK0, zK1, zK2, zK3, zK5, zK7, zK8, zK9, zK10, zK19, zK20, zK40, zK99, zK100, zK199] at q70) | skip
          first | refine x_ii3 rfl (nI_1 _) dX12_noFound_76 ?_ | refine x_ii3 rfl rfl dX12_noFound_76 ?_
          refine x_goto (tgt := 34) dX12_noFound_79 rfl ?_
          refine ih (i + 1) _ (by omega) ⟨il, rfl, by rw [hE, eb.mp q70, Bool.true_and]⟩
        · skip
          first | (simp only [cmp_lt, cmp_gt, cmp_eq, zN_cge, zN_cle, Decidable.not_not] at q70) | (simp (disch := omega) only [zN_le, zN_lt, zN_0, zN_1, nI_toInt, zN_eq, zN_eq0, b2_z, b2_nz, Decidable.not_not, Int.not_lt, Int.not_le, zK0, zK1, zK2, zK3, zK5, zK7, zK8, zK9, zK10, zK19, zK20, zK40, zK99, zK100, zK199] at q70) | skip
          refine x_bipush (v := (-3)) dX12_noFound_73 rfl ?_
          exact x_iret rfl rfl dX12_noFound_75 ⟨by rw [hE, Bool.eq_false_iff.mpr (fun z => q70 (eb.mpr z))]; rfl, rfl⟩
    · skip
      first | (simp only [cmp_lt, cmp_gt, cmp_eq, zN_cge, zN_cle, Decidable.not_not] at q26) | (simp (disch := omega) only [zN_le, zN_lt, zN_0, zN_1, nI_toInt, zN_eq, zN_eq0, b2_z, b2_nz, Decidable.not_not, Int.not_lt, Int.not_le, zK0, zK1, zK2, zK3, zK5, zK7, zK8, zK9, zK10, zK19, zK20, zK40, zK99, zK100, zK199] at q26) | skip
      refine x_bipush (v := (-4)) dX12_noFound_29 rfl ?_
      exact x_iret rfl rfl dX12_noFound_31 ⟨by rw [rfs, if_neg (by omega)], rfl⟩
  · skip
    refine x_il2 dX12_noFound_10 ?_
    refine x_iret rfl rfl dX12_noFound_11 ⟨?_, rfl⟩
    unfold noT at q7 ⊢
    unfold noTl
    by_cases z : oneOf x 4
    · rw [if_pos z] at q7 ⊢
      rw [if_pos z]
      cases z2 : tr (tn x) with
      | none => rfl
      | some q => rw [z2] at q7; exact absurd rfl q7
    · rw [if_neg z, if_neg z]
theorem j_noOne {x y : Int32} (W : MW h0 h s M L) (J : MJ s M L dk st un tp tr pi fl) : Zm g (d + 3) 0 0 mX12_noOne [.ref 59, .int x, .int y] h (rI (fR dk tr x y) h) := by
  have e4 : oneOf x 4 ↔ 0 ≤ x.toInt ∧ x.toInt ≤ 3 := by
    unfold oneOf
    omega
  show Zw g (d + 3) 0 0 mX12_noOne 0 [some (.ref 59), some (.int x), some (.int y)] [] h _
  refine x_il1 dX12_noOne_0 ?_
  refine x_i2l (rfl) dX12_noOne_1 ?_
  refine x_lconst (v := 0) dX12_noOne_2 rfl ?_
  refine x_ldc2 kcX12_312 dX12_noOne_3 ?_
  refine x_cs3I mX12_within_ok lkX12_157 (Nat.le_of_ble_eq_true rfl) (Nat.le_of_ble_eq_true rfl) dX12_noOne_6 j_within ?_
  refine x_if_eq (tgt := 21) dX12_noOne_9 rfl (fun q9 => ?_) (fun q9 => ?_)
  · skip
    first | (simp only [cmp_lt, cmp_gt, cmp_eq, zN_cge, zN_cle, Decidable.not_not] at q9) | (simp (disch := omega) only [zN_le, zN_lt, zN_0, zN_1, nI_toInt, zN_eq, zN_eq0, b2_z, b2_nz, Decidable.not_not, Int.not_lt, Int.not_le, zK0, zK1, zK2, zK3, zK5, zK7, zK8, zK9, zK10, zK19, zK20, zK40, zK99, zK100, zK199] at q9) | skip
    refine x_bipush (v := (-2)) dX12_noOne_21 rfl ?_
    refine x_goto (tgt := 31) dX12_noOne_23 rfl ?_
    exact x_iret rfl rfl dX12_noOne_31 ⟨by rw [fR, if_neg (fun z => q9 (e4.mp z.1))], rfl⟩
  · skip
    first | (simp only [cmp_lt, cmp_gt, cmp_eq, zN_cge, zN_cle, Decidable.not_not] at q9) | (simp (disch := omega) only [zN_le, zN_lt, zN_0, zN_1, nI_toInt, zN_eq, zN_eq0, b2_z, b2_nz, Decidable.not_not, Int.not_lt, Int.not_le, zK0, zK1, zK2, zK3, zK5, zK7, zK8, zK9, zK10, zK19, zK20, zK40, zK99, zK100, zK199] at q9) | skip
    refine x_al0 rfl dX12_noOne_12 ?_
    refine x_il2 dX12_noOne_13 ?_
    refine x_i2l (rfl) dX12_noOne_14 ?_
    refine x_cv1I mX12_isDrawer_ok lkX12_261 rfl (Nat.le_of_ble_eq_true rfl) (Nat.le_of_ble_eq_true rfl) dX12_noOne_15 W.hM  (j_isDrawer W J) ?_
    refine x_if_ne (tgt := 26) dX12_noOne_18 rfl (fun q18 => ?_) (fun q18 => ?_)
    · skip
      first | (simp only [cmp_lt, cmp_gt, cmp_eq, zN_cge, zN_cle, Decidable.not_not] at q18) | (simp (disch := omega) only [zN_le, zN_lt, zN_0, zN_1, nI_toInt, zN_eq, zN_eq0, b2_z, b2_nz, Decidable.not_not, Int.not_lt, Int.not_le, zK0, zK1, zK2, zK3, zK5, zK7, zK8, zK9, zK10, zK19, zK20, zK40, zK99, zK100, zK199] at q18) | skip
      refine x_al0 rfl dX12_noOne_26 ?_
      refine x_il1 dX12_noOne_27 ?_
      refine x_cv1I mX12_noFound_ok lkX12_398 rfl (Nat.le_of_ble_eq_true rfl) (Nat.le_of_ble_eq_true rfl) dX12_noOne_28 W.hM  (j_noFound W J) ?_
      exact x_iret rfl rfl dX12_noOne_31 ⟨by rw [fR, if_pos ⟨e4.mpr q9, q18⟩], rfl⟩
    · skip
      first | (simp only [cmp_lt, cmp_gt, cmp_eq, zN_cge, zN_cle, Decidable.not_not] at q18) | (simp (disch := omega) only [zN_le, zN_lt, zN_0, zN_1, nI_toInt, zN_eq, zN_eq0, b2_z, b2_nz, Decidable.not_not, Int.not_lt, Int.not_le, zK0, zK1, zK2, zK3, zK5, zK7, zK8, zK9, zK10, zK19, zK20, zK40, zK99, zK100, zK199] at q18) | skip
      refine x_bipush (v := (-2)) dX12_noOne_21 rfl ?_
      refine x_goto (tgt := 31) dX12_noOne_23 rfl ?_
      exact x_iret rfl rfl dX12_noOne_31 ⟨by rw [fR, if_neg (fun z => q18 z.2)], rfl⟩
theorem j_isFound {t row p : Nat} {q : Nat × List Int64} (W : MW h0 h s M L) (J : MJ s M L dk st un tp tr pi fl) (ht : t < 4) (hq : tr t = some q) (h8 : q.2.length ≤ 8) (hr : row < fct dk.1) (hp : p < dk.1) : Zm g (d + 3) 0 0 mX12_isFound [.ref 59, .int (nI t), .int (nI row), .int (nI p)] h (rIp (fun r h' => r = b2 (fitB dk st.2.1 p q.2 row = true) ∧ MX [21, 22] [66, 67, 68] [] h0 s M L dk st un tp tr pi fl h')) := by
  obtain ⟨D, hn0, hn6, ho0, ho9, hng, hli, e0, e1, e2, m1, m2, m3, m4, m5, u1, u2, t1, t2, r1, hf⟩ := MJ.o J
  obtain ⟨b1, b2', b3, b4, b5⟩ := J.tray ht hq
  have vl : (visD dk row p st.2.1).1.length ≤ dk.2.1 := vis_len
  show Zw g (d + 3) 0 0 mX12_isFound 0 [some (.ref 59), some (.int (nI t)), some (.int (nI row)), some (.int (nI p)), none, none, none] [] h _
  refine x_al0 rfl dX12_isFound_0 ?_
  refine x_il2 dX12_isFound_1 ?_
  refine x_il3 dX12_isFound_2 ?_
  refine x_al0 rfl dX12_isFound_3 ?_
  refine x_gm fdX12_13 W.hM (by decide) W.hF.f1 dX12_isFound_4 ?_
  refine x_bipush (v := nI 22) dX12_isFound_7 rfl ?_
  refine x_mld (len := 2868) W rfl rfl (by decide) (by omega) (by first | assumption | rfl) dX12_isFound_9 ?_
  refine x_cv3Vp mX12_goesVisit_ok lkX12_254 rfl (Nat.le_of_ble_eq_true rfl) (Nat.le_of_ble_eq_true rfl) dX12_isFound_10 W.hM  (j_goesVisit W J (by first | assumption | omega) (by first | assumption | omega)) (fun h hq => ?_)
  obtain ⟨s', M', W, J, U, v1, v2, v3⟩ := hq
  obtain ⟨D, hn0, hn6, ho0, ho9, hng, hli, e0, e1, e2, m1, m2, m3, m4, m5, u1, u2, t1, t2, r1, hf⟩ := MJ.o J
  obtain ⟨b1, b2', b3, b4, b5⟩ := J.tray ht ‹tr t = some q›
  refine x_al0 rfl dX12_isFound_13 ?_
  refine x_gm fdX12_241 W.hM (by decide) (v1) dX12_isFound_14 ?_
  refine x_al0 rfl dX12_isFound_17 ?_
  refine x_gm fdX12_82 W.hM (by decide) W.hF.f39 dX12_isFound_18 ?_
  refine x_il1 dX12_isFound_21 ?_
  refine x_mld (len := 4) W rfl rfl (by decide) (by omega) (by first | assumption | rfl) dX12_isFound_22 ?_
  change Zw _ _ _ _ _ _ _ [Value.int (nI q.2.length), Value.int (nI (visD dk row p st.2.1).1.length)] _ _
  refine x_icmp_ge (tgt := 28) dX12_isFound_23 rfl (fun q23 => ?_) (fun q23 => ?_)
  · skip
    have yf : q.2.length ≤ (visD dk row p st.2.1).1.length := by rw [nI_leI (by omega) (by omega)] at q23; exact q23
    have eF : fitB dk st.2.1 p q.2 row = allL (fun i => decide (q.2.getD i 0 = -1 ∨ q.2.getD i 0 = lN (nm dk.1 row ((visD dk row p st.2.1).1.getD i 0)))) q.2.length 0 := by unfold fitB; rw [decide_eq_true yf, Bool.true_and]
    rw [eF]
    refine x_iconst (v := nI 0) dX12_isFound_28 rfl ?_
    refine x_is4 rfl dX12_isFound_29 ?_
    refine x_wh (fun (a : Nat × Option Value) => [some (.ref 59), some (.int (nI t)), some (.int (nI row)), some (.int (nI p)), some (.int (nI a.1)), a.2, none]) (fun a h' => a.1 ≤ q.2.length ∧ h' = h ∧ allL (fun i => decide (q.2.getD i 0 = -1 ∨ q.2.getD i 0 = lN (nm dk.1 row ((visD dk row p st.2.1).1.getD i 0)))) q.2.length 0 = allL (fun i => decide (q.2.getD i 0 = -1 ∨ q.2.getD i 0 = lN (nm dk.1 row ((visD dk row p st.2.1).1.getD i 0)))) (q.2.length - a.1) a.1) (fun a => 50 - a.1) (0, none) ⟨Nat.zero_le _, rfl, rfl⟩ (fun a h' hI ih => ?_)
    obtain ⟨i, lv⟩ := a
    obtain ⟨hi, rfl, hE⟩ := hI
    simp only at hi hE
    dsimp only
    refine x_il4 dX12_isFound_31 ?_
    refine x_al0 rfl dX12_isFound_33 ?_
    refine x_gm fdX12_82 W.hM (by decide) W.hF.f39 dX12_isFound_34 ?_
    refine x_il1 dX12_isFound_37 ?_
    refine x_mld (len := 4) W rfl rfl (by decide) (by omega) (by first | assumption | rfl) dX12_isFound_38 ?_
    refine x_icmp_ge (tgt := 92) dX12_isFound_39 rfl (fun q39 => ?_) (fun q39 => ?_)
    · skip
      first | (simp only [cmp_lt, cmp_gt, cmp_eq, zN_cge, zN_cle, Decidable.not_not] at q39) | (simp (disch := omega) only [zN_le, zN_lt, zN_0, zN_1, nI_toInt, zN_eq, zN_eq0, b2_z, b2_nz, Decidable.not_not, Int.not_lt, Int.not_le, zK0, zK1, zK2, zK3, zK5, zK7, zK8, zK9, zK10, zK19, zK20, zK40, zK99, zK100, zK199] at q39) | skip
      rw [hE, show i = q.2.length by omega, Nat.sub_self]
      refine x_iconst (v := nI 1) dX12_isFound_92 rfl ?_
      exact x_iret rfl  rfl dX12_isFound_93 ⟨_, rfl, rfl, _, _, _, W, J, U⟩
    · skip
      first | (simp only [cmp_lt, cmp_gt, cmp_eq, zN_cge, zN_cle, Decidable.not_not] at q39) | (simp (disch := omega) only [zN_le, zN_lt, zN_0, zN_1, nI_toInt, zN_eq, zN_eq0, b2_z, b2_nz, Decidable.not_not, Int.not_lt, Int.not_le, zK0, zK1, zK2, zK3, zK5, zK7, zK8, zK9, zK10, zK19, zK20, zK40, zK99, zK100, zK199] at q39) | skip
      have il : i < q.2.length := by omega
      rw [allL_s il] at hE
      have pl := visD_lt (c := st.2.1) hn0 hn6 hr hp (show i < (visD dk row p st.2.1).1.length by omega)
      refine x_al0 rfl dX12_isFound_42 ?_
      refine x_gm fdX12_85 W.hM (by decide) W.hF.f40 dX12_isFound_43 ?_
      refine x_bipush (v := nI 40) dX12_isFound_46 rfl ?_
      refine x_il1 dX12_isFound_48 ?_
      first | refine x_imul (pk_mul _ _) dX12_isFound_49 ?_ | refine x_imul rfl dX12_isFound_49 ?_
      refine x_il4 dX12_isFound_50 ?_
      first | refine x_iadd (nI_add _ _) dX12_isFound_52 ?_ | refine x_iadd rfl dX12_isFound_52 ?_
      refine x_mldl (len := 160) W rfl rfl (by decide) (by omega) (b5 i il) dX12_isFound_53 ?_
      refine x_ls5 rfl dX12_isFound_54 ?_
      refine x_ll5 dX12_isFound_56 ?_
      refine x_ldc2 kcX12_396 dX12_isFound_58 ?_
      refine x_lcmp (rfl) dX12_isFound_61 ?_
      refine x_if_eq (tgt := 86) dX12_isFound_62 rfl (fun q62 => ?_) (fun q62 => ?_)
      · skip
        first | (simp only [cmp_lt, cmp_gt, cmp_eq, zN_cge, zN_cle, Decidable.not_not] at q62) | (simp (disch := omega) only [zN_le, zN_lt, zN_0, zN_1, nI_toInt, zN_eq, zN_eq0, b2_z, b2_nz, Decidable.not_not, Int.not_lt, Int.not_le, zK0, zK1, zK2, zK3, zK5, zK7, zK8, zK9, zK10, zK19, zK20, zK40, zK99, zK100, zK199] at q62) | skip
        first | refine x_ii4 rfl (nI_1 _) dX12_isFound_86 ?_ | refine x_ii4 rfl rfl dX12_isFound_86 ?_
        refine x_goto (tgt := 31) dX12_isFound_89 rfl ?_
        exact ih (i + 1, _) _ (by simp only; omega) ⟨il, rfl, by rw [hE, decide_eq_true (Or.inl q62), Bool.true_and]⟩
      · skip
        first | (simp only [cmp_lt, cmp_gt, cmp_eq, zN_cge, zN_cle, Decidable.not_not] at q62) | (simp (disch := omega) only [zN_le, zN_lt, zN_0, zN_1, nI_toInt, zN_eq, zN_eq0, b2_z, b2_nz, Decidable.not_not, Int.not_lt, Int.not_le, zK0, zK1, zK2, zK3, zK5, zK7, zK8, zK9, zK10, zK19, zK20, zK40, zK99, zK100, zK199] at q62) | skip
        refine x_ll5 dX12_isFound_65 ?_
        refine x_al0 rfl dX12_isFound_67 ?_
        refine x_il2 dX12_isFound_68 ?_
        refine x_al0 rfl dX12_isFound_69 ?_
        refine x_gm fdX12_42 W.hM (by decide) W.hF.f20 dX12_isFound_70 ?_
        refine x_il4 dX12_isFound_73 ?_
        refine x_mld (len := 9) W rfl rfl (by decide) (by omega) (v3 i (show i < (visD dk row p st.2.1).1.length by omega)) dX12_isFound_75 ?_
        refine x_cv2I mX12_nameIn_ok lkX12_251 rfl (Nat.le_of_ble_eq_true rfl) (Nat.le_of_ble_eq_true rfl) dX12_isFound_76 W.hM  (j_nameIn W J hr pl) ?_
        refine x_i2l (nI_l (Nat.lt_of_lt_of_le (nm_lt hn6 hr pl) (by omega))) dX12_isFound_79 ?_
        refine x_lcmp (rfl) dX12_isFound_80 ?_
        refine x_if_eq (tgt := 86) dX12_isFound_81 rfl (fun q81 => ?_) (fun q81 => ?_)
        · skip
          first | (simp only [cmp_lt, cmp_gt, cmp_eq, zN_cge, zN_cle, Decidable.not_not] at q81) | (simp (disch := omega) only [zN_le, zN_lt, zN_0, zN_1, nI_toInt, zN_eq, zN_eq0, b2_z, b2_nz, Decidable.not_not, Int.not_lt, Int.not_le, zK0, zK1, zK2, zK3, zK5, zK7, zK8, zK9, zK10, zK19, zK20, zK40, zK99, zK100, zK199] at q81) | skip
          first | refine x_ii4 rfl (nI_1 _) dX12_isFound_86 ?_ | refine x_ii4 rfl rfl dX12_isFound_86 ?_
          refine x_goto (tgt := 31) dX12_isFound_89 rfl ?_
          exact ih (i + 1, _) _ (by simp only; omega) ⟨il, rfl, by rw [hE, decide_eq_true (Or.inr q81), Bool.true_and]⟩
        · skip
          first | (simp only [cmp_lt, cmp_gt, cmp_eq, zN_cge, zN_cle, Decidable.not_not] at q81) | (simp (disch := omega) only [zN_le, zN_lt, zN_0, zN_1, nI_toInt, zN_eq, zN_eq0, b2_z, b2_nz, Decidable.not_not, Int.not_lt, Int.not_le, zK0, zK1, zK2, zK3, zK5, zK7, zK8, zK9, zK10, zK19, zK20, zK40, zK99, zK100, zK199] at q81) | skip
          refine x_iconst (v := nI 0) dX12_isFound_84 rfl ?_
          exact x_iret rfl  rfl dX12_isFound_85 ⟨_, rfl, by rw [hE, decide_eq_false (fun z => z.elim q62 q81)]; rfl, _, _, _, W, J, U⟩
  · skip
    have nf : ¬ q.2.length ≤ (visD dk row p st.2.1).1.length := fun z => q23 (nI_le z (by omega))
    refine x_iconst (v := nI 0) dX12_isFound_26 rfl ?_
    exact x_iret rfl  rfl dX12_isFound_27 ⟨_, rfl, by rw [b2z (by unfold fitB; rw [decide_eq_false nf]; exact Bool.false_ne_true)], _, _, _, W, J, U⟩
theorem j_laysFound {t p : Nat} {q : Nat × List Int64} (W : MW h0 h s M L) (J : MJ s M L dk st un tp tr pi fl) (ht : t < 4) (hqt : tr t = some q) (h8 : q.2.length ≤ 8) (hp : p < dk.1) : Zm g (d + 4) 0 0 mX12_laysFound [.ref 59, .int (nI t), .int (nI p)] h (rIp (fun r h' => r = nI (cnt (fitB dk st.2.1 p q.2) (fct dk.1)) ∧ ∃ s' M' L', MW h0 h' s' M' L' ∧ MJ s' M' L' dk st un tp tr pi fl ∧ Un [21, 22] [66, 67, 68, 79] [] s s' M M' L L' ∧ ∀ e x, e < dk.1 → x < 6 → M' 79 (6 * e + x) = nI (ly dk st.2.1 p q.2 e x))) := by
  obtain ⟨D, hn0, hn6, ho0, ho9, hng, hli, e0, e1, e2, m1, m2, m3, m4, m5, u1, u2, t1, t2, r1, hf⟩ := MJ.o J
  show Zw g (d + 4) 0 0 mX12_laysFound 0 [some (.ref 59), some (.int (nI t)), some (.int (nI p)), none, none, none] [] h _
  refine x_iconst (v := nI 0) dX12_laysFound_0 rfl ?_
  refine x_is3 rfl dX12_laysFound_1 ?_
  refine x_iconst (v := nI 0) dX12_laysFound_2 rfl ?_
  refine x_is4 rfl dX12_laysFound_3 ?_
  refine x_for (e := 36) (fun i => [some (.ref 59), some (.int (nI t)), some (.int (nI p)), some (.int (nI 0)), some (.int (nI i)), none]) (fun i h => ∃ M', MW h0 h s M' L ∧ MJ s M' L dk st un tp tr pi fl ∧ Un [21, 22] [66, 67, 68, 79] [] s s M M' L L ∧ ∀ k, k < i → M' 79 k = nI 0) 0 (by omega) ⟨_, W, J, Un.rf, fun k hk => absurd hk (Nat.not_lt_zero _)⟩ (fun h hI => ?_) (fun i h hi hI ih => ?_)
  · obtain ⟨M', W, J, U, hz⟩ := hI
    refine x_il4 dX12_laysFound_5 ?_
    refine x_bipush (v := nI 36) dX12_laysFound_7 rfl ?_
    refine x_icmp_ge (tgt := 26) dX12_laysFound_9 rfl (fun q9 => ?_) (fun q9 => ?_)
    · skip
      first | (simp only [cmp_lt, cmp_gt, cmp_eq, zN_cge, zN_cle, Decidable.not_not] at q9) | (simp (disch := omega) only [zN_le, zN_lt, zN_0, zN_1, nI_toInt, zN_eq, zN_eq0, b2_z, b2_nz, Decidable.not_not, Int.not_lt, Int.not_le, zK0, zK1, zK2, zK3, zK5, zK7, zK8, zK9, zK10, zK19, zK20, zK40, zK99, zK100, zK199] at q9) | skip
      refine x_iconst (v := nI 0) dX12_laysFound_26 rfl ?_
      refine x_is4 rfl dX12_laysFound_27 ?_
      refine x_wh (fun (a : Nat × Option Value) => [some (.ref 59), some (.int (nI t)), some (.int (nI p)), some (.int (nI (cnt (fitB dk st.2.1 p q.2) a.1))), some (.int (nI a.1)), a.2]) (fun a h => a.1 ≤ fct dk.1 ∧ ∃ s' M' L', MW h0 h s' M' L' ∧ MJ s' M' L' dk st un tp tr pi fl ∧ Un [21, 22] [66, 67, 68, 79] [] s s' M M' L L' ∧ ∀ e x, e < dk.1 → x < 6 → M' 79 (6 * e + x) = nI (cnt (lyB dk st.2.1 p q.2 e x) a.1)) (fun a => fct dk.1 - a.1) (0, none) ⟨Nat.zero_le _, _, _, _, W, J, U, fun e x he hx => hz _ (by omega)⟩ (fun a h hI ih => ?_)
      obtain ⟨i, lv⟩ := a
      obtain ⟨hi, s', M', L', W, J, U, hl⟩ := hI
      simp only at hi hl
      dsimp only
      obtain ⟨D, hn0, hn6, ho0, ho9, hng, hli, e0, e1, e2, m1, m2, m3, m4, m5, u1, u2, t1, t2, r1, hf⟩ := MJ.o J
      refine x_il4 dX12_laysFound_29 ?_
      refine x_al0 rfl dX12_laysFound_31 ?_
      refine x_gm fdX12_223 W.hM (by decide) (by first | assumption | rfl) dX12_laysFound_32 ?_
      refine x_icmp_ge (tgt := 104) dX12_laysFound_35 rfl (fun q35 => ?_) (fun q35 => ?_)
      · skip
        first | (simp only [cmp_lt, cmp_gt, cmp_eq, zN_cge, zN_cle, Decidable.not_not] at q35) | (simp (disch := omega) only [zN_le, zN_lt, zN_0, zN_1, nI_toInt, zN_eq, zN_eq0, b2_z, b2_nz, Decidable.not_not, Int.not_lt, Int.not_le, zK0, zK1, zK2, zK3, zK5, zK7, zK8, zK9, zK10, zK19, zK20, zK40, zK99, zK100, zK199] at q35) | skip
        have i9 : i = fct dk.1 := by omega
        subst i9
        refine x_il3 dX12_laysFound_104 ?_
        exact x_iret rfl rfl dX12_laysFound_105 ⟨_, rfl, rfl, _, _, _, W, J, U, hl⟩
      · skip
        first | (simp only [cmp_lt, cmp_gt, cmp_eq, zN_cge, zN_cle, Decidable.not_not] at q35) | (simp (disch := omega) only [zN_le, zN_lt, zN_0, zN_1, nI_toInt, zN_eq, zN_eq0, b2_z, b2_nz, Decidable.not_not, Int.not_lt, Int.not_le, zK0, zK1, zK2, zK3, zK5, zK7, zK8, zK9, zK10, zK19, zK20, zK40, zK99, zK100, zK199] at q35) | skip
        have il : i < fct dk.1 := by omega
        refine x_al0 rfl dX12_laysFound_38 ?_
        refine x_il1 dX12_laysFound_39 ?_
        refine x_il4 dX12_laysFound_40 ?_
        refine x_il2 dX12_laysFound_42 ?_
        refine x_cv3Ip mX12_isFound_ok lkX12_401 rfl (Nat.le_of_ble_eq_true rfl) (Nat.le_of_ble_eq_true rfl) dX12_laysFound_43 W.hM  (j_isFound W J ht hqt h8 il hp) (fun r h hq => ?_)
        obtain ⟨rfl, s2, M2, L2, W, J, U2⟩ := hq
        have e79 := U2.2.1 79 (by decide)
        rw [← e79] at hl
        replace U := U.tr (U2.mono (by simp) (by simp) (by simp))
        obtain ⟨D, hn0, hn6, ho0, ho9, hng, hli, e0, e1, e2, m1, m2, m3, m4, m5, u1, u2, t1, t2, r1, hf⟩ := MJ.o J
        refine x_if_ne (tgt := 52) dX12_laysFound_46 rfl (fun q46 => ?_) (fun q46 => ?_)
        · skip
          first | (simp only [cmp_lt, cmp_gt, cmp_eq, zN_cge, zN_cle, Decidable.not_not] at q46) | (simp (disch := omega) only [zN_le, zN_lt, zN_0, zN_1, nI_toInt, zN_eq, zN_eq0, b2_z, b2_nz, Decidable.not_not, Int.not_lt, Int.not_le, zK0, zK1, zK2, zK3, zK5, zK7, zK8, zK9, zK10, zK19, zK20, zK40, zK99, zK100, zK199] at q46) | skip
          first | refine x_ii3 rfl (nI_1 _) dX12_laysFound_52 ?_ | refine x_ii3 rfl rfl dX12_laysFound_52 ?_
          refine x_iconst (v := nI 0) dX12_laysFound_55 rfl ?_
          refine x_is5 rfl dX12_laysFound_56 ?_
          rw [show cnt (fitB dk st.2.1 p q.2) i + 1 = cnt (fitB dk st.2.1 p q.2) (i + 1) by rw [cnt, if_pos q46]]
          refine x_for (e := dk.1) (fun e => [some (.ref 59), some (.int (nI t)), some (.int (nI p)), some (.int (nI (cnt (fitB dk st.2.1 p q.2) (i + 1)))), some (.int (nI i)), some (.int (nI e))]) (fun e h => ∃ M', MW h0 h s2 M' L2 ∧ MJ s2 M' L2 dk st un tp tr pi fl ∧ Un [21, 22] [66, 67, 68, 79] [] s s2 M M' L L2 ∧ ∀ e' x, e' < dk.1 → x < 6 → M' 79 (6 * e' + x) = nI (cnt (lyB dk st.2.1 p q.2 e' x) i + bN (e' < e ∧ nm dk.1 i e' = x))) 0 (by omega) ⟨_, W, J, U, fun e' x he hx => by rw [hl e' x he hx, show bN (e' < 0 ∧ nm dk.1 i e' = x) = 0 from if_neg (by omega)]; rfl⟩ (fun h hI => ?_) (fun e h he hI ih2 => ?_)
          · obtain ⟨M', W, J, U, hl⟩ := hI
            obtain ⟨D, hn0, hn6, ho0, ho9, hng, hli, e0, e1, e2, m1, m2, m3, m4, m5, u1, u2, t1, t2, r1, hf⟩ := MJ.o J
            refine x_il5 dX12_laysFound_58 ?_
            refine x_al0 rfl dX12_laysFound_60 ?_
            refine x_gm fdX12_13 W.hM (by decide) W.hF.f1 dX12_laysFound_61 ?_
            refine x_iconst (v := nI 1) dX12_laysFound_64 rfl ?_
            refine x_mld (len := 2868) W rfl rfl (by decide) (by omega) (by first | assumption | rfl) dX12_laysFound_65 ?_
            refine x_icmp_ge (tgt := 98) dX12_laysFound_66 rfl (fun q66 => ?_) (fun q66 => ?_)
            · skip
              first | (simp only [cmp_lt, cmp_gt, cmp_eq, zN_cge, zN_cle, Decidable.not_not] at q66) | (simp (disch := omega) only [zN_le, zN_lt, zN_0, zN_1, nI_toInt, zN_eq, zN_eq0, b2_z, b2_nz, Decidable.not_not, Int.not_lt, Int.not_le, zK0, zK1, zK2, zK3, zK5, zK7, zK8, zK9, zK10, zK19, zK20, zK40, zK99, zK100, zK199] at q66) | skip
              refine x_ii4 rfl (nI_1 _) dX12_laysFound_98 ?_
              refine x_goto (tgt := 29) dX12_laysFound_101 rfl ?_
              refine ih (i + 1, _) _ (by simp only; omega) ⟨il, _, _, _, W, J, U, fun e x he hx => ?_⟩
              rw [hl e x he hx]
              refine congrArg nI (cnt_s ?_)
              unfold lyB
              rw [q46, Bool.true_and, decide_eq_true_eq]
              exact ⟨fun z => z.2, fun z => ⟨he, z⟩⟩
            · skip
              first | (simp only [cmp_lt, cmp_gt, cmp_eq, zN_cge, zN_cle, Decidable.not_not] at q66) | (simp (disch := omega) only [zN_le, zN_lt, zN_0, zN_1, nI_toInt, zN_eq, zN_eq0, b2_z, b2_nz, Decidable.not_not, Int.not_lt, Int.not_le, zK0, zK1, zK2, zK3, zK5, zK7, zK8, zK9, zK10, zK19, zK20, zK40, zK99, zK100, zK199] at q66) | skip
              omega
          · obtain ⟨M', W, J, U, hl⟩ := hI
            obtain ⟨D, hn0, hn6, ho0, ho9, hng, hli, e0, e1, e2, m1, m2, m3, m4, m5, u1, u2, t1, t2, r1, hf⟩ := MJ.o J
            have nl := nm_lt hn6 il he
            refine x_il5 dX12_laysFound_58 ?_
            refine x_al0 rfl dX12_laysFound_60 ?_
            refine x_gm fdX12_13 W.hM (by decide) W.hF.f1 dX12_laysFound_61 ?_
            refine x_iconst (v := nI 1) dX12_laysFound_64 rfl ?_
            refine x_mld (len := 2868) W rfl rfl (by decide) (by omega) (by first | assumption | rfl) dX12_laysFound_65 ?_
            refine x_icmp_ge (tgt := 98) dX12_laysFound_66 rfl (fun q66 => ?_) (fun q66 => ?_)
            · skip
              first | (simp only [cmp_lt, cmp_gt, cmp_eq, zN_cge, zN_cle, Decidable.not_not] at q66) | (simp (disch := omega) only [zN_le, zN_lt, zN_0, zN_1, nI_toInt, zN_eq, zN_eq0, b2_z, b2_nz, Decidable.not_not, Int.not_lt, Int.not_le, zK0, zK1, zK2, zK3, zK5, zK7, zK8, zK9, zK10, zK19, zK20, zK40, zK99, zK100, zK199] at q66) | skip
              omega
            · skip
              first | (simp only [cmp_lt, cmp_gt, cmp_eq, zN_cge, zN_cle, Decidable.not_not] at q66) | (simp (disch := omega) only [zN_le, zN_lt, zN_0, zN_1, nI_toInt, zN_eq, zN_eq0, b2_z, b2_nz, Decidable.not_not, Int.not_lt, Int.not_le, zK0, zK1, zK2, zK3, zK5, zK7, zK8, zK9, zK10, zK19, zK20, zK40, zK99, zK100, zK199] at q66) | skip
              refine x_al0 rfl dX12_laysFound_69 ?_
              refine x_gm fdX12_76 W.hM (by decide) W.hF.f37 dX12_laysFound_70 ?_
              refine x_bipush (v := nI 6) dX12_laysFound_73 rfl ?_
              refine x_il5 dX12_laysFound_75 ?_
              first | refine x_imul (pk_mul _ _) dX12_laysFound_77 ?_ | refine x_imul rfl dX12_laysFound_77 ?_
              refine x_al0 rfl dX12_laysFound_78 ?_
              refine x_il4 dX12_laysFound_79 ?_
              refine x_il5 dX12_laysFound_81 ?_
              refine x_cv2I mX12_nameIn_ok lkX12_251 rfl (Nat.le_of_ble_eq_true rfl) (Nat.le_of_ble_eq_true rfl) dX12_laysFound_83 W.hM  (j_nameIn W J il he) ?_
              first | refine x_iadd (nI_add _ _) dX12_laysFound_86 ?_ | refine x_iadd rfl dX12_laysFound_86 ?_
              refine x_dup2 rfl rfl dX12_laysFound_87 ?_
              refine x_mld (len := 36) W rfl rfl (by decide) (by omega) (hl e _ he (by omega)) dX12_laysFound_88 ?_
              refine x_iconst (v := nI 1) dX12_laysFound_89 rfl ?_
              first | refine x_iadd (nI_add _ _) dX12_laysFound_90 ?_ | refine x_iadd rfl dX12_laysFound_90 ?_
              refine x_mstJ (len := 36) W J rfl rfl (by decide) rfl (by omega) dX12_laysFound_91 (fun h W J => ?_)
              first | refine x_ii5 rfl (nI_1 _) dX12_laysFound_92 ?_ | refine x_ii5 rfl rfl dX12_laysFound_92 ?_
              refine x_goto (tgt := 58) dX12_laysFound_95 rfl ?_
              refine ih2 _ ⟨_, W, J, U.m (by simp), fun e' x he' hx => ?_⟩
              rw [upM_eq]
              by_cases z : 6 * e' + x = 6 * e + nm dk.1 i e
              · have z1 : e' = e := by omega
                have z2 : x = nm dk.1 i e := by omega
                subst z1
                subst z2
                rw [pk_us, show bN (e' < e' ∧ nm dk.1 i e' = nm dk.1 i e') = 0 from if_neg (by omega), show bN (e' < e' + 1 ∧ nm dk.1 i e' = nm dk.1 i e') = 1 from if_pos ⟨by omega, rfl⟩]
              · rw [pk_un z, hl e' x he' hx]
                refine congrArg nI (congrArg (cnt (lyB dk st.2.1 p q.2 e' x) i + ·) ?_)
                unfold bN
                by_cases c : e' < e ∧ nm dk.1 i e' = x
                · rw [if_pos c, if_pos ⟨by omega, c.2⟩]
                · rw [if_neg c, if_neg]
                  intro c2
                  by_cases c3 : e' = e
                  · subst c3; exact z (by rw [c2.2])
                  · exact c ⟨by omega, c2.2⟩
        · skip
          first | (simp only [cmp_lt, cmp_gt, cmp_eq, zN_cge, zN_cle, Decidable.not_not] at q46) | (simp (disch := omega) only [zN_le, zN_lt, zN_0, zN_1, nI_toInt, zN_eq, zN_eq0, b2_z, b2_nz, Decidable.not_not, Int.not_lt, Int.not_le, zK0, zK1, zK2, zK3, zK5, zK7, zK8, zK9, zK10, zK19, zK20, zK40, zK99, zK100, zK199] at q46) | skip
          refine x_goto (tgt := 98) dX12_laysFound_49 rfl ?_
          refine x_ii4 rfl (nI_1 _) dX12_laysFound_98 ?_
          refine x_goto (tgt := 29) dX12_laysFound_101 rfl ?_
          rw [show cnt (fitB dk st.2.1 p q.2) i = cnt (fitB dk st.2.1 p q.2) (i + 1) by rw [cnt, if_neg q46]; rfl]
          refine ih (i + 1, _) _ (by simp only; omega) ⟨il, _, _, _, W, J, U, fun e x he hx => ?_⟩
          rw [hl e x he hx, cnt, if_neg (by unfold lyB; rw [Bool.eq_false_iff.mpr q46]; exact Bool.false_ne_true)]
          all_goals rfl
    · skip
      first | (simp only [cmp_lt, cmp_gt, cmp_eq, zN_cge, zN_cle, Decidable.not_not] at q9) | (simp (disch := omega) only [zN_le, zN_lt, zN_0, zN_1, nI_toInt, zN_eq, zN_eq0, b2_z, b2_nz, Decidable.not_not, Int.not_lt, Int.not_le, zK0, zK1, zK2, zK3, zK5, zK7, zK8, zK9, zK10, zK19, zK20, zK40, zK99, zK100, zK199] at q9) | skip
      omega
  · obtain ⟨M', W, J, U, hz⟩ := hI
    refine x_il4 dX12_laysFound_5 ?_
    refine x_bipush (v := nI 36) dX12_laysFound_7 rfl ?_
    refine x_icmp_ge (tgt := 26) dX12_laysFound_9 rfl (fun q9 => ?_) (fun q9 => ?_)
    · skip
      first | (simp only [cmp_lt, cmp_gt, cmp_eq, zN_cge, zN_cle, Decidable.not_not] at q9) | (simp (disch := omega) only [zN_le, zN_lt, zN_0, zN_1, nI_toInt, zN_eq, zN_eq0, b2_z, b2_nz, Decidable.not_not, Int.not_lt, Int.not_le, zK0, zK1, zK2, zK3, zK5, zK7, zK8, zK9, zK10, zK19, zK20, zK40, zK99, zK100, zK199] at q9) | skip
      omega
    · skip
      first | (simp only [cmp_lt, cmp_gt, cmp_eq, zN_cge, zN_cle, Decidable.not_not] at q9) | (simp (disch := omega) only [zN_le, zN_lt, zN_0, zN_1, nI_toInt, zN_eq, zN_eq0, b2_z, b2_nz, Decidable.not_not, Int.not_lt, Int.not_le, zK0, zK1, zK2, zK3, zK5, zK7, zK8, zK9, zK10, zK19, zK20, zK40, zK99, zK100, zK199] at q9) | skip
      refine x_al0 rfl dX12_laysFound_12 ?_
      refine x_gm fdX12_76 W.hM (by decide) W.hF.f37 dX12_laysFound_13 ?_
      refine x_il4 dX12_laysFound_16 ?_
      refine x_iconst (v := nI 0) dX12_laysFound_18 rfl ?_
      refine x_mstJ (len := 36) W J rfl rfl (by decide) rfl (by omega) dX12_laysFound_19 (fun h W J => ?_)
      first | refine x_ii4 rfl (nI_1 _) dX12_laysFound_20 ?_ | refine x_ii4 rfl rfl dX12_laysFound_20 ?_
      refine x_goto (tgt := 5) dX12_laysFound_23 rfl ?_
      refine ih _ ⟨_, W, J, U.m (by simp), fun k hk => ?_⟩
      rw [upM_eq]
      by_cases z : k = i
      · rw [z]; exact pk_us
      · rw [pk_un z]; exact hz k (by omega)
theorem w_found {x y : Int32} (I : MI h0 h dk st un tp tr pi fl) : Zm g (d + 5) 0 0 mX12_found [.ref 59, .int x, .int y] h (rIp (fun r h' => r = F_found dk st tr x y ∧ MI h0 h' dk st un tp tr pi fl)) := by
  obtain ⟨s, M, L, W, J⟩ := I
  show Zw g (d + 5) 0 0 mX12_found 0 [some (.ref 59), some (.int x), some (.int y), none] [] h _
  refine x_al0 rfl dX12_found_0 ?_
  refine x_iconst (v := nI 0) dX12_found_1 rfl ?_
  refine x_mpfJ W J fdX12_1 (by decide) rfl rfl zf_i dX12_found_2 (fun h W J => ?_)
  refine x_al0 rfl dX12_found_5 ?_
  refine x_il1 dX12_found_6 ?_
  refine x_il2 dX12_found_7 ?_
  refine x_cv2I mX12_noOne_ok lkX12_405 rfl (Nat.le_of_ble_eq_true rfl) (Nat.le_of_ble_eq_true rfl) dX12_found_8 W.hM  (j_noOne W J) ?_
  refine x_is3 rfl dX12_found_11 ?_
  refine x_il3 dX12_found_12 ?_
  refine x_if_eq (tgt := 20) dX12_found_13 rfl (fun q13 => ?_) (fun q13 => ?_)
  · skip
    unfold F_found
    rw [if_pos q13]
    obtain ⟨oy, k, q, hk, rfl, hqt, etv, l1, l8⟩ := fR_0 q13
    obtain ⟨p, hp, rfl⟩ := oneOf_ex oy
    rw [etv, show tn (nI p) = p from nI_clamp (by have := J.1.1.2.1; omega)]
    refine x_al0 rfl dX12_found_20 ?_
    refine x_il1 dX12_found_21 ?_
    refine x_il2 dX12_found_22 ?_
    refine x_cv2Ip mX12_laysFound_ok lkX12_408 rfl (Nat.le_of_ble_eq_true rfl) (Nat.le_of_ble_eq_true rfl) dX12_found_23 W.hM  (j_laysFound W J hk hqt l8 hp) (fun r h hq => ?_)
    obtain ⟨rfl, s, M, L, W, J, U, hl⟩ := hq
    exact x_iret rfl rfl dX12_found_26 ⟨_, rfl, rfl, _, _, _, W, J⟩
  · skip
    refine x_il3 dX12_found_16 ?_
    refine x_goto (tgt := 26) dX12_found_17 rfl ?_
    exact x_iret rfl rfl dX12_found_26 ⟨_, rfl, by rw [F_found, if_neg q13], _, _, _, W, J⟩
theorem w_names {x y z : Int32} (I : MI h0 h dk st un tp tr pi fl) : Zm g (d + 5) 0 0 mX12_names [.ref 59, .int x, .int y, .int z] h (rIp (fun r h' => r = F_names dk st tr x y z ∧ MI h0 h' dk st un tp tr pi fl)) := by
  obtain ⟨s, M, L, W, J⟩ := I
  obtain ⟨D, hn0, hn6, ho0, ho9, hng, hli, e0, e1, e2, m1, m2, m3, m4, m5, u1, u2, t1, t2, r1, hf⟩ := MJ.o J
  have e4 : oneOf x 4 ↔ 0 ≤ x.toInt ∧ x.toInt ≤ 3 := by
    unfold oneOf
    omega
  show Zw g (d + 5) 0 0 mX12_names 0 [some (.ref 59), some (.int x), some (.int y), some (.int z), none, none, none] [] h _
  refine x_al0 rfl dX12_names_0 ?_
  refine x_iconst (v := nI 0) dX12_names_1 rfl ?_
  refine x_mpfJ W J fdX12_1 (by decide) rfl rfl zf_i dX12_names_2 (fun h W J => ?_)
  refine x_il1 dX12_names_5 ?_
  refine x_i2l (rfl) dX12_names_6 ?_
  refine x_lconst (v := 0) dX12_names_7 rfl ?_
  refine x_ldc2 kcX12_312 dX12_names_8 ?_
  refine x_cs3I mX12_within_ok lkX12_157 (Nat.le_of_ble_eq_true rfl) (Nat.le_of_ble_eq_true rfl) dX12_names_11 j_within ?_
  refine x_if_eq (tgt := 35) dX12_names_14 rfl (fun q14 => ?_) (fun q14 => ?_)
  · skip
    first | (simp only [cmp_lt, cmp_gt, cmp_eq, zN_cge, zN_cle, Decidable.not_not] at q14) | (simp (disch := omega) only [zN_le, zN_lt, zN_0, zN_1, nI_toInt, zN_eq, zN_eq0, b2_z, b2_nz, Decidable.not_not, Int.not_lt, Int.not_le, zK0, zK1, zK2, zK3, zK5, zK7, zK8, zK9, zK10, zK19, zK20, zK40, zK99, zK100, zK199] at q14) | skip
    refine x_bipush (v := (-2)) dX12_names_35 rfl ?_
    exact x_iret rfl rfl dX12_names_37 ⟨_, rfl, by rw [F_names, if_neg (fun c => q14 (e4.mp c.1))], _, _, _, W, J⟩
  · skip
    first | (simp only [cmp_lt, cmp_gt, cmp_eq, zN_cge, zN_cle, Decidable.not_not] at q14) | (simp (disch := omega) only [zN_le, zN_lt, zN_0, zN_1, nI_toInt, zN_eq, zN_eq0, b2_z, b2_nz, Decidable.not_not, Int.not_lt, Int.not_le, zK0, zK1, zK2, zK3, zK5, zK7, zK8, zK9, zK10, zK19, zK20, zK40, zK99, zK100, zK199] at q14) | skip
    refine x_al0 rfl dX12_names_17 ?_
    refine x_il2 dX12_names_18 ?_
    refine x_i2l (rfl) dX12_names_19 ?_
    refine x_cv1I mX12_isDrawer_ok lkX12_261 rfl (Nat.le_of_ble_eq_true rfl) (Nat.le_of_ble_eq_true rfl) dX12_names_20 W.hM  (j_isDrawer W J) ?_
    refine x_if_eq (tgt := 35) dX12_names_23 rfl (fun q23 => ?_) (fun q23 => ?_)
    · skip
      first | (simp only [cmp_lt, cmp_gt, cmp_eq, zN_cge, zN_cle, Decidable.not_not] at q23) | (simp (disch := omega) only [zN_le, zN_lt, zN_0, zN_1, nI_toInt, zN_eq, zN_eq0, b2_z, b2_nz, Decidable.not_not, Int.not_lt, Int.not_le, zK0, zK1, zK2, zK3, zK5, zK7, zK8, zK9, zK10, zK19, zK20, zK40, zK99, zK100, zK199] at q23) | skip
      refine x_bipush (v := (-2)) dX12_names_35 rfl ?_
      exact x_iret rfl rfl dX12_names_37 ⟨_, rfl, by rw [F_names, if_neg (fun c => q23 c.2.1)], _, _, _, W, J⟩
    · skip
      first | (simp only [cmp_lt, cmp_gt, cmp_eq, zN_cge, zN_cle, Decidable.not_not] at q23) | (simp (disch := omega) only [zN_le, zN_lt, zN_0, zN_1, nI_toInt, zN_eq, zN_eq0, b2_z, b2_nz, Decidable.not_not, Int.not_lt, Int.not_le, zK0, zK1, zK2, zK3, zK5, zK7, zK8, zK9, zK10, zK19, zK20, zK40, zK99, zK100, zK199] at q23) | skip
      refine x_al0 rfl dX12_names_26 ?_
      refine x_il3 dX12_names_27 ?_
      refine x_i2l (rfl) dX12_names_28 ?_
      refine x_cv1I mX12_isDrawer_ok lkX12_261 rfl (Nat.le_of_ble_eq_true rfl) (Nat.le_of_ble_eq_true rfl) dX12_names_29 W.hM  (j_isDrawer W J) ?_
      refine x_if_ne (tgt := 38) dX12_names_32 rfl (fun q32 => ?_) (fun q32 => ?_)
      · skip
        first | (simp only [cmp_lt, cmp_gt, cmp_eq, zN_cge, zN_cle, Decidable.not_not] at q32) | (simp (disch := omega) only [zN_le, zN_lt, zN_0, zN_1, nI_toInt, zN_eq, zN_eq0, b2_z, b2_nz, Decidable.not_not, Int.not_lt, Int.not_le, zK0, zK1, zK2, zK3, zK5, zK7, zK8, zK9, zK10, zK19, zK20, zK40, zK99, zK100, zK199] at q32) | skip
        unfold F_names
        rw [if_pos ⟨e4.mpr q14, q23, q32⟩]
        refine x_al0 rfl dX12_names_38 ?_
        refine x_il1 dX12_names_39 ?_
        refine x_cv1I mX12_noFound_ok lkX12_398 rfl (Nat.le_of_ble_eq_true rfl) (Nat.le_of_ble_eq_true rfl) dX12_names_40 W.hM  (j_noFound W J) ?_
        refine x_is4 rfl dX12_names_43 ?_
        refine x_il4 dX12_names_45 ?_
        refine x_if_eq (tgt := 53) dX12_names_47 rfl (fun q47 => ?_) (fun q47 => ?_)
        · skip
          rw [if_pos q47]
          obtain ⟨k, q, hk, rfl, hqt, etv, l1, l8⟩ := noTl_0 q47
          obtain ⟨p, hp, rfl⟩ := oneOf_ex q23
          obtain ⟨e, he, rfl⟩ := oneOf_ex q32
          rw [etv, show tn (nI p) = p from nI_clamp (by omega), show tn (nI e) = e from nI_clamp (by omega)]
          refine x_al0 rfl dX12_names_53 ?_
          refine x_il1 dX12_names_54 ?_
          refine x_il2 dX12_names_55 ?_
          refine x_cv2Ip mX12_laysFound_ok lkX12_408 rfl (Nat.le_of_ble_eq_true rfl) (Nat.le_of_ble_eq_true rfl) dX12_names_56 W.hM  (j_laysFound W J hk hqt l8 hp) (fun r h hq => ?_)
          obtain ⟨rfl, s, M, L, W, J, U, hl⟩ := hq
          refine x_pop rfl dX12_names_59 ?_
          refine x_iconst (v := nI 0) dX12_names_60 rfl ?_
          refine x_is5 rfl dX12_names_61 ?_
          refine x_iconst (v := nI 0) dX12_names_63 rfl ?_
          refine x_is6 rfl dX12_names_64 ?_
          refine x_for (e := 6) (fun i => [some (.ref 59), some (.int (nI k)), some (.int (nI p)), some (.int (nI e)), some (.int (noTl tr (-1) ((dk.1 : Int) - 1) (nI k))), some (.int (nI (brs (fun i => decide (0 < ly dk st.2.1 p q.2 e i)) i))), some (.int (nI i))]) (fun i h' => h' = h) 0 (by omega) rfl (fun h' hI => ?_) (fun i h' hi hI ih => ?_)
          · subst hI
            refine x_il6 dX12_names_66 ?_
            refine x_bipush (v := nI 6) dX12_names_68 rfl ?_
            refine x_icmp_ge (tgt := 107) dX12_names_70 rfl (fun q70 => ?_) (fun q70 => ?_)
            · skip
              first | (simp only [cmp_lt, cmp_gt, cmp_eq, zN_cge, zN_cle, Decidable.not_not] at q70) | (simp (disch := omega) only [zN_le, zN_lt, zN_0, zN_1, nI_toInt, zN_eq, zN_eq0, b2_z, b2_nz, Decidable.not_not, Int.not_lt, Int.not_le, zK0, zK1, zK2, zK3, zK5, zK7, zK8, zK9, zK10, zK19, zK20, zK40, zK99, zK100, zK199] at q70) | skip
              refine x_il5 dX12_names_107 ?_
              exact x_iret rfl rfl dX12_names_109 ⟨_, rfl, rfl, _, _, _, W, J⟩
            · skip
              first | (simp only [cmp_lt, cmp_gt, cmp_eq, zN_cge, zN_cle, Decidable.not_not] at q70) | (simp (disch := omega) only [zN_le, zN_lt, zN_0, zN_1, nI_toInt, zN_eq, zN_eq0, b2_z, b2_nz, Decidable.not_not, Int.not_lt, Int.not_le, zK0, zK1, zK2, zK3, zK5, zK7, zK8, zK9, zK10, zK19, zK20, zK40, zK99, zK100, zK199] at q70) | skip
              omega
          · subst hI
            have ll := ly_le (dk := dk) (c := st.2.1) (p := p) (e := e) (x := i) (vs := q.2) hn6
            refine x_il6 dX12_names_66 ?_
            refine x_bipush (v := nI 6) dX12_names_68 rfl ?_
            refine x_icmp_ge (tgt := 107) dX12_names_70 rfl (fun q70 => ?_) (fun q70 => ?_)
            · skip
              first | (simp only [cmp_lt, cmp_gt, cmp_eq, zN_cge, zN_cle, Decidable.not_not] at q70) | (simp (disch := omega) only [zN_le, zN_lt, zN_0, zN_1, nI_toInt, zN_eq, zN_eq0, b2_z, b2_nz, Decidable.not_not, Int.not_lt, Int.not_le, zK0, zK1, zK2, zK3, zK5, zK7, zK8, zK9, zK10, zK19, zK20, zK40, zK99, zK100, zK199] at q70) | skip
              omega
            · skip
              first | (simp only [cmp_lt, cmp_gt, cmp_eq, zN_cge, zN_cle, Decidable.not_not] at q70) | (simp (disch := omega) only [zN_le, zN_lt, zN_0, zN_1, nI_toInt, zN_eq, zN_eq0, b2_z, b2_nz, Decidable.not_not, Int.not_lt, Int.not_le, zK0, zK1, zK2, zK3, zK5, zK7, zK8, zK9, zK10, zK19, zK20, zK40, zK99, zK100, zK199] at q70) | skip
              refine x_il5 dX12_names_73 ?_
              refine x_al0 rfl dX12_names_75 ?_
              refine x_gm fdX12_76 W.hM (by decide) W.hF.f37 dX12_names_76 ?_
              refine x_bipush (v := nI 6) dX12_names_79 rfl ?_
              refine x_il3 dX12_names_81 ?_
              first | refine x_imul (pk_mul _ _) dX12_names_82 ?_ | refine x_imul rfl dX12_names_82 ?_
              refine x_il6 dX12_names_83 ?_
              first | refine x_iadd (nI_add _ _) dX12_names_85 ?_ | refine x_iadd rfl dX12_names_85 ?_
              refine x_mld (len := 36) W rfl rfl (by decide) (by omega) (hl e i he hi) dX12_names_86 ?_
              refine x_if_le (tgt := 97) dX12_names_87 rfl (fun q87 => ?_) (fun q87 => ?_)
              · skip
                first | (simp only [cmp_lt, cmp_gt, cmp_eq, zN_cge, zN_cle, Decidable.not_not] at q87) | (simp (disch := omega) only [zN_le, zN_lt, zN_0, zN_1, nI_toInt, zN_eq, zN_eq0, b2_z, b2_nz, Decidable.not_not, Int.not_lt, Int.not_le, zK0, zK1, zK2, zK3, zK5, zK7, zK8, zK9, zK10, zK19, zK20, zK40, zK99, zK100, zK199] at q87) | skip
                refine x_iconst (v := nI 0) dX12_names_97 rfl ?_
                refine x_ior (or_n _ _) dX12_names_98 ?_
                refine x_is5 rfl dX12_names_99 ?_
                first | refine x_ii6 rfl (nI_1 _) dX12_names_101 ?_ | refine x_ii6 rfl rfl dX12_names_101 ?_
                refine x_goto (tgt := 66) dX12_names_104 rfl ?_
                rw [show brs (fun i => decide (0 < ly dk st.2.1 p q.2 e i)) i ||| 0 = brs (fun i => decide (0 < ly dk st.2.1 p q.2 e i)) (i + 1) by rw [brs, if_neg (by simp; omega)]]
                exact ih _ rfl
              · skip
                first | (simp only [cmp_lt, cmp_gt, cmp_eq, zN_cge, zN_cle, Decidable.not_not] at q87) | (simp (disch := omega) only [zN_le, zN_lt, zN_0, zN_1, nI_toInt, zN_eq, zN_eq0, b2_z, b2_nz, Decidable.not_not, Int.not_lt, Int.not_le, zK0, zK1, zK2, zK3, zK5, zK7, zK8, zK9, zK10, zK19, zK20, zK40, zK99, zK100, zK199] at q87) | skip
                refine x_iconst (v := nI 1) dX12_names_90 rfl ?_
                refine x_il6 dX12_names_91 ?_
                refine x_ishl ((shl_n (by omega) (by rw [Nat.one_mul]; exact Nat.pow_lt_pow_right (by decide) (by omega)))) dX12_names_93 ?_
                refine x_goto (tgt := 98) dX12_names_94 rfl ?_
                refine x_ior (or_n _ _) dX12_names_98 ?_
                refine x_is5 rfl dX12_names_99 ?_
                first | refine x_ii6 rfl (nI_1 _) dX12_names_101 ?_ | refine x_ii6 rfl rfl dX12_names_101 ?_
                refine x_goto (tgt := 66) dX12_names_104 rfl ?_
                rw [Nat.one_mul, show brs (fun i => decide (0 < ly dk st.2.1 p q.2 e i)) i ||| 2 ^ i = brs (fun i => decide (0 < ly dk st.2.1 p q.2 e i)) (i + 1) by rw [brs, if_pos (by simp; omega)]]
                exact ih _ rfl
        · skip
          refine x_il4 dX12_names_50 ?_
          exact x_iret rfl rfl dX12_names_52 ⟨_, rfl, by rw [if_neg q47], _, _, _, W, J⟩
      · skip
        first | (simp only [cmp_lt, cmp_gt, cmp_eq, zN_cge, zN_cle, Decidable.not_not] at q32) | (simp (disch := omega) only [zN_le, zN_lt, zN_0, zN_1, nI_toInt, zN_eq, zN_eq0, b2_z, b2_nz, Decidable.not_not, Int.not_lt, Int.not_le, zK0, zK1, zK2, zK3, zK5, zK7, zK8, zK9, zK10, zK19, zK20, zK40, zK99, zK100, zK199] at q32) | skip
        refine x_bipush (v := (-2)) dX12_names_35 rfl ?_
        exact x_iret rfl rfl dX12_names_37 ⟨_, rfl, by rw [F_names, if_neg (fun c => q32 c.2.2)], _, _, _, W, J⟩
theorem w_look {x y : Int32} (I : MI h0 h dk st un tp tr pi fl) : Zm g (d + 5) 0 0 mX12_look [.ref 59, .int x, .int y] h (rIp (fun r h' => r = F_look dk st tr x y ∧ MI h0 h' dk st un tp tr pi fl)) := by
  obtain ⟨s, M, L, W, J⟩ := I
  obtain ⟨D, hn0, hn6, ho0, ho9, hng, hli, e0, e1, e2, m1, m2, m3, m4, m5, u1, u2, t1, t2, r1, hf⟩ := MJ.o J
  show Zw g (d + 5) 0 0 mX12_look 0 [some (.ref 59), some (.int x), some (.int y), none, none, none, none, none, none] [] h _
  refine x_al0 rfl dX12_look_0 ?_
  refine x_iconst (v := nI 0) dX12_look_1 rfl ?_
  refine x_mpfJ W J fdX12_1 (by decide) rfl rfl zf_i dX12_look_2 (fun h W J => ?_)
  refine x_al0 rfl dX12_look_5 ?_
  refine x_il1 dX12_look_6 ?_
  refine x_il2 dX12_look_7 ?_
  refine x_cv2I mX12_noOne_ok lkX12_405 rfl (Nat.le_of_ble_eq_true rfl) (Nat.le_of_ble_eq_true rfl) dX12_look_8 W.hM  (j_noOne W J) ?_
  refine x_is3 rfl dX12_look_11 ?_
  refine x_il3 dX12_look_12 ?_
  refine x_if_eq (tgt := 18) dX12_look_13 rfl (fun q13 => ?_) (fun q13 => ?_)
  · skip
    unfold F_look
    rw [if_pos q13]
    obtain ⟨oy, k, q, hk, rfl, hqt, etv, l1, l8⟩ := fR_0 q13
    obtain ⟨p, hp, rfl⟩ := oneOf_ex oy
    rw [etv, show tn (nI p) = p from nI_clamp (by omega)]
    refine x_al0 rfl dX12_look_18 ?_
    refine x_il1 dX12_look_19 ?_
    refine x_il2 dX12_look_20 ?_
    refine x_cv2Ip mX12_laysFound_ok lkX12_408 rfl (Nat.le_of_ble_eq_true rfl) (Nat.le_of_ble_eq_true rfl) dX12_look_21 W.hM  (j_laysFound W J hk hqt l8 hp) (fun r h hq => ?_)
    obtain ⟨rfl, s, M, L, W, J, U, hl⟩ := hq
    obtain ⟨D, hn0, hn6, ho0, ho9, hng, hli, e0, e1, e2, m1, m2, m3, m4, m5, u1, u2, t1, t2, r1, hf⟩ := MJ.o J
    have cl := cnt_le (P := fitB dk st.2.1 p q.2) (fct dk.1)
    refine x_if_ne (tgt := 29) dX12_look_24 rfl (fun q24 => ?_) (fun q24 => ?_)
    · skip
      first | (simp only [cmp_lt, cmp_gt, cmp_eq, zN_cge, zN_cle, Decidable.not_not] at q24) | (simp (disch := omega) only [zN_le, zN_lt, zN_0, zN_1, nI_toInt, zN_eq, zN_eq0, b2_z, b2_nz, Decidable.not_not, Int.not_lt, Int.not_le, zK0, zK1, zK2, zK3, zK5, zK7, zK8, zK9, zK10, zK19, zK20, zK40, zK99, zK100, zK199] at q24) | skip
      rw [if_neg q24]
      have ml : ∀ e, mo dk st.2.1 p q.2 e ≤ 720 := fun e => mx_le (fun j => ly_le hn6) 6
      have ll : ∀ e x, ly dk st.2.1 p q.2 e x ≤ 720 := fun e x => ly_le hn6
      refine x_iconst (v := (-1)) dX12_look_29 rfl ?_
      refine x_is4 rfl dX12_look_30 ?_
      refine x_ldcw kcX12_368 dX12_look_32 ?_
      refine x_is5 rfl dX12_look_35 ?_
      refine x_iconst (v := nI 0) dX12_look_37 rfl ?_
      refine x_is6 rfl dX12_look_38 ?_
      refine x_wh (fun (a : Nat × Option Value × Option Value) => [some (.ref 59), some (.int (nI k)), some (.int (nI p)), some (.int (fR dk tr (nI k) (nI p))), some (.int (if a.1 = 0 then -1 else nI (arg (mo dk st.2.1 p q.2) (a.1 - 1)))), some (.int (if a.1 = 0 then 268435456 else nI (mo dk st.2.1 p q.2 (arg (mo dk st.2.1 p q.2) (a.1 - 1))))), some (.int (nI a.1)), a.2.1, a.2.2]) (fun a h' => a.1 ≤ dk.1 ∧ h' = h) (fun a => dk.1 - a.1) (0, none, none) ⟨Nat.zero_le _, rfl⟩ (fun a h' hI ih => ?_)
      obtain ⟨i, v1, v2⟩ := a
      obtain ⟨hi, rfl⟩ := hI
      simp only at hi
      dsimp only
      refine x_il6 dX12_look_40 ?_
      refine x_al0 rfl dX12_look_42 ?_
      refine x_gm fdX12_13 W.hM (by decide) W.hF.f1 dX12_look_43 ?_
      refine x_iconst (v := nI 1) dX12_look_46 rfl ?_
      refine x_mld (len := 2868) W rfl rfl (by decide) (by omega) (by first | assumption | rfl) dX12_look_47 ?_
      refine x_icmp_ge (tgt := 132) dX12_look_48 rfl (fun q48 => ?_) (fun q48 => ?_)
      · skip
        first | (simp only [cmp_lt, cmp_gt, cmp_eq, zN_cge, zN_cle, Decidable.not_not] at q48) | (simp (disch := omega) only [zN_le, zN_lt, zN_0, zN_1, nI_toInt, zN_eq, zN_eq0, b2_z, b2_nz, Decidable.not_not, Int.not_lt, Int.not_le, zK0, zK1, zK2, zK3, zK5, zK7, zK8, zK9, zK10, zK19, zK20, zK40, zK99, zK100, zK199] at q48) | skip
        have i9 : i = dk.1 := by omega
        refine x_il4 dX12_look_132 ?_
        exact x_iret rfl rfl dX12_look_134 ⟨_, rfl, by rw [if_neg (by omega), i9], _, _, _, W, J⟩
      · skip
        first | (simp only [cmp_lt, cmp_gt, cmp_eq, zN_cge, zN_cle, Decidable.not_not] at q48) | (simp (disch := omega) only [zN_le, zN_lt, zN_0, zN_1, nI_toInt, zN_eq, zN_eq0, b2_z, b2_nz, Decidable.not_not, Int.not_lt, Int.not_le, zK0, zK1, zK2, zK3, zK5, zK7, zK8, zK9, zK10, zK19, zK20, zK40, zK99, zK100, zK199] at q48) | skip
        refine x_iconst (v := nI 0) dX12_look_51 rfl ?_
        refine x_is7 rfl dX12_look_52 ?_
        refine x_iconst (v := nI 0) dX12_look_54 rfl ?_
        refine x_is8 rfl dX12_look_55 ?_
        have il : i < dk.1 := by omega
        refine x_for (e := 6) (fun j => [some (.ref 59), some (.int (nI k)), some (.int (nI p)), some (.int (fR dk tr (nI k) (nI p))), some (.int (if i = 0 then -1 else nI (arg (mo dk st.2.1 p q.2) (i - 1)))), some (.int (if i = 0 then 268435456 else nI (mo dk st.2.1 p q.2 (arg (mo dk st.2.1 p q.2) (i - 1))))), some (.int (nI i)), some (.int (nI (mx (ly dk st.2.1 p q.2 i) j))), some (.int (nI j))]) (fun j h'' => h'' = h') 0 (by omega) rfl (fun h'' hI => ?_) (fun j h'' hj hI ih2 => ?_)
        · subst hI
          refine x_il8 dX12_look_57 ?_
          refine x_bipush (v := nI 6) dX12_look_59 rfl ?_
          refine x_icmp_ge (tgt := 108) dX12_look_61 rfl (fun q61 => ?_) (fun q61 => ?_)
          · skip
            first | (simp only [cmp_lt, cmp_gt, cmp_eq, zN_cge, zN_cle, Decidable.not_not] at q61) | (simp (disch := omega) only [zN_le, zN_lt, zN_0, zN_1, nI_toInt, zN_eq, zN_eq0, b2_z, b2_nz, Decidable.not_not, Int.not_lt, Int.not_le, zK0, zK1, zK2, zK3, zK5, zK7, zK8, zK9, zK10, zK19, zK20, zK40, zK99, zK100, zK199] at q61) | skip
            change Zw _ _ _ _ _ _ [_, _, _, _, _, _, _, some (.int (nI (mo dk st.2.1 p q.2 i))), _] _ _ _
            refine x_il7 dX12_look_108 ?_
            refine x_il5 dX12_look_110 ?_
            have mi := ml i
            have ma := ml (arg (mo dk st.2.1 p q.2) (i - 1))
            have key : nI (mo dk st.2.1 p q.2 i) < (if i = 0 then 268435456 else nI (mo dk st.2.1 p q.2 (arg (mo dk st.2.1 p q.2) (i - 1)))) ↔ (i = 0 ∨ mo dk st.2.1 p q.2 i < mo dk st.2.1 p q.2 (arg (mo dk st.2.1 p q.2) (i - 1))) := by
              by_cases z : i = 0
              · rw [if_pos z]
                exact ⟨fun _ => Or.inl z, fun _ => by rw [zN_lt, nI_toInt (by omega), show (268435456 : Int32).toInt = 268435456 from rfl]; omega⟩
              · rw [if_neg z, nI_ltI (by omega) (by omega)]
                exact ⟨Or.inr, fun c => c.resolve_left z⟩
            refine x_icmp_lt (tgt := 118) dX12_look_112 rfl (fun q112 => ?_) (fun q112 => ?_)
            · skip
              rw [key] at q112
              refine x_il6 dX12_look_118 ?_
              refine x_is4 rfl dX12_look_120 ?_
              refine x_il7 dX12_look_122 ?_
              refine x_is5 rfl dX12_look_124 ?_
              refine x_ii6 rfl (nI_1 _) dX12_look_126 ?_
              refine x_goto (tgt := 40) dX12_look_129 rfl ?_
              have ea : arg (mo dk st.2.1 p q.2) i = i := by
                rcases Nat.eq_zero_or_pos i with z | z
                · rw [z]; rfl
                · have e1 : arg (mo dk st.2.1 p q.2) (i - 1 + 1) = if mo dk st.2.1 p q.2 (i - 1 + 1) < mo dk st.2.1 p q.2 (arg (mo dk st.2.1 p q.2) (i - 1)) then i - 1 + 1 else arg (mo dk st.2.1 p q.2) (i - 1) := rfl
                  rw [show i - 1 + 1 = i by omega] at e1
                  rw [e1, if_pos (q112.resolve_left (by omega))]
              have z := ih (i + 1, some (.int (nI (mo dk st.2.1 p q.2 i))), some (.int (nI 6))) h'' (by simp only; omega) ⟨by simp only; omega, rfl⟩
              simp only [Nat.add_sub_cancel, ea, Nat.add_eq_zero_iff, Nat.one_ne_zero, and_false, if_false] at z
              exact z
            · skip
              rw [key] at q112
              refine x_goto (tgt := 126) dX12_look_115 rfl ?_
              refine x_ii6 rfl (nI_1 _) dX12_look_126 ?_
              refine x_goto (tgt := 40) dX12_look_129 rfl ?_
              have i0 : ¬ i = 0 := fun c => q112 (Or.inl c)
              have ea : arg (mo dk st.2.1 p q.2) i = arg (mo dk st.2.1 p q.2) (i - 1) := by
                have e1 : arg (mo dk st.2.1 p q.2) (i - 1 + 1) = if mo dk st.2.1 p q.2 (i - 1 + 1) < mo dk st.2.1 p q.2 (arg (mo dk st.2.1 p q.2) (i - 1)) then i - 1 + 1 else arg (mo dk st.2.1 p q.2) (i - 1) := rfl
                rw [show i - 1 + 1 = i by omega] at e1
                rw [e1, if_neg (fun c => q112 (Or.inr c))]
              have z := ih (i + 1, some (.int (nI (mo dk st.2.1 p q.2 i))), some (.int (nI 6))) h'' (by simp only; omega) ⟨by simp only; omega, rfl⟩
              simp only [Nat.add_sub_cancel, ea, Nat.add_eq_zero_iff, Nat.one_ne_zero, and_false, if_false] at z
              rw [if_neg i0, if_neg i0]
              exact z
          · skip
            first | (simp only [cmp_lt, cmp_gt, cmp_eq, zN_cge, zN_cle, Decidable.not_not] at q61) | (simp (disch := omega) only [zN_le, zN_lt, zN_0, zN_1, nI_toInt, zN_eq, zN_eq0, b2_z, b2_nz, Decidable.not_not, Int.not_lt, Int.not_le, zK0, zK1, zK2, zK3, zK5, zK7, zK8, zK9, zK10, zK19, zK20, zK40, zK99, zK100, zK199] at q61) | skip
            omega
        · subst hI
          have lj := ll i j
          have mj : mx (ly dk st.2.1 p q.2 i) j ≤ 720 := mx_le (fun x => ll i x) j
          refine x_il8 dX12_look_57 ?_
          refine x_bipush (v := nI 6) dX12_look_59 rfl ?_
          refine x_icmp_ge (tgt := 108) dX12_look_61 rfl (fun q61 => ?_) (fun q61 => ?_)
          · skip
            first | (simp only [cmp_lt, cmp_gt, cmp_eq, zN_cge, zN_cle, Decidable.not_not] at q61) | (simp (disch := omega) only [zN_le, zN_lt, zN_0, zN_1, nI_toInt, zN_eq, zN_eq0, b2_z, b2_nz, Decidable.not_not, Int.not_lt, Int.not_le, zK0, zK1, zK2, zK3, zK5, zK7, zK8, zK9, zK10, zK19, zK20, zK40, zK99, zK100, zK199] at q61) | skip
            omega
          · skip
            first | (simp only [cmp_lt, cmp_gt, cmp_eq, zN_cge, zN_cle, Decidable.not_not] at q61) | (simp (disch := omega) only [zN_le, zN_lt, zN_0, zN_1, nI_toInt, zN_eq, zN_eq0, b2_z, b2_nz, Decidable.not_not, Int.not_lt, Int.not_le, zK0, zK1, zK2, zK3, zK5, zK7, zK8, zK9, zK10, zK19, zK20, zK40, zK99, zK100, zK199] at q61) | skip
            refine x_al0 rfl dX12_look_64 ?_
            refine x_gm fdX12_76 W.hM (by decide) W.hF.f37 dX12_look_65 ?_
            refine x_bipush (v := nI 6) dX12_look_68 rfl ?_
            refine x_il6 dX12_look_70 ?_
            first | refine x_imul (pk_mul _ _) dX12_look_72 ?_ | refine x_imul rfl dX12_look_72 ?_
            refine x_il8 dX12_look_73 ?_
            first | refine x_iadd (nI_add _ _) dX12_look_75 ?_ | refine x_iadd rfl dX12_look_75 ?_
            refine x_mld (len := 36) W rfl rfl (by decide) (by omega) (hl i j il hj) dX12_look_76 ?_
            refine x_il7 dX12_look_77 ?_
            refine x_icmp_le (tgt := 98) dX12_look_79 rfl (fun q79 => ?_) (fun q79 => ?_)
            · skip
              first | (simp only [cmp_lt, cmp_gt, cmp_eq, zN_cge, zN_cle, Decidable.not_not] at q79) | (simp (disch := omega) only [zN_le, zN_lt, zN_0, zN_1, nI_toInt, zN_eq, zN_eq0, b2_z, b2_nz, Decidable.not_not, Int.not_lt, Int.not_le, zK0, zK1, zK2, zK3, zK5, zK7, zK8, zK9, zK10, zK19, zK20, zK40, zK99, zK100, zK199] at q79) | skip
              refine x_il7 dX12_look_98 ?_
              refine x_is7 rfl dX12_look_100 ?_
              first | refine x_ii8 rfl (nI_1 _) dX12_look_102 ?_ | refine x_ii8 rfl rfl dX12_look_102 ?_
              refine x_goto (tgt := 57) dX12_look_105 rfl ?_
              rw [show mx (ly dk st.2.1 p q.2 i) j = mx (ly dk st.2.1 p q.2 i) (j + 1) from (Nat.max_eq_left (by omega)).symm]
              exact ih2 _ rfl
            · skip
              first | (simp only [cmp_lt, cmp_gt, cmp_eq, zN_cge, zN_cle, Decidable.not_not] at q79) | (simp (disch := omega) only [zN_le, zN_lt, zN_0, zN_1, nI_toInt, zN_eq, zN_eq0, b2_z, b2_nz, Decidable.not_not, Int.not_lt, Int.not_le, zK0, zK1, zK2, zK3, zK5, zK7, zK8, zK9, zK10, zK19, zK20, zK40, zK99, zK100, zK199] at q79) | skip
              refine x_al0 rfl dX12_look_82 ?_
              refine x_gm fdX12_76 W.hM (by decide) W.hF.f37 dX12_look_83 ?_
              refine x_bipush (v := nI 6) dX12_look_86 rfl ?_
              refine x_il6 dX12_look_88 ?_
              first | refine x_imul (pk_mul _ _) dX12_look_90 ?_ | refine x_imul rfl dX12_look_90 ?_
              refine x_il8 dX12_look_91 ?_
              first | refine x_iadd (nI_add _ _) dX12_look_93 ?_ | refine x_iadd rfl dX12_look_93 ?_
              refine x_mld (len := 36) W rfl rfl (by decide) (by omega) (hl i j il hj) dX12_look_94 ?_
              refine x_goto (tgt := 100) dX12_look_95 rfl ?_
              refine x_is7 rfl dX12_look_100 ?_
              first | refine x_ii8 rfl (nI_1 _) dX12_look_102 ?_ | refine x_ii8 rfl rfl dX12_look_102 ?_
              refine x_goto (tgt := 57) dX12_look_105 rfl ?_
              rw [show ly dk st.2.1 p q.2 i j = mx (ly dk st.2.1 p q.2 i) (j + 1) from (Nat.max_eq_right (by omega)).symm]
              exact ih2 _ rfl
    · skip
      first | (simp only [cmp_lt, cmp_gt, cmp_eq, zN_cge, zN_cle, Decidable.not_not] at q24) | (simp (disch := omega) only [zN_le, zN_lt, zN_0, zN_1, nI_toInt, zN_eq, zN_eq0, b2_z, b2_nz, Decidable.not_not, Int.not_lt, Int.not_le, zK0, zK1, zK2, zK3, zK5, zK7, zK8, zK9, zK10, zK19, zK20, zK40, zK99, zK100, zK199] at q24) | skip
      refine x_iconst (v := (-1)) dX12_look_27 rfl ?_
      exact x_iret rfl rfl dX12_look_28 ⟨_, rfl, by rw [if_pos q24], _, _, _, W, J⟩
  · skip
    refine x_il3 dX12_look_16 ?_
    exact x_iret rfl rfl dX12_look_17 ⟨_, rfl, by rw [F_look, if_neg q13], _, _, _, W, J⟩
end ZMd

