/-! the class's trays; judge, perform, year -/
section ZCG
variable {g : zG} {d : Nat} {h0 h h' : zH} {b : Nat} {X : zSt} {dk : zDk} {st : zSt} {un : List zSt} {tp : List Nat} {tr : Nat → zTr} {pi : Nat → zPi} {fl : Nat × Nat} {ln : zLn} {sb sj : zS3} {dr : Int32}
theorem CI.trs (I : CI h0 h dk st un tp tr pi fl ln sb sj dr) : ∃ u, h[13]? = some (rfA 5 4 u) ∧ ∀ t, t < 4 → u t = some (44 + 2 * t) := by
  obtain ⟨Z, rt, ds, C, W, J⟩ := I
  obtain ⟨⟨u, a, b⟩, -⟩ := J.2.2.2.2.2.2.1
  exact ⟨u, C.get a, b⟩
theorem CI.tray {t : Nat} {q : Nat × List Int64} (I : CI h0 h dk st un tp tr pi fl ln sb sj dr) (ht : t < 4) (hq : tr t = some q) : ∃ f, h[44 + 2 * t]? = some (trE (nI q.1) (nI q.2.length) (45 + 2 * t)) ∧ h[45 + 2 * t]? = some (lnA 40 f) ∧ q.1 < 4 ∧ q.2.length ≤ 40 ∧ ∀ i, i < q.2.length → f i = q.2.getD i 0 := by
  obtain ⟨Z, rt, ds, C, W, J⟩ := I
  have a := J.2.2.2.2.2.2.1.2 t ht
  rw [hq] at a
  obtain ⟨f, a1, a2, a3⟩ := a
  exact ⟨f, C.get a1, C.get a2, a3⟩
theorem CI.trayN {t : Nat} (I : CI h0 h dk st un tp tr pi fl ln sb sj dr) (ht : t < 4) (hq : tr t = none) : ∃ so, h[44 + 2 * t]? = some (trE so (-1) (45 + 2 * t)) := by
  obtain ⟨Z, rt, ds, C, W, J⟩ := I
  have a := J.2.2.2.2.2.2.1.2 t ht
  rw [hq] at a
  obtain ⟨so, f, a1, a2⟩ := a
  exact ⟨so, C.get a1⟩
theorem c_isMissing {i v : Nat} {so sz : Int32} (ht : h[i]? = some (trE so sz v)) : Zm g d 0 0 mX8_isMissing [.ref i] h (rI (b2 (sz < 0)) h) := by
  show Zw g d 0 0 mX8_isMissing 0 [some (.ref i)] [] h _
  refine x_al0 rfl dX8_isMissing_0 ?_
  refine x_get fdX8_15 ht rfl dX8_isMissing_1 ?_
  refine x_if_ge (tgt := 11) dX8_isMissing_4 rfl (fun q4 => ?_) (fun q4 => ?_)
  · skip
    refine x_iconst (v := nI 0) dX8_isMissing_11 rfl ?_
    exact x_iret rfl  rfl dX8_isMissing_12 ⟨by rw [b2z (fun z => absurd q4 (Int32.not_le.mpr z))], rfl⟩
  · skip
    refine x_iconst (v := nI 1) dX8_isMissing_7 rfl ?_
    refine x_goto (tgt := 12) dX8_isMissing_8 rfl ?_
    exact x_iret rfl  rfl dX8_isMissing_12 ⟨by rw [b2o (Int32.not_le.mp q4)], rfl⟩
theorem c_valueAt {i v k : Nat} {so sz : Int32} {f : Nat → Int64} (ht : h[i]? = some (trE so sz v)) (ha : h[v]? = some (lnA 40 f)) (hk : k < 40) : Zm g d 0 0 mX8_valueAt [.ref i, .int (nI k)] h (rL (f k) h) := by
  show Zw g d 0 0 mX8_valueAt 0 [some (.ref i), some (.int (nI k))] [] h _
  refine x_il1 dX8_valueAt_0 ?_
  refine x_if_lt (tgt := 22) dX8_valueAt_1 rfl (fun q1 => ?_) (fun q1 => ?_)
  · skip
    first | (simp only [cmp_lt, cmp_gt, cmp_eq, zN_cge, zN_cle, Decidable.not_not] at q1) | (simp (disch := omega) only [zN_le, zN_lt, zN_0, zN_1, nI_toInt, zN_eq, zN_eq0, b2_z, b2_nz, Decidable.not_not, Int.not_lt, Int.not_le, zK0, zK1, zK2, zK3, zK5, zK7, zK8, zK9, zK10, zK19, zK20, zK40, zK99, zK100, zK199] at q1) | skip
    omega
  · skip
    first | (simp only [cmp_lt, cmp_gt, cmp_eq, zN_cge, zN_cle, Decidable.not_not] at q1) | (simp (disch := omega) only [zN_le, zN_lt, zN_0, zN_1, nI_toInt, zN_eq, zN_eq0, b2_z, b2_nz, Decidable.not_not, Int.not_lt, Int.not_le, zK0, zK1, zK2, zK3, zK5, zK7, zK8, zK9, zK10, zK19, zK20, zK40, zK99, zK100, zK199] at q1) | skip
    refine x_il1 dX8_valueAt_4 ?_
    refine x_al0 rfl dX8_valueAt_5 ?_
    refine x_get fdX8_18 ht rfl dX8_valueAt_6 ?_
    refine x_alen rfl ha rfl dX8_valueAt_9 ?_
    refine x_icmp_ge (tgt := 22) dX8_valueAt_10 rfl (fun q10 => ?_) (fun q10 => ?_)
    · skip
      exact absurd q10 (nI_ge (a := k) (b := 40) hk (by decide))
    · skip
      refine x_al0 rfl dX8_valueAt_13 ?_
      refine x_get fdX8_18 ht rfl dX8_valueAt_14 ?_
      refine x_il1 dX8_valueAt_17 ?_
      refine x_lald ha (vp_in_nI hk (by decide)) (ald rfl (by omega)) dX8_valueAt_18 ?_
      refine x_goto (tgt := 23) dX8_valueAt_19 rfl ?_
      exact x_lret rfl dX8_valueAt_23 ⟨rfl, rfl⟩
theorem k_doDeeds {t : Nat} {q : Nat × List Int64} (S : CS b X h0 h dk st un tp tr pi fl ln sb sj dr) (ht4 : t < 4) (hqt : tr t = some q) : Zm g (d + 5) 0 0 mX11_doDeeds [.ref 0, .ref b, .ref (44 + 2 * t)] h (rIp (fun r h' => r = nI (deedL dk q.2 X).1 ∧ CS b (deedL dk q.2 X).2 h0 h' dk st un tp tr pi fl ln sb sj dr)) := by
  obtain ⟨s0, t0, I⟩ := S.ci
  obtain ⟨-, -, -, -, hl40, -⟩ := I.tray ht4 hqt
  show Zw g (d + 5) 0 0 mX11_doDeeds 0 [some (.ref 0), some (.ref b), some (.ref (44 + 2 * t)), none] [] h _
  refine x_iconst (v := nI 0) dX11_doDeeds_0 rfl ?_
  refine x_is3 rfl dX11_doDeeds_1 ?_
  refine x_wh (fun (i : Nat) => [some (.ref 0), some (.ref b), some (.ref (44 + 2 * t)), some (.int (nI i))]) (fun i h => i ≤ q.2.length ∧ ∃ Y, CS b Y h0 h dk st un tp tr pi fl ln sb sj dr ∧ (deedL dk q.2 X) = (i + (deedL dk (q.2.drop i) Y).1, (deedL dk (q.2.drop i) Y).2)) (fun i => q.2.length - i) 0 ⟨Nat.zero_le _, X, S, by rw [List.drop_zero, Nat.zero_add]⟩ (fun i h hI ih => ?_)
  obtain ⟨hi, Y, S, hE⟩ := hI
  obtain ⟨s0, t0, I⟩ := S.ci
  obtain ⟨rt, rn, rs, sw, rmv, rmk, moc, len, fre, fc, fr, vn, vs, qd, wst, wqu, wwe, wla, hx, hn, hd, hR, hv, hw, hs⟩ := I.o
  obtain ⟨f, ht, ha, -, -, hf⟩ := I.tray ht4 hqt
  refine x_il3 dX11_doDeeds_2 ?_
  refine x_al2 rfl dX11_doDeeds_3 ?_
  refine x_get fdX11_231 ht rfl dX11_doDeeds_4 ?_
  refine x_icmp_ge (tgt := 29) dX11_doDeeds_7 rfl (fun q7 => ?_) (fun q7 => ?_)
  · skip
    first | (simp only [cmp_lt, cmp_gt, cmp_eq, zN_cge, zN_cle, Decidable.not_not] at q7) | (simp (disch := omega) only [zN_le, zN_lt, zN_0, zN_1, nI_toInt, zN_eq, zN_eq0, b2_z, b2_nz, Decidable.not_not, Int.not_lt, Int.not_le, zK0, zK1, zK2, zK3, zK5, zK7, zK8, zK9, zK10, zK19, zK20, zK40, zK99, zK100, zK199] at q7) | skip
    have : i = q.2.length := by omega
    subst this
    simp only [List.drop_length, deedL, Nat.add_zero] at hE
    rw [hE]
    refine x_il3 dX11_doDeeds_29 ?_
    exact x_iret rfl rfl dX11_doDeeds_30 ⟨_, rfl, rfl, S⟩
  · skip
    first | (simp only [cmp_lt, cmp_gt, cmp_eq, zN_cge, zN_cle, Decidable.not_not] at q7) | (simp (disch := omega) only [zN_le, zN_lt, zN_0, zN_1, nI_toInt, zN_eq, zN_eq0, b2_z, b2_nz, Decidable.not_not, Int.not_lt, Int.not_le, zK0, zK1, zK2, zK3, zK5, zK7, zK8, zK9, zK10, zK19, zK20, zK40, zK99, zK100, zK199] at q7) | skip
    have hil : i < q.2.length := by omega
    have hdr : q.2.drop i = q.2.getD i 0 :: q.2.drop (i + 1) := by rw [List.drop_eq_getElem_cons hil, List.getD_eq_getElem?_getD, List.getElem?_eq_getElem hil]; rfl
    rw [hdr] at hE
    refine x_al0 rfl dX11_doDeeds_10 ?_
    refine x_al1 rfl dX11_doDeeds_11 ?_
    refine x_al2 rfl dX11_doDeeds_12 ?_
    refine x_il3 dX11_doDeeds_13 ?_
    refine x_cv1L mX8_valueAt_ok lkX11_234 rfl (Nat.le_of_ble_eq_true rfl) (Nat.le_of_ble_eq_true rfl) dX11_doDeeds_14 ht  (c_valueAt ht ha (by omega)) ?_
    rw [hf i hil]
    refine x_cv2Ip mX11_doDeed_ok lkX11_238 rfl (Nat.le_of_ble_eq_true rfl) (Nat.le_of_ble_eq_true rfl) dX11_doDeeds_17 hx  (k_doDeed S) (fun r h hq => ?_)
    refine x_if_eq (tgt := 29) dX11_doDeeds_20 rfl (fun q20 => ?_) (fun q20 => ?_)
    · skip
      rcases hq with ⟨Y', e1, e2, S⟩ | ⟨no, e2, S⟩
      · rw [e2] at q20; exact absurd q20 (by decide)
      simp only [deedL_n no, Nat.add_zero] at hE
      rw [hE]
      refine x_il3 dX11_doDeeds_29 ?_
      exact x_iret rfl rfl dX11_doDeeds_30 ⟨_, rfl, rfl, S⟩
    · skip
      rcases hq with ⟨Y', yes, e2, S⟩ | ⟨no, e2, S⟩
      rotate_left
      · rw [e2] at q20; exact absurd rfl q20
      simp only [deedL_s yes] at hE
      first | refine x_ii3 rfl (nI_1 _) dX11_doDeeds_23 ?_ | refine x_ii3 rfl rfl dX11_doDeeds_23 ?_
      refine x_goto (tgt := 2) dX11_doDeeds_26 rfl ?_
      exact ih (i + 1) _ (by omega) ⟨hil, Y', S, by rw [hE]; simp only [Prod.mk.injEq, and_true]; omega⟩
theorem k_judge {x y : Int32} (I : CI h0 h dk st un tp tr pi fl ln sb sj dr) : Zm g (d + 6) 0 0 mX11_judge [.ref 0, .int x, .int y] h (rIp (fun r h' => r = F_judge dk st tr x y ∧ ∃ sj', CI h0 h' dk st un tp tr pi fl ln sb sj' dr)) := by
  obtain ⟨rt, rn, rs, sw, rmv, rmk, moc, len, fre, fc, fr, vn, vs, qd, wst, wqu, wwe, wla, hx, hn, hd, hR, hv, hw, hs⟩ := I.o
  obtain ⟨d1, d2, d3, d4, d5, d6, d7, d8⟩ := I.dkB
  obtain ⟨u, h13, hu⟩ := I.trs
  show Zw g (d + 6) 0 0 mX11_judge 0 [some (.ref 0), some (.int x), some (.int y), none, none] [] h _
  refine x_il1 dX11_judge_0 ?_
  refine x_iconst (v := nI 4) dX11_judge_1 rfl ?_
  refine x_cs2I mX11_isOneOf_ok lkX11_157 (Nat.le_of_ble_eq_true rfl) (Nat.le_of_ble_eq_true rfl) dX11_judge_2 (c_isOneOf (by decide)) ?_
  refine x_if_eq (tgt := 16) dX11_judge_5 rfl (fun q5 => ?_) (fun q5 => ?_)
  · skip
    first | (simp only [cmp_lt, cmp_gt, cmp_eq, zN_cge, zN_cle, Decidable.not_not] at q5) | (simp (disch := omega) only [zN_le, zN_lt, zN_0, zN_1, nI_toInt, zN_eq, zN_eq0, b2_z, b2_nz, Decidable.not_not, Int.not_lt, Int.not_le, zK0, zK1, zK2, zK3, zK5, zK7, zK8, zK9, zK10, zK19, zK20, zK40, zK99, zK100, zK199] at q5) | skip
    refine x_bipush (v := (-2)) dX11_judge_16 rfl ?_
    exact x_iret rfl rfl dX11_judge_18 ⟨_, rfl, by rw [F_judge, if_neg (fun z => q5 z.1)], _, I⟩
  · skip
    first | (simp only [cmp_lt, cmp_gt, cmp_eq, zN_cge, zN_cle, Decidable.not_not] at q5) | (simp (disch := omega) only [zN_le, zN_lt, zN_0, zN_1, nI_toInt, zN_eq, zN_eq0, b2_z, b2_nz, Decidable.not_not, Int.not_lt, Int.not_le, zK0, zK1, zK2, zK3, zK5, zK7, zK8, zK9, zK10, zK19, zK20, zK40, zK99, zK100, zK199] at q5) | skip
    refine x_il2 dX11_judge_8 ?_
    refine x_iconst (v := nI 4) dX11_judge_9 rfl ?_
    refine x_cs2I mX11_isOneOf_ok lkX11_157 (Nat.le_of_ble_eq_true rfl) (Nat.le_of_ble_eq_true rfl) dX11_judge_10 (c_isOneOf (by decide)) ?_
    refine x_if_ne (tgt := 19) dX11_judge_13 rfl (fun q13 => ?_) (fun q13 => ?_)
    · skip
      first | (simp only [cmp_lt, cmp_gt, cmp_eq, zN_cge, zN_cle, Decidable.not_not] at q13) | (simp (disch := omega) only [zN_le, zN_lt, zN_0, zN_1, nI_toInt, zN_eq, zN_eq0, b2_z, b2_nz, Decidable.not_not, Int.not_lt, Int.not_le, zK0, zK1, zK2, zK3, zK5, zK7, zK8, zK9, zK10, zK19, zK20, zK40, zK99, zK100, zK199] at q13) | skip
      obtain ⟨k, hk, rfl⟩ := oneOf_ex q5
      have eF : F_judge dk st tr (nI k) y = match tr k with | none => -6 | some q => jdgQ dk st q.2 y := by rw [F_judge, if_pos ⟨q5, q13⟩, show tn (nI k) = k from nI_clamp (by omega)]; rfl
      refine x_al0 rfl dX11_judge_19 ?_
      refine x_get fdX11_49 hx rfl dX11_judge_20 ?_
      refine x_il1 dX11_judge_23 ?_
      refine x_aald rfl h13 (vp_in_nI (by omega) (by decide)) (by rw [nI_clamp (by omega)]; exact hu k hk) dX11_judge_24 ?_
      refine x_as3 rfl rfl dX11_judge_25 ?_
      refine x_al3 rfl dX11_judge_26 ?_
      cases hT : tr k with
      | none =>
        rw [hT] at eF
        obtain ⟨so, ht⟩ := I.trayN hk hT
        refine x_cv0I mX8_isMissing_ok lkX11_223 rfl (Nat.le_of_ble_eq_true rfl) (Nat.le_of_ble_eq_true rfl) dX11_judge_27 ht  (c_isMissing ht) ?_
        refine x_if_eq (tgt := 36) dX11_judge_30 rfl (fun q30 => ?_) (fun q30 => ?_)
        · skip
          first | (simp only [cmp_lt, cmp_gt, cmp_eq, zN_cge, zN_cle, Decidable.not_not] at q30) | (simp (disch := omega) only [zN_le, zN_lt, zN_0, zN_1, nI_toInt, zN_eq, zN_eq0, b2_z, b2_nz, Decidable.not_not, Int.not_lt, Int.not_le, zK0, zK1, zK2, zK3, zK5, zK7, zK8, zK9, zK10, zK19, zK20, zK40, zK99, zK100, zK199] at q30) | skip
          exact absurd q30 (by decide)
        · skip
          first | (simp only [cmp_lt, cmp_gt, cmp_eq, zN_cge, zN_cle, Decidable.not_not] at q30) | (simp (disch := omega) only [zN_le, zN_lt, zN_0, zN_1, nI_toInt, zN_eq, zN_eq0, b2_z, b2_nz, Decidable.not_not, Int.not_lt, Int.not_le, zK0, zK1, zK2, zK3, zK5, zK7, zK8, zK9, zK10, zK19, zK20, zK40, zK99, zK100, zK199] at q30) | skip
          refine x_bipush (v := (-6)) dX11_judge_33 rfl ?_
          exact x_iret rfl rfl dX11_judge_35 ⟨_, rfl, by rw [eF], _, I⟩
      | some q =>
        rw [hT] at eF
        obtain ⟨f, ht, ha, a1, a2, hf⟩ := I.tray hk hT
        refine x_cv0I mX8_isMissing_ok lkX11_223 rfl (Nat.le_of_ble_eq_true rfl) (Nat.le_of_ble_eq_true rfl) dX11_judge_27 ht  (c_isMissing ht) ?_
        refine x_if_eq (tgt := 36) dX11_judge_30 rfl (fun q30 => ?_) (fun q30 => ?_)
        · skip
          first | (simp only [cmp_lt, cmp_gt, cmp_eq, zN_cge, zN_cle, Decidable.not_not] at q30) | (simp (disch := omega) only [zN_le, zN_lt, zN_0, zN_1, nI_toInt, zN_eq, zN_eq0, b2_z, b2_nz, Decidable.not_not, Int.not_lt, Int.not_le, zK0, zK1, zK2, zK3, zK5, zK7, zK8, zK9, zK10, zK19, zK20, zK40, zK99, zK100, zK199] at q30) | skip
          refine x_al0 rfl dX11_judge_36 ?_
          refine x_get fdX11_34 hx rfl dX11_judge_37 ?_
          refine x_al0 rfl dX11_judge_40 ?_
          refine x_get fdX11_27 hx rfl dX11_judge_41 ?_
          refine x_cv1Vp mX7_become_ok lkX11_217 rfl (Nat.le_of_ble_eq_true rfl) (Nat.le_of_ble_eq_true rfl) dX11_judge_44 I.i11  (c_become I.i11 hn (by decide)) (fun h hq => ?_)
          subst hq
          replace I := I.s11 (t := s3 st)
          obtain ⟨rt, rn, rs, sw, rmv, rmk, moc, len, fre, fc, fr, vn, vs, qd, wst, wqu, wwe, wla, hx, hn, hd, hR, hv, hw, hs⟩ := I.o
          obtain ⟨f, ht, ha, a1, a2, hf⟩ := I.tray hk hT
          refine x_al0 rfl dX11_judge_47 ?_
          refine x_al0 rfl dX11_judge_48 ?_
          refine x_get fdX11_34 hx rfl dX11_judge_49 ?_
          refine x_al3 rfl dX11_judge_52 ?_
          refine x_cv2Ip mX11_doDeeds_ok lkX11_227 rfl (Nat.le_of_ble_eq_true rfl) (Nat.le_of_ble_eq_true rfl) dX11_judge_53 hx  (k_doDeeds (b := 11) (sj := sj) (Or.inr ⟨rfl, ⟨d7, d8⟩, I⟩) hk hT) (fun r h hq => ?_)
          obtain ⟨rfl, S⟩ := hq
          rcases S with ⟨z, -⟩ | ⟨-, ok, I⟩
          · exact absurd z (by decide)
          obtain ⟨rt, rn, rs, sw, rmv, rmk, moc, len, fre, fc, fr, vn, vs, qd, wst, wqu, wwe, wla, hx, hn, hd, hR, hv, hw, hs⟩ := I.o
          obtain ⟨f, ht, ha, a1, a2, hf⟩ := I.tray hk hT
          have hj := I.i11
          have dle := deedL_le (dk := dk) q.2 st
          obtain ⟨j, hj4, rfl⟩ := oneOf_ex q13
          refine x_is4 rfl dX11_judge_56 ?_
          refine x_il2 dX11_judge_58 ?_
          rcases (show j = 0 ∨ j = 1 ∨ j = 2 ∨ j = 3 by omega) with rfl | rfl | rfl | rfl
          · refine x_tabIn (tgt := 84) dX11_judge_59 (by decide) (by decide) rfl rfl ?_
            refine x_il4 dX11_judge_84 ?_
            refine x_al3 rfl dX11_judge_86 ?_
            refine x_get fdX11_231 ht rfl dX11_judge_87 ?_
            refine x_icmp_ge (tgt := 98) dX11_judge_90 rfl (fun q90 => ?_) (fun q90 => ?_)
            · skip
              first | (simp only [cmp_lt, cmp_gt, cmp_eq, zN_cge, zN_cle, Decidable.not_not] at q90) | (simp (disch := omega) only [zN_le, zN_lt, zN_0, zN_1, nI_toInt, zN_eq, zN_eq0, b2_z, b2_nz, Decidable.not_not, Int.not_lt, Int.not_le, zK0, zK1, zK2, zK3, zK5, zK7, zK8, zK9, zK10, zK19, zK20, zK40, zK99, zK100, zK199] at q90) | skip
              refine x_iconst (v := (-1)) dX11_judge_98 rfl ?_
              exact x_iret rfl rfl dX11_judge_99 ⟨_, rfl, by rw [eF]; exact (show jdgQ dk st q.2 (nI 0) = -1 from (if_pos rfl).trans (if_neg (by omega))).symm, _, I⟩
            · skip
              first | (simp only [cmp_lt, cmp_gt, cmp_eq, zN_cge, zN_cle, Decidable.not_not] at q90) | (simp (disch := omega) only [zN_le, zN_lt, zN_0, zN_1, nI_toInt, zN_eq, zN_eq0, b2_z, b2_nz, Decidable.not_not, Int.not_lt, Int.not_le, zK0, zK1, zK2, zK3, zK5, zK7, zK8, zK9, zK10, zK19, zK20, zK40, zK99, zK100, zK199] at q90) | skip
              refine x_il4 dX11_judge_93 ?_
              refine x_goto (tgt := 99) dX11_judge_95 rfl ?_
              exact x_iret rfl rfl dX11_judge_99 ⟨_, rfl, by rw [eF]; exact (show jdgQ dk st q.2 (nI 0) = _ from (if_pos rfl).trans (if_pos (by omega))).symm, _, I⟩
          · refine x_tabIn (tgt := 100) dX11_judge_59 (by decide) (by decide) rfl rfl ?_
            refine x_il4 dX11_judge_100 ?_
            refine x_al3 rfl dX11_judge_102 ?_
            refine x_get fdX11_231 ht rfl dX11_judge_103 ?_
            refine x_icmp_ge (tgt := 113) dX11_judge_106 rfl (fun q106 => ?_) (fun q106 => ?_)
            · skip
              first | (simp only [cmp_lt, cmp_gt, cmp_eq, zN_cge, zN_cle, Decidable.not_not] at q106) | (simp (disch := omega) only [zN_le, zN_lt, zN_0, zN_1, nI_toInt, zN_eq, zN_eq0, b2_z, b2_nz, Decidable.not_not, Int.not_lt, Int.not_le, zK0, zK1, zK2, zK3, zK5, zK7, zK8, zK9, zK10, zK19, zK20, zK40, zK99, zK100, zK199] at q106) | skip
              refine x_iconst (v := nI 0) dX11_judge_113 rfl ?_
              exact x_iret rfl rfl dX11_judge_114 ⟨_, rfl, by rw [eF]; exact (show jdgQ dk st q.2 (nI 1) = 0 from (if_neg (by decide)).trans ((if_pos rfl).trans (if_neg (by omega)))).symm, _, I⟩
            · skip
              first | (simp only [cmp_lt, cmp_gt, cmp_eq, zN_cge, zN_cle, Decidable.not_not] at q106) | (simp (disch := omega) only [zN_le, zN_lt, zN_0, zN_1, nI_toInt, zN_eq, zN_eq0, b2_z, b2_nz, Decidable.not_not, Int.not_lt, Int.not_le, zK0, zK1, zK2, zK3, zK5, zK7, zK8, zK9, zK10, zK19, zK20, zK40, zK99, zK100, zK199] at q106) | skip
              refine x_iconst (v := nI 1) dX11_judge_109 rfl ?_
              refine x_goto (tgt := 114) dX11_judge_110 rfl ?_
              exact x_iret rfl rfl dX11_judge_114 ⟨_, rfl, by rw [eF]; exact (show jdgQ dk st q.2 (nI 1) = 1 from (if_neg (by decide)).trans ((if_pos rfl).trans (if_pos (by omega)))).symm, _, I⟩
          · refine x_tabIn (tgt := 115) dX11_judge_59 (by decide) (by decide) rfl rfl ?_
            refine x_al0 rfl dX11_judge_115 ?_
            refine x_get fdX11_34 hx rfl dX11_judge_116 ?_
            refine x_get fdX11_128 hj rfl dX11_judge_119 ?_
            exact x_iret rfl rfl dX11_judge_122 ⟨_, rfl, by rw [eF]; exact (show jdgQ dk st q.2 (nI 2) = _ from (if_neg (by decide)).trans ((if_neg (by decide)).trans (if_pos rfl))).symm, _, I⟩
          · refine x_tabOut (tgt := 123) dX11_judge_59 (Or.inr (by decide)) rfl ?_
            refine x_al0 rfl dX11_judge_123 ?_
            refine x_get fdX11_71 hx rfl dX11_judge_124 ?_
            refine x_al0 rfl dX11_judge_127 ?_
            refine x_get fdX11_34 hx rfl dX11_judge_128 ?_
            refine x_get fdX11_128 hj rfl dX11_judge_131 ?_
            refine x_al0 rfl dX11_judge_134 ?_
            refine x_get fdX11_34 hx rfl dX11_judge_135 ?_
            refine x_get fdX11_134 hj rfl dX11_judge_138 ?_
            refine x_cv2Ip mX9_maskOf_ok lkX11_183 rfl (Nat.le_of_ble_eq_true rfl) (Nat.le_of_ble_eq_true rfl) dX11_judge_141 hv  (k_maskOf I ok.1 ok.2) (fun r h hq => ?_)
            obtain ⟨rfl, I⟩ := hq
            obtain ⟨rt, rn, rs, sw, rmv, rmk, moc, len, fre, fc, fr, vn, vs, qd, wst, wqu, wwe, wla, hx, hn, hd, hR, hv, hw, hs⟩ := I.o
            exact x_iret rfl rfl dX11_judge_144 ⟨_, rfl, by rw [eF]; exact (show jdgQ dk st q.2 (nI 3) = _ from (if_neg (by decide)).trans ((if_neg (by decide)).trans (if_neg (by decide)))).symm, _, I⟩
        · skip
          first | (simp only [cmp_lt, cmp_gt, cmp_eq, zN_cge, zN_cle, Decidable.not_not] at q30) | (simp (disch := omega) only [zN_le, zN_lt, zN_0, zN_1, nI_toInt, zN_eq, zN_eq0, b2_z, b2_nz, Decidable.not_not, Int.not_lt, Int.not_le, zK0, zK1, zK2, zK3, zK5, zK7, zK8, zK9, zK10, zK19, zK20, zK40, zK99, zK100, zK199] at q30) | skip
          omega
    · skip
      first | (simp only [cmp_lt, cmp_gt, cmp_eq, zN_cge, zN_cle, Decidable.not_not] at q13) | (simp (disch := omega) only [zN_le, zN_lt, zN_0, zN_1, nI_toInt, zN_eq, zN_eq0, b2_z, b2_nz, Decidable.not_not, Int.not_lt, Int.not_le, zK0, zK1, zK2, zK3, zK5, zK7, zK8, zK9, zK10, zK19, zK20, zK40, zK99, zK100, zK199] at q13) | skip
      refine x_bipush (v := (-2)) dX11_judge_16 rfl ?_
      exact x_iret rfl rfl dX11_judge_18 ⟨_, rfl, by rw [F_judge, if_neg (fun z => q13 z.2)], _, I⟩
theorem k_perform {x : Int32} (I : CI h0 h dk st un tp tr pi fl ln sb sj dr) : Zm g (d + 6) 0 0 mX11_perform [.ref 0, .int x] h (rIp (fun r h' => r = (D_perform dk st un tr x).1 ∧ ∃ sb', CI h0 h' dk (D_perform dk st un tr x).2.1 (D_perform dk st un tr x).2.2 tp tr pi fl ln sb' sj dr)) := by
  obtain ⟨rt, rn, rs, sw, rmv, rmk, moc, len, fre, fc, fr, vn, vs, qd, wst, wqu, wwe, wla, hx, hn, hd, hR, hv, hw, hs⟩ := I.o
  obtain ⟨d1, d2, d3, d4, d5, d6, d7, d8⟩ := I.dkB
  obtain ⟨u, h13, hu⟩ := I.trs
  show Zw g (d + 6) 0 0 mX11_perform 0 [some (.ref 0), some (.int x), none, none] [] h _
  refine x_il1 dX11_perform_0 ?_
  refine x_iconst (v := nI 4) dX11_perform_1 rfl ?_
  refine x_cs2I mX11_isOneOf_ok lkX11_157 (Nat.le_of_ble_eq_true rfl) (Nat.le_of_ble_eq_true rfl) dX11_perform_2 (c_isOneOf (by decide)) ?_
  refine x_if_ne (tgt := 11) dX11_perform_5 rfl (fun q5 => ?_) (fun q5 => ?_)
  · skip
    first | (simp only [cmp_lt, cmp_gt, cmp_eq, zN_cge, zN_cle, Decidable.not_not] at q5) | (simp (disch := omega) only [zN_le, zN_lt, zN_0, zN_1, nI_toInt, zN_eq, zN_eq0, b2_z, b2_nz, Decidable.not_not, Int.not_lt, Int.not_le, zK0, zK1, zK2, zK3, zK5, zK7, zK8, zK9, zK10, zK19, zK20, zK40, zK99, zK100, zK199] at q5) | skip
    obtain ⟨k, hk, rfl⟩ := oneOf_ex q5
    have eF : D_perform dk st un tr (nI k) = match tr k with | none => (-6, st, un) | some q => prfQ dk st un q.2 := by rw [D_perform, if_pos q5, show tn (nI k) = k from nI_clamp (by omega)]; rfl
    refine x_al0 rfl dX11_perform_11 ?_
    refine x_get fdX11_49 hx rfl dX11_perform_12 ?_
    refine x_il1 dX11_perform_15 ?_
    refine x_aald rfl h13 (vp_in_nI (by omega) (by decide)) (by rw [nI_clamp (by omega)]; exact hu k hk) dX11_perform_16 ?_
    refine x_as2 rfl rfl dX11_perform_17 ?_
    refine x_al2 rfl dX11_perform_18 ?_
    cases hT : tr k with
    | none =>
      rw [hT] at eF
      obtain ⟨so, ht⟩ := I.trayN hk hT
      refine x_cv0I mX8_isMissing_ok lkX11_223 rfl (Nat.le_of_ble_eq_true rfl) (Nat.le_of_ble_eq_true rfl) dX11_perform_19 ht  (c_isMissing ht) ?_
      refine x_if_eq (tgt := 28) dX11_perform_22 rfl (fun q22 => ?_) (fun q22 => ?_)
      · skip
        first | (simp only [cmp_lt, cmp_gt, cmp_eq, zN_cge, zN_cle, Decidable.not_not] at q22) | (simp (disch := omega) only [zN_le, zN_lt, zN_0, zN_1, nI_toInt, zN_eq, zN_eq0, b2_z, b2_nz, Decidable.not_not, Int.not_lt, Int.not_le, zK0, zK1, zK2, zK3, zK5, zK7, zK8, zK9, zK10, zK19, zK20, zK40, zK99, zK100, zK199] at q22) | skip
        exact absurd q22 (by decide)
      · skip
        first | (simp only [cmp_lt, cmp_gt, cmp_eq, zN_cge, zN_cle, Decidable.not_not] at q22) | (simp (disch := omega) only [zN_le, zN_lt, zN_0, zN_1, nI_toInt, zN_eq, zN_eq0, b2_z, b2_nz, Decidable.not_not, Int.not_lt, Int.not_le, zK0, zK1, zK2, zK3, zK5, zK7, zK8, zK9, zK10, zK19, zK20, zK40, zK99, zK100, zK199] at q22) | skip
        refine x_bipush (v := (-6)) dX11_perform_25 rfl ?_
        exact x_iret rfl rfl dX11_perform_27 ⟨_, rfl, by rw [eF], _, by rw [eF]; exact I⟩
    | some q =>
      rw [hT] at eF
      rw [eF]
      obtain ⟨f, ht, ha, a1, a2, hf⟩ := I.tray hk hT
      refine x_cv0I mX8_isMissing_ok lkX11_223 rfl (Nat.le_of_ble_eq_true rfl) (Nat.le_of_ble_eq_true rfl) dX11_perform_19 ht  (c_isMissing ht) ?_
      refine x_if_eq (tgt := 28) dX11_perform_22 rfl (fun q22 => ?_) (fun q22 => ?_)
      · skip
        first | (simp only [cmp_lt, cmp_gt, cmp_eq, zN_cge, zN_cle, Decidable.not_not] at q22) | (simp (disch := omega) only [zN_le, zN_lt, zN_0, zN_1, nI_toInt, zN_eq, zN_eq0, b2_z, b2_nz, Decidable.not_not, Int.not_lt, Int.not_le, zK0, zK1, zK2, zK3, zK5, zK7, zK8, zK9, zK10, zK19, zK20, zK40, zK99, zK100, zK199] at q22) | skip
        refine x_al0 rfl dX11_perform_28 ?_
        refine x_get fdX11_31 hx rfl dX11_perform_29 ?_
        refine x_al0 rfl dX11_perform_32 ?_
        refine x_get fdX11_27 hx rfl dX11_perform_33 ?_
        refine x_cv1Vp mX7_become_ok lkX11_217 rfl (Nat.le_of_ble_eq_true rfl) (Nat.le_of_ble_eq_true rfl) dX11_perform_36 I.i10  (c_become I.i10 hn (by decide)) (fun h hq => ?_)
        subst hq
        replace I := I.s10 (t := s3 st)
        obtain ⟨rt, rn, rs, sw, rmv, rmk, moc, len, fre, fc, fr, vn, vs, qd, wst, wqu, wwe, wla, hx, hn, hd, hR, hv, hw, hs⟩ := I.o
        refine x_al0 rfl dX11_perform_39 ?_
        refine x_al0 rfl dX11_perform_40 ?_
        refine x_get fdX11_27 hx rfl dX11_perform_41 ?_
        refine x_al2 rfl dX11_perform_44 ?_
        refine x_cv2Ip mX11_doDeeds_ok lkX11_227 rfl (Nat.le_of_ble_eq_true rfl) (Nat.le_of_ble_eq_true rfl) dX11_perform_45 hx  (k_doDeeds (b := 9) (st := st) (Or.inl ⟨rfl, I⟩) hk hT) (fun r h hq => ?_)
        obtain ⟨rfl, S⟩ := hq
        rcases S with ⟨-, I⟩ | ⟨z, -⟩
        rotate_left
        · exact absurd z (by decide)
        obtain ⟨rt, rn, rs, sw, rmv, rmk, moc, len, fre, fc, fr, vn, vs, qd, wst, wqu, wwe, wla, hx, hn, hd, hR, hv, hw, hs⟩ := I.o
        have dle := deedL_le (dk := dk) q.2 st
        refine x_is3 rfl dX11_perform_48 ?_
        refine x_il3 dX11_perform_49 ?_
        refine x_if_le (tgt := 61) dX11_perform_50 rfl (fun q50 => ?_) (fun q50 => ?_)
        · skip
          first | (simp only [cmp_lt, cmp_gt, cmp_eq, zN_cge, zN_cle, Decidable.not_not] at q50) | (simp (disch := omega) only [zN_le, zN_lt, zN_0, zN_1, nI_toInt, zN_eq, zN_eq0, b2_z, b2_nz, Decidable.not_not, Int.not_lt, Int.not_le, zK0, zK1, zK2, zK3, zK5, zK7, zK8, zK9, zK10, zK19, zK20, zK40, zK99, zK100, zK199] at q50) | skip
          refine x_il3 dX11_perform_61 ?_
          exact x_iret rfl rfl dX11_perform_62 ⟨_, rfl, rfl, _, by rw [show (prfQ dk st un q.2).2.2 = un from if_pos (by omega)]; exact I⟩
        · skip
          first | (simp only [cmp_lt, cmp_gt, cmp_eq, zN_cge, zN_cle, Decidable.not_not] at q50) | (simp (disch := omega) only [zN_le, zN_lt, zN_0, zN_1, nI_toInt, zN_eq, zN_eq0, b2_z, b2_nz, Decidable.not_not, Int.not_lt, Int.not_le, zK0, zK1, zK2, zK3, zK5, zK7, zK8, zK9, zK10, zK19, zK20, zK40, zK99, zK100, zK199] at q50) | skip
          refine x_al0 rfl dX11_perform_53 ?_
          refine x_al0 rfl dX11_perform_54 ?_
          refine x_get fdX11_31 hx rfl dX11_perform_55 ?_
          refine x_cv1Vp mX11_keepForUndoing_ok lkX11_194 rfl (Nat.le_of_ble_eq_true rfl) (Nat.le_of_ble_eq_true rfl) dX11_perform_58 hx  (k_keep I (Or.inr ⟨rfl, rfl⟩) ⟨d7, d8⟩) (fun h hq => ?_)
          have I := hq
          refine x_il3 dX11_perform_61 ?_
          exact x_iret rfl rfl dX11_perform_62 ⟨_, rfl, rfl, _, by rw [show (prfQ dk st un q.2).2.2 = pushU un st from if_neg (by omega)]; exact I⟩
      · skip
        first | (simp only [cmp_lt, cmp_gt, cmp_eq, zN_cge, zN_cle, Decidable.not_not] at q22) | (simp (disch := omega) only [zN_le, zN_lt, zN_0, zN_1, nI_toInt, zN_eq, zN_eq0, b2_z, b2_nz, Decidable.not_not, Int.not_lt, Int.not_le, zK0, zK1, zK2, zK3, zK5, zK7, zK8, zK9, zK10, zK19, zK20, zK40, zK99, zK100, zK199] at q22) | skip
        omega
  · skip
    first | (simp only [cmp_lt, cmp_gt, cmp_eq, zN_cge, zN_cle, Decidable.not_not] at q5) | (simp (disch := omega) only [zN_le, zN_lt, zN_0, zN_1, nI_toInt, zN_eq, zN_eq0, b2_z, b2_nz, Decidable.not_not, Int.not_lt, Int.not_le, zK0, zK1, zK2, zK3, zK5, zK7, zK8, zK9, zK10, zK19, zK20, zK40, zK99, zK100, zK199] at q5) | skip
    refine x_bipush (v := (-2)) dX11_perform_8 rfl ?_
    exact x_iret rfl rfl dX11_perform_10 ⟨_, rfl, by rw [D_perform, if_neg q5], _, by rw [D_perform, if_neg q5]; exact I⟩
theorem k_draw (I : CI h0 h dk st un tp tr pi fl ln sb sj dr) : Zm g d 0 0 mX11_draw [.ref 0] h (rIp (fun r h' => r = nI (drN (dr1 dr)) ∧ CI h0 h' dk st un tp tr pi fl ln sb sj (dr1 dr))) := by
  obtain ⟨rt, rn, rs, sw, rmv, rmk, moc, len, fre, fc, fr, vn, vs, qd, wst, wqu, wwe, wla, hx, hn, hd, hR, hv, hw, hs⟩ := I.o
  show Zw g d 0 0 mX11_draw 0 [some (.ref 0)] [] h _
  refine x_al0 rfl dX11_draw_0 ?_
  refine x_ldcw kcX11_260 dX11_draw_1 ?_
  refine x_al0 rfl dX11_draw_4 ?_
  refine x_get fdX11_44 hx rfl dX11_draw_5 ?_
  refine x_imul (rfl) dX11_draw_8 ?_
  refine x_sipush (v := nI 12345) dX11_draw_9 (by decide) ?_
  refine x_iadd (dr1_e dr) dX11_draw_12 ?_
  refine x_put fdX11_44 hx zf_i (by simp) dX11_draw_13 ?_
  replace I := I.sdr (dr' := dr1 dr) hx
  have hx := hs_eq (e := xE (nI tp.length) rt (nI un.length) (dr1 dr)) hx
  refine x_al0 rfl dX11_draw_16 ?_
  refine x_get fdX11_44 hx rfl dX11_draw_17 ?_
  refine x_bipush (v := nI 16) dX11_draw_20 rfl ?_
  refine x_iushr (drN_e (dr1 dr)) dX11_draw_22 ?_
  exact x_iret rfl rfl dX11_draw_23 ⟨_, rfl, rfl, I⟩
theorem k_drawDeed (I : CI h0 h dk st un tp tr pi fl ln sb sj dr) : Zm g (d + 1) 0 0 mX11_drawDeed [.ref 0] h (rIp (fun r h' => r = nI (drD dr).1 ∧ CI h0 h' dk st un tp tr pi fl ln sb sj (drD dr).2)) := by
  obtain ⟨rt, rn, rs, sw, rmv, rmk, moc, len, fre, fc, fr, vn, vs, qd, wst, wqu, wwe, wla, hx, hn, hd, hR, hv, hw, hs⟩ := I.o
  have l1 := drN_lt (dr1 dr)
  have l2 := drN_lt (dr1 (dr1 dr))
  have l3 := drN_lt (dr1 (dr1 (dr1 dr)))
  show Zw g (d + 1) 0 0 mX11_drawDeed 0 [some (.ref 0), none, none, none] [] h _
  refine x_al0 rfl dX11_drawDeed_0 ?_
  refine x_cv0Ip mX11_draw_ok lkX11_257 rfl (Nat.le_of_ble_eq_true rfl) (Nat.le_of_ble_eq_true rfl) dX11_drawDeed_1 hx  (k_draw I) (fun r h hq => ?_)
  obtain ⟨rfl, I⟩ := hq
  obtain ⟨rt, rn, rs, sw, rmv, rmk, moc, len, fre, fc, fr, vn, vs, qd, wst, wqu, wwe, wla, hx, hn, hd, hR, hv, hw, hs⟩ := I.o
  refine x_iconst (v := nI 4) dX11_drawDeed_4 rfl ?_
  refine x_irem (by decide) (pk_rem (by omega) (by decide) (by decide)) dX11_drawDeed_5 ?_
  refine x_is1 rfl dX11_drawDeed_6 ?_
  refine x_il1 dX11_drawDeed_7 ?_
  refine x_iconst (v := nI 2) dX11_drawDeed_8 rfl ?_
  refine x_icmp_ge (tgt := 14) dX11_drawDeed_9 rfl (fun q9 => ?_) (fun q9 => ?_)
  · skip
    first | (simp only [cmp_lt, cmp_gt, cmp_eq, zN_cge, zN_cle, Decidable.not_not] at q9) | (simp (disch := omega) only [zN_le, zN_lt, zN_0, zN_1, nI_toInt, zN_eq, zN_eq0, b2_z, b2_nz, Decidable.not_not, Int.not_lt, Int.not_le, zK0, zK1, zK2, zK3, zK5, zK7, zK8, zK9, zK10, zK19, zK20, zK40, zK99, zK100, zK199] at q9) | skip
    refine x_il1 dX11_drawDeed_14 ?_
    refine x_iconst (v := nI 2) dX11_drawDeed_15 rfl ?_
    refine x_icmp_ne (tgt := 30) dX11_drawDeed_16 rfl (fun q16 => ?_) (fun q16 => ?_)
    · skip
      first | (simp only [cmp_lt, cmp_gt, cmp_eq, zN_cge, zN_cle, Decidable.not_not] at q16) | (simp (disch := omega) only [zN_le, zN_lt, zN_0, zN_1, nI_toInt, zN_eq, zN_eq0, b2_z, b2_nz, Decidable.not_not, Int.not_lt, Int.not_le, zK0, zK1, zK2, zK3, zK5, zK7, zK8, zK9, zK10, zK19, zK20, zK40, zK99, zK100, zK199] at q16) | skip
      refine x_al0 rfl dX11_drawDeed_30 ?_
      refine x_cv0Ip mX11_draw_ok lkX11_257 rfl (Nat.le_of_ble_eq_true rfl) (Nat.le_of_ble_eq_true rfl) dX11_drawDeed_31 hx  (k_draw I) (fun r h hq => ?_)
      obtain ⟨rfl, I⟩ := hq
      obtain ⟨rt, rn, rs, sw, rmv, rmk, moc, len, fre, fc, fr, vn, vs, qd, wst, wqu, wwe, wla, hx, hn, hd, hR, hv, hw, hs⟩ := I.o
      refine x_bipush (v := nI 6) dX11_drawDeed_34 rfl ?_
      refine x_irem (by decide) (pk_rem (by omega) (by decide) (by decide)) dX11_drawDeed_36 ?_
      refine x_is2 rfl dX11_drawDeed_37 ?_
      refine x_al0 rfl dX11_drawDeed_38 ?_
      refine x_cv0Ip mX11_draw_ok lkX11_257 rfl (Nat.le_of_ble_eq_true rfl) (Nat.le_of_ble_eq_true rfl) dX11_drawDeed_39 hx  (k_draw I) (fun r h hq => ?_)
      obtain ⟨rfl, I⟩ := hq
      obtain ⟨rt, rn, rs, sw, rmv, rmk, moc, len, fre, fc, fr, vn, vs, qd, wst, wqu, wwe, wla, hx, hn, hd, hR, hv, hw, hs⟩ := I.o
      refine x_bipush (v := nI 6) dX11_drawDeed_42 rfl ?_
      refine x_irem (by decide) (pk_rem (by omega) (by decide) (by decide)) dX11_drawDeed_44 ?_
      refine x_is3 rfl dX11_drawDeed_45 ?_
      refine x_bipush (v := nI 100) dX11_drawDeed_46 rfl ?_
      refine x_bipush (v := nI 10) dX11_drawDeed_48 rfl ?_
      refine x_il2 dX11_drawDeed_50 ?_
      first | refine x_imul (pk_mul _ _) dX11_drawDeed_51 ?_ | refine x_imul rfl dX11_drawDeed_51 ?_
      first | refine x_iadd (nI_add _ _) dX11_drawDeed_52 ?_ | refine x_iadd rfl dX11_drawDeed_52 ?_
      refine x_il3 dX11_drawDeed_53 ?_
      first | refine x_iadd (nI_add _ _) dX11_drawDeed_54 ?_ | refine x_iadd rfl dX11_drawDeed_54 ?_
      rw [drD_3 (by omega)]
      exact x_iret rfl rfl dX11_drawDeed_55 ⟨_, rfl, rfl, I⟩
    · skip
      first | (simp only [cmp_lt, cmp_gt, cmp_eq, zN_cge, zN_cle, Decidable.not_not] at q16) | (simp (disch := omega) only [zN_le, zN_lt, zN_0, zN_1, nI_toInt, zN_eq, zN_eq0, b2_z, b2_nz, Decidable.not_not, Int.not_lt, Int.not_le, zK0, zK1, zK2, zK3, zK5, zK7, zK8, zK9, zK10, zK19, zK20, zK40, zK99, zK100, zK199] at q16) | skip
      refine x_bipush (v := nI 10) dX11_drawDeed_19 rfl ?_
      refine x_al0 rfl dX11_drawDeed_21 ?_
      refine x_cv0Ip mX11_draw_ok lkX11_257 rfl (Nat.le_of_ble_eq_true rfl) (Nat.le_of_ble_eq_true rfl) dX11_drawDeed_22 hx  (k_draw I) (fun r h hq => ?_)
      obtain ⟨rfl, I⟩ := hq
      obtain ⟨rt, rn, rs, sw, rmv, rmk, moc, len, fre, fc, fr, vn, vs, qd, wst, wqu, wwe, wla, hx, hn, hd, hR, hv, hw, hs⟩ := I.o
      refine x_bipush (v := nI 10) dX11_drawDeed_25 rfl ?_
      refine x_irem (by decide) (pk_rem (by omega) (by decide) (by decide)) dX11_drawDeed_27 ?_
      first | refine x_iadd (nI_add _ _) dX11_drawDeed_28 ?_ | refine x_iadd rfl dX11_drawDeed_28 ?_
      rw [drD_2 (by omega)]
      exact x_iret rfl rfl dX11_drawDeed_29 ⟨_, rfl, rfl, I⟩
  · skip
    first | (simp only [cmp_lt, cmp_gt, cmp_eq, zN_cge, zN_cle, Decidable.not_not] at q9) | (simp (disch := omega) only [zN_le, zN_lt, zN_0, zN_1, nI_toInt, zN_eq, zN_eq0, b2_z, b2_nz, Decidable.not_not, Int.not_lt, Int.not_le, zK0, zK1, zK2, zK3, zK5, zK7, zK8, zK9, zK10, zK19, zK20, zK40, zK99, zK100, zK199] at q9) | skip
    refine x_iconst (v := nI 0) dX11_drawDeed_12 rfl ?_
    rw [drD_0 (by omega)]
    exact x_iret rfl rfl dX11_drawDeed_13 ⟨_, rfl, rfl, I⟩
theorem k_year {x y : Int32} (I : CI h0 h dk st un tp tr pi fl ln sb sj dr) : Zm g (d + 6) 0 0 mX11_year [.ref 0, .int x, .int y] h (rIp (fun r h' => r = (D_year dk st un x y).1 ∧ ∃ sb' dr', CI h0 h' dk (D_year dk st un x y).2.1 (D_year dk st un x y).2.2 tp tr pi fl ln sb' sj dr')) := by
  obtain ⟨rt, rn, rs, sw, rmv, rmk, moc, len, fre, fc, fr, vn, vs, qd, wst, wqu, wwe, wla, hx, hn, hd, hR, hv, hw, hs⟩ := I.o
  obtain ⟨d1, d2, d3, d4, d5, d6, d7, d8⟩ := I.dkB
  show Zw g (d + 6) 0 0 mX11_year 0 [some (.ref 0), some (.int x), some (.int y), none, none] [] h _
  refine x_il2 dX11_year_0 ?_
  refine x_iconst (v := nI 1) dX11_year_1 rfl ?_
  refine x_icmp_lt (tgt := 11) dX11_year_2 rfl (fun q2 => ?_) (fun q2 => ?_)
  · skip
    first | (simp only [cmp_lt, cmp_gt, cmp_eq, zN_cge, zN_cle, Decidable.not_not] at q2) | (simp (disch := omega) only [zN_le, zN_lt, zN_0, zN_1, nI_toInt, zN_eq, zN_eq0, b2_z, b2_nz, Decidable.not_not, Int.not_lt, Int.not_le, zK0, zK1, zK2, zK3, zK5, zK7, zK8, zK9, zK10, zK19, zK20, zK40, zK99, zK100, zK199] at q2) | skip
    refine x_bipush (v := (-3)) dX11_year_11 rfl ?_
    exact x_iret rfl rfl dX11_year_13 ⟨_, rfl, by rw [D_year, if_neg (by omega)], _, _, by rw [D_year, if_neg (by omega)]; exact I⟩
  · skip
    first | (simp only [cmp_lt, cmp_gt, cmp_eq, zN_cge, zN_cle, Decidable.not_not] at q2) | (simp (disch := omega) only [zN_le, zN_lt, zN_0, zN_1, nI_toInt, zN_eq, zN_eq0, b2_z, b2_nz, Decidable.not_not, Int.not_lt, Int.not_le, zK0, zK1, zK2, zK3, zK5, zK7, zK8, zK9, zK10, zK19, zK20, zK40, zK99, zK100, zK199] at q2) | skip
    refine x_il2 dX11_year_5 ?_
    refine x_bipush (v := nI 40) dX11_year_6 rfl ?_
    refine x_icmp_le (tgt := 14) dX11_year_8 rfl (fun q8 => ?_) (fun q8 => ?_)
    · skip
      first | (simp only [cmp_lt, cmp_gt, cmp_eq, zN_cge, zN_cle, Decidable.not_not] at q8) | (simp (disch := omega) only [zN_le, zN_lt, zN_0, zN_1, nI_toInt, zN_eq, zN_eq0, b2_z, b2_nz, Decidable.not_not, Int.not_lt, Int.not_le, zK0, zK1, zK2, zK3, zK5, zK7, zK8, zK9, zK10, zK19, zK20, zK40, zK99, zK100, zK199] at q8) | skip
      unfold D_year
      have q14 : 1 ≤ y.toInt ∧ y.toInt ≤ 40 := by omega
      rw [if_pos q14]
      obtain ⟨k, hk1, hk2, rfl⟩ := rng_ex (a := 1) (b := 40) q14 (by decide)
      rw [show tn (nI k) = k from nI_clamp (by omega)]
      refine x_al0 rfl dX11_year_14 ?_
      refine x_get fdX11_31 hx rfl dX11_year_15 ?_
      refine x_al0 rfl dX11_year_18 ?_
      refine x_get fdX11_27 hx rfl dX11_year_19 ?_
      refine x_cv1Vp mX7_become_ok lkX11_217 rfl (Nat.le_of_ble_eq_true rfl) (Nat.le_of_ble_eq_true rfl) dX11_year_22 I.i10  (c_become I.i10 hn (by decide)) (fun h hq => ?_)
      subst hq
      replace I := I.s10 (t := s3 st)
      obtain ⟨rt, rn, rs, sw, rmv, rmk, moc, len, fre, fc, fr, vn, vs, qd, wst, wqu, wwe, wla, hx, hn, hd, hR, hv, hw, hs⟩ := I.o
      refine x_al0 rfl dX11_year_25 ?_
      refine x_il1 dX11_year_26 ?_
      refine x_put fdX11_44 hx zf_i (by simp) dX11_year_27 ?_
      replace I := I.sdr (dr' := x) hx
      refine x_iconst (v := nI 0) dX11_year_30 rfl ?_
      refine x_is3 rfl dX11_year_31 ?_
      refine x_iconst (v := nI 0) dX11_year_32 rfl ?_
      refine x_is4 rfl dX11_year_33 ?_
      refine x_wh (fun (a : Nat × Nat) => [some (.ref 0), some (.int x), some (.int (nI k)), some (.int (nI a.2)), some (.int (nI a.1))]) (fun a h => a.1 ≤ k ∧ a.2 ≤ a.1 ∧ ∃ st' x', CI h0 h dk st' un tp tr pi fl ln (s3 st) sj x' ∧ yrL dk k x st = (a.2 + (yrL dk (k - a.1) x' st').1, (yrL dk (k - a.1) x' st').2)) (fun a => k - a.1) (0, 0) ⟨Nat.zero_le _, Nat.le_refl _, st, x, I, by rw [Nat.sub_zero, Nat.zero_add]⟩ (fun a h hI ih => ?_)
      obtain ⟨i, n⟩ := a
      obtain ⟨hi, hni, st', x', I, hE⟩ := hI
      simp only at hi hni hE
      dsimp only
      obtain ⟨rt, rn, rs, sw, rmv, rmk, moc, len, fre, fc, fr, vn, vs, qd, wst, wqu, wwe, wla, hx, hn, hd, hR, hv, hw, hs⟩ := I.o
      refine x_il4 dX11_year_35 ?_
      refine x_il2 dX11_year_37 ?_
      refine x_icmp_ge (tgt := 66) dX11_year_38 rfl (fun q38 => ?_) (fun q38 => ?_)
      · skip
        first | (simp only [cmp_lt, cmp_gt, cmp_eq, zN_cge, zN_cle, Decidable.not_not] at q38) | (simp (disch := omega) only [zN_le, zN_lt, zN_0, zN_1, nI_toInt, zN_eq, zN_eq0, b2_z, b2_nz, Decidable.not_not, Int.not_lt, Int.not_le, zK0, zK1, zK2, zK3, zK5, zK7, zK8, zK9, zK10, zK19, zK20, zK40, zK99, zK100, zK199] at q38) | skip
        have : i = k := by omega
        subst this
        simp only [Nat.sub_self, yrL, Nat.add_zero] at hE
        rw [hE]
        refine x_il3 dX11_year_66 ?_
        refine x_if_le (tgt := 78) dX11_year_67 rfl (fun q67 => ?_) (fun q67 => ?_)
        · skip
          first | (simp only [cmp_lt, cmp_gt, cmp_eq, zN_cge, zN_cle, Decidable.not_not] at q67) | (simp (disch := omega) only [zN_le, zN_lt, zN_0, zN_1, nI_toInt, zN_eq, zN_eq0, b2_z, b2_nz, Decidable.not_not, Int.not_lt, Int.not_le, zK0, zK1, zK2, zK3, zK5, zK7, zK8, zK9, zK10, zK19, zK20, zK40, zK99, zK100, zK199] at q67) | skip
          refine x_il3 dX11_year_78 ?_
          exact x_iret rfl rfl dX11_year_79 ⟨_, rfl, rfl, _, _, by simp only; rw [if_pos (by omega)]; exact I⟩
        · skip
          first | (simp only [cmp_lt, cmp_gt, cmp_eq, zN_cge, zN_cle, Decidable.not_not] at q67) | (simp (disch := omega) only [zN_le, zN_lt, zN_0, zN_1, nI_toInt, zN_eq, zN_eq0, b2_z, b2_nz, Decidable.not_not, Int.not_lt, Int.not_le, zK0, zK1, zK2, zK3, zK5, zK7, zK8, zK9, zK10, zK19, zK20, zK40, zK99, zK100, zK199] at q67) | skip
          refine x_al0 rfl dX11_year_70 ?_
          refine x_al0 rfl dX11_year_71 ?_
          refine x_get fdX11_31 hx rfl dX11_year_72 ?_
          refine x_cv1Vp mX11_keepForUndoing_ok lkX11_194 rfl (Nat.le_of_ble_eq_true rfl) (Nat.le_of_ble_eq_true rfl) dX11_year_75 hx  (k_keep I (Or.inr ⟨rfl, rfl⟩) ⟨d7, d8⟩) (fun h hq => ?_)
          have I := hq
          refine x_il3 dX11_year_78 ?_
          exact x_iret rfl rfl dX11_year_79 ⟨_, rfl, rfl, _, _, by simp only; rw [if_neg (by omega)]; exact I⟩
      · skip
        first | (simp only [cmp_lt, cmp_gt, cmp_eq, zN_cge, zN_cle, Decidable.not_not] at q38) | (simp (disch := omega) only [zN_le, zN_lt, zN_0, zN_1, nI_toInt, zN_eq, zN_eq0, b2_z, b2_nz, Decidable.not_not, Int.not_lt, Int.not_le, zK0, zK1, zK2, zK3, zK5, zK7, zK8, zK9, zK10, zK19, zK20, zK40, zK99, zK100, zK199] at q38) | skip
        have hk' : k - i = k - (i + 1) + 1 := by omega
        rw [hk'] at hE
        refine x_al0 rfl dX11_year_41 ?_
        refine x_al0 rfl dX11_year_42 ?_
        refine x_get fdX11_27 hx rfl dX11_year_43 ?_
        refine x_al0 rfl dX11_year_46 ?_
        refine x_cv0Ip mX11_drawDeed_ok lkX11_254 rfl (Nat.le_of_ble_eq_true rfl) (Nat.le_of_ble_eq_true rfl) dX11_year_47 hx  (k_drawDeed I) (fun r h hq => ?_)
        obtain ⟨rfl, I⟩ := hq
        obtain ⟨rt, rn, rs, sw, rmv, rmk, moc, len, fre, fc, fr, vn, vs, qd, wst, wqu, wwe, wla, hx, hn, hd, hR, hv, hw, hs⟩ := I.o
        have lt := drD_lt (x := x')
        refine x_i2l (nI_l (by omega)) dX11_year_50 ?_
        refine x_cv2Ip mX11_doDeed_ok lkX11_238 rfl (Nat.le_of_ble_eq_true rfl) (Nat.le_of_ble_eq_true rfl) dX11_year_51 hx  (k_doDeed (b := 9) (st := st') (Or.inl ⟨rfl, I⟩)) (fun r h hq => ?_)
        rw [deed1_k lt] at hq
        refine x_if_eq (tgt := 60) dX11_year_54 rfl (fun q54 => ?_) (fun q54 => ?_)
        · skip
          refine x_ii4 rfl (nI_1 _) dX11_year_60 ?_
          refine x_goto (tgt := 35) dX11_year_63 rfl ?_
          rcases hq with ⟨st2, yes, e2, S⟩ | ⟨no, e2, S⟩
          · rw [e2] at q54; exact absurd q54 (by decide)
          rcases S with ⟨-, I⟩ | ⟨z, -⟩
          rotate_left
          · exact absurd z (by decide)
          rw [show yrL dk (k - (i + 1) + 1) x' st' = yrL dk (k - (i + 1)) (drD x').2 st' by rw [yrL, no]] at hE
          refine ih (i + 1, n) _ (by simp only; omega) ⟨by simp only; omega, by simp only; omega, _, _, I, hE⟩
        · skip
          rcases hq with ⟨st2, yes, e2, S⟩ | ⟨no, e2, S⟩
          rotate_left
          · rw [e2] at q54; exact absurd rfl q54
          rcases S with ⟨-, I⟩ | ⟨z, -⟩
          rotate_left
          · exact absurd z (by decide)
          rw [show yrL dk (k - (i + 1) + 1) x' st' = ((yrL dk (k - (i + 1)) (drD x').2 st2).1 + 1, (yrL dk (k - (i + 1)) (drD x').2 st2).2) by rw [yrL, yes]] at hE
          first | refine x_ii3 rfl (nI_1 _) dX11_year_57 ?_ | refine x_ii3 rfl rfl dX11_year_57 ?_
          refine x_ii4 rfl (nI_1 _) dX11_year_60 ?_
          refine x_goto (tgt := 35) dX11_year_63 rfl ?_
          refine ih (i + 1, n + 1) _ (by simp only; omega) ⟨by simp only; omega, by simp only; omega, _, _, I, by rw [hE]; simp only [Prod.mk.injEq, and_true]; omega⟩
    · skip
      first | (simp only [cmp_lt, cmp_gt, cmp_eq, zN_cge, zN_cle, Decidable.not_not] at q8) | (simp (disch := omega) only [zN_le, zN_lt, zN_0, zN_1, nI_toInt, zN_eq, zN_eq0, b2_z, b2_nz, Decidable.not_not, Int.not_lt, Int.not_le, zK0, zK1, zK2, zK3, zK5, zK7, zK8, zK9, zK10, zK19, zK20, zK40, zK99, zK100, zK199] at q8) | skip
      refine x_bipush (v := (-3)) dX11_year_11 rfl ?_
      exact x_iret rfl rfl dX11_year_13 ⟨_, rfl, by rw [D_year, if_neg (by omega)], _, _, by rw [D_year, if_neg (by omega)]; exact I⟩
end ZCG

