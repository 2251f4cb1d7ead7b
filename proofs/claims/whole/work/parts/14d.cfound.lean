/-! the class's found, names, look, clues -/
section ZCd
variable {g : zG} {d : Nat} {h0 h h' : zH} {dk : zDk} {st : zSt} {un : List zSt} {tp : List Nat} {tr : Nat → zTr} {pi : Nat → zPi} {fl : Nat × Nat} {ln : zLn} {sb sj : zS3} {dr : Int32}
theorem zRg_n {i : Nat} (h : (i < 15 ∨ 32 ≤ i) ∧ i < 56) : ¬ zRg i := by unfold zRg; omega
theorem k_goX {row p c : Nat} (I : CI h0 h dk st un tp tr pi fl ln sb sj dr) (hr : row < fct dk.1) (hp : p < dk.1) (hc : c < 10) : Zm g (d + 4) 0 0 mX9_go [.ref 20, .int (nI p), .int (nI row), .int (nI c)] h (rVp (fun h' => CI h0 h' dk st un tp tr pi fl ln sb sj dr ∧ Ex h h' ∧ ∃ rt rmv rmk moc pa, h'[20]? = some (visE rt rmv rmk moc (nI (visD dk row p c).1.length) (b2 ((visD dk row p c).2 = true))) ∧ h'[25]? = some (inA 9 pa) ∧ ∀ i, i < (visD dk row p c).1.length → pa i = nI ((visD dk row p c).1.getD i 0))) := by
  obtain ⟨Z, rt, ds, C, ⟨av, stk, rn, rs, sw, rmv, rmk, rkn, rks, wst, wqu, wwe, wla, hV, E⟩, J⟩ := I
  refine Zm.mono (c_go hV hc hr hp) (fun v h' hq => ?_)
  obtain ⟨rfl, w, pa, G, q2⟩ := hq
  obtain ⟨w1, w2⟩ := EW.gv' hV E G.frm
  exact ⟨rfl, CI.en C J ⟨av, stk, rn, rs, sw, rmv, rmk, rkn, rks, wst, wqu, wwe, wla, G.vc, w1⟩ w2, w2, rt, rmv, rmk, _, pa, G.v20, G.p25, q2⟩
theorem k_refN {t : Nat} {lo hi : Int32} (I : CI h0 h dk st un tp tr pi fl ln sb sj dr) (hk : t < 4) : Zm g (d + 1) 0 0 mX11_refusalOfNumbers [.ref (44 + 2 * t), .int lo, .int hi] h (rI (match tr t with | none => -6 | some q => rfs lo.toInt hi.toInt q.2) h) := by
  show Zw g (d + 1) 0 0 mX11_refusalOfNumbers 0 [some (.ref (44 + 2 * t)), some (.int lo), some (.int hi), none] [] h _
  cases hT : tr t with
  | none =>
    obtain ⟨so, ht⟩ := I.trayN hk hT
    refine x_al0 rfl dX11_refusalOfNumbers_0 ?_
    refine x_cv0I mX8_isMissing_ok lkX11_223 rfl (Nat.le_of_ble_eq_true rfl) (Nat.le_of_ble_eq_true rfl) dX11_refusalOfNumbers_1 ht  (c_isMissing ht) ?_
    refine x_if_eq (tgt := 10) dX11_refusalOfNumbers_4 rfl (fun q4 => ?_) (fun q4 => ?_)
    · skip
      first | (simp only [cmp_lt, cmp_gt, cmp_eq, zN_cge, zN_cle, Decidable.not_not] at q4) | (simp (disch := omega) only [zN_le, zN_lt, zN_0, zN_1, nI_toInt, zN_eq, zN_eq0, b2_z, b2_nz, Decidable.not_not, Int.not_lt, Int.not_le, zK0, zK1, zK2, zK3, zK5, zK7, zK8, zK9, zK10, zK19, zK20, zK40, zK99, zK100, zK199] at q4) | skip
      exact absurd q4 (by decide)
    · skip
      first | (simp only [cmp_lt, cmp_gt, cmp_eq, zN_cge, zN_cle, Decidable.not_not] at q4) | (simp (disch := omega) only [zN_le, zN_lt, zN_0, zN_1, nI_toInt, zN_eq, zN_eq0, b2_z, b2_nz, Decidable.not_not, Int.not_lt, Int.not_le, zK0, zK1, zK2, zK3, zK5, zK7, zK8, zK9, zK10, zK19, zK20, zK40, zK99, zK100, zK199] at q4) | skip
      refine x_bipush (v := (-6)) dX11_refusalOfNumbers_7 rfl ?_
      exact x_iret rfl rfl dX11_refusalOfNumbers_9 ⟨rfl, rfl⟩
  | some q =>
    obtain ⟨f, ht, ha, a1, a2, hf⟩ := I.tray hk hT
    refine x_al0 rfl dX11_refusalOfNumbers_0 ?_
    refine x_cv0I mX8_isMissing_ok lkX11_223 rfl (Nat.le_of_ble_eq_true rfl) (Nat.le_of_ble_eq_true rfl) dX11_refusalOfNumbers_1 ht  (c_isMissing ht) ?_
    refine x_if_eq (tgt := 10) dX11_refusalOfNumbers_4 rfl (fun q4 => ?_) (fun q4 => ?_)
    · skip
      first | (simp only [cmp_lt, cmp_gt, cmp_eq, zN_cge, zN_cle, Decidable.not_not] at q4) | (simp (disch := omega) only [zN_le, zN_lt, zN_0, zN_1, nI_toInt, zN_eq, zN_eq0, b2_z, b2_nz, Decidable.not_not, Int.not_lt, Int.not_le, zK0, zK1, zK2, zK3, zK5, zK7, zK8, zK9, zK10, zK19, zK20, zK40, zK99, zK100, zK199] at q4) | skip
      refine x_al0 rfl dX11_refusalOfNumbers_10 ?_
      refine x_get fdX11_231 ht rfl dX11_refusalOfNumbers_11 ?_
      refine x_iconst (v := nI 1) dX11_refusalOfNumbers_14 rfl ?_
      refine x_icmp_lt (tgt := 27) dX11_refusalOfNumbers_15 rfl (fun q15 => ?_) (fun q15 => ?_)
      · skip
        first | (simp only [cmp_lt, cmp_gt, cmp_eq, zN_cge, zN_cle, Decidable.not_not] at q15) | (simp (disch := omega) only [zN_le, zN_lt, zN_0, zN_1, nI_toInt, zN_eq, zN_eq0, b2_z, b2_nz, Decidable.not_not, Int.not_lt, Int.not_le, zK0, zK1, zK2, zK3, zK5, zK7, zK8, zK9, zK10, zK19, zK20, zK40, zK99, zK100, zK199] at q15) | skip
        refine x_bipush (v := (-4)) dX11_refusalOfNumbers_27 rfl ?_
        exact x_iret rfl rfl dX11_refusalOfNumbers_29 ⟨by show _ = some (Value.int (rfs lo.toInt hi.toInt q.2)); rw [show rfs lo.toInt hi.toInt q.2 = -4 from if_neg (by omega)], rfl⟩
      · skip
        first | (simp only [cmp_lt, cmp_gt, cmp_eq, zN_cge, zN_cle, Decidable.not_not] at q15) | (simp (disch := omega) only [zN_le, zN_lt, zN_0, zN_1, nI_toInt, zN_eq, zN_eq0, b2_z, b2_nz, Decidable.not_not, Int.not_lt, Int.not_le, zK0, zK1, zK2, zK3, zK5, zK7, zK8, zK9, zK10, zK19, zK20, zK40, zK99, zK100, zK199] at q15) | skip
        refine x_al0 rfl dX11_refusalOfNumbers_18 ?_
        refine x_get fdX11_231 ht rfl dX11_refusalOfNumbers_19 ?_
        refine x_bipush (v := nI 8) dX11_refusalOfNumbers_22 rfl ?_
        refine x_icmp_le (tgt := 30) dX11_refusalOfNumbers_24 rfl (fun q24 => ?_) (fun q24 => ?_)
        · skip
          first | (simp only [cmp_lt, cmp_gt, cmp_eq, zN_cge, zN_cle, Decidable.not_not] at q24) | (simp (disch := omega) only [zN_le, zN_lt, zN_0, zN_1, nI_toInt, zN_eq, zN_eq0, b2_z, b2_nz, Decidable.not_not, Int.not_lt, Int.not_le, zK0, zK1, zK2, zK3, zK5, zK7, zK8, zK9, zK10, zK19, zK20, zK40, zK99, zK100, zK199] at q24) | skip
          have e1 : rfs lo.toInt hi.toInt q.2 = if allL (rngB lo.toInt hi.toInt q.2) q.2.length 0 then 0 else -3 := if_pos (by omega)
          dsimp only
          rw [e1]
          refine x_iconst (v := nI 0) dX11_refusalOfNumbers_30 rfl ?_
          refine x_is3 rfl dX11_refusalOfNumbers_31 ?_
          refine x_wh (fun (i : Nat) => [some (.ref (44 + 2 * t)), some (.int lo), some (.int hi), some (.int (nI i))]) (fun i h' => i ≤ q.2.length ∧ h' = h ∧ allL (rngB lo.toInt hi.toInt q.2) q.2.length 0 = allL (rngB lo.toInt hi.toInt q.2) (q.2.length - i) i) (fun i => 50 - i) 0 ⟨Nat.zero_le _, rfl, rfl⟩ (fun i h' hI ih => ?_)
          obtain ⟨hi', rfl, hE⟩ := hI
          refine x_il3 dX11_refusalOfNumbers_32 ?_
          refine x_al0 rfl dX11_refusalOfNumbers_33 ?_
          refine x_get fdX11_231 ht rfl dX11_refusalOfNumbers_34 ?_
          refine x_icmp_ge (tgt := 71) dX11_refusalOfNumbers_37 rfl (fun q37 => ?_) (fun q37 => ?_)
          · skip
            first | (simp only [cmp_lt, cmp_gt, cmp_eq, zN_cge, zN_cle, Decidable.not_not] at q37) | (simp (disch := omega) only [zN_le, zN_lt, zN_0, zN_1, nI_toInt, zN_eq, zN_eq0, b2_z, b2_nz, Decidable.not_not, Int.not_lt, Int.not_le, zK0, zK1, zK2, zK3, zK5, zK7, zK8, zK9, zK10, zK19, zK20, zK40, zK99, zK100, zK199] at q37) | skip
            rw [hE, show i = q.2.length by omega, Nat.sub_self]
            refine x_iconst (v := nI 0) dX11_refusalOfNumbers_71 rfl ?_
            exact x_iret rfl rfl dX11_refusalOfNumbers_72 ⟨rfl, rfl⟩
          · skip
            first | (simp only [cmp_lt, cmp_gt, cmp_eq, zN_cge, zN_cle, Decidable.not_not] at q37) | (simp (disch := omega) only [zN_le, zN_lt, zN_0, zN_1, nI_toInt, zN_eq, zN_eq0, b2_z, b2_nz, Decidable.not_not, Int.not_lt, Int.not_le, zK0, zK1, zK2, zK3, zK5, zK7, zK8, zK9, zK10, zK19, zK20, zK40, zK99, zK100, zK199] at q37) | skip
            have il : i < q.2.length := by omega
            rw [allL_s il] at hE
            refine x_al0 rfl dX11_refusalOfNumbers_40 ?_
            refine x_il3 dX11_refusalOfNumbers_41 ?_
            refine x_cv1L mX8_valueAt_ok lkX11_234 rfl (Nat.le_of_ble_eq_true rfl) (Nat.le_of_ble_eq_true rfl) dX11_refusalOfNumbers_42 ht  (c_valueAt ht ha (by omega)) ?_
            rw [hf i il]
            refine x_il1 dX11_refusalOfNumbers_45 ?_
            refine x_i2l (rfl) dX11_refusalOfNumbers_46 ?_
            refine x_lcmp (rfl) dX11_refusalOfNumbers_47 ?_
            have eb : rngB lo.toInt hi.toInt q.2 i = true ↔ (lo.toInt64 ≤ q.2.getD i 0 ∧ q.2.getD i 0 ≤ hi.toInt64) := by
              rw [Int64.le_iff_toInt_le, Int64.le_iff_toInt_le, i64_n, i64_n, rngB, decide_eq_true_eq]
            refine x_if_lt (tgt := 62) dX11_refusalOfNumbers_48 rfl (fun q48 => ?_) (fun q48 => ?_)
            · skip
              first | (simp only [cmp_lt, cmp_gt, cmp_eq, zN_cge, zN_cle, Decidable.not_not] at q48) | (simp (disch := omega) only [zN_le, zN_lt, zN_0, zN_1, nI_toInt, zN_eq, zN_eq0, b2_z, b2_nz, Decidable.not_not, Int.not_lt, Int.not_le, zK0, zK1, zK2, zK3, zK5, zK7, zK8, zK9, zK10, zK19, zK20, zK40, zK99, zK100, zK199] at q48) | skip
              refine x_bipush (v := (-3)) dX11_refusalOfNumbers_62 rfl ?_
              exact x_iret rfl rfl dX11_refusalOfNumbers_64 ⟨by rw [hE, Bool.eq_false_iff.mpr (fun z => absurd q48 (Int64.not_lt.mpr (eb.mp z).1))]; rfl, rfl⟩
            · skip
              first | (simp only [cmp_lt, cmp_gt, cmp_eq, zN_cge, zN_cle, Decidable.not_not] at q48) | (simp (disch := omega) only [zN_le, zN_lt, zN_0, zN_1, nI_toInt, zN_eq, zN_eq0, b2_z, b2_nz, Decidable.not_not, Int.not_lt, Int.not_le, zK0, zK1, zK2, zK3, zK5, zK7, zK8, zK9, zK10, zK19, zK20, zK40, zK99, zK100, zK199] at q48) | skip
              refine x_al0 rfl dX11_refusalOfNumbers_51 ?_
              refine x_il3 dX11_refusalOfNumbers_52 ?_
              refine x_cv1L mX8_valueAt_ok lkX11_234 rfl (Nat.le_of_ble_eq_true rfl) (Nat.le_of_ble_eq_true rfl) dX11_refusalOfNumbers_53 ht  (c_valueAt ht ha (by omega)) ?_
              rw [hf i il]
              refine x_il2 dX11_refusalOfNumbers_56 ?_
              refine x_i2l (rfl) dX11_refusalOfNumbers_57 ?_
              refine x_lcmp (rfl) dX11_refusalOfNumbers_58 ?_
              refine x_if_le (tgt := 65) dX11_refusalOfNumbers_59 rfl (fun q59 => ?_) (fun q59 => ?_)
              · skip
                first | (simp only [cmp_lt, cmp_gt, cmp_eq, zN_cge, zN_cle, Decidable.not_not] at q59) | (simp (disch := omega) only [zN_le, zN_lt, zN_0, zN_1, nI_toInt, zN_eq, zN_eq0, b2_z, b2_nz, Decidable.not_not, Int.not_lt, Int.not_le, zK0, zK1, zK2, zK3, zK5, zK7, zK8, zK9, zK10, zK19, zK20, zK40, zK99, zK100, zK199] at q59) | skip
                first | refine x_ii3 rfl (nI_1 _) dX11_refusalOfNumbers_65 ?_ | refine x_ii3 rfl rfl dX11_refusalOfNumbers_65 ?_
                refine x_goto (tgt := 32) dX11_refusalOfNumbers_68 rfl ?_
                exact ih (i + 1) _ (by omega) ⟨il, rfl, by rw [hE, eb.mpr ⟨Int64.not_lt.mp q48, q59⟩, Bool.true_and]⟩
              · skip
                first | (simp only [cmp_lt, cmp_gt, cmp_eq, zN_cge, zN_cle, Decidable.not_not] at q59) | (simp (disch := omega) only [zN_le, zN_lt, zN_0, zN_1, nI_toInt, zN_eq, zN_eq0, b2_z, b2_nz, Decidable.not_not, Int.not_lt, Int.not_le, zK0, zK1, zK2, zK3, zK5, zK7, zK8, zK9, zK10, zK19, zK20, zK40, zK99, zK100, zK199] at q59) | skip
                refine x_bipush (v := (-3)) dX11_refusalOfNumbers_62 rfl ?_
                exact x_iret rfl rfl dX11_refusalOfNumbers_64 ⟨by rw [hE, Bool.eq_false_iff.mpr (fun z => q59 (eb.mp z).2)]; rfl, rfl⟩
        · skip
          first | (simp only [cmp_lt, cmp_gt, cmp_eq, zN_cge, zN_cle, Decidable.not_not] at q24) | (simp (disch := omega) only [zN_le, zN_lt, zN_0, zN_1, nI_toInt, zN_eq, zN_eq0, b2_z, b2_nz, Decidable.not_not, Int.not_lt, Int.not_le, zK0, zK1, zK2, zK3, zK5, zK7, zK8, zK9, zK10, zK19, zK20, zK40, zK99, zK100, zK199] at q24) | skip
          refine x_bipush (v := (-4)) dX11_refusalOfNumbers_27 rfl ?_
          exact x_iret rfl rfl dX11_refusalOfNumbers_29 ⟨by show _ = some (Value.int (rfs lo.toInt hi.toInt q.2)); rw [show rfs lo.toInt hi.toInt q.2 = -4 from if_neg (by omega)], rfl⟩
    · skip
      first | (simp only [cmp_lt, cmp_gt, cmp_eq, zN_cge, zN_cle, Decidable.not_not] at q4) | (simp (disch := omega) only [zN_le, zN_lt, zN_0, zN_1, nI_toInt, zN_eq, zN_eq0, b2_z, b2_nz, Decidable.not_not, Int.not_lt, Int.not_le, zK0, zK1, zK2, zK3, zK5, zK7, zK8, zK9, zK10, zK19, zK20, zK40, zK99, zK100, zK199] at q4) | skip
      omega
theorem k_refF {x y z : Int32} (I : CI h0 h dk st un tp tr pi fl ln sb sj dr) : Zm g (d + 3) 0 0 mX11_refusalOfFound [.ref 0, .int x, .int y, .int z] h (rI (if oneOf x 4 ∧ oneOf y dk.1 ∧ oneOf z dk.1 then noTl tr (-1) ((dk.1 : Int) - 1) x else -2) h) := by
  obtain ⟨rt, rn, rs, sw, rmv, rmk, moc, len, fre, fc, fr, vn, vs, qd, wst, wqu, wwe, wla, hx, hn, hd, hR, hv, hw, hs⟩ := I.o
  obtain ⟨d1, d2, d3, d4, d5, d6, d7, d8⟩ := I.dkB
  obtain ⟨u, h13, hu⟩ := I.trs
  show Zw g (d + 3) 0 0 mX11_refusalOfFound 0 [some (.ref 0), some (.int x), some (.int y), some (.int z)] [] h _
  refine x_il1 dX11_refusalOfFound_0 ?_
  refine x_iconst (v := nI 4) dX11_refusalOfFound_1 rfl ?_
  refine x_cs2I mX11_isOneOf_ok lkX11_157 (Nat.le_of_ble_eq_true rfl) (Nat.le_of_ble_eq_true rfl) dX11_refusalOfFound_2 (c_isOneOf (by decide)) ?_
  refine x_if_eq (tgt := 24) dX11_refusalOfFound_5 rfl (fun q5 => ?_) (fun q5 => ?_)
  · skip
    first | (simp only [cmp_lt, cmp_gt, cmp_eq, zN_cge, zN_cle, Decidable.not_not] at q5) | (simp (disch := omega) only [zN_le, zN_lt, zN_0, zN_1, nI_toInt, zN_eq, zN_eq0, b2_z, b2_nz, Decidable.not_not, Int.not_lt, Int.not_le, zK0, zK1, zK2, zK3, zK5, zK7, zK8, zK9, zK10, zK19, zK20, zK40, zK99, zK100, zK199] at q5) | skip
    refine x_bipush (v := (-2)) dX11_refusalOfFound_24 rfl ?_
    exact x_iret rfl rfl dX11_refusalOfFound_26 ⟨by rw [if_neg (fun c => q5 c.1)], rfl⟩
  · skip
    first | (simp only [cmp_lt, cmp_gt, cmp_eq, zN_cge, zN_cle, Decidable.not_not] at q5) | (simp (disch := omega) only [zN_le, zN_lt, zN_0, zN_1, nI_toInt, zN_eq, zN_eq0, b2_z, b2_nz, Decidable.not_not, Int.not_lt, Int.not_le, zK0, zK1, zK2, zK3, zK5, zK7, zK8, zK9, zK10, zK19, zK20, zK40, zK99, zK100, zK199] at q5) | skip
    refine x_al0 rfl dX11_refusalOfFound_8 ?_
    refine x_il2 dX11_refusalOfFound_9 ?_
    refine x_cv1I mX11_isDrawer_ok lkX11_153 rfl (Nat.le_of_ble_eq_true rfl) (Nat.le_of_ble_eq_true rfl) dX11_refusalOfFound_10 hx  (k_isDrawer I) ?_
    refine x_if_eq (tgt := 24) dX11_refusalOfFound_13 rfl (fun q13 => ?_) (fun q13 => ?_)
    · skip
      first | (simp only [cmp_lt, cmp_gt, cmp_eq, zN_cge, zN_cle, Decidable.not_not] at q13) | (simp (disch := omega) only [zN_le, zN_lt, zN_0, zN_1, nI_toInt, zN_eq, zN_eq0, b2_z, b2_nz, Decidable.not_not, Int.not_lt, Int.not_le, zK0, zK1, zK2, zK3, zK5, zK7, zK8, zK9, zK10, zK19, zK20, zK40, zK99, zK100, zK199] at q13) | skip
      refine x_bipush (v := (-2)) dX11_refusalOfFound_24 rfl ?_
      exact x_iret rfl rfl dX11_refusalOfFound_26 ⟨by rw [if_neg (fun c => q13 c.2.1)], rfl⟩
    · skip
      first | (simp only [cmp_lt, cmp_gt, cmp_eq, zN_cge, zN_cle, Decidable.not_not] at q13) | (simp (disch := omega) only [zN_le, zN_lt, zN_0, zN_1, nI_toInt, zN_eq, zN_eq0, b2_z, b2_nz, Decidable.not_not, Int.not_lt, Int.not_le, zK0, zK1, zK2, zK3, zK5, zK7, zK8, zK9, zK10, zK19, zK20, zK40, zK99, zK100, zK199] at q13) | skip
      refine x_al0 rfl dX11_refusalOfFound_16 ?_
      refine x_il3 dX11_refusalOfFound_17 ?_
      refine x_cv1I mX11_isDrawer_ok lkX11_153 rfl (Nat.le_of_ble_eq_true rfl) (Nat.le_of_ble_eq_true rfl) dX11_refusalOfFound_18 hx  (k_isDrawer I) ?_
      refine x_if_ne (tgt := 27) dX11_refusalOfFound_21 rfl (fun q21 => ?_) (fun q21 => ?_)
      · skip
        first | (simp only [cmp_lt, cmp_gt, cmp_eq, zN_cge, zN_cle, Decidable.not_not] at q21) | (simp (disch := omega) only [zN_le, zN_lt, zN_0, zN_1, nI_toInt, zN_eq, zN_eq0, b2_z, b2_nz, Decidable.not_not, Int.not_lt, Int.not_le, zK0, zK1, zK2, zK3, zK5, zK7, zK8, zK9, zK10, zK19, zK20, zK40, zK99, zK100, zK199] at q21) | skip
        rw [if_pos ⟨q5, q13, q21⟩]
        obtain ⟨k, hk, rfl⟩ := oneOf_ex q5
        refine x_al0 rfl dX11_refusalOfFound_27 ?_
        refine x_get fdX11_49 hx rfl dX11_refusalOfFound_28 ?_
        refine x_il1 dX11_refusalOfFound_31 ?_
        refine x_aald rfl h13 (vp_in_nI (by omega) (by decide)) (by rw [nI_clamp (by omega)]; exact hu k hk) dX11_refusalOfFound_32 ?_
        refine x_iconst (v := (-1)) dX11_refusalOfFound_33 rfl ?_
        refine x_al0 rfl dX11_refusalOfFound_34 ?_
        refine x_get fdX11_106 hx rfl dX11_refusalOfFound_35 ?_
        refine x_get fdX11_143 hd rfl dX11_refusalOfFound_38 ?_
        refine x_iconst (v := nI 1) dX11_refusalOfFound_41 rfl ?_
        refine x_isub (pk_sub (by omega)) dX11_refusalOfFound_42 ?_
        refine x_cs3I mX11_refusalOfNumbers_ok lkX11_351 (Nat.le_of_ble_eq_true rfl) (Nat.le_of_ble_eq_true rfl) dX11_refusalOfFound_43 (k_refN I hk) ?_
        refine x_iret rfl rfl dX11_refusalOfFound_46 ⟨?_, rfl⟩
        rw [noTl, if_pos q5, show tn (nI k) = k from nI_clamp (by omega), nI_toInt (by omega), show ((dk.1 - 1 : Nat) : Int) = (dk.1 : Int) - 1 by omega]
        rfl
      · skip
        first | (simp only [cmp_lt, cmp_gt, cmp_eq, zN_cge, zN_cle, Decidable.not_not] at q21) | (simp (disch := omega) only [zN_le, zN_lt, zN_0, zN_1, nI_toInt, zN_eq, zN_eq0, b2_z, b2_nz, Decidable.not_not, Int.not_lt, Int.not_le, zK0, zK1, zK2, zK3, zK5, zK7, zK8, zK9, zK10, zK19, zK20, zK40, zK99, zK100, zK199] at q21) | skip
        refine x_bipush (v := (-2)) dX11_refusalOfFound_24 rfl ?_
        exact x_iret rfl rfl dX11_refusalOfFound_26 ⟨by rw [if_neg (fun c => q21 c.2.2)], rfl⟩
theorem k_fits {t row p : Nat} {q : Nat × List Int64} (I : CI h0 h dk st un tp tr pi fl ln sb sj dr) (ht4 : t < 4) (hqt : tr t = some q) (h8 : q.2.length ≤ 8) (hr : row < fct dk.1) (hp : p < dk.1) : Zm g (d + 5) 0 0 mX11_fits [.ref 0, .ref (44 + 2 * t), .int (nI p), .int (nI row)] h (rIp (fun r h' => r = b2 (fitB dk st.2.1 p q.2 row = true) ∧ CI h0 h' dk st un tp tr pi fl ln sb sj dr ∧ Ex h h')) := by
  obtain ⟨rt, rn, rs, sw, rmv, rmk, moc, len, fre, fc, fr, vn, vs, qd, wst, wqu, wwe, wla, hx, hn, hd, hR, hv, hw, hs⟩ := I.o
  obtain ⟨d1, d2, d3, d4, d5, d6, d7, d8⟩ := I.dkB
  have vl : (visD dk row p st.2.1).1.length ≤ dk.2.1 := vis_len
  show Zw g (d + 5) 0 0 mX11_fits 0 [some (.ref 0), some (.ref (44 + 2 * t)), some (.int (nI p)), some (.int (nI row)), none, none, none] [] h _
  refine x_al0 rfl dX11_fits_0 ?_
  refine x_get fdX11_71 hx rfl dX11_fits_1 ?_
  refine x_il2 dX11_fits_4 ?_
  refine x_il3 dX11_fits_5 ?_
  refine x_al0 rfl dX11_fits_6 ?_
  refine x_get fdX11_27 hx rfl dX11_fits_7 ?_
  refine x_get fdX11_134 hn rfl dX11_fits_10 ?_
  refine x_cv3Vp mX9_go_ok lkX11_168 rfl (Nat.le_of_ble_eq_true rfl) (Nat.le_of_ble_eq_true rfl) dX11_fits_13 hv  (k_goX I hr hp d8) (fun h hq => ?_)
  obtain ⟨I, hX, rt1, rmv1, rmk1, moc1, pa, hv1, hpp, hpa⟩ := hq
  obtain ⟨rt, rn, rs, sw, rmv, rmk, moc, len, fre, fc, fr, vn, vs, qd, wst, wqu, wwe, wla, hx, hn, hd, hR, hv, hw, hs⟩ := I.o
  obtain ⟨f, ht, ha, a1, a2, hf⟩ := I.tray ht4 hqt
  refine x_al0 rfl dX11_fits_16 ?_
  refine x_get fdX11_71 hx rfl dX11_fits_17 ?_
  refine x_get fdX11_172 hv1 rfl dX11_fits_20 ?_
  refine x_al1 rfl dX11_fits_23 ?_
  refine x_get fdX11_231 ht rfl dX11_fits_24 ?_
  refine x_icmp_ge (tgt := 32) dX11_fits_27 rfl (fun q27 => ?_) (fun q27 => ?_)
  · skip
    first | (simp only [cmp_lt, cmp_gt, cmp_eq, zN_cge, zN_cle, Decidable.not_not] at q27) | (simp (disch := omega) only [zN_le, zN_lt, zN_0, zN_1, nI_toInt, zN_eq, zN_eq0, b2_z, b2_nz, Decidable.not_not, Int.not_lt, Int.not_le, zK0, zK1, zK2, zK3, zK5, zK7, zK8, zK9, zK10, zK19, zK20, zK40, zK99, zK100, zK199] at q27) | skip
    have yf : q.2.length ≤ (visD dk row p st.2.1).1.length := by omega
    have eF : fitB dk st.2.1 p q.2 row = allL (fun i => decide (q.2.getD i 0 = -1 ∨ q.2.getD i 0 = lN (nm dk.1 row ((visD dk row p st.2.1).1.getD i 0)))) q.2.length 0 := by unfold fitB; rw [decide_eq_true yf, Bool.true_and]
    rw [eF]
    refine x_iconst (v := nI 0) dX11_fits_32 rfl ?_
    refine x_is4 rfl dX11_fits_33 ?_
    refine x_wh (fun (a : Nat × Option Value) => [some (.ref 0), some (.ref (44 + 2 * t)), some (.int (nI p)), some (.int (nI row)), some (.int (nI a.1)), a.2, none]) (fun a h' => a.1 ≤ q.2.length ∧ h' = h ∧ allL (fun i => decide (q.2.getD i 0 = -1 ∨ q.2.getD i 0 = lN (nm dk.1 row ((visD dk row p st.2.1).1.getD i 0)))) q.2.length 0 = allL (fun i => decide (q.2.getD i 0 = -1 ∨ q.2.getD i 0 = lN (nm dk.1 row ((visD dk row p st.2.1).1.getD i 0)))) (q.2.length - a.1) a.1) (fun a => 50 - a.1) (0, none) ⟨Nat.zero_le _, rfl, rfl⟩ (fun a h' hI ih => ?_)
    obtain ⟨i, lv⟩ := a
    obtain ⟨hi, rfl, hE⟩ := hI
    simp only at hi hE
    dsimp only
    refine x_il4 dX11_fits_35 ?_
    refine x_al1 rfl dX11_fits_37 ?_
    refine x_get fdX11_231 ht rfl dX11_fits_38 ?_
    refine x_icmp_ge (tgt := 93) dX11_fits_41 rfl (fun q41 => ?_) (fun q41 => ?_)
    · skip
      first | (simp only [cmp_lt, cmp_gt, cmp_eq, zN_cge, zN_cle, Decidable.not_not] at q41) | (simp (disch := omega) only [zN_le, zN_lt, zN_0, zN_1, nI_toInt, zN_eq, zN_eq0, b2_z, b2_nz, Decidable.not_not, Int.not_lt, Int.not_le, zK0, zK1, zK2, zK3, zK5, zK7, zK8, zK9, zK10, zK19, zK20, zK40, zK99, zK100, zK199] at q41) | skip
      rw [hE, show i = q.2.length by omega, Nat.sub_self]
      refine x_iconst (v := nI 1) dX11_fits_93 rfl ?_
      exact x_iret rfl  rfl dX11_fits_94 ⟨_, rfl, rfl, I, hX⟩
    · skip
      first | (simp only [cmp_lt, cmp_gt, cmp_eq, zN_cge, zN_cle, Decidable.not_not] at q41) | (simp (disch := omega) only [zN_le, zN_lt, zN_0, zN_1, nI_toInt, zN_eq, zN_eq0, b2_z, b2_nz, Decidable.not_not, Int.not_lt, Int.not_le, zK0, zK1, zK2, zK3, zK5, zK7, zK8, zK9, zK10, zK19, zK20, zK40, zK99, zK100, zK199] at q41) | skip
      have il : i < q.2.length := by omega
      rw [allL_s il] at hE
      have pl := visD_lt (c := st.2.1) d1 d2 hr hp (show i < (visD dk row p st.2.1).1.length by omega)
      refine x_al1 rfl dX11_fits_44 ?_
      refine x_il4 dX11_fits_45 ?_
      refine x_cv1L mX8_valueAt_ok lkX11_234 rfl (Nat.le_of_ble_eq_true rfl) (Nat.le_of_ble_eq_true rfl) dX11_fits_47 ht  (c_valueAt ht ha (by omega)) ?_
      rw [hf i il]
      refine x_ls5 rfl dX11_fits_50 ?_
      refine x_ll5 dX11_fits_52 ?_
      refine x_ldc2 kcX11_368 dX11_fits_54 ?_
      refine x_lcmp (rfl) dX11_fits_57 ?_
      refine x_if_eq (tgt := 87) dX11_fits_58 rfl (fun q58 => ?_) (fun q58 => ?_)
      · skip
        first | (simp only [cmp_lt, cmp_gt, cmp_eq, zN_cge, zN_cle, Decidable.not_not] at q58) | (simp (disch := omega) only [zN_le, zN_lt, zN_0, zN_1, nI_toInt, zN_eq, zN_eq0, b2_z, b2_nz, Decidable.not_not, Int.not_lt, Int.not_le, zK0, zK1, zK2, zK3, zK5, zK7, zK8, zK9, zK10, zK19, zK20, zK40, zK99, zK100, zK199] at q58) | skip
        first | refine x_ii4 rfl (nI_1 _) dX11_fits_87 ?_ | refine x_ii4 rfl rfl dX11_fits_87 ?_
        refine x_goto (tgt := 35) dX11_fits_90 rfl ?_
        exact ih (i + 1, _) _ (by simp only; omega) ⟨il, rfl, by rw [hE, decide_eq_true (Or.inl q58), Bool.true_and]⟩
      · skip
        first | (simp only [cmp_lt, cmp_gt, cmp_eq, zN_cge, zN_cle, Decidable.not_not] at q58) | (simp (disch := omega) only [zN_le, zN_lt, zN_0, zN_1, nI_toInt, zN_eq, zN_eq0, b2_z, b2_nz, Decidable.not_not, Int.not_lt, Int.not_le, zK0, zK1, zK2, zK3, zK5, zK7, zK8, zK9, zK10, zK19, zK20, zK40, zK99, zK100, zK199] at q58) | skip
        refine x_ll5 dX11_fits_61 ?_
        refine x_al0 rfl dX11_fits_63 ?_
        refine x_get fdX11_62 hx rfl dX11_fits_64 ?_
        refine x_il3 dX11_fits_67 ?_
        refine x_al0 rfl dX11_fits_68 ?_
        refine x_get fdX11_71 hx rfl dX11_fits_69 ?_
        refine x_il4 dX11_fits_72 ?_
        refine x_cv1I mX9_openedAt_ok lkX11_179 rfl (Nat.le_of_ble_eq_true rfl) (Nat.le_of_ble_eq_true rfl) dX11_fits_74 hv  (c_openedAt hv hpp (by omega)) ?_
        rw [hpa i (by omega)]
        refine x_cv2I mX5_nameIn_ok lkX11_164 rfl (Nat.le_of_ble_eq_true rfl) (Nat.le_of_ble_eq_true rfl) dX11_fits_77 hR  (k_nameIn I hr pl) ?_
        refine x_i2l (nI_l (Nat.lt_of_lt_of_le (nm_lt d2 hr pl) (by omega))) dX11_fits_80 ?_
        refine x_lcmp (rfl) dX11_fits_81 ?_
        refine x_if_eq (tgt := 87) dX11_fits_82 rfl (fun q82 => ?_) (fun q82 => ?_)
        · skip
          first | (simp only [cmp_lt, cmp_gt, cmp_eq, zN_cge, zN_cle, Decidable.not_not] at q82) | (simp (disch := omega) only [zN_le, zN_lt, zN_0, zN_1, nI_toInt, zN_eq, zN_eq0, b2_z, b2_nz, Decidable.not_not, Int.not_lt, Int.not_le, zK0, zK1, zK2, zK3, zK5, zK7, zK8, zK9, zK10, zK19, zK20, zK40, zK99, zK100, zK199] at q82) | skip
          first | refine x_ii4 rfl (nI_1 _) dX11_fits_87 ?_ | refine x_ii4 rfl rfl dX11_fits_87 ?_
          refine x_goto (tgt := 35) dX11_fits_90 rfl ?_
          exact ih (i + 1, _) _ (by simp only; omega) ⟨il, rfl, by rw [hE, decide_eq_true (Or.inr q82), Bool.true_and]⟩
        · skip
          first | (simp only [cmp_lt, cmp_gt, cmp_eq, zN_cge, zN_cle, Decidable.not_not] at q82) | (simp (disch := omega) only [zN_le, zN_lt, zN_0, zN_1, nI_toInt, zN_eq, zN_eq0, b2_z, b2_nz, Decidable.not_not, Int.not_lt, Int.not_le, zK0, zK1, zK2, zK3, zK5, zK7, zK8, zK9, zK10, zK19, zK20, zK40, zK99, zK100, zK199] at q82) | skip
          refine x_iconst (v := nI 0) dX11_fits_85 rfl ?_
          exact x_iret rfl  rfl dX11_fits_86 ⟨_, rfl, by rw [hE, decide_eq_false (fun z => z.elim q58 q82)]; rfl, I, hX⟩
  · skip
    first | (simp only [cmp_lt, cmp_gt, cmp_eq, zN_cge, zN_cle, Decidable.not_not] at q27) | (simp (disch := omega) only [zN_le, zN_lt, zN_0, zN_1, nI_toInt, zN_eq, zN_eq0, b2_z, b2_nz, Decidable.not_not, Int.not_lt, Int.not_le, zK0, zK1, zK2, zK3, zK5, zK7, zK8, zK9, zK10, zK19, zK20, zK40, zK99, zK100, zK199] at q27) | skip
    refine x_iconst (v := nI 0) dX11_fits_30 rfl ?_
    exact x_iret rfl  rfl dX11_fits_31 ⟨_, rfl, by rw [b2z (by unfold fitB; rw [decide_eq_false (show ¬ q.2.length ≤ (visD dk row p st.2.1).1.length by omega)]; exact Bool.false_ne_true)], I, hX⟩
theorem k_countLying {row : Nat} {f : Nat → Int32} {c : Nat → Nat → Nat} (I : CI h0 h dk st un tp tr pi fl ln sb sj dr) (hr : row < fct dk.1) (h32 : h[32]? = some (inA 36 f)) (hl : ∀ e x, e < dk.1 → x < 6 → f (6 * e + x) = nI (c e x)) : Zm g (d + 1) 0 0 mX11_countLying [.ref 0, .int (nI row)] h (rVp (fun h' => CI h0 h' dk st un tp tr pi fl ln sb sj dr ∧ ∃ f', h'[32]? = some (inA 36 f') ∧ ∀ e x, e < dk.1 → x < 6 → f' (6 * e + x) = nI (c e x + bN (nm dk.1 row e = x)))) := by
  obtain ⟨rt, rn, rs, sw, rmv, rmk, moc, len, fre, fc, fr, vn, vs, qd, wst, wqu, wwe, wla, hx, hn, hd, hR, hv, hw, hs⟩ := I.o
  obtain ⟨d1, d2, d3, d4, d5, d6, d7, d8⟩ := I.dkB
  show Zw g (d + 1) 0 0 mX11_countLying 0 [some (.ref 0), some (.int (nI row)), none, none] [] h _
  refine x_iconst (v := nI 0) dX11_countLying_0 rfl ?_
  refine x_is2 rfl dX11_countLying_1 ?_
  refine x_for (e := dk.1) (fun e => [some (.ref 0), some (.int (nI row)), some (.int (nI e)), none]) (fun e h => CI h0 h dk st un tp tr pi fl ln sb sj dr ∧ ∃ f, h[32]? = some (inA 36 f) ∧ ∀ e' x, e' < dk.1 → x < 6 → f (6 * e' + x) = nI (c e' x + bN (e' < e ∧ nm dk.1 row e' = x))) 0 (by omega) ⟨I, f, h32, fun e' x he hx => by rw [hl e' x he hx, show bN (e' < 0 ∧ nm dk.1 row e' = x) = 0 from if_neg (by omega)]; rfl⟩ (fun h hI => ?_) (fun e h he hI ih2 => ?_)
  · obtain ⟨I, f, h32, hl⟩ := hI
    obtain ⟨rt, rn, rs, sw, rmv, rmk, moc, len, fre, fc, fr, vn, vs, qd, wst, wqu, wwe, wla, hx, hn, hd, hR, hv, hw, hs⟩ := I.o
    refine x_il2 dX11_countLying_2 ?_
    refine x_al0 rfl dX11_countLying_3 ?_
    refine x_get fdX11_106 hx rfl dX11_countLying_4 ?_
    refine x_get fdX11_143 hd rfl dX11_countLying_7 ?_
    refine x_icmp_ge (tgt := 57) dX11_countLying_10 rfl (fun q10 => ?_) (fun q10 => ?_)
    · skip
      first | (simp only [cmp_lt, cmp_gt, cmp_eq, zN_cge, zN_cle, Decidable.not_not] at q10) | (simp (disch := omega) only [zN_le, zN_lt, zN_0, zN_1, nI_toInt, zN_eq, zN_eq0, b2_z, b2_nz, Decidable.not_not, Int.not_lt, Int.not_le, zK0, zK1, zK2, zK3, zK5, zK7, zK8, zK9, zK10, zK19, zK20, zK40, zK99, zK100, zK199] at q10) | skip
      exact x_vret rfl dX11_countLying_57 ⟨rfl, I, f, h32, fun e x he hx => (hl e x he hx).trans (congrArg nI (congrArg (c e x + ·) (by unfold bN; exact if z : nm dk.1 row e = x then (if_pos ⟨he, z⟩).trans (if_pos z).symm else (if_neg (fun y => z y.2)).trans (if_neg z).symm)))⟩
    · skip
      first | (simp only [cmp_lt, cmp_gt, cmp_eq, zN_cge, zN_cle, Decidable.not_not] at q10) | (simp (disch := omega) only [zN_le, zN_lt, zN_0, zN_1, nI_toInt, zN_eq, zN_eq0, b2_z, b2_nz, Decidable.not_not, Int.not_lt, Int.not_le, zK0, zK1, zK2, zK3, zK5, zK7, zK8, zK9, zK10, zK19, zK20, zK40, zK99, zK100, zK199] at q10) | skip
      omega
  · obtain ⟨I, f, h32, hl⟩ := hI
    obtain ⟨rt, rn, rs, sw, rmv, rmk, moc, len, fre, fc, fr, vn, vs, qd, wst, wqu, wwe, wla, hx, hn, hd, hR, hv, hw, hs⟩ := I.o
    have nl := nm_lt d2 hr he
    refine x_il2 dX11_countLying_2 ?_
    refine x_al0 rfl dX11_countLying_3 ?_
    refine x_get fdX11_106 hx rfl dX11_countLying_4 ?_
    refine x_get fdX11_143 hd rfl dX11_countLying_7 ?_
    refine x_icmp_ge (tgt := 57) dX11_countLying_10 rfl (fun q10 => ?_) (fun q10 => ?_)
    · skip
      first | (simp only [cmp_lt, cmp_gt, cmp_eq, zN_cge, zN_cle, Decidable.not_not] at q10) | (simp (disch := omega) only [zN_le, zN_lt, zN_0, zN_1, nI_toInt, zN_eq, zN_eq0, b2_z, b2_nz, Decidable.not_not, Int.not_lt, Int.not_le, zK0, zK1, zK2, zK3, zK5, zK7, zK8, zK9, zK10, zK19, zK20, zK40, zK99, zK100, zK199] at q10) | skip
      omega
    · skip
      first | (simp only [cmp_lt, cmp_gt, cmp_eq, zN_cge, zN_cle, Decidable.not_not] at q10) | (simp (disch := omega) only [zN_le, zN_lt, zN_0, zN_1, nI_toInt, zN_eq, zN_eq0, b2_z, b2_nz, Decidable.not_not, Int.not_lt, Int.not_le, zK0, zK1, zK2, zK3, zK5, zK7, zK8, zK9, zK10, zK19, zK20, zK40, zK99, zK100, zK199] at q10) | skip
      refine x_il2 dX11_countLying_13 ?_
      refine x_bipush (v := nI 6) dX11_countLying_14 rfl ?_
      first | refine x_imul (pk_mul _ _) dX11_countLying_16 ?_ | refine x_imul rfl dX11_countLying_16 ?_
      refine x_al0 rfl dX11_countLying_17 ?_
      refine x_get fdX11_62 hx rfl dX11_countLying_18 ?_
      refine x_il1 dX11_countLying_21 ?_
      refine x_il2 dX11_countLying_22 ?_
      refine x_cv2I mX5_nameIn_ok lkX11_164 rfl (Nat.le_of_ble_eq_true rfl) (Nat.le_of_ble_eq_true rfl) dX11_countLying_23 hR  (k_nameIn I (by first | assumption | omega) (by first | assumption | omega)) ?_
      refine x_iadd ((show _ = nI (6 * e + nm dk.1 row e) by rw [nI_add, Nat.mul_comm])) dX11_countLying_26 ?_
      refine x_is3 rfl dX11_countLying_27 ?_
      refine x_il3 dX11_countLying_28 ?_
      refine x_if_lt (tgt := 51) dX11_countLying_29 rfl (fun q29 => ?_) (fun q29 => ?_)
      · skip
        first | (simp only [cmp_lt, cmp_gt, cmp_eq, zN_cge, zN_cle, Decidable.not_not] at q29) | (simp (disch := omega) only [zN_le, zN_lt, zN_0, zN_1, nI_toInt, zN_eq, zN_eq0, b2_z, b2_nz, Decidable.not_not, Int.not_lt, Int.not_le, zK0, zK1, zK2, zK3, zK5, zK7, zK8, zK9, zK10, zK19, zK20, zK40, zK99, zK100, zK199] at q29) | skip
        omega
      · skip
        first | (simp only [cmp_lt, cmp_gt, cmp_eq, zN_cge, zN_cle, Decidable.not_not] at q29) | (simp (disch := omega) only [zN_le, zN_lt, zN_0, zN_1, nI_toInt, zN_eq, zN_eq0, b2_z, b2_nz, Decidable.not_not, Int.not_lt, Int.not_le, zK0, zK1, zK2, zK3, zK5, zK7, zK8, zK9, zK10, zK19, zK20, zK40, zK99, zK100, zK199] at q29) | skip
        refine x_il3 dX11_countLying_32 ?_
        refine x_al0 rfl dX11_countLying_33 ?_
        refine x_get fdX11_91 hx rfl dX11_countLying_34 ?_
        refine x_alen rfl h32 rfl dX11_countLying_37 ?_
        rw [show Int32.ofNat 36 = nI 36 from rfl]
        refine x_icmp_ge (tgt := 51) dX11_countLying_38 rfl (fun q38 => ?_) (fun q38 => ?_)
        · skip
          first | (simp only [cmp_lt, cmp_gt, cmp_eq, zN_cge, zN_cle, Decidable.not_not] at q38) | (simp (disch := omega) only [zN_le, zN_lt, zN_0, zN_1, nI_toInt, zN_eq, zN_eq0, b2_z, b2_nz, Decidable.not_not, Int.not_lt, Int.not_le, zK0, zK1, zK2, zK3, zK5, zK7, zK8, zK9, zK10, zK19, zK20, zK40, zK99, zK100, zK199] at q38) | skip
          omega
        · skip
          first | (simp only [cmp_lt, cmp_gt, cmp_eq, zN_cge, zN_cle, Decidable.not_not] at q38) | (simp (disch := omega) only [zN_le, zN_lt, zN_0, zN_1, nI_toInt, zN_eq, zN_eq0, b2_z, b2_nz, Decidable.not_not, Int.not_lt, Int.not_le, zK0, zK1, zK2, zK3, zK5, zK7, zK8, zK9, zK10, zK19, zK20, zK40, zK99, zK100, zK199] at q38) | skip
          refine x_al0 rfl dX11_countLying_41 ?_
          refine x_get fdX11_91 hx rfl dX11_countLying_42 ?_
          refine x_il3 dX11_countLying_45 ?_
          refine x_dup2 rfl rfl dX11_countLying_46 ?_
          refine x_iald h32 (vp_in_nI (by omega) (by decide)) (ald (hl e _ he (by omega)) (by omega)) dX11_countLying_47 ?_
          refine x_iconst (v := nI 1) dX11_countLying_48 rfl ?_
          first | refine x_iadd (nI_add _ _) dX11_countLying_49 ?_ | refine x_iadd rfl dX11_countLying_49 ?_
          refine x_iast h32 (vp_in_nI (by omega) (by decide)) dX11_countLying_50 ?_
          rw [nI_clamp (by omega)]
          first | refine x_ii2 rfl (nI_1 _) dX11_countLying_51 ?_ | refine x_ii2 rfl rfl dX11_countLying_51 ?_
          refine x_goto (tgt := 2) dX11_countLying_54 rfl ?_
          refine x_k3 ?_
          refine ih2 _ ⟨I.s32, _, hs_eq h32, fun e' x he' hx => ?_⟩
          by_cases z : 6 * e' + x = 6 * e + nm dk.1 row e
          · have z1 : e' = e := by omega
            have z2 : x = nm dk.1 row e := by omega
            subst z1
            subst z2
            rw [pk_us, show bN (e' < e' ∧ nm dk.1 row e' = nm dk.1 row e') = 0 from if_neg (by omega), show bN (e' < e' + 1 ∧ nm dk.1 row e' = nm dk.1 row e') = 1 from if_pos ⟨by omega, rfl⟩]
          · rw [pk_un z, hl e' x he' hx]
            refine congrArg nI (congrArg (c e' x + ·) ?_)
            unfold bN
            by_cases y : e' < e ∧ nm dk.1 row e' = x
            · rw [if_pos y, if_pos ⟨by omega, y.2⟩]
            · rw [if_neg y, if_neg]
              intro c2
              by_cases c3 : e' = e
              · subst c3; exact z (by rw [c2.2])
              · exact y ⟨by omega, c2.2⟩
theorem k_gather {t p : Nat} {q : Nat × List Int64} (I : CI h0 h dk st un tp tr pi fl ln sb sj dr) (ht4 : t < 4) (hqt : tr t = some q) (h8 : q.2.length ≤ 8) (hp : p < dk.1) : Zm g (d + 6) 0 0 mX11_gatherFound [.ref 0, .ref (44 + 2 * t), .int (nI p)] h (rIp (fun r h' => r = nI (cnt (fitB dk st.2.1 p q.2) (fct dk.1)) ∧ CI h0 h' dk st un tp tr pi fl ln sb sj dr ∧ ∃ f, h'[32]? = some (inA 36 f) ∧ ∀ e x, e < dk.1 → x < 6 → f (6 * e + x) = nI (ly dk st.2.1 p q.2 e x))) := by
  obtain ⟨rt, rn, rs, sw, rmv, rmk, moc, len, fre, fc, fr, vn, vs, qd, wst, wqu, wwe, wla, hx, hn, hd, hR, hv, hw, hs⟩ := I.o
  obtain ⟨d1, d2, d3, d4, d5, d6, d7, d8⟩ := I.dkB
  obtain ⟨f0, h32⟩ := I.i32
  have hf := fct_le d2
  show Zw g (d + 6) 0 0 mX11_gatherFound 0 [some (.ref 0), some (.ref (44 + 2 * t)), some (.int (nI p)), none, none] [] h _
  refine x_al0 rfl dX11_gatherFound_0 ?_
  refine x_get fdX11_91 hx rfl dX11_gatherFound_1 ?_
  refine x_iconst (v := nI 0) dX11_gatherFound_4 rfl ?_
  refine x_cs2Vp mJ7_fill_53178_ok lkX11_355 (Nat.le_of_ble_eq_true rfl) (Nat.le_of_ble_eq_true rfl) dX11_gatherFound_5 (c_fillI h32 (by decide)) (fun h hq => ?_)
  obtain ⟨f1, rfl, hz⟩ := hq
  replace I := I.s32 (f := f1)
  refine x_iconst (v := nI 0) dX11_gatherFound_8 rfl ?_
  refine x_is3 rfl dX11_gatherFound_9 ?_
  refine x_iconst (v := nI 0) dX11_gatherFound_10 rfl ?_
  refine x_is4 rfl dX11_gatherFound_11 ?_
  refine x_wh (fun (a : Nat) => [some (.ref 0), some (.ref (44 + 2 * t)), some (.int (nI p)), some (.int (nI (cnt (fitB dk st.2.1 p q.2) a))), some (.int (nI a))]) (fun a h => a ≤ fct dk.1 ∧ CI h0 h dk st un tp tr pi fl ln sb sj dr ∧ ∃ f, h[32]? = some (inA 36 f) ∧ ∀ e x, e < dk.1 → x < 6 → f (6 * e + x) = nI (cnt (lyB dk st.2.1 p q.2 e x) a)) (fun a => fct dk.1 - a) 0 ⟨Nat.zero_le _, I, f1, hs_eq h32, fun e x he hx => hz _ (by omega)⟩ (fun i h hI ih => ?_)
  obtain ⟨hi, I, f, h32, hl⟩ := hI
  obtain ⟨rt, rn, rs, sw, rmv, rmk, moc, len, fre, fc, fr, vn, vs, qd, wst, wqu, wwe, wla, hx, hn, hd, hR, hv, hw, hs⟩ := I.o
  refine x_il4 dX11_gatherFound_13 ?_
  refine x_al0 rfl dX11_gatherFound_15 ?_
  refine x_get fdX11_62 hx rfl dX11_gatherFound_16 ?_
  refine x_get fdX11_281 hR rfl dX11_gatherFound_19 ?_
  refine x_icmp_ge (tgt := 51) dX11_gatherFound_22 rfl (fun q22 => ?_) (fun q22 => ?_)
  · skip
    first | (simp only [cmp_lt, cmp_gt, cmp_eq, zN_cge, zN_cle, Decidable.not_not] at q22) | (simp (disch := omega) only [zN_le, zN_lt, zN_0, zN_1, nI_toInt, zN_eq, zN_eq0, b2_z, b2_nz, Decidable.not_not, Int.not_lt, Int.not_le, zK0, zK1, zK2, zK3, zK5, zK7, zK8, zK9, zK10, zK19, zK20, zK40, zK99, zK100, zK199] at q22) | skip
    have i9 : i = fct dk.1 := by omega
    subst i9
    refine x_il3 dX11_gatherFound_51 ?_
    exact x_iret rfl rfl dX11_gatherFound_52 ⟨_, rfl, rfl, I, f, h32, hl⟩
  · skip
    first | (simp only [cmp_lt, cmp_gt, cmp_eq, zN_cge, zN_cle, Decidable.not_not] at q22) | (simp (disch := omega) only [zN_le, zN_lt, zN_0, zN_1, nI_toInt, zN_eq, zN_eq0, b2_z, b2_nz, Decidable.not_not, Int.not_lt, Int.not_le, zK0, zK1, zK2, zK3, zK5, zK7, zK8, zK9, zK10, zK19, zK20, zK40, zK99, zK100, zK199] at q22) | skip
    have il : i < fct dk.1 := by omega
    refine x_al0 rfl dX11_gatherFound_25 ?_
    refine x_al1 rfl dX11_gatherFound_26 ?_
    refine x_il2 dX11_gatherFound_27 ?_
    refine x_il4 dX11_gatherFound_28 ?_
    refine x_cv3Ip mX11_fits_ok lkX11_361 rfl (Nat.le_of_ble_eq_true rfl) (Nat.le_of_ble_eq_true rfl) dX11_gatherFound_30 hx  (k_fits I ht4 hqt h8 il hp) (fun r h hq => ?_)
    obtain ⟨rfl, I, hX⟩ := hq
    replace h32 := hX.get h32 (zRg_n (by decide))
    obtain ⟨rt, rn, rs, sw, rmv, rmk, moc, len, fre, fc, fr, vn, vs, qd, wst, wqu, wwe, wla, hx, hn, hd, hR, hv, hw, hs⟩ := I.o
    refine x_if_eq (tgt := 45) dX11_gatherFound_33 rfl (fun q33 => ?_) (fun q33 => ?_)
    · skip
      first | (simp only [cmp_lt, cmp_gt, cmp_eq, zN_cge, zN_cle, Decidable.not_not] at q33) | (simp (disch := omega) only [zN_le, zN_lt, zN_0, zN_1, nI_toInt, zN_eq, zN_eq0, b2_z, b2_nz, Decidable.not_not, Int.not_lt, Int.not_le, zK0, zK1, zK2, zK3, zK5, zK7, zK8, zK9, zK10, zK19, zK20, zK40, zK99, zK100, zK199] at q33) | skip
      refine x_ii4 rfl (nI_1 _) dX11_gatherFound_45 ?_
      refine x_goto (tgt := 13) dX11_gatherFound_48 rfl ?_
      rw [show cnt (fitB dk st.2.1 p q.2) i = cnt (fitB dk st.2.1 p q.2) (i + 1) by rw [cnt, if_neg q33]; rfl]
      refine ih (i + 1) _ (by omega) ⟨il, I, f, h32, fun e x he hx => ?_⟩
      rw [hl e x he hx, cnt, if_neg (by unfold lyB; rw [Bool.eq_false_iff.mpr q33]; exact Bool.false_ne_true)]
      all_goals rfl
    · skip
      first | (simp only [cmp_lt, cmp_gt, cmp_eq, zN_cge, zN_cle, Decidable.not_not] at q33) | (simp (disch := omega) only [zN_le, zN_lt, zN_0, zN_1, nI_toInt, zN_eq, zN_eq0, b2_z, b2_nz, Decidable.not_not, Int.not_lt, Int.not_le, zK0, zK1, zK2, zK3, zK5, zK7, zK8, zK9, zK10, zK19, zK20, zK40, zK99, zK100, zK199] at q33) | skip
      first | refine x_ii3 rfl (nI_1 _) dX11_gatherFound_36 ?_ | refine x_ii3 rfl rfl dX11_gatherFound_36 ?_
      refine x_al0 rfl dX11_gatherFound_39 ?_
      refine x_il4 dX11_gatherFound_40 ?_
      refine x_cv1Vp mX11_countLying_ok lkX11_365 rfl (Nat.le_of_ble_eq_true rfl) (Nat.le_of_ble_eq_true rfl) dX11_gatherFound_42 hx  (k_countLying I il h32 hl) (fun h hq => ?_)
      obtain ⟨I, f, h32, hl⟩ := hq
      obtain ⟨rt, rn, rs, sw, rmv, rmk, moc, len, fre, fc, fr, vn, vs, qd, wst, wqu, wwe, wla, hx, hn, hd, hR, hv, hw, hs⟩ := I.o
      refine x_ii4 rfl (nI_1 _) dX11_gatherFound_45 ?_
      refine x_goto (tgt := 13) dX11_gatherFound_48 rfl ?_
      rw [show cnt (fitB dk st.2.1 p q.2) i + 1 = cnt (fitB dk st.2.1 p q.2) (i + 1) by rw [cnt, if_pos q33]]
      refine ih (i + 1) _ (by omega) ⟨il, I, f, h32, fun e x he hx => ?_⟩
      rw [hl e x he hx]
      refine congrArg nI (cnt_s ?_)
      unfold lyB
      rw [q33, Bool.true_and, decide_eq_true_eq]
theorem fR_refF {x y : Int32} (hn : 0 < dk.1) : (if oneOf x 4 ∧ oneOf y dk.1 ∧ oneOf (nI 0) dk.1 then noTl tr (-1) ((dk.1 : Int) - 1) x else -2) = fR dk tr x y := by
  have z : oneOf (nI 0) dk.1 := (oneOf_nI (by decide)).mpr hn
  unfold fR
  by_cases c : oneOf x 4 ∧ oneOf y dk.1
  · rw [if_pos c, if_pos ⟨c.1, c.2, z⟩]
  · rw [if_neg c, if_neg (fun q => c ⟨q.1, q.2.1⟩)]
theorem k_found {x y : Int32} (I : CI h0 h dk st un tp tr pi fl ln sb sj dr) : Zm g (d + 7) 0 0 mX11_found [.ref 0, .int x, .int y] h (rIp (fun r h' => r = F_found dk st tr x y ∧ CI h0 h' dk st un tp tr pi fl ln sb sj dr)) := by
  obtain ⟨rt, rn, rs, sw, rmv, rmk, moc, len, fre, fc, fr, vn, vs, qd, wst, wqu, wwe, wla, hx, hn, hd, hR, hv, hw, hs⟩ := I.o
  obtain ⟨d1, d2, d3, d4, d5, d6, d7, d8⟩ := I.dkB
  obtain ⟨u, h13, hu⟩ := I.trs
  show Zw g (d + 7) 0 0 mX11_found 0 [some (.ref 0), some (.int x), some (.int y), none] [] h _
  refine x_al0 rfl dX11_found_0 ?_
  refine x_il1 dX11_found_1 ?_
  refine x_il2 dX11_found_2 ?_
  refine x_iconst (v := nI 0) dX11_found_3 rfl ?_
  refine x_cv3I mX11_refusalOfFound_ok lkX11_341 rfl (Nat.le_of_ble_eq_true rfl) (Nat.le_of_ble_eq_true rfl) dX11_found_4 hx  (k_refF I) ?_
  rw [fR_refF d1]
  refine x_is3 rfl dX11_found_7 ?_
  refine x_il3 dX11_found_8 ?_
  refine x_if_eq (tgt := 16) dX11_found_9 rfl (fun q9 => ?_) (fun q9 => ?_)
  · skip
    unfold F_found
    rw [if_pos q9]
    obtain ⟨oy, k, q, hk, rfl, hqt, etv, l1, l8⟩ := fR_0 q9
    obtain ⟨p, hp, rfl⟩ := oneOf_ex oy
    rw [etv, show tn (nI p) = p from nI_clamp (by omega)]
    refine x_al0 rfl dX11_found_16 ?_
    refine x_al0 rfl dX11_found_17 ?_
    refine x_get fdX11_49 hx rfl dX11_found_18 ?_
    refine x_il1 dX11_found_21 ?_
    refine x_aald rfl h13 (vp_in_nI (by omega) (by decide)) (by rw [nI_clamp (by omega)]; exact hu k hk) dX11_found_22 ?_
    refine x_il2 dX11_found_23 ?_
    refine x_cv2Ip mX11_gatherFound_ok lkX11_344 rfl (Nat.le_of_ble_eq_true rfl) (Nat.le_of_ble_eq_true rfl) dX11_found_24 hx  (k_gather I hk hqt l8 hp) (fun r h hq => ?_)
    obtain ⟨rfl, I, f, h32, hl⟩ := hq
    exact x_iret rfl rfl dX11_found_27 ⟨_, rfl, rfl, I⟩
  · skip
    refine x_il3 dX11_found_12 ?_
    refine x_goto (tgt := 27) dX11_found_13 rfl ?_
    exact x_iret rfl rfl dX11_found_27 ⟨_, rfl, by rw [F_found, if_neg q9], I⟩
theorem k_names {x y z : Int32} (I : CI h0 h dk st un tp tr pi fl ln sb sj dr) : Zm g (d + 7) 0 0 mX11_names [.ref 0, .int x, .int y, .int z] h (rIp (fun r h' => r = F_names dk st tr x y z ∧ CI h0 h' dk st un tp tr pi fl ln sb sj dr)) := by
  obtain ⟨rt, rn, rs, sw, rmv, rmk, moc, len, fre, fc, fr, vn, vs, qd, wst, wqu, wwe, wla, hx, hn, hd, hR, hv, hw, hs⟩ := I.o
  obtain ⟨d1, d2, d3, d4, d5, d6, d7, d8⟩ := I.dkB
  obtain ⟨u, h13, hu⟩ := I.trs
  show Zw g (d + 7) 0 0 mX11_names 0 [some (.ref 0), some (.int x), some (.int y), some (.int z), none, none, none] [] h _
  refine x_al0 rfl dX11_names_0 ?_
  refine x_il1 dX11_names_1 ?_
  refine x_il2 dX11_names_2 ?_
  refine x_il3 dX11_names_3 ?_
  refine x_cv3I mX11_refusalOfFound_ok lkX11_341 rfl (Nat.le_of_ble_eq_true rfl) (Nat.le_of_ble_eq_true rfl) dX11_names_4 hx  (k_refF I) ?_
  refine x_is4 rfl dX11_names_7 ?_
  refine x_il4 dX11_names_9 ?_
  refine x_if_eq (tgt := 17) dX11_names_11 rfl (fun q11 => ?_) (fun q11 => ?_)
  · skip
    have c : oneOf x 4 ∧ oneOf y dk.1 ∧ oneOf z dk.1 := by
      by_cases c : oneOf x 4 ∧ oneOf y dk.1 ∧ oneOf z dk.1
      · exact c
      · rw [if_neg c] at q11; exact absurd q11 (by decide)
    rw [if_pos c]
    rw [if_pos c] at q11
    unfold F_names
    rw [if_pos c, if_pos q11]
    obtain ⟨k, q, hk, rfl, hqt, etv, l1, l8⟩ := noTl_0 q11
    obtain ⟨p, hp, rfl⟩ := oneOf_ex c.2.1
    obtain ⟨e, he, rfl⟩ := oneOf_ex c.2.2
    rw [etv, show tn (nI p) = p from nI_clamp (by omega), show tn (nI e) = e from nI_clamp (by omega)]
    refine x_al0 rfl dX11_names_17 ?_
    refine x_al0 rfl dX11_names_18 ?_
    refine x_get fdX11_49 hx rfl dX11_names_19 ?_
    refine x_il1 dX11_names_22 ?_
    refine x_aald rfl h13 (vp_in_nI (by omega) (by decide)) (by rw [nI_clamp (by omega)]; exact hu k hk) dX11_names_23 ?_
    refine x_il2 dX11_names_24 ?_
    refine x_cv2Ip mX11_gatherFound_ok lkX11_344 rfl (Nat.le_of_ble_eq_true rfl) (Nat.le_of_ble_eq_true rfl) dX11_names_25 hx  (k_gather I hk hqt l8 hp) (fun r h hq => ?_)
    obtain ⟨rfl, I, f, h32, hl⟩ := hq
    obtain ⟨rt, rn, rs, sw, rmv, rmk, moc, len, fre, fc, fr, vn, vs, qd, wst, wqu, wwe, wla, hx, hn, hd, hR, hv, hw, hs⟩ := I.o
    refine x_pop rfl dX11_names_28 ?_
    refine x_iconst (v := nI 0) dX11_names_29 rfl ?_
    refine x_is5 rfl dX11_names_30 ?_
    refine x_iconst (v := nI 0) dX11_names_32 rfl ?_
    refine x_is6 rfl dX11_names_33 ?_
    refine x_for (e := dk.1) (fun i => [some (.ref 0), some (.int (nI k)), some (.int (nI p)), some (.int (nI e)), some (.int (noTl tr (-1) ((dk.1 : Int) - 1) (nI k))), some (.int (nI (brs (fun i => decide (0 < ly dk st.2.1 p q.2 e i)) i))), some (.int (nI i))]) (fun i h' => h' = h) 0 (by omega) rfl (fun h' hI => ?_) (fun i h' hi hI ih => ?_)
    · subst hI
      refine x_il6 dX11_names_35 ?_
      refine x_al0 rfl dX11_names_37 ?_
      refine x_get fdX11_106 hx rfl dX11_names_38 ?_
      refine x_get fdX11_143 hd rfl dX11_names_41 ?_
      refine x_icmp_ge (tgt := 77) dX11_names_44 rfl (fun q44 => ?_) (fun q44 => ?_)
      · skip
        first | (simp only [cmp_lt, cmp_gt, cmp_eq, zN_cge, zN_cle, Decidable.not_not] at q44) | (simp (disch := omega) only [zN_le, zN_lt, zN_0, zN_1, nI_toInt, zN_eq, zN_eq0, b2_z, b2_nz, Decidable.not_not, Int.not_lt, Int.not_le, zK0, zK1, zK2, zK3, zK5, zK7, zK8, zK9, zK10, zK19, zK20, zK40, zK99, zK100, zK199] at q44) | skip
        refine x_il5 dX11_names_77 ?_
        refine x_iret rfl rfl dX11_names_79 ⟨_, rfl, ?_, I⟩
        have z := brs_ext (P := fun i => decide (0 < ly dk st.2.1 p q.2 e i)) (n := dk.1) (fun j hj => decide_eq_false (by rw [ly_0 d2 he hj]; omega)) (6 - dk.1)
        rw [show dk.1 + (6 - dk.1) = 6 by omega] at z
        rw [z]
      · skip
        first | (simp only [cmp_lt, cmp_gt, cmp_eq, zN_cge, zN_cle, Decidable.not_not] at q44) | (simp (disch := omega) only [zN_le, zN_lt, zN_0, zN_1, nI_toInt, zN_eq, zN_eq0, b2_z, b2_nz, Decidable.not_not, Int.not_lt, Int.not_le, zK0, zK1, zK2, zK3, zK5, zK7, zK8, zK9, zK10, zK19, zK20, zK40, zK99, zK100, zK199] at q44) | skip
        omega
    · subst hI
      have ll := ly_le (dk := dk) (c := st.2.1) (p := p) (e := e) (x := i) (vs := q.2) d2
      refine x_il6 dX11_names_35 ?_
      refine x_al0 rfl dX11_names_37 ?_
      refine x_get fdX11_106 hx rfl dX11_names_38 ?_
      refine x_get fdX11_143 hd rfl dX11_names_41 ?_
      refine x_icmp_ge (tgt := 77) dX11_names_44 rfl (fun q44 => ?_) (fun q44 => ?_)
      · skip
        first | (simp only [cmp_lt, cmp_gt, cmp_eq, zN_cge, zN_cle, Decidable.not_not] at q44) | (simp (disch := omega) only [zN_le, zN_lt, zN_0, zN_1, nI_toInt, zN_eq, zN_eq0, b2_z, b2_nz, Decidable.not_not, Int.not_lt, Int.not_le, zK0, zK1, zK2, zK3, zK5, zK7, zK8, zK9, zK10, zK19, zK20, zK40, zK99, zK100, zK199] at q44) | skip
        omega
      · skip
        first | (simp only [cmp_lt, cmp_gt, cmp_eq, zN_cge, zN_cle, Decidable.not_not] at q44) | (simp (disch := omega) only [zN_le, zN_lt, zN_0, zN_1, nI_toInt, zN_eq, zN_eq0, b2_z, b2_nz, Decidable.not_not, Int.not_lt, Int.not_le, zK0, zK1, zK2, zK3, zK5, zK7, zK8, zK9, zK10, zK19, zK20, zK40, zK99, zK100, zK199] at q44) | skip
        refine x_al0 rfl dX11_names_47 ?_
        refine x_get fdX11_91 hx rfl dX11_names_48 ?_
        refine x_il3 dX11_names_51 ?_
        refine x_bipush (v := nI 6) dX11_names_52 rfl ?_
        first | refine x_imul (pk_mul _ _) dX11_names_54 ?_ | refine x_imul rfl dX11_names_54 ?_
        refine x_il6 dX11_names_55 ?_
        refine x_iadd ((show _ = nI (6 * e + i) by rw [nI_add, Nat.mul_comm])) dX11_names_57 ?_
        refine x_iald h32 (vp_in_nI (by omega) (by decide)) (ald (hl e i he (by omega)) (by omega)) dX11_names_58 ?_
        refine x_if_le (tgt := 71) dX11_names_59 rfl (fun q59 => ?_) (fun q59 => ?_)
        · skip
          first | (simp only [cmp_lt, cmp_gt, cmp_eq, zN_cge, zN_cle, Decidable.not_not] at q59) | (simp (disch := omega) only [zN_le, zN_lt, zN_0, zN_1, nI_toInt, zN_eq, zN_eq0, b2_z, b2_nz, Decidable.not_not, Int.not_lt, Int.not_le, zK0, zK1, zK2, zK3, zK5, zK7, zK8, zK9, zK10, zK19, zK20, zK40, zK99, zK100, zK199] at q59) | skip
          refine x_ii6 rfl (nI_1 _) dX11_names_71 ?_
          refine x_goto (tgt := 35) dX11_names_74 rfl ?_
          rw [show brs (fun i => decide (0 < ly dk st.2.1 p q.2 e i)) i = brs (fun i => decide (0 < ly dk st.2.1 p q.2 e i)) (i + 1) by rw [brs, if_neg (by simp; omega), Nat.or_zero]]
          exact ih _ rfl
        · skip
          first | (simp only [cmp_lt, cmp_gt, cmp_eq, zN_cge, zN_cle, Decidable.not_not] at q59) | (simp (disch := omega) only [zN_le, zN_lt, zN_0, zN_1, nI_toInt, zN_eq, zN_eq0, b2_z, b2_nz, Decidable.not_not, Int.not_lt, Int.not_le, zK0, zK1, zK2, zK3, zK5, zK7, zK8, zK9, zK10, zK19, zK20, zK40, zK99, zK100, zK199] at q59) | skip
          refine x_il5 dX11_names_62 ?_
          refine x_iconst (v := nI 1) dX11_names_64 rfl ?_
          refine x_il6 dX11_names_65 ?_
          refine x_ishl ((shl_n (by omega) (by rw [Nat.one_mul]; exact Nat.pow_lt_pow_right (by decide) (by omega)))) dX11_names_67 ?_
          refine x_ior (or_n _ _) dX11_names_68 ?_
          refine x_is5 rfl dX11_names_69 ?_
          refine x_ii6 rfl (nI_1 _) dX11_names_71 ?_
          refine x_goto (tgt := 35) dX11_names_74 rfl ?_
          rw [Nat.one_mul, show brs (fun i => decide (0 < ly dk st.2.1 p q.2 e i)) i ||| 2 ^ i = brs (fun i => decide (0 < ly dk st.2.1 p q.2 e i)) (i + 1) by rw [brs, if_pos (by simp; omega)]]
          exact ih _ rfl
  · skip
    refine x_il4 dX11_names_14 ?_
    refine x_iret rfl rfl dX11_names_16 ⟨_, rfl, ?_, I⟩
    unfold F_names
    by_cases c : oneOf x 4 ∧ oneOf y dk.1 ∧ oneOf z dk.1
    · rw [if_pos c] at q11 ⊢
      rw [if_pos c, if_neg q11]
    · rw [if_neg c, if_neg c]
theorem k_most {p e : Nat} {tvs : List Int64} {f : Nat → Int32} (I : CI h0 h dk st un tp tr pi fl ln sb sj dr) (h32 : h[32]? = some (inA 36 f)) (hl : ∀ e x, e < dk.1 → x < 6 → f (6 * e + x) = nI (ly dk st.2.1 p tvs e x)) (he : e < dk.1) : Zm g (d + 1) 0 0 mX11_mostLying [.ref 0, .int (nI e)] h (rI (nI (mo dk st.2.1 p tvs e)) h) := by
  obtain ⟨rt, rn, rs, sw, rmv, rmk, moc, len, fre, fc, fr, vn, vs, qd, wst, wqu, wwe, wla, hx, hn, hd, hR, hv, hw, hs⟩ := I.o
  obtain ⟨d1, d2, d3, d4, d5, d6, d7, d8⟩ := I.dkB
  have ll : ∀ x, ly dk st.2.1 p tvs e x ≤ 720 := fun x => ly_le d2
  show Zw g (d + 1) 0 0 mX11_mostLying 0 [some (.ref 0), some (.int (nI e)), none, none] [] h _
  refine x_iconst (v := nI 0) dX11_mostLying_0 rfl ?_
  refine x_is2 rfl dX11_mostLying_1 ?_
  refine x_iconst (v := nI 0) dX11_mostLying_2 rfl ?_
  refine x_is3 rfl dX11_mostLying_3 ?_
  refine x_for (e := dk.1) (fun i => [some (.ref 0), some (.int (nI e)), some (.int (nI (mx (ly dk st.2.1 p tvs e) i))), some (.int (nI i))]) (fun i h' => h' = h) 0 (by omega) rfl (fun h' hI => ?_) (fun i h' hi hI ih => ?_)
  · subst hI
    refine x_il3 dX11_mostLying_4 ?_
    refine x_al0 rfl dX11_mostLying_5 ?_
    refine x_get fdX11_106 hx rfl dX11_mostLying_6 ?_
    refine x_get fdX11_143 hd rfl dX11_mostLying_9 ?_
    refine x_icmp_ge (tgt := 37) dX11_mostLying_12 rfl (fun q12 => ?_) (fun q12 => ?_)
    · skip
      first | (simp only [cmp_lt, cmp_gt, cmp_eq, zN_cge, zN_cle, Decidable.not_not] at q12) | (simp (disch := omega) only [zN_le, zN_lt, zN_0, zN_1, nI_toInt, zN_eq, zN_eq0, b2_z, b2_nz, Decidable.not_not, Int.not_lt, Int.not_le, zK0, zK1, zK2, zK3, zK5, zK7, zK8, zK9, zK10, zK19, zK20, zK40, zK99, zK100, zK199] at q12) | skip
      refine x_il2 dX11_mostLying_37 ?_
      refine x_iret rfl rfl dX11_mostLying_38 ⟨?_, rfl⟩
      have z := mx_ext (F := ly dk st.2.1 p tvs e) (n := dk.1) (fun j hj => ly_0 d2 he hj) (6 - dk.1)
      rw [show dk.1 + (6 - dk.1) = 6 by omega] at z
      rw [mo, z]
    · skip
      first | (simp only [cmp_lt, cmp_gt, cmp_eq, zN_cge, zN_cle, Decidable.not_not] at q12) | (simp (disch := omega) only [zN_le, zN_lt, zN_0, zN_1, nI_toInt, zN_eq, zN_eq0, b2_z, b2_nz, Decidable.not_not, Int.not_lt, Int.not_le, zK0, zK1, zK2, zK3, zK5, zK7, zK8, zK9, zK10, zK19, zK20, zK40, zK99, zK100, zK199] at q12) | skip
      omega
  · subst hI
    have lx := ll i
    have mj : mx (ly dk st.2.1 p tvs e) i ≤ 720 := mx_le ll i
    refine x_il3 dX11_mostLying_4 ?_
    refine x_al0 rfl dX11_mostLying_5 ?_
    refine x_get fdX11_106 hx rfl dX11_mostLying_6 ?_
    refine x_get fdX11_143 hd rfl dX11_mostLying_9 ?_
    refine x_icmp_ge (tgt := 37) dX11_mostLying_12 rfl (fun q12 => ?_) (fun q12 => ?_)
    · skip
      first | (simp only [cmp_lt, cmp_gt, cmp_eq, zN_cge, zN_cle, Decidable.not_not] at q12) | (simp (disch := omega) only [zN_le, zN_lt, zN_0, zN_1, nI_toInt, zN_eq, zN_eq0, b2_z, b2_nz, Decidable.not_not, Int.not_lt, Int.not_le, zK0, zK1, zK2, zK3, zK5, zK7, zK8, zK9, zK10, zK19, zK20, zK40, zK99, zK100, zK199] at q12) | skip
      omega
    · skip
      first | (simp only [cmp_lt, cmp_gt, cmp_eq, zN_cge, zN_cle, Decidable.not_not] at q12) | (simp (disch := omega) only [zN_le, zN_lt, zN_0, zN_1, nI_toInt, zN_eq, zN_eq0, b2_z, b2_nz, Decidable.not_not, Int.not_lt, Int.not_le, zK0, zK1, zK2, zK3, zK5, zK7, zK8, zK9, zK10, zK19, zK20, zK40, zK99, zK100, zK199] at q12) | skip
      refine x_il2 dX11_mostLying_15 ?_
      refine x_al0 rfl dX11_mostLying_16 ?_
      refine x_get fdX11_91 hx rfl dX11_mostLying_17 ?_
      refine x_il1 dX11_mostLying_20 ?_
      refine x_bipush (v := nI 6) dX11_mostLying_21 rfl ?_
      first | refine x_imul (pk_mul _ _) dX11_mostLying_23 ?_ | refine x_imul rfl dX11_mostLying_23 ?_
      refine x_il3 dX11_mostLying_24 ?_
      refine x_iadd ((show _ = nI (6 * e + i) by rw [nI_add, Nat.mul_comm])) dX11_mostLying_25 ?_
      refine x_iald h32 (vp_in_nI (by omega) (by decide)) (ald (hl e i he (by omega)) (by omega)) dX11_mostLying_26 ?_
      refine x_mmax kjX11_333 (Nat.le_of_ble_eq_true rfl) (mx_n (by omega) (by omega)) dX11_mostLying_27 ?_
      refine x_is2 rfl dX11_mostLying_30 ?_
      first | refine x_ii3 rfl (nI_1 _) dX11_mostLying_31 ?_ | refine x_ii3 rfl rfl dX11_mostLying_31 ?_
      refine x_goto (tgt := 4) dX11_mostLying_34 rfl ?_
      exact ih _ rfl
theorem k_look {x y : Int32} (I : CI h0 h dk st un tp tr pi fl ln sb sj dr) : Zm g (d + 7) 0 0 mX11_look [.ref 0, .int x, .int y] h (rIp (fun r h' => r = F_look dk st tr x y ∧ CI h0 h' dk st un tp tr pi fl ln sb sj dr)) := by
  obtain ⟨rt, rn, rs, sw, rmv, rmk, moc, len, fre, fc, fr, vn, vs, qd, wst, wqu, wwe, wla, hx, hn, hd, hR, hv, hw, hs⟩ := I.o
  obtain ⟨d1, d2, d3, d4, d5, d6, d7, d8⟩ := I.dkB
  obtain ⟨u, h13, hu⟩ := I.trs
  have hf := fct_le d2
  show Zw g (d + 7) 0 0 mX11_look 0 [some (.ref 0), some (.int x), some (.int y), none, none, none] [] h _
  refine x_al0 rfl dX11_look_0 ?_
  refine x_il1 dX11_look_1 ?_
  refine x_il2 dX11_look_2 ?_
  refine x_iconst (v := nI 0) dX11_look_3 rfl ?_
  refine x_cv3I mX11_refusalOfFound_ok lkX11_341 rfl (Nat.le_of_ble_eq_true rfl) (Nat.le_of_ble_eq_true rfl) dX11_look_4 hx  (k_refF I) ?_
  rw [fR_refF d1]
  refine x_is3 rfl dX11_look_7 ?_
  refine x_il3 dX11_look_8 ?_
  refine x_if_eq (tgt := 14) dX11_look_9 rfl (fun q9 => ?_) (fun q9 => ?_)
  · skip
    unfold F_look
    rw [if_pos q9]
    obtain ⟨oy, k, q, hk, rfl, hqt, etv, l1, l8⟩ := fR_0 q9
    obtain ⟨p, hp, rfl⟩ := oneOf_ex oy
    rw [etv, show tn (nI p) = p from nI_clamp (by omega)]
    refine x_al0 rfl dX11_look_14 ?_
    refine x_al0 rfl dX11_look_15 ?_
    refine x_get fdX11_49 hx rfl dX11_look_16 ?_
    refine x_il1 dX11_look_19 ?_
    refine x_aald rfl h13 (vp_in_nI (by omega) (by decide)) (by rw [nI_clamp (by omega)]; exact hu k hk) dX11_look_20 ?_
    refine x_il2 dX11_look_21 ?_
    refine x_cv2Ip mX11_gatherFound_ok lkX11_344 rfl (Nat.le_of_ble_eq_true rfl) (Nat.le_of_ble_eq_true rfl) dX11_look_22 hx  (k_gather I hk hqt l8 hp) (fun r h hq => ?_)
    obtain ⟨rfl, I, f, h32, hl⟩ := hq
    obtain ⟨rt, rn, rs, sw, rmv, rmk, moc, len, fre, fc, fr, vn, vs, qd, wst, wqu, wwe, wla, hx, hn, hd, hR, hv, hw, hs⟩ := I.o
    have cl := cnt_le (P := fitB dk st.2.1 p q.2) (fct dk.1)
    refine x_if_ne (tgt := 30) dX11_look_25 rfl (fun q25 => ?_) (fun q25 => ?_)
    · skip
      first | (simp only [cmp_lt, cmp_gt, cmp_eq, zN_cge, zN_cle, Decidable.not_not] at q25) | (simp (disch := omega) only [zN_le, zN_lt, zN_0, zN_1, nI_toInt, zN_eq, zN_eq0, b2_z, b2_nz, Decidable.not_not, Int.not_lt, Int.not_le, zK0, zK1, zK2, zK3, zK5, zK7, zK8, zK9, zK10, zK19, zK20, zK40, zK99, zK100, zK199] at q25) | skip
      rw [if_neg q25]
      have ml : ∀ e, mo dk st.2.1 p q.2 e ≤ 720 := fun e => mx_le (fun j => ly_le d2) 6
      refine x_iconst (v := nI 0) dX11_look_30 rfl ?_
      refine x_is4 rfl dX11_look_31 ?_
      refine x_iconst (v := nI 1) dX11_look_33 rfl ?_
      refine x_is5 rfl dX11_look_34 ?_
      refine x_wh (fun (i : Nat) => [some (.ref 0), some (.int (nI k)), some (.int (nI p)), some (.int (fR dk tr (nI k) (nI p))), some (.int (nI (arg (mo dk st.2.1 p q.2) i))), some (.int (nI (i + 1)))]) (fun i h' => i < dk.1 ∧ h' = h) (fun i => dk.1 - i) 0 ⟨by omega, rfl⟩ (fun i h' hI ih => ?_)
      obtain ⟨hi, rfl⟩ := hI
      have al := arg_le (F := mo dk st.2.1 p q.2) i
      have ma := ml (arg (mo dk st.2.1 p q.2) i)
      have mi := ml (i + 1)
      refine x_il5 dX11_look_36 ?_
      refine x_al0 rfl dX11_look_38 ?_
      refine x_get fdX11_106 hx rfl dX11_look_39 ?_
      refine x_get fdX11_143 hd rfl dX11_look_42 ?_
      refine x_icmp_ge (tgt := 73) dX11_look_45 rfl (fun q45 => ?_) (fun q45 => ?_)
      · skip
        first | (simp only [cmp_lt, cmp_gt, cmp_eq, zN_cge, zN_cle, Decidable.not_not] at q45) | (simp (disch := omega) only [zN_le, zN_lt, zN_0, zN_1, nI_toInt, zN_eq, zN_eq0, b2_z, b2_nz, Decidable.not_not, Int.not_lt, Int.not_le, zK0, zK1, zK2, zK3, zK5, zK7, zK8, zK9, zK10, zK19, zK20, zK40, zK99, zK100, zK199] at q45) | skip
        have i9 : i = dk.1 - 1 := by omega
        subst i9
        refine x_il4 dX11_look_73 ?_
        exact x_iret rfl rfl dX11_look_75 ⟨_, rfl, rfl, I⟩
      · skip
        first | (simp only [cmp_lt, cmp_gt, cmp_eq, zN_cge, zN_cle, Decidable.not_not] at q45) | (simp (disch := omega) only [zN_le, zN_lt, zN_0, zN_1, nI_toInt, zN_eq, zN_eq0, b2_z, b2_nz, Decidable.not_not, Int.not_lt, Int.not_le, zK0, zK1, zK2, zK3, zK5, zK7, zK8, zK9, zK10, zK19, zK20, zK40, zK99, zK100, zK199] at q45) | skip
        refine x_al0 rfl dX11_look_48 ?_
        refine x_il5 dX11_look_49 ?_
        refine x_cv1I mX11_mostLying_ok lkX11_348 rfl (Nat.le_of_ble_eq_true rfl) (Nat.le_of_ble_eq_true rfl) dX11_look_51 hx  (k_most I h32 hl (by omega)) ?_
        refine x_al0 rfl dX11_look_54 ?_
        refine x_il4 dX11_look_55 ?_
        refine x_cv1I mX11_mostLying_ok lkX11_348 rfl (Nat.le_of_ble_eq_true rfl) (Nat.le_of_ble_eq_true rfl) dX11_look_57 hx  (k_most I h32 hl (by omega)) ?_
        refine x_icmp_ge (tgt := 67) dX11_look_60 rfl (fun q60 => ?_) (fun q60 => ?_)
        · skip
          first | (simp only [cmp_lt, cmp_gt, cmp_eq, zN_cge, zN_cle, Decidable.not_not] at q60) | (simp (disch := omega) only [zN_le, zN_lt, zN_0, zN_1, nI_toInt, zN_eq, zN_eq0, b2_z, b2_nz, Decidable.not_not, Int.not_lt, Int.not_le, zK0, zK1, zK2, zK3, zK5, zK7, zK8, zK9, zK10, zK19, zK20, zK40, zK99, zK100, zK199] at q60) | skip
          refine x_ii5 rfl (nI_1 _) dX11_look_67 ?_
          refine x_goto (tgt := 36) dX11_look_70 rfl ?_
          rw [show arg (mo dk st.2.1 p q.2) i = arg (mo dk st.2.1 p q.2) (i + 1) from (if_neg (by omega)).symm]
          exact ih (i + 1) _ (by omega) ⟨by omega, rfl⟩
        · skip
          first | (simp only [cmp_lt, cmp_gt, cmp_eq, zN_cge, zN_cle, Decidable.not_not] at q60) | (simp (disch := omega) only [zN_le, zN_lt, zN_0, zN_1, nI_toInt, zN_eq, zN_eq0, b2_z, b2_nz, Decidable.not_not, Int.not_lt, Int.not_le, zK0, zK1, zK2, zK3, zK5, zK7, zK8, zK9, zK10, zK19, zK20, zK40, zK99, zK100, zK199] at q60) | skip
          refine x_il5 dX11_look_63 ?_
          refine x_is4 rfl dX11_look_65 ?_
          refine x_ii5 rfl (nI_1 _) dX11_look_67 ?_
          refine x_goto (tgt := 36) dX11_look_70 rfl ?_
          have ea : arg (mo dk st.2.1 p q.2) (i + 1) = i + 1 := if_pos (by omega)
          have z := ih (i + 1) h' (by omega) ⟨by omega, rfl⟩
          rw [ea] at z
          exact z
    · skip
      first | (simp only [cmp_lt, cmp_gt, cmp_eq, zN_cge, zN_cle, Decidable.not_not] at q25) | (simp (disch := omega) only [zN_le, zN_lt, zN_0, zN_1, nI_toInt, zN_eq, zN_eq0, b2_z, b2_nz, Decidable.not_not, Int.not_lt, Int.not_le, zK0, zK1, zK2, zK3, zK5, zK7, zK8, zK9, zK10, zK19, zK20, zK40, zK99, zK100, zK199] at q25) | skip
      refine x_iconst (v := (-1)) dX11_look_28 rfl ?_
      exact x_iret rfl rfl dX11_look_29 ⟨_, rfl, by rw [if_pos q25], I⟩
  · skip
    refine x_il3 dX11_look_12 ?_
    exact x_iret rfl rfl dX11_look_13 ⟨_, rfl, by rw [F_look, if_neg q9], I⟩
theorem k_wereLetOff {t c : Nat} {q : Nat × List Int64} (I : CI h0 h dk st un tp tr pi fl ln sb sj dr) (ht4 : t < 4) (hqt : tr t = some q) (hc : c < 10) : Zm g (d + 6) 0 0 mX11_wereLetOff [.ref 0, .ref (44 + 2 * t), .int (nI c)] h (rIp (fun r h' => r = b2 (clB dk st q.2 c = true) ∧ CI h0 h' dk st un tp tr pi fl ln sb sj dr)) := by
  obtain ⟨rt, rn, rs, sw, rmv, rmk, moc, len, fre, fc, fr, vn, vs, qd, wst, wqu, wwe, wla, hx, hn, hd, hR, hv, hw, hs⟩ := I.o
  obtain ⟨d1, d2, d3, d4, d5, d6, d7, d8⟩ := I.dkB
  obtain ⟨f, ht, ha, a1, a2, hf⟩ := I.tray ht4 hqt
  show Zw g (d + 6) 0 0 mX11_wereLetOff 0 [some (.ref 0), some (.ref (44 + 2 * t)), some (.int (nI c)), none, none] [] h _
  refine x_al0 rfl dX11_wereLetOff_0 ?_
  refine x_get fdX11_27 hx rfl dX11_wereLetOff_1 ?_
  refine x_get fdX11_128 hn rfl dX11_wereLetOff_4 ?_
  refine x_is3 rfl dX11_wereLetOff_7 ?_
  refine x_iconst (v := nI 0) dX11_wereLetOff_8 rfl ?_
  refine x_is4 rfl dX11_wereLetOff_9 ?_
  refine x_wh (fun (i : Nat) => [some (.ref 0), some (.ref (44 + 2 * t)), some (.int (nI c)), some (.int (nI (ngk dk.1 dk.2.2.1 i st.1))), some (.int (nI i))]) (fun i h => i ≤ q.2.length ∧ CI h0 h dk st un tp tr pi fl ln sb sj dr ∧ clB dk st q.2 c = allL (clP dk st q.2 c) (q.2.length - i) i) (fun i => 50 - i) 0 ⟨Nat.zero_le _, I, rfl⟩ (fun i h hI ih => ?_)
  obtain ⟨hi, I, hE⟩ := hI
  obtain ⟨rt, rn, rs, sw, rmv, rmk, moc, len, fre, fc, fr, vn, vs, qd, wst, wqu, wwe, wla, hx, hn, hd, hR, hv, hw, hs⟩ := I.o
  obtain ⟨f, ht, ha, a1, a2, hf⟩ := I.tray ht4 hqt
  refine x_il4 dX11_wereLetOff_11 ?_
  refine x_al1 rfl dX11_wereLetOff_13 ?_
  refine x_get fdX11_231 ht rfl dX11_wereLetOff_14 ?_
  refine x_icmp_ge (tgt := 64) dX11_wereLetOff_17 rfl (fun q17 => ?_) (fun q17 => ?_)
  · skip
    first | (simp only [cmp_lt, cmp_gt, cmp_eq, zN_cge, zN_cle, Decidable.not_not] at q17) | (simp (disch := omega) only [zN_le, zN_lt, zN_0, zN_1, nI_toInt, zN_eq, zN_eq0, b2_z, b2_nz, Decidable.not_not, Int.not_lt, Int.not_le, zK0, zK1, zK2, zK3, zK5, zK7, zK8, zK9, zK10, zK19, zK20, zK40, zK99, zK100, zK199] at q17) | skip
    rw [hE, show i = q.2.length by omega, Nat.sub_self]
    refine x_iconst (v := nI 1) dX11_wereLetOff_64 rfl ?_
    exact x_iret rfl  rfl dX11_wereLetOff_65 ⟨_, rfl, rfl, I⟩
  · skip
    first | (simp only [cmp_lt, cmp_gt, cmp_eq, zN_cge, zN_cle, Decidable.not_not] at q17) | (simp (disch := omega) only [zN_le, zN_lt, zN_0, zN_1, nI_toInt, zN_eq, zN_eq0, b2_z, b2_nz, Decidable.not_not, Int.not_lt, Int.not_le, zK0, zK1, zK2, zK3, zK5, zK7, zK8, zK9, zK10, zK19, zK20, zK40, zK99, zK100, zK199] at q17) | skip
    have il : i < q.2.length := by omega
    rw [allL_s il] at hE
    have kr := (ngk_row d1 d2 d5 i st.1 d7).1
    have kr2 := (ngk_row d1 d2 d5 (i + 1) st.1 d7).1
    have ml := mskK_lt (row := ngk dk.1 dk.2.2.1 (i + 1) st.1) (c := c) d2
    refine x_al0 rfl dX11_wereLetOff_20 ?_
    refine x_get fdX11_62 hx rfl dX11_wereLetOff_21 ?_
    refine x_il3 dX11_wereLetOff_24 ?_
    refine x_al0 rfl dX11_wereLetOff_25 ?_
    refine x_get fdX11_106 hx rfl dX11_wereLetOff_26 ?_
    refine x_get fdX11_161 hd rfl dX11_wereLetOff_29 ?_
    refine x_cv2Ip mX5_movedRow_ok lkX11_214 rfl (Nat.le_of_ble_eq_true rfl) (Nat.le_of_ble_eq_true rfl) dX11_wereLetOff_32 hR  (k_movedRow I (by first | assumption | omega) (by first | assumption | omega)) (fun r h hq => ?_)
    obtain ⟨rfl, I⟩ := hq
    obtain ⟨rt, rn, rs, sw, rmv, rmk, moc, len, fre, fc, fr, vn, vs, qd, wst, wqu, wwe, wla, hx, hn, hd, hR, hv, hw, hs⟩ := I.o
    rw [← ngk_s]
    refine x_is3 rfl dX11_wereLetOff_35 ?_
    refine x_al0 rfl dX11_wereLetOff_36 ?_
    refine x_get fdX11_71 hx rfl dX11_wereLetOff_37 ?_
    refine x_il3 dX11_wereLetOff_40 ?_
    refine x_il2 dX11_wereLetOff_41 ?_
    refine x_cv2Ip mX9_maskOf_ok lkX11_183 rfl (Nat.le_of_ble_eq_true rfl) (Nat.le_of_ble_eq_true rfl) dX11_wereLetOff_42 hv  (k_maskOf I kr2 hc) (fun r h hq => ?_)
    obtain ⟨rfl, I⟩ := hq
    obtain ⟨rt, rn, rs, sw, rmv, rmk, moc, len, fre, fc, fr, vn, vs, qd, wst, wqu, wwe, wla, hx, hn, hd, hR, hv, hw, hs⟩ := I.o
    obtain ⟨f, ht, ha, a1, a2, hf⟩ := I.tray ht4 hqt
    refine x_i2l (nI_l (by omega)) dX11_wereLetOff_45 ?_
    refine x_al1 rfl dX11_wereLetOff_46 ?_
    refine x_il4 dX11_wereLetOff_47 ?_
    refine x_cv1L mX8_valueAt_ok lkX11_234 rfl (Nat.le_of_ble_eq_true rfl) (Nat.le_of_ble_eq_true rfl) dX11_wereLetOff_49 ht  (c_valueAt ht ha (by omega)) ?_
    rw [hf i il]
    refine x_lcmp (rfl) dX11_wereLetOff_52 ?_
    refine x_if_eq (tgt := 58) dX11_wereLetOff_53 rfl (fun q53 => ?_) (fun q53 => ?_)
    · skip
      first | (simp only [cmp_lt, cmp_gt, cmp_eq, zN_cge, zN_cle, Decidable.not_not] at q53) | (simp (disch := omega) only [zN_le, zN_lt, zN_0, zN_1, nI_toInt, zN_eq, zN_eq0, b2_z, b2_nz, Decidable.not_not, Int.not_lt, Int.not_le, zK0, zK1, zK2, zK3, zK5, zK7, zK8, zK9, zK10, zK19, zK20, zK40, zK99, zK100, zK199] at q53) | skip
      first | refine x_ii4 rfl (nI_1 _) dX11_wereLetOff_58 ?_ | refine x_ii4 rfl rfl dX11_wereLetOff_58 ?_
      refine x_goto (tgt := 11) dX11_wereLetOff_61 rfl ?_
      exact ih (i + 1) _ (by omega) ⟨il, I, by rw [hE, show clP dk st q.2 c i = true from decide_eq_true q53, Bool.true_and]⟩
    · skip
      first | (simp only [cmp_lt, cmp_gt, cmp_eq, zN_cge, zN_cle, Decidable.not_not] at q53) | (simp (disch := omega) only [zN_le, zN_lt, zN_0, zN_1, nI_toInt, zN_eq, zN_eq0, b2_z, b2_nz, Decidable.not_not, Int.not_lt, Int.not_le, zK0, zK1, zK2, zK3, zK5, zK7, zK8, zK9, zK10, zK19, zK20, zK40, zK99, zK100, zK199] at q53) | skip
      refine x_iconst (v := nI 0) dX11_wereLetOff_56 rfl ?_
      exact x_iret rfl  rfl dX11_wereLetOff_57 ⟨_, rfl, by rw [hE, show clP dk st q.2 c i = false from decide_eq_false q53]; rfl, I⟩
theorem k_clues {x : Int32} (I : CI h0 h dk st un tp tr pi fl ln sb sj dr) : Zm g (d + 7) 0 0 mX11_clues [.ref 0, .int x] h (rIp (fun r h' => r = F_clues dk st tr x ∧ CI h0 h' dk st un tp tr pi fl ln sb sj dr)) := by
  obtain ⟨rt, rn, rs, sw, rmv, rmk, moc, len, fre, fc, fr, vn, vs, qd, wst, wqu, wwe, wla, hx, hn, hd, hR, hv, hw, hs⟩ := I.o
  obtain ⟨d1, d2, d3, d4, d5, d6, d7, d8⟩ := I.dkB
  obtain ⟨u, h13, hu⟩ := I.trs
  have p6 := pow6 d2
  show Zw g (d + 7) 0 0 mX11_clues 0 [some (.ref 0), some (.int x), none, none, none, none] [] h _
  refine x_il1 dX11_clues_0 ?_
  refine x_iconst (v := nI 4) dX11_clues_1 rfl ?_
  refine x_cs2I mX11_isOneOf_ok lkX11_157 (Nat.le_of_ble_eq_true rfl) (Nat.le_of_ble_eq_true rfl) dX11_clues_2 (c_isOneOf (by decide)) ?_
  refine x_if_ne (tgt := 11) dX11_clues_5 rfl (fun q5 => ?_) (fun q5 => ?_)
  · skip
    first | (simp only [cmp_lt, cmp_gt, cmp_eq, zN_cge, zN_cle, Decidable.not_not] at q5) | (simp (disch := omega) only [zN_le, zN_lt, zN_0, zN_1, nI_toInt, zN_eq, zN_eq0, b2_z, b2_nz, Decidable.not_not, Int.not_lt, Int.not_le, zK0, zK1, zK2, zK3, zK5, zK7, zK8, zK9, zK10, zK19, zK20, zK40, zK99, zK100, zK199] at q5) | skip
    obtain ⟨k, hk, rfl⟩ := oneOf_ex q5
    refine x_al0 rfl dX11_clues_11 ?_
    refine x_get fdX11_49 hx rfl dX11_clues_12 ?_
    refine x_il1 dX11_clues_15 ?_
    refine x_aald rfl h13 (vp_in_nI (by omega) (by decide)) (by rw [nI_clamp (by omega)]; exact hu k hk) dX11_clues_16 ?_
    refine x_as2 rfl rfl dX11_clues_17 ?_
    refine x_al2 rfl dX11_clues_18 ?_
    refine x_iconst (v := nI 0) dX11_clues_19 rfl ?_
    refine x_iconst (v := nI 1) dX11_clues_20 rfl ?_
    refine x_al0 rfl dX11_clues_21 ?_
    refine x_get fdX11_106 hx rfl dX11_clues_22 ?_
    refine x_get fdX11_143 hd rfl dX11_clues_25 ?_
    refine x_ishl (rfl) dX11_clues_28 ?_
    refine x_iconst (v := nI 1) dX11_clues_29 rfl ?_
    refine x_isub (goal_n d2) dX11_clues_30 ?_
    refine x_cs3I mX11_refusalOfNumbers_ok lkX11_351 (Nat.le_of_ble_eq_true rfl) (Nat.le_of_ble_eq_true rfl) dX11_clues_31 (k_refN I hk) ?_
    have e0 : (match tr k with | none => -6 | some q => rfs (nI 0).toInt (nI (2 ^ dk.1 - 1)).toInt q.2) = noTl tr 0 (((2 ^ dk.1 - 1 : Nat) : Int)) (nI k) := by rw [noTl, if_pos q5, show tn (nI k) = k from nI_clamp (by omega), nI_toInt (show 2 ^ dk.1 - 1 < 2 ^ 31 by omega)]; rfl
    rw [e0]
    refine x_is3 rfl dX11_clues_34 ?_
    refine x_il3 dX11_clues_35 ?_
    refine x_if_eq (tgt := 41) dX11_clues_36 rfl (fun q36 => ?_) (fun q36 => ?_)
    · skip
      unfold F_clues
      rw [if_pos q36]
      obtain ⟨k', q, hk', ekk, hqt, etv, l1, l8⟩ := noTl_0 q36
      rw [etv]
      rw [nI_eq (by omega) (by omega)] at ekk
      subst ekk
      refine x_iconst (v := nI 0) dX11_clues_41 rfl ?_
      refine x_is4 rfl dX11_clues_42 ?_
      refine x_iconst (v := nI 0) dX11_clues_44 rfl ?_
      refine x_is5 rfl dX11_clues_45 ?_
      refine x_for (e := 10) (fun i => [some (.ref 0), some (.int (nI k)), some (.ref (44 + 2 * k)), some (.int (noTl tr 0 (((2 ^ dk.1 - 1 : Nat) : Int)) (nI k))), some (.int (nI (brs (clB dk st q.2) i))), some (.int (nI i))]) (fun i h => CI h0 h dk st un tp tr pi fl ln sb sj dr) 0 (by omega) I (fun h I => ?_) (fun i h hi I ih => ?_)
      · refine x_il5 dX11_clues_47 ?_
        refine x_bipush (v := nI 10) dX11_clues_49 rfl ?_
        refine x_icmp_ge (tgt := 79) dX11_clues_51 rfl (fun q51 => ?_) (fun q51 => ?_)
        · skip
          first | (simp only [cmp_lt, cmp_gt, cmp_eq, zN_cge, zN_cle, Decidable.not_not] at q51) | (simp (disch := omega) only [zN_le, zN_lt, zN_0, zN_1, nI_toInt, zN_eq, zN_eq0, b2_z, b2_nz, Decidable.not_not, Int.not_lt, Int.not_le, zK0, zK1, zK2, zK3, zK5, zK7, zK8, zK9, zK10, zK19, zK20, zK40, zK99, zK100, zK199] at q51) | skip
          refine x_il4 dX11_clues_79 ?_
          exact x_iret rfl rfl dX11_clues_81 ⟨_, rfl, rfl, I⟩
        · skip
          first | (simp only [cmp_lt, cmp_gt, cmp_eq, zN_cge, zN_cle, Decidable.not_not] at q51) | (simp (disch := omega) only [zN_le, zN_lt, zN_0, zN_1, nI_toInt, zN_eq, zN_eq0, b2_z, b2_nz, Decidable.not_not, Int.not_lt, Int.not_le, zK0, zK1, zK2, zK3, zK5, zK7, zK8, zK9, zK10, zK19, zK20, zK40, zK99, zK100, zK199] at q51) | skip
          omega
      · obtain ⟨rt, rn, rs, sw, rmv, rmk, moc, len, fre, fc, fr, vn, vs, qd, wst, wqu, wwe, wla, hx, hn, hd, hR, hv, hw, hs⟩ := I.o
        refine x_il5 dX11_clues_47 ?_
        refine x_bipush (v := nI 10) dX11_clues_49 rfl ?_
        refine x_icmp_ge (tgt := 79) dX11_clues_51 rfl (fun q51 => ?_) (fun q51 => ?_)
        · skip
          first | (simp only [cmp_lt, cmp_gt, cmp_eq, zN_cge, zN_cle, Decidable.not_not] at q51) | (simp (disch := omega) only [zN_le, zN_lt, zN_0, zN_1, nI_toInt, zN_eq, zN_eq0, b2_z, b2_nz, Decidable.not_not, Int.not_lt, Int.not_le, zK0, zK1, zK2, zK3, zK5, zK7, zK8, zK9, zK10, zK19, zK20, zK40, zK99, zK100, zK199] at q51) | skip
          omega
        · skip
          first | (simp only [cmp_lt, cmp_gt, cmp_eq, zN_cge, zN_cle, Decidable.not_not] at q51) | (simp (disch := omega) only [zN_le, zN_lt, zN_0, zN_1, nI_toInt, zN_eq, zN_eq0, b2_z, b2_nz, Decidable.not_not, Int.not_lt, Int.not_le, zK0, zK1, zK2, zK3, zK5, zK7, zK8, zK9, zK10, zK19, zK20, zK40, zK99, zK100, zK199] at q51) | skip
          refine x_al0 rfl dX11_clues_54 ?_
          refine x_al2 rfl dX11_clues_55 ?_
          refine x_il5 dX11_clues_56 ?_
          refine x_cv2Ip mX11_wereLetOff_ok lkX11_370 rfl (Nat.le_of_ble_eq_true rfl) (Nat.le_of_ble_eq_true rfl) dX11_clues_58 hx  (k_wereLetOff I hk hqt hi) (fun r h hq => ?_)
          obtain ⟨rfl, I⟩ := hq
          refine x_if_eq (tgt := 73) dX11_clues_61 rfl (fun q61 => ?_) (fun q61 => ?_)
          · skip
            first | (simp only [cmp_lt, cmp_gt, cmp_eq, zN_cge, zN_cle, Decidable.not_not] at q61) | (simp (disch := omega) only [zN_le, zN_lt, zN_0, zN_1, nI_toInt, zN_eq, zN_eq0, b2_z, b2_nz, Decidable.not_not, Int.not_lt, Int.not_le, zK0, zK1, zK2, zK3, zK5, zK7, zK8, zK9, zK10, zK19, zK20, zK40, zK99, zK100, zK199] at q61) | skip
            refine x_ii5 rfl (nI_1 _) dX11_clues_73 ?_
            refine x_goto (tgt := 47) dX11_clues_76 rfl ?_
            rw [show brs (clB dk st q.2) i = brs (clB dk st q.2) (i + 1) by rw [brs, if_neg q61, Nat.or_zero]]
            exact ih _ I
          · skip
            first | (simp only [cmp_lt, cmp_gt, cmp_eq, zN_cge, zN_cle, Decidable.not_not] at q61) | (simp (disch := omega) only [zN_le, zN_lt, zN_0, zN_1, nI_toInt, zN_eq, zN_eq0, b2_z, b2_nz, Decidable.not_not, Int.not_lt, Int.not_le, zK0, zK1, zK2, zK3, zK5, zK7, zK8, zK9, zK10, zK19, zK20, zK40, zK99, zK100, zK199] at q61) | skip
            refine x_il4 dX11_clues_64 ?_
            refine x_iconst (v := nI 1) dX11_clues_66 rfl ?_
            refine x_il5 dX11_clues_67 ?_
            refine x_ishl ((shl_n (by omega) (by rw [Nat.one_mul]; exact Nat.pow_lt_pow_right (by decide) (by omega)))) dX11_clues_69 ?_
            refine x_ior (or_n _ _) dX11_clues_70 ?_
            refine x_is4 rfl dX11_clues_71 ?_
            refine x_ii5 rfl (nI_1 _) dX11_clues_73 ?_
            refine x_goto (tgt := 47) dX11_clues_76 rfl ?_
            rw [Nat.one_mul, show brs (clB dk st q.2) i ||| 2 ^ i = brs (clB dk st q.2) (i + 1) by rw [brs, if_pos q61]]
            exact ih _ I
    · skip
      refine x_il3 dX11_clues_39 ?_
      exact x_iret rfl rfl dX11_clues_40 ⟨_, rfl, by rw [F_clues, if_neg q36], I⟩
  · skip
    first | (simp only [cmp_lt, cmp_gt, cmp_eq, zN_cge, zN_cle, Decidable.not_not] at q5) | (simp (disch := omega) only [zN_le, zN_lt, zN_0, zN_1, nI_toInt, zN_eq, zN_eq0, b2_z, b2_nz, Decidable.not_not, Int.not_lt, Int.not_le, zK0, zK1, zK2, zK3, zK5, zK7, zK8, zK9, zK10, zK19, zK20, zK40, zK99, zK100, zK199] at q5) | skip
    refine x_bipush (v := (-2)) dX11_clues_8 rfl ?_
    exact x_iret rfl rfl dX11_clues_10 ⟨_, rfl, by rw [F_clues, show noTl tr 0 (((2 ^ dk.1 - 1 : Nat) : Int)) x = -2 from if_neg q5]; rfl, I⟩
end ZCd

