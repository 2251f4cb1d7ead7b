/-! the class's told deeds: on now or on judged -/
section ZCF
variable {g : zG} {d : Nat} {h0 h h' : zH} {b : Nat} {X : zSt} {dk : zDk} {st : zSt} {un : List zSt} {tp : List Nat} {tr : Nat → zTr} {pi : Nat → zPi} {fl : Nat × Nat} {ln : zLn} {sb sj : zS3} {dr : Int32}
/-- the state in cell b (now or judged) is X -/
def CS (b : Nat) (X : zSt) (h0 h : zH) (dk : zDk) (st : zSt) (un : List zSt) (tp : List Nat) (tr : Nat → zTr) (pi : Nat → zPi) (fl : Nat × Nat) (ln : zLn) (sb sj : zS3) (dr : Int32) : Prop := (b = 9 ∧ CI h0 h dk X un tp tr pi fl ln sb sj dr) ∨ (b = 11 ∧ stOk dk.1 X ∧ CI h0 h dk st un tp tr pi fl ln sb (s3 X) dr)
theorem CS.ci (S : CS b X h0 h dk st un tp tr pi fl ln sb sj dr) : ∃ st' sj', CI h0 h dk st' un tp tr pi fl ln sb sj' dr := by
  rcases S with ⟨-, I⟩ | ⟨-, -, I⟩
  · exact ⟨_, _, I⟩
  · exact ⟨_, _, I⟩
theorem CS.ok (S : CS b X h0 h dk st un tp tr pi fl ln sb sj dr) : stOk dk.1 X := by
  rcases S with ⟨-, I⟩ | ⟨-, o, I⟩
  · exact I.dkB.2.2.2.2.2.2
  · exact o
theorem CS.cell (S : CS b X h0 h dk st un tp tr pi fl ln sb sj dr) : h[b]? = some (s3E (s3 X)) := by
  rcases S with ⟨rfl, I⟩ | ⟨rfl, -, I⟩
  · obtain ⟨Z, rt, ds, C, W, J⟩ := I
    exact C.get J.2.1.1
  · exact I.i11
theorem CS.md (S : CS b X h0 h dk st un tp tr pi fl ln sb sj dr) (q : Md h h') : CS b X h0 h' dk st un tp tr pi fl ln sb sj dr := by
  rcases S with ⟨rfl, I⟩ | ⟨rfl, o, I⟩
  · exact Or.inl ⟨rfl, I.md q⟩
  · exact Or.inr ⟨rfl, o, I.md q⟩
theorem CS.set {Y : zSt} (S : CS b X h0 h dk st un tp tr pi fl ln sb sj dr) (hs : stOk dk.1 Y) : CS b Y h0 (h.set b (s3E (s3 Y))) dk st un tp tr pi fl ln sb sj dr := by
  rcases S with ⟨rfl, I⟩ | ⟨rfl, o, I⟩
  · exact Or.inl ⟨rfl, I.s9 hs⟩
  · exact Or.inr ⟨rfl, hs, I.s11⟩
theorem k_doSwap {p q : Nat} (S : CS b X h0 h dk st un tp tr pi fl ln sb sj dr) (hp : p < 2 ^ 31) (hq : q < 2 ^ 31) : Zm g (d + 3) 0 0 mX11_doSwap [.ref 0, .ref b, .int (nI p), .int (nI q)] h (rIp (fun r h' => (r = 1 ∧ (p < dk.1 ∧ q < dk.1 ∧ p ≠ q) ∧ CS b (swS dk X p q) h0 h' dk st un tp tr pi fl ln sb sj dr) ∨ (r = 0 ∧ ¬ (p < dk.1 ∧ q < dk.1 ∧ p ≠ q) ∧ CS b X h0 h' dk st un tp tr pi fl ln sb sj dr))) := by
  obtain ⟨s0, t0, I⟩ := S.ci
  obtain ⟨rt, rn, rs, sw, rmv, rmk, moc, len, fre, fc, fr, vn, vs, qd, wst, wqu, wwe, wla, hx, hn, hd, hR, hv, hw, hs⟩ := I.o
  have hb := S.cell
  obtain ⟨d1, d2, d3, d4, d5, d6, -⟩ := I.dkB
  obtain ⟨d7, d8⟩ := S.ok
  show Zw g (d + 3) 0 0 mX11_doSwap 0 [some (.ref 0), some (.ref b), some (.int (nI p)), some (.int (nI q))] [] h _
  refine x_al0 rfl dX11_doSwap_0 ?_
  refine x_il2 dX11_doSwap_1 ?_
  refine x_il3 dX11_doSwap_2 ?_
  refine x_cv2I mX11_canSwap_ok lkX11_191 rfl (Nat.le_of_ble_eq_true rfl) (Nat.le_of_ble_eq_true rfl) dX11_doSwap_3 hx  (k_canSwap I) ?_
  refine x_if_ne (tgt := 11) dX11_doSwap_6 rfl (fun q6 => ?_) (fun q6 => ?_)
  · skip
    first | (simp only [cmp_lt, cmp_gt, cmp_eq, zN_cge, zN_cle, Decidable.not_not] at q6) | (simp (disch := omega) only [zN_le, zN_lt, zN_0, zN_1, nI_toInt, zN_eq, zN_eq0, b2_z, b2_nz, Decidable.not_not, Int.not_lt, Int.not_le, zK0, zK1, zK2, zK3, zK5, zK7, zK8, zK9, zK10, zK19, zK20, zK40, zK99, zK100, zK199] at q6) | skip
    rw [oneOf_nI hp, oneOf_nI hq, ne_eq, nI_eq hp hq] at q6
    obtain ⟨rn, rs, sw, T⟩ := I.rT
    refine x_al1 rfl dX11_doSwap_11 ?_
    refine x_al0 rfl dX11_doSwap_12 ?_
    refine x_get fdX11_62 hx rfl dX11_doSwap_13 ?_
    refine x_al1 rfl dX11_doSwap_16 ?_
    refine x_get fdX11_128 hb rfl dX11_doSwap_17 ?_
    refine x_il2 dX11_doSwap_20 ?_
    refine x_il3 dX11_doSwap_21 ?_
    refine x_cv3Ip mX5_swappedRow_ok lkX11_198 rfl (Nat.le_of_ble_eq_true rfl) (Nat.le_of_ble_eq_true rfl) dX11_doSwap_22 hR  (c_X5_swappedRow T (by assumption) q6.1 q6.2.1) (fun r h hq => ?_)
    obtain ⟨rfl, z⟩ := hq
    replace S := S.md z
    have hb := S.cell
    refine x_put fdX11_128 hb zf_i (by simp) dX11_doSwap_25 ?_
    refine x_iconst (v := nI 1) dX11_doSwap_28 rfl ?_
    exact x_iret rfl  rfl dX11_doSwap_29 ⟨_, rfl, Or.inl ⟨rfl, q6, S.set (Y := swS dk X p q) ⟨(sw1_row d1 d2 d7 q6.1 q6.2.1).1, d8⟩⟩⟩
  · skip
    first | (simp only [cmp_lt, cmp_gt, cmp_eq, zN_cge, zN_cle, Decidable.not_not] at q6) | (simp (disch := omega) only [zN_le, zN_lt, zN_0, zN_1, nI_toInt, zN_eq, zN_eq0, b2_z, b2_nz, Decidable.not_not, Int.not_lt, Int.not_le, zK0, zK1, zK2, zK3, zK5, zK7, zK8, zK9, zK10, zK19, zK20, zK40, zK99, zK100, zK199] at q6) | skip
    rw [oneOf_nI hp, oneOf_nI hq, ne_eq, nI_eq hp hq] at q6
    refine x_iconst (v := nI 0) dX11_doSwap_9 rfl ?_
    exact x_iret rfl  rfl dX11_doSwap_10 ⟨_, rfl, Or.inr ⟨rfl, q6, S⟩⟩
theorem k_doDeed {v : Int64} (S : CS b X h0 h dk st un tp tr pi fl ln sb sj dr) : Zm g (d + 4) 0 0 mX11_doDeed [.ref 0, .ref b, .long v] h (rIp (fun r h' => (∃ Y, deed1 dk X v = some Y ∧ r = 1 ∧ CS b Y h0 h' dk st un tp tr pi fl ln sb sj dr) ∨ (deed1 dk X v = none ∧ r = 0 ∧ CS b X h0 h' dk st un tp tr pi fl ln sb sj dr))) := by
  obtain ⟨s0, t0, I⟩ := S.ci
  obtain ⟨rt, rn, rs, sw, rmv, rmk, moc, len, fre, fc, fr, vn, vs, qd, wst, wqu, wwe, wla, hx, hn, hd, hR, hv, hw, hs⟩ := I.o
  have hb := S.cell
  obtain ⟨d1, d2, d3, d4, d5, d6, -⟩ := I.dkB
  obtain ⟨d7, d8⟩ := S.ok
  have n0 : (10 ≤ v.toInt ∧ v.toInt < 20) ∨ (100 ≤ v.toInt ∧ v.toInt < 200) → ∃ k, k < 200 ∧ v = lN k := fun q => ⟨v.toInt.toNat, by omega, Int64.toInt_inj.mp (by rw [lN_toInt (by omega)]; omega)⟩
  have t10 : (10 : Int64).toInt = 10 := rfl
  have t20 : (20 : Int64).toInt = 20 := rfl
  have t100 : (100 : Int64).toInt = 100 := rfl
  have t200 : (200 : Int64).toInt = 200 := rfl
  show Zw g (d + 4) 0 0 mX11_doDeed 0 [some (.ref 0), some (.ref b), some (.long v), none] [] h _
  refine x_ll2 dX11_doDeed_0 ?_
  refine x_lconst (v := 0) dX11_doDeed_1 rfl ?_
  refine x_lcmp (rfl) dX11_doDeed_2 ?_
  refine x_if_ne (tgt := 40) dX11_doDeed_3 rfl (fun q3 => ?_) (fun q3 => ?_)
  · skip
    first | (simp only [cmp_lt, cmp_gt, cmp_eq, zN_cge, zN_cle, Decidable.not_not] at q3) | (simp (disch := omega) only [zN_le, zN_lt, zN_0, zN_1, nI_toInt, zN_eq, zN_eq0, b2_z, b2_nz, Decidable.not_not, Int.not_lt, Int.not_le, zK0, zK1, zK2, zK3, zK5, zK7, zK8, zK9, zK10, zK19, zK20, zK40, zK99, zK100, zK199] at q3) | skip
    refine x_ll2 dX11_doDeed_40 ?_
    refine x_ldc2 kcX11_242 dX11_doDeed_41 ?_
    refine x_lcmp (rfl) dX11_doDeed_44 ?_
    refine x_if_lt (tgt := 68) dX11_doDeed_45 rfl (fun q45 => ?_) (fun q45 => ?_)
    · skip
      first | (simp only [cmp_lt, cmp_gt, cmp_eq, zN_cge, zN_cle, Decidable.not_not] at q45) | (simp (disch := omega) only [zN_le, zN_lt, zN_0, zN_1, nI_toInt, zN_eq, zN_eq0, b2_z, b2_nz, Decidable.not_not, Int.not_lt, Int.not_le, zK0, zK1, zK2, zK3, zK5, zK7, zK8, zK9, zK10, zK19, zK20, zK40, zK99, zK100, zK199] at q45) | skip
      refine x_ll2 dX11_doDeed_68 ?_
      refine x_ldc2 kcX11_246 dX11_doDeed_69 ?_
      refine x_lcmp (rfl) dX11_doDeed_72 ?_
      refine x_if_lt (tgt := 105) dX11_doDeed_73 rfl (fun q73 => ?_) (fun q73 => ?_)
      · skip
        first | (simp only [cmp_lt, cmp_gt, cmp_eq, zN_cge, zN_cle, Decidable.not_not] at q73) | (simp (disch := omega) only [zN_le, zN_lt, zN_0, zN_1, nI_toInt, zN_eq, zN_eq0, b2_z, b2_nz, Decidable.not_not, Int.not_lt, Int.not_le, zK0, zK1, zK2, zK3, zK5, zK7, zK8, zK9, zK10, zK19, zK20, zK40, zK99, zK100, zK199] at q73) | skip
        refine x_iconst (v := nI 0) dX11_doDeed_105 rfl ?_
        exact x_iret rfl  rfl dX11_doDeed_106 ⟨_, rfl, Or.inr ⟨deed1_no q3 (fun z => by simp only [Int64.lt_iff_toInt_lt, Int64.le_iff_toInt_le, t10, t20, t100, t200] at *; omega) (fun z => by simp only [Int64.lt_iff_toInt_lt, Int64.le_iff_toInt_le, t10, t20, t100, t200] at *; omega), rfl, S⟩⟩
      · skip
        first | (simp only [cmp_lt, cmp_gt, cmp_eq, zN_cge, zN_cle, Decidable.not_not] at q73) | (simp (disch := omega) only [zN_le, zN_lt, zN_0, zN_1, nI_toInt, zN_eq, zN_eq0, b2_z, b2_nz, Decidable.not_not, Int.not_lt, Int.not_le, zK0, zK1, zK2, zK3, zK5, zK7, zK8, zK9, zK10, zK19, zK20, zK40, zK99, zK100, zK199] at q73) | skip
        refine x_ll2 dX11_doDeed_76 ?_
        refine x_ldc2 kcX11_248 dX11_doDeed_77 ?_
        refine x_lcmp (rfl) dX11_doDeed_80 ?_
        refine x_if_ge (tgt := 105) dX11_doDeed_81 rfl (fun q81 => ?_) (fun q81 => ?_)
        · skip
          first | (simp only [cmp_lt, cmp_gt, cmp_eq, zN_cge, zN_cle, Decidable.not_not] at q81) | (simp (disch := omega) only [zN_le, zN_lt, zN_0, zN_1, nI_toInt, zN_eq, zN_eq0, b2_z, b2_nz, Decidable.not_not, Int.not_lt, Int.not_le, zK0, zK1, zK2, zK3, zK5, zK7, zK8, zK9, zK10, zK19, zK20, zK40, zK99, zK100, zK199] at q81) | skip
          refine x_iconst (v := nI 0) dX11_doDeed_105 rfl ?_
          exact x_iret rfl  rfl dX11_doDeed_106 ⟨_, rfl, Or.inr ⟨deed1_no q3 (fun z => by simp only [Int64.lt_iff_toInt_lt, Int64.le_iff_toInt_le, t10, t20, t100, t200] at *; omega) (fun z => by simp only [Int64.lt_iff_toInt_lt, Int64.le_iff_toInt_le, t10, t20, t100, t200] at *; omega), rfl, S⟩⟩
        · skip
          first | (simp only [cmp_lt, cmp_gt, cmp_eq, zN_cge, zN_cle, Decidable.not_not] at q81) | (simp (disch := omega) only [zN_le, zN_lt, zN_0, zN_1, nI_toInt, zN_eq, zN_eq0, b2_z, b2_nz, Decidable.not_not, Int.not_lt, Int.not_le, zK0, zK1, zK2, zK3, zK5, zK7, zK8, zK9, zK10, zK19, zK20, zK40, zK99, zK100, zK199] at q81) | skip
          simp only [Int64.lt_iff_toInt_lt, Int64.le_iff_toInt_le, t10, t20, t100, t200] at q45 q73 q81
          refine x_al0 rfl dX11_doDeed_84 ?_
          obtain ⟨k, hk, rfl⟩ := n0 (Or.inr (by omega))
          rw [lN_toInt (by omega)] at q45 q73 q81
          refine x_al1 rfl dX11_doDeed_85 ?_
          refine x_ll2 dX11_doDeed_86 ?_
          refine x_ldc2 kcX11_246 dX11_doDeed_87 ?_
          refine x_lsub ((lN_sub (b := 100) (by omega))) dX11_doDeed_90 ?_
          refine x_l2i (lN_i _) dX11_doDeed_91 ?_
          refine x_bipush (v := nI 10) dX11_doDeed_92 rfl ?_
          refine x_idiv (by decide) (pk_div (by omega) (by decide) (by decide)) dX11_doDeed_94 ?_
          refine x_ll2 dX11_doDeed_95 ?_
          refine x_ldc2 kcX11_242 dX11_doDeed_96 ?_
          refine x_lrem (by decide) (pk_lRem (b := 10) (by omega) (by decide) (by decide)) dX11_doDeed_99 ?_
          refine x_l2i (lN_i _) dX11_doDeed_100 ?_
          refine x_cv3Ip mX11_doSwap_ok lkX11_250 rfl (Nat.le_of_ble_eq_true rfl) (Nat.le_of_ble_eq_true rfl) dX11_doDeed_101 hx  (k_doSwap S (by omega) (by omega)) (fun r h hq => ?_)
          refine x_iret rfl  (hq.elim (fun z => by rw [z.1]; rfl) (fun z => by rw [z.1]; rfl)) dX11_doDeed_104 ⟨_, rfl, ?_⟩
          rcases hq with ⟨rfl, c, S⟩ | ⟨rfl, c, S⟩
          · exact Or.inl ⟨_, by rw [deed1_k hk, show deedN dk X k = _ from (if_neg (by omega)).trans ((if_neg (by omega)).trans (if_pos ⟨by omega, c⟩))], rfl, S⟩
          · exact Or.inr ⟨by rw [deed1_k hk, show deedN dk X k = _ from (if_neg (by omega)).trans ((if_neg (by omega)).trans (if_neg (fun z => c z.2)))], rfl, S⟩
    · skip
      first | (simp only [cmp_lt, cmp_gt, cmp_eq, zN_cge, zN_cle, Decidable.not_not] at q45) | (simp (disch := omega) only [zN_le, zN_lt, zN_0, zN_1, nI_toInt, zN_eq, zN_eq0, b2_z, b2_nz, Decidable.not_not, Int.not_lt, Int.not_le, zK0, zK1, zK2, zK3, zK5, zK7, zK8, zK9, zK10, zK19, zK20, zK40, zK99, zK100, zK199] at q45) | skip
      refine x_ll2 dX11_doDeed_48 ?_
      refine x_ldc2 kcX11_244 dX11_doDeed_49 ?_
      refine x_lcmp (rfl) dX11_doDeed_52 ?_
      refine x_if_ge (tgt := 68) dX11_doDeed_53 rfl (fun q53 => ?_) (fun q53 => ?_)
      · skip
        first | (simp only [cmp_lt, cmp_gt, cmp_eq, zN_cge, zN_cle, Decidable.not_not] at q53) | (simp (disch := omega) only [zN_le, zN_lt, zN_0, zN_1, nI_toInt, zN_eq, zN_eq0, b2_z, b2_nz, Decidable.not_not, Int.not_lt, Int.not_le, zK0, zK1, zK2, zK3, zK5, zK7, zK8, zK9, zK10, zK19, zK20, zK40, zK99, zK100, zK199] at q53) | skip
        refine x_ll2 dX11_doDeed_68 ?_
        refine x_ldc2 kcX11_246 dX11_doDeed_69 ?_
        refine x_lcmp (rfl) dX11_doDeed_72 ?_
        refine x_if_lt (tgt := 105) dX11_doDeed_73 rfl (fun q73 => ?_) (fun q73 => ?_)
        · skip
          first | (simp only [cmp_lt, cmp_gt, cmp_eq, zN_cge, zN_cle, Decidable.not_not] at q73) | (simp (disch := omega) only [zN_le, zN_lt, zN_0, zN_1, nI_toInt, zN_eq, zN_eq0, b2_z, b2_nz, Decidable.not_not, Int.not_lt, Int.not_le, zK0, zK1, zK2, zK3, zK5, zK7, zK8, zK9, zK10, zK19, zK20, zK40, zK99, zK100, zK199] at q73) | skip
          refine x_iconst (v := nI 0) dX11_doDeed_105 rfl ?_
          exact x_iret rfl  rfl dX11_doDeed_106 ⟨_, rfl, Or.inr ⟨deed1_no q3 (fun z => by simp only [Int64.lt_iff_toInt_lt, Int64.le_iff_toInt_le, t10, t20, t100, t200] at *; omega) (fun z => by simp only [Int64.lt_iff_toInt_lt, Int64.le_iff_toInt_le, t10, t20, t100, t200] at *; omega), rfl, S⟩⟩
        · skip
          first | (simp only [cmp_lt, cmp_gt, cmp_eq, zN_cge, zN_cle, Decidable.not_not] at q73) | (simp (disch := omega) only [zN_le, zN_lt, zN_0, zN_1, nI_toInt, zN_eq, zN_eq0, b2_z, b2_nz, Decidable.not_not, Int.not_lt, Int.not_le, zK0, zK1, zK2, zK3, zK5, zK7, zK8, zK9, zK10, zK19, zK20, zK40, zK99, zK100, zK199] at q73) | skip
          refine x_ll2 dX11_doDeed_76 ?_
          refine x_ldc2 kcX11_248 dX11_doDeed_77 ?_
          refine x_lcmp (rfl) dX11_doDeed_80 ?_
          refine x_if_ge (tgt := 105) dX11_doDeed_81 rfl (fun q81 => ?_) (fun q81 => ?_)
          · skip
            first | (simp only [cmp_lt, cmp_gt, cmp_eq, zN_cge, zN_cle, Decidable.not_not] at q81) | (simp (disch := omega) only [zN_le, zN_lt, zN_0, zN_1, nI_toInt, zN_eq, zN_eq0, b2_z, b2_nz, Decidable.not_not, Int.not_lt, Int.not_le, zK0, zK1, zK2, zK3, zK5, zK7, zK8, zK9, zK10, zK19, zK20, zK40, zK99, zK100, zK199] at q81) | skip
            refine x_iconst (v := nI 0) dX11_doDeed_105 rfl ?_
            exact x_iret rfl  rfl dX11_doDeed_106 ⟨_, rfl, Or.inr ⟨deed1_no q3 (fun z => by simp only [Int64.lt_iff_toInt_lt, Int64.le_iff_toInt_le, t10, t20, t100, t200] at *; omega) (fun z => by simp only [Int64.lt_iff_toInt_lt, Int64.le_iff_toInt_le, t10, t20, t100, t200] at *; omega), rfl, S⟩⟩
          · skip
            first | (simp only [cmp_lt, cmp_gt, cmp_eq, zN_cge, zN_cle, Decidable.not_not] at q81) | (simp (disch := omega) only [zN_le, zN_lt, zN_0, zN_1, nI_toInt, zN_eq, zN_eq0, b2_z, b2_nz, Decidable.not_not, Int.not_lt, Int.not_le, zK0, zK1, zK2, zK3, zK5, zK7, zK8, zK9, zK10, zK19, zK20, zK40, zK99, zK100, zK199] at q81) | skip
            simp only [Int64.lt_iff_toInt_lt, Int64.le_iff_toInt_le, t10, t20, t100, t200] at q45 q53 q73 q81
            refine x_al0 rfl dX11_doDeed_84 ?_
            obtain ⟨k, hk, rfl⟩ := n0 (Or.inr (by omega))
            rw [lN_toInt (by omega)] at q45 q53 q73 q81
            refine x_al1 rfl dX11_doDeed_85 ?_
            refine x_ll2 dX11_doDeed_86 ?_
            refine x_ldc2 kcX11_246 dX11_doDeed_87 ?_
            refine x_lsub ((lN_sub (b := 100) (by omega))) dX11_doDeed_90 ?_
            refine x_l2i (lN_i _) dX11_doDeed_91 ?_
            refine x_bipush (v := nI 10) dX11_doDeed_92 rfl ?_
            refine x_idiv (by decide) (pk_div (by omega) (by decide) (by decide)) dX11_doDeed_94 ?_
            refine x_ll2 dX11_doDeed_95 ?_
            refine x_ldc2 kcX11_242 dX11_doDeed_96 ?_
            refine x_lrem (by decide) (pk_lRem (b := 10) (by omega) (by decide) (by decide)) dX11_doDeed_99 ?_
            refine x_l2i (lN_i _) dX11_doDeed_100 ?_
            refine x_cv3Ip mX11_doSwap_ok lkX11_250 rfl (Nat.le_of_ble_eq_true rfl) (Nat.le_of_ble_eq_true rfl) dX11_doDeed_101 hx  (k_doSwap S (by omega) (by omega)) (fun r h hq => ?_)
            refine x_iret rfl  (hq.elim (fun z => by rw [z.1]; rfl) (fun z => by rw [z.1]; rfl)) dX11_doDeed_104 ⟨_, rfl, ?_⟩
            rcases hq with ⟨rfl, c, S⟩ | ⟨rfl, c, S⟩
            · exact Or.inl ⟨_, by rw [deed1_k hk, show deedN dk X k = _ from (if_neg (by omega)).trans ((if_neg (by omega)).trans (if_pos ⟨by omega, c⟩))], rfl, S⟩
            · exact Or.inr ⟨by rw [deed1_k hk, show deedN dk X k = _ from (if_neg (by omega)).trans ((if_neg (by omega)).trans (if_neg (fun z => c z.2)))], rfl, S⟩
      · skip
        first | (simp only [cmp_lt, cmp_gt, cmp_eq, zN_cge, zN_cle, Decidable.not_not] at q53) | (simp (disch := omega) only [zN_le, zN_lt, zN_0, zN_1, nI_toInt, zN_eq, zN_eq0, b2_z, b2_nz, Decidable.not_not, Int.not_lt, Int.not_le, zK0, zK1, zK2, zK3, zK5, zK7, zK8, zK9, zK10, zK19, zK20, zK40, zK99, zK100, zK199] at q53) | skip
        simp only [Int64.lt_iff_toInt_lt, Int64.le_iff_toInt_le, t10, t20] at q45 q53
        obtain ⟨k, hk, rfl⟩ := n0 (Or.inl (by omega))
        rw [lN_toInt (by omega)] at q45 q53
        refine x_al1 rfl dX11_doDeed_56 ?_
        refine x_ll2 dX11_doDeed_57 ?_
        refine x_ldc2 kcX11_242 dX11_doDeed_58 ?_
        refine x_lsub ((lN_sub (b := 10) (by omega))) dX11_doDeed_61 ?_
        refine x_l2i (lN_i _) dX11_doDeed_62 ?_
        refine x_put fdX11_134 hb zf_i (by simp) dX11_doDeed_63 ?_
        refine x_iconst (v := nI 1) dX11_doDeed_66 rfl ?_
        exact x_iret rfl  rfl dX11_doDeed_67 ⟨_, rfl, Or.inl ⟨_, by rw [deed1_k hk, show deedN dk X k = _ from (if_neg (by omega)).trans (if_pos (by omega))], rfl, S.set (Y := (X.1, k - 10, X.2.2)) ⟨d7, by simp only; omega⟩⟩⟩
  · skip
    first | (simp only [cmp_lt, cmp_gt, cmp_eq, zN_cge, zN_cle, Decidable.not_not] at q3) | (simp (disch := omega) only [zN_le, zN_lt, zN_0, zN_1, nI_toInt, zN_eq, zN_eq0, b2_z, b2_nz, Decidable.not_not, Int.not_lt, Int.not_le, zK0, zK1, zK2, zK3, zK5, zK7, zK8, zK9, zK10, zK19, zK20, zK40, zK99, zK100, zK199] at q3) | skip
    refine x_al1 rfl dX11_doDeed_6 ?_
    obtain ⟨rn, rs, sw, T⟩ := I.rT
    refine x_al0 rfl dX11_doDeed_7 ?_
    refine x_get fdX11_62 hx rfl dX11_doDeed_8 ?_
    refine x_al1 rfl dX11_doDeed_11 ?_
    refine x_get fdX11_128 hb rfl dX11_doDeed_12 ?_
    refine x_al0 rfl dX11_doDeed_15 ?_
    refine x_get fdX11_106 hx rfl dX11_doDeed_16 ?_
    refine x_get fdX11_161 hd rfl dX11_doDeed_19 ?_
    refine x_cv2Ip mX5_movedRow_ok lkX11_214 rfl (Nat.le_of_ble_eq_true rfl) (Nat.le_of_ble_eq_true rfl) dX11_doDeed_22 hR  (c_X5_movedRow (p := ngP dk.1 dk.2.2.1 X.1) T (by assumption) (by assumption) (fun i hi => ngP_at d2 d5 hi)) (fun r h hq => ?_)
    obtain ⟨rfl, z⟩ := hq
    replace S := S.md z
    have hb := S.cell
    refine x_put fdX11_128 hb zf_i (by simp) dX11_doDeed_25 ?_
    have n1 := (ngt_row d1 d2 d5 d7).1
    replace S := S.set (Y := (ngt dk.1 dk.2.2.1 X.1, X.2.1, X.2.2)) ⟨n1, d8⟩
    have hb := S.cell
    refine x_al1 rfl dX11_doDeed_28 ?_
    refine x_dup rfl dX11_doDeed_29 ?_
    refine x_get fdX11_137 hb rfl dX11_doDeed_30 ?_
    refine x_iconst (v := nI 1) dX11_doDeed_33 rfl ?_
    first | refine x_iadd (nI_add _ _) dX11_doDeed_34 ?_ | refine x_iadd rfl dX11_doDeed_34 ?_
    refine x_put fdX11_137 hb zf_i (by simp) dX11_doDeed_35 ?_
    replace S := S.set (Y := (ngt dk.1 dk.2.2.1 X.1, X.2.1, X.2.2 + 1)) ⟨n1, d8⟩
    refine x_iconst (v := nI 1) dX11_doDeed_38 rfl ?_
    exact x_iret rfl  rfl dX11_doDeed_39 ⟨_, rfl, Or.inl ⟨_, by rw [q3]; rfl, rfl, S⟩⟩
end ZCF

