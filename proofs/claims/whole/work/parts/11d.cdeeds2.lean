/-! the class's swap, nights, clue, undo -/
section ZCE
variable {g : zG} {d : Nat} {h0 h h' : zH} {dk : zDk} {st : zSt} {un : List zSt} {tp : List Nat} {tr : Nat → zTr} {pi : Nat → zPi} {fl : Nat × Nat} {ln : zLn} {sb sj : zS3} {dr : Int32}
theorem k_swap {x y : Int32} (I : CI h0 h dk st un tp tr pi fl ln sb sj dr) : Zm g (d + 7) 0 0 mX11_swap [.ref 0, .int x, .int y] h (rIp (fun r h' => r = (D_swap dk st un x y).1 ∧ CI h0 h' dk (D_swap dk st un x y).2.1 (D_swap dk st un x y).2.2 tp tr pi fl ln sb sj dr)) := by
  obtain ⟨rt, rn, rs, sw, rmv, rmk, moc, len, fre, fc, fr, vn, vs, qd, wst, wqu, wwe, wla, hx, hn, hd, hR, hv, hw, hs⟩ := I.o
  obtain ⟨d1, d2, d3, d4, d5, d6, d7, d8⟩ := I.dkB
  show Zw g (d + 7) 0 0 mX11_swap 0 [some (.ref 0), some (.int x), some (.int y)] [] h _
  refine x_al0 rfl dX11_swap_0 ?_
  refine x_il1 dX11_swap_1 ?_
  refine x_il2 dX11_swap_2 ?_
  refine x_cv2I mX11_canSwap_ok lkX11_191 rfl (Nat.le_of_ble_eq_true rfl) (Nat.le_of_ble_eq_true rfl) dX11_swap_3 hx  (k_canSwap I) ?_
  refine x_if_ne (tgt := 12) dX11_swap_6 rfl (fun q6 => ?_) (fun q6 => ?_)
  · skip
    first | (simp only [cmp_lt, cmp_gt, cmp_eq, zN_cge, zN_cle, Decidable.not_not] at q6) | (simp (disch := omega) only [zN_le, zN_lt, zN_0, zN_1, nI_toInt, zN_eq, zN_eq0, b2_z, b2_nz, Decidable.not_not, Int.not_lt, Int.not_le, zK0, zK1, zK2, zK3, zK5, zK7, zK8, zK9, zK10, zK19, zK20, zK40, zK99, zK100, zK199] at q6) | skip
    unfold D_swap
    rw [if_pos q6]
    obtain ⟨a, ha, rfl⟩ := oneOf_ex q6.1
    obtain ⟨b, hb, rfl⟩ := oneOf_ex q6.2.1
    rw [show tn (nI a) = a from nI_clamp (by omega), show tn (nI b) = b from nI_clamp (by omega)]
    refine x_al0 rfl dX11_swap_12 ?_
    refine x_al0 rfl dX11_swap_13 ?_
    refine x_get fdX11_27 hx rfl dX11_swap_14 ?_
    refine x_cv1Vp mX11_keepForUndoing_ok lkX11_194 rfl (Nat.le_of_ble_eq_true rfl) (Nat.le_of_ble_eq_true rfl) dX11_swap_17 hx  (k_keep I (Or.inl ⟨rfl, rfl⟩) ⟨d7, d8⟩) (fun h hq => ?_)
    have I := hq
    obtain ⟨rt, rn, rs, sw, rmv, rmk, moc, len, fre, fc, fr, vn, vs, qd, wst, wqu, wwe, wla, hx, hn, hd, hR, hv, hw, hs⟩ := I.o
    refine x_al0 rfl dX11_swap_20 ?_
    refine x_get fdX11_27 hx rfl dX11_swap_21 ?_
    refine x_al0 rfl dX11_swap_24 ?_
    refine x_get fdX11_62 hx rfl dX11_swap_25 ?_
    refine x_al0 rfl dX11_swap_28 ?_
    refine x_get fdX11_27 hx rfl dX11_swap_29 ?_
    refine x_get fdX11_128 hn rfl dX11_swap_32 ?_
    refine x_il1 dX11_swap_35 ?_
    refine x_il2 dX11_swap_36 ?_
    refine x_cv3Ip mX5_swappedRow_ok lkX11_198 rfl (Nat.le_of_ble_eq_true rfl) (Nat.le_of_ble_eq_true rfl) dX11_swap_37 hR  (k_swappedRow I (by first | assumption | omega) (by first | assumption | omega) (by first | assumption | omega)) (fun r h hq => ?_)
    obtain ⟨rfl, I⟩ := hq
    obtain ⟨rt, rn, rs, sw, rmv, rmk, moc, len, fre, fc, fr, vn, vs, qd, wst, wqu, wwe, wla, hx, hn, hd, hR, hv, hw, hs⟩ := I.o
    refine x_put fdX11_128 hn zf_i (by simp) dX11_swap_40 ?_
    replace I := I.s9 (st' := swS dk st a b) ⟨(sw1_row d1 d2 d7 ha hb).1, d8⟩
    obtain ⟨rt, rn, rs, sw, rmv, rmk, moc, len, fre, fc, fr, vn, vs, qd, wst, wqu, wwe, wla, hx, hn, hd, hR, hv, hw, hs⟩ := I.o
    refine x_al0 rfl dX11_swap_43 ?_
    refine x_cv0Ip mX11_howManyFree_ok lkX11_202 rfl (Nat.le_of_ble_eq_true rfl) (Nat.le_of_ble_eq_true rfl) dX11_swap_44 hx  (k_howManyFree I) (fun r h hq => ?_)
    obtain ⟨rfl, I⟩ := hq
    obtain ⟨rt, rn, rs, sw, rmv, rmk, moc, len, fre, fc, fr, vn, vs, qd, wst, wqu, wwe, wla, hx, hn, hd, hR, hv, hw, hs⟩ := I.o
    exact x_iret rfl rfl dX11_swap_47 ⟨_, rfl, rfl, I⟩
  · skip
    first | (simp only [cmp_lt, cmp_gt, cmp_eq, zN_cge, zN_cle, Decidable.not_not] at q6) | (simp (disch := omega) only [zN_le, zN_lt, zN_0, zN_1, nI_toInt, zN_eq, zN_eq0, b2_z, b2_nz, Decidable.not_not, Int.not_lt, Int.not_le, zK0, zK1, zK2, zK3, zK5, zK7, zK8, zK9, zK10, zK19, zK20, zK40, zK99, zK100, zK199] at q6) | skip
    refine x_bipush (v := (-11)) dX11_swap_9 rfl ?_
    exact x_iret rfl rfl dX11_swap_11 ⟨_, rfl, by rw [D_swap, if_neg q6], by rw [D_swap, if_neg q6]; exact I⟩
theorem k_rowBehind {K : Nat} (I : CI h0 h dk st un tp tr pi fl ln sb sj dr) (hK : K < 2 ^ 63) : Zm g (d + 3) 0 0 mX11_rowBehind [.ref 0, .long (lN K)] h (rIp (fun r h' => r = nI (ngk dk.1 dk.2.2.1 K st.1) ∧ CI h0 h' dk st un tp tr pi fl ln sb sj dr)) := by
  obtain ⟨rt, rn, rs, sw, rmv, rmk, moc, len, fre, fc, fr, vn, vs, qd, wst, wqu, wwe, wla, hx, hn, hd, hR, hv, hw, hs⟩ := I.o
  obtain ⟨d1, d2, d3, d4, d5, d6, d7, d8⟩ := I.dkB
  show Zw g (d + 3) 0 0 mX11_rowBehind 0 [some (.ref 0), some (.long (lN K)), none] [] h _
  refine x_al0 rfl dX11_rowBehind_0 ?_
  refine x_get fdX11_62 hx rfl dX11_rowBehind_1 ?_
  refine x_al0 rfl dX11_rowBehind_4 ?_
  refine x_get fdX11_27 hx rfl dX11_rowBehind_5 ?_
  refine x_get fdX11_128 hn rfl dX11_rowBehind_8 ?_
  refine x_al0 rfl dX11_rowBehind_11 ?_
  refine x_get fdX11_62 hx rfl dX11_rowBehind_12 ?_
  refine x_al0 rfl dX11_rowBehind_15 ?_
  refine x_get fdX11_106 hx rfl dX11_rowBehind_16 ?_
  refine x_get fdX11_161 hd rfl dX11_rowBehind_19 ?_
  refine x_ll1 dX11_rowBehind_22 ?_
  refine x_cv2Ip mX5_powerOf_ok lkX11_210 rfl (Nat.le_of_ble_eq_true rfl) (Nat.le_of_ble_eq_true rfl) dX11_rowBehind_23 hR  (k_powerOf I (by first | assumption | omega) (by first | assumption | omega)) (fun r h hq => ?_)
  obtain ⟨rfl, I⟩ := hq
  obtain ⟨rt, rn, rs, sw, rmv, rmk, moc, len, fre, fc, fr, vn, vs, qd, wst, wqu, wwe, wla, hx, hn, hd, hR, hv, hw, hs⟩ := I.o
  have pl := (pow_row (K := K) d1 d2 d5).1
  refine x_cv2Ip mX5_movedRow_ok lkX11_214 rfl (Nat.le_of_ble_eq_true rfl) (Nat.le_of_ble_eq_true rfl) dX11_rowBehind_26 hR  (k_movedRow I (by first | assumption | omega) (by first | assumption | omega)) (fun r h hq => ?_)
  obtain ⟨rfl, I⟩ := hq
  obtain ⟨rt, rn, rs, sw, rmv, rmk, moc, len, fre, fc, fr, vn, vs, qd, wst, wqu, wwe, wla, hx, hn, hd, hR, hv, hw, hs⟩ := I.o
  exact x_iret rfl rfl dX11_rowBehind_29 ⟨_, rfl, by rw [ng_pow d1 d2 d5 d7], I⟩
theorem k_nights {x : Int32} (I : CI h0 h dk st un tp tr pi fl ln sb sj dr) : Zm g (d + 7) 0 0 mX11_nights [.ref 0, .int x] h (rIp (fun r h' => r = (D_nights dk st un x).1 ∧ CI h0 h' dk (D_nights dk st un x).2.1 (D_nights dk st un x).2.2 tp tr pi fl ln sb sj dr)) := by
  obtain ⟨rt, rn, rs, sw, rmv, rmk, moc, len, fre, fc, fr, vn, vs, qd, wst, wqu, wwe, wla, hx, hn, hd, hR, hv, hw, hs⟩ := I.o
  obtain ⟨d1, d2, d3, d4, d5, d6, d7, d8⟩ := I.dkB
  show Zw g (d + 7) 0 0 mX11_nights 0 [some (.ref 0), some (.int x)] [] h _
  refine x_il1 dX11_nights_0 ?_
  refine x_iconst (v := nI 1) dX11_nights_1 rfl ?_
  refine x_icmp_lt (tgt := 11) dX11_nights_2 rfl (fun q2 => ?_) (fun q2 => ?_)
  · skip
    first | (simp only [cmp_lt, cmp_gt, cmp_eq, zN_cge, zN_cle, Decidable.not_not] at q2) | (simp (disch := omega) only [zN_le, zN_lt, zN_0, zN_1, nI_toInt, zN_eq, zN_eq0, b2_z, b2_nz, Decidable.not_not, Int.not_lt, Int.not_le, zK0, zK1, zK2, zK3, zK5, zK7, zK8, zK9, zK10, zK19, zK20, zK40, zK99, zK100, zK199] at q2) | skip
    refine x_bipush (v := (-3)) dX11_nights_11 rfl ?_
    exact x_iret rfl rfl dX11_nights_13 ⟨_, rfl, by rw [D_nights, if_neg (by omega)], by rw [D_nights, if_neg (by omega)]; exact I⟩
  · skip
    first | (simp only [cmp_lt, cmp_gt, cmp_eq, zN_cge, zN_cle, Decidable.not_not] at q2) | (simp (disch := omega) only [zN_le, zN_lt, zN_0, zN_1, nI_toInt, zN_eq, zN_eq0, b2_z, b2_nz, Decidable.not_not, Int.not_lt, Int.not_le, zK0, zK1, zK2, zK3, zK5, zK7, zK8, zK9, zK10, zK19, zK20, zK40, zK99, zK100, zK199] at q2) | skip
    refine x_il1 dX11_nights_5 ?_
    refine x_bipush (v := nI 99) dX11_nights_6 rfl ?_
    refine x_icmp_le (tgt := 14) dX11_nights_8 rfl (fun q8 => ?_) (fun q8 => ?_)
    · skip
      first | (simp only [cmp_lt, cmp_gt, cmp_eq, zN_cge, zN_cle, Decidable.not_not] at q8) | (simp (disch := omega) only [zN_le, zN_lt, zN_0, zN_1, nI_toInt, zN_eq, zN_eq0, b2_z, b2_nz, Decidable.not_not, Int.not_lt, Int.not_le, zK0, zK1, zK2, zK3, zK5, zK7, zK8, zK9, zK10, zK19, zK20, zK40, zK99, zK100, zK199] at q8) | skip
      unfold D_nights
      have q14 : 1 ≤ x.toInt ∧ x.toInt ≤ 99 := by omega
      rw [if_pos q14]
      obtain ⟨k, hk1, hk2, rfl⟩ := rng_ex (a := 1) (b := 99) q14 (by decide)
      rw [show tn (nI k) = k from nI_clamp (by omega)]
      refine x_al0 rfl dX11_nights_14 ?_
      refine x_al0 rfl dX11_nights_15 ?_
      refine x_get fdX11_27 hx rfl dX11_nights_16 ?_
      refine x_cv1Vp mX11_keepForUndoing_ok lkX11_194 rfl (Nat.le_of_ble_eq_true rfl) (Nat.le_of_ble_eq_true rfl) dX11_nights_19 hx  (k_keep I (Or.inl ⟨rfl, rfl⟩) ⟨d7, d8⟩) (fun h hq => ?_)
      have I := hq
      obtain ⟨rt, rn, rs, sw, rmv, rmk, moc, len, fre, fc, fr, vn, vs, qd, wst, wqu, wwe, wla, hx, hn, hd, hR, hv, hw, hs⟩ := I.o
      refine x_al0 rfl dX11_nights_22 ?_
      refine x_get fdX11_27 hx rfl dX11_nights_23 ?_
      refine x_al0 rfl dX11_nights_26 ?_
      refine x_il1 dX11_nights_27 ?_
      refine x_i2l (nI_l (by omega)) dX11_nights_28 ?_
      refine x_cv1Ip mX11_rowBehind_ok lkX11_206 rfl (Nat.le_of_ble_eq_true rfl) (Nat.le_of_ble_eq_true rfl) dX11_nights_29 hx  (k_rowBehind I (by first | assumption | omega)) (fun r h hq => ?_)
      obtain ⟨rfl, I⟩ := hq
      obtain ⟨rt, rn, rs, sw, rmv, rmk, moc, len, fre, fc, fr, vn, vs, qd, wst, wqu, wwe, wla, hx, hn, hd, hR, hv, hw, hs⟩ := I.o
      refine x_put fdX11_128 hn zf_i (by simp) dX11_nights_32 ?_
      have kr := (ngk_row d1 d2 d5 k st.1 d7).1
      replace I := I.s9 (st' := (ngk dk.1 dk.2.2.1 k st.1, st.2.1, st.2.2)) ⟨kr, d8⟩
      obtain ⟨rt, rn, rs, sw, rmv, rmk, moc, len, fre, fc, fr, vn, vs, qd, wst, wqu, wwe, wla, hx, hn, hd, hR, hv, hw, hs⟩ := I.o
      refine x_al0 rfl dX11_nights_35 ?_
      refine x_get fdX11_27 hx rfl dX11_nights_36 ?_
      refine x_dup rfl dX11_nights_39 ?_
      refine x_get fdX11_137 hn rfl dX11_nights_40 ?_
      refine x_il1 dX11_nights_43 ?_
      refine x_iadd (rfl) dX11_nights_44 ?_
      refine x_put fdX11_137 hn zf_i (by simp) dX11_nights_45 ?_
      replace I := I.s9 (st' := (ngk dk.1 dk.2.2.1 k st.1, st.2.1, st.2.2 + nI k)) ⟨kr, d8⟩
      obtain ⟨rt, rn, rs, sw, rmv, rmk, moc, len, fre, fc, fr, vn, vs, qd, wst, wqu, wwe, wla, hx, hn, hd, hR, hv, hw, hs⟩ := I.o
      refine x_al0 rfl dX11_nights_48 ?_
      refine x_cv0Ip mX11_howManyFree_ok lkX11_202 rfl (Nat.le_of_ble_eq_true rfl) (Nat.le_of_ble_eq_true rfl) dX11_nights_49 hx  (k_howManyFree I) (fun r h hq => ?_)
      obtain ⟨rfl, I⟩ := hq
      obtain ⟨rt, rn, rs, sw, rmv, rmk, moc, len, fre, fc, fr, vn, vs, qd, wst, wqu, wwe, wla, hx, hn, hd, hR, hv, hw, hs⟩ := I.o
      exact x_iret rfl rfl dX11_nights_52 ⟨_, rfl, rfl, I⟩
    · skip
      first | (simp only [cmp_lt, cmp_gt, cmp_eq, zN_cge, zN_cle, Decidable.not_not] at q8) | (simp (disch := omega) only [zN_le, zN_lt, zN_0, zN_1, nI_toInt, zN_eq, zN_eq0, b2_z, b2_nz, Decidable.not_not, Int.not_lt, Int.not_le, zK0, zK1, zK2, zK3, zK5, zK7, zK8, zK9, zK10, zK19, zK20, zK40, zK99, zK100, zK199] at q8) | skip
      refine x_bipush (v := (-3)) dX11_nights_11 rfl ?_
      exact x_iret rfl rfl dX11_nights_13 ⟨_, rfl, by rw [D_nights, if_neg (by omega)], by rw [D_nights, if_neg (by omega)]; exact I⟩
theorem k_clue {x : Int32} (I : CI h0 h dk st un tp tr pi fl ln sb sj dr) : Zm g (d + 7) 0 0 mX11_clue [.ref 0, .int x] h (rIp (fun r h' => r = (D_clue st un x).1 ∧ CI h0 h' dk (D_clue st un x).2.1 (D_clue st un x).2.2 tp tr pi fl ln sb sj dr)) := by
  obtain ⟨rt, rn, rs, sw, rmv, rmk, moc, len, fre, fc, fr, vn, vs, qd, wst, wqu, wwe, wla, hx, hn, hd, hR, hv, hw, hs⟩ := I.o
  obtain ⟨d1, d2, d3, d4, d5, d6, d7, d8⟩ := I.dkB
  show Zw g (d + 7) 0 0 mX11_clue 0 [some (.ref 0), some (.int x), none] [] h _
  refine x_il1 dX11_clue_0 ?_
  refine x_bipush (v := nI 10) dX11_clue_1 rfl ?_
  refine x_cs2I mX11_isOneOf_ok lkX11_157 (Nat.le_of_ble_eq_true rfl) (Nat.le_of_ble_eq_true rfl) dX11_clue_3 (c_isOneOf (by decide)) ?_
  refine x_if_ne (tgt := 12) dX11_clue_6 rfl (fun q6 => ?_) (fun q6 => ?_)
  · skip
    first | (simp only [cmp_lt, cmp_gt, cmp_eq, zN_cge, zN_cle, Decidable.not_not] at q6) | (simp (disch := omega) only [zN_le, zN_lt, zN_0, zN_1, nI_toInt, zN_eq, zN_eq0, b2_z, b2_nz, Decidable.not_not, Int.not_lt, Int.not_le, zK0, zK1, zK2, zK3, zK5, zK7, zK8, zK9, zK10, zK19, zK20, zK40, zK99, zK100, zK199] at q6) | skip
    unfold D_clue
    rw [if_pos q6]
    obtain ⟨k, hk, rfl⟩ := oneOf_ex q6
    rw [show tn (nI k) = k from nI_clamp (by omega)]
    refine x_al0 rfl dX11_clue_12 ?_
    refine x_al0 rfl dX11_clue_13 ?_
    refine x_get fdX11_27 hx rfl dX11_clue_14 ?_
    refine x_cv1Vp mX11_keepForUndoing_ok lkX11_194 rfl (Nat.le_of_ble_eq_true rfl) (Nat.le_of_ble_eq_true rfl) dX11_clue_17 hx  (k_keep I (Or.inl ⟨rfl, rfl⟩) ⟨d7, d8⟩) (fun h hq => ?_)
    have I := hq
    obtain ⟨rt, rn, rs, sw, rmv, rmk, moc, len, fre, fc, fr, vn, vs, qd, wst, wqu, wwe, wla, hx, hn, hd, hR, hv, hw, hs⟩ := I.o
    refine x_al0 rfl dX11_clue_20 ?_
    refine x_get fdX11_27 hx rfl dX11_clue_21 ?_
    refine x_get fdX11_134 hn rfl dX11_clue_24 ?_
    refine x_is2 rfl dX11_clue_27 ?_
    refine x_al0 rfl dX11_clue_28 ?_
    refine x_get fdX11_27 hx rfl dX11_clue_29 ?_
    refine x_il1 dX11_clue_32 ?_
    refine x_put fdX11_134 hn zf_i (by simp) dX11_clue_33 ?_
    replace I := I.s9 (st' := (st.1, k, st.2.2)) ⟨d7, hk⟩
    refine x_il2 dX11_clue_36 ?_
    exact x_iret rfl rfl dX11_clue_37 ⟨_, rfl, rfl, I⟩
  · skip
    first | (simp only [cmp_lt, cmp_gt, cmp_eq, zN_cge, zN_cle, Decidable.not_not] at q6) | (simp (disch := omega) only [zN_le, zN_lt, zN_0, zN_1, nI_toInt, zN_eq, zN_eq0, b2_z, b2_nz, Decidable.not_not, Int.not_lt, Int.not_le, zK0, zK1, zK2, zK3, zK5, zK7, zK8, zK9, zK10, zK19, zK20, zK40, zK99, zK100, zK199] at q6) | skip
    refine x_bipush (v := (-11)) dX11_clue_9 rfl ?_
    exact x_iret rfl rfl dX11_clue_11 ⟨_, rfl, by rw [D_clue, if_neg q6], by rw [D_clue, if_neg q6]; exact I⟩
theorem CI.ul (I : CI h0 h dk st un tp tr pi fl ln sb sj dr) : un.length ≤ 10 := by
  obtain ⟨Z, rt, ds, C, W, J⟩ := I
  exact J.2.2.2.2.2.1.1
theorem k_undo {x : Int32} (I : CI h0 h dk st un tp tr pi fl ln sb sj dr) : Zm g (d + 7) 0 0 mX11_undo [.ref 0, .int x] h (rIp (fun r h' => r = (D_undo st un x).1 ∧ CI h0 h' dk (D_undo st un x).2.1 (D_undo st un x).2.2 tp tr pi fl ln sb sj dr)) := by
  obtain ⟨rt, rn, rs, sw, rmv, rmk, moc, len, fre, fc, fr, vn, vs, qd, wst, wqu, wwe, wla, hx, hn, hd, hR, hv, hw, hs⟩ := I.o
  obtain ⟨d1, d2, d3, d4, d5, d6, d7, d8⟩ := I.dkB
  have ul := I.ul
  have bad : ¬ (1 ≤ x.toInt ∧ x.toInt ≤ 10 ∧ x.toInt ≤ (un.length : Int)) → D_undo st un x = (-3, st, un) := fun q => if_neg q
  show Zw g (d + 7) 0 0 mX11_undo 0 [some (.ref 0), some (.int x)] [] h _
  refine x_il1 dX11_undo_0 ?_
  refine x_iconst (v := nI 1) dX11_undo_1 rfl ?_
  refine x_icmp_lt (tgt := 19) dX11_undo_2 rfl (fun q2 => ?_) (fun q2 => ?_)
  · skip
    first | (simp only [cmp_lt, cmp_gt, cmp_eq, zN_cge, zN_cle, Decidable.not_not] at q2) | (simp (disch := omega) only [zN_le, zN_lt, zN_0, zN_1, nI_toInt, zN_eq, zN_eq0, b2_z, b2_nz, Decidable.not_not, Int.not_lt, Int.not_le, zK0, zK1, zK2, zK3, zK5, zK7, zK8, zK9, zK10, zK19, zK20, zK40, zK99, zK100, zK199] at q2) | skip
    refine x_bipush (v := (-3)) dX11_undo_19 rfl ?_
    exact x_iret rfl rfl dX11_undo_21 ⟨_, rfl, by rw [bad (by omega)], by rw [bad (by omega)]; exact I⟩
  · skip
    first | (simp only [cmp_lt, cmp_gt, cmp_eq, zN_cge, zN_cle, Decidable.not_not] at q2) | (simp (disch := omega) only [zN_le, zN_lt, zN_0, zN_1, nI_toInt, zN_eq, zN_eq0, b2_z, b2_nz, Decidable.not_not, Int.not_lt, Int.not_le, zK0, zK1, zK2, zK3, zK5, zK7, zK8, zK9, zK10, zK19, zK20, zK40, zK99, zK100, zK199] at q2) | skip
    refine x_il1 dX11_undo_5 ?_
    refine x_bipush (v := nI 10) dX11_undo_6 rfl ?_
    refine x_icmp_gt (tgt := 19) dX11_undo_8 rfl (fun q8 => ?_) (fun q8 => ?_)
    · skip
      first | (simp only [cmp_lt, cmp_gt, cmp_eq, zN_cge, zN_cle, Decidable.not_not] at q8) | (simp (disch := omega) only [zN_le, zN_lt, zN_0, zN_1, nI_toInt, zN_eq, zN_eq0, b2_z, b2_nz, Decidable.not_not, Int.not_lt, Int.not_le, zK0, zK1, zK2, zK3, zK5, zK7, zK8, zK9, zK10, zK19, zK20, zK40, zK99, zK100, zK199] at q8) | skip
      refine x_bipush (v := (-3)) dX11_undo_19 rfl ?_
      exact x_iret rfl rfl dX11_undo_21 ⟨_, rfl, by rw [bad (by omega)], by rw [bad (by omega)]; exact I⟩
    · skip
      first | (simp only [cmp_lt, cmp_gt, cmp_eq, zN_cge, zN_cle, Decidable.not_not] at q8) | (simp (disch := omega) only [zN_le, zN_lt, zN_0, zN_1, nI_toInt, zN_eq, zN_eq0, b2_z, b2_nz, Decidable.not_not, Int.not_lt, Int.not_le, zK0, zK1, zK2, zK3, zK5, zK7, zK8, zK9, zK10, zK19, zK20, zK40, zK99, zK100, zK199] at q8) | skip
      refine x_il1 dX11_undo_11 ?_
      refine x_al0 rfl dX11_undo_12 ?_
      refine x_get fdX11_41 hx rfl dX11_undo_13 ?_
      refine x_icmp_le (tgt := 22) dX11_undo_16 rfl (fun q16 => ?_) (fun q16 => ?_)
      · skip
        first | (simp only [cmp_lt, cmp_gt, cmp_eq, zN_cge, zN_cle, Decidable.not_not] at q16) | (simp (disch := omega) only [zN_le, zN_lt, zN_0, zN_1, nI_toInt, zN_eq, zN_eq0, b2_z, b2_nz, Decidable.not_not, Int.not_lt, Int.not_le, zK0, zK1, zK2, zK3, zK5, zK7, zK8, zK9, zK10, zK19, zK20, zK40, zK99, zK100, zK199] at q16) | skip
        have q0 : 1 ≤ x.toInt ∧ x.toInt ≤ 10 ∧ x.toInt ≤ (un.length : Int) := by omega
        unfold D_undo
        rw [if_pos q0]
        obtain ⟨k, hk1, hk2, rfl⟩ := rng_ex (a := 1) (b := 10) ⟨q0.1, q0.2.1⟩ (by decide)
        rw [nI_toInt (by omega)] at q0
        rw [show tn (nI k) = k from nI_clamp (by omega)]
        obtain ⟨Z, rt0, ds, C, W, J⟩ := I
        obtain ⟨-, off, u, h12, hu, hs12, hv12⟩ := id J.2.2.2.2.2.1
        have hx : h[0]? = _ := C.get J.1
        refine x_al0 rfl dX11_undo_22 ?_
        refine x_dup rfl dX11_undo_23 ?_
        refine x_get fdX11_41 hx rfl dX11_undo_24 ?_
        refine x_il1 dX11_undo_27 ?_
        refine x_isub (pk_sub (by omega)) dX11_undo_28 ?_
        refine x_put fdX11_41 hx zf_i (by simp) dX11_undo_29 ?_
        have C2 := C.set (e := xE (nI tp.length) rt0 (nI (un.length - k)) dr) J.1 rfl
        have W2 := EW.set (e := xE (nI tp.length) rt0 (nI (un.length - k)) dr) W C J.1
        have z9 := (upM_ne (by decide) : upM Z 0 (some (xE (nI tp.length) rt0 (nI (un.length - k)) dr)) 9 = Z 9).trans J.2.1.1
        have hx := C2.get (i := 0) upM_eq
        have hl : un.length - k < un.length := by omega
        have hm := Nat.mod_lt (off + (un.length - k)) (show 0 < 10 by decide)
        obtain ⟨v1, v2⟩ := hv12 (un.length - k) hl
        have hA := C2.get (i := 12) ((upM_ne (by decide)).trans h12)
        have hU := C2.get (i := 34 + (off + (un.length - k)) % 10) ((upM_ne (by omega)).trans v1)
        refine x_al0 rfl dX11_undo_32 ?_
        refine x_get fdX11_27 hx rfl dX11_undo_33 ?_
        refine x_al0 rfl dX11_undo_36 ?_
        refine x_get fdX11_37 hx rfl dX11_undo_37 ?_
        refine x_al0 rfl dX11_undo_40 ?_
        refine x_get fdX11_41 hx rfl dX11_undo_41 ?_
        refine x_aald rfl hA (vp_in_nI (by omega) (by decide)) (by rw [nI_clamp (by omega)]; exact hu _ (by omega)) dX11_undo_44 ?_
        refine x_cv1Vp mX7_become_ok lkX11_217 rfl (Nat.le_of_ble_eq_true rfl) (Nat.le_of_ble_eq_true rfl) dX11_undo_45 (C2.get  z9) (c_become (C2.get z9) hU (by omega)) (fun h hq => ?_)
        subst hq
        have C3 := C2.set (e := s3E (s3 (un.getD (un.length - k) (0, 0, 0)))) z9 rfl
        have W3 := EW.set (e := s3E (s3 (un.getD (un.length - k) (0, 0, 0)))) W2 C2 z9
        have hx := C3.get (i := 0) ((upM_ne (by decide)).trans upM_eq)
        refine x_al0 rfl dX11_undo_48 ?_
        refine x_get fdX11_41 hx rfl dX11_undo_49 ?_
        refine x_iret rfl rfl dX11_undo_52 ⟨_, rfl, rfl, _, rt0, ds, C3, W3, ?_⟩
        have J2 : CJ (upM Z 0 (some (xE (nI tp.length) rt0 (nI (un.length - k)) dr))) rt0 ds dk st (un.take (un.length - k)) tp tr pi fl sb sj dr := by
          refine J.unU ?_ ⟨?_, off, u, (upM_ne (by decide)).trans h12, hu, fun i hi => ?_, fun i hi => ?_⟩ (fun i a b c => upM_ne a)
          · rw [upM_eq, List.length_take, Nat.min_eq_left (by omega)]
          · rw [List.length_take]; omega
          · rw [upM_ne (by omega)]; exact hs12 i hi
          · rw [List.length_take, Nat.min_eq_left (by omega)] at hi
            have e : (un.take (un.length - k)).getD i (0, 0, 0) = un.getD i (0, 0, 0) := by rw [List.getD_eq_getElem?_getD, List.getD_eq_getElem?_getD, List.getElem?_take_of_lt hi]
            rw [e, upM_ne (by omega)]
            exact hv12 i (by omega)
        exact J2.n9 v2
      · skip
        first | (simp only [cmp_lt, cmp_gt, cmp_eq, zN_cge, zN_cle, Decidable.not_not] at q16) | (simp (disch := omega) only [zN_le, zN_lt, zN_0, zN_1, nI_toInt, zN_eq, zN_eq0, b2_z, b2_nz, Decidable.not_not, Int.not_lt, Int.not_le, zK0, zK1, zK2, zK3, zK5, zK7, zK8, zK9, zK10, zK19, zK20, zK40, zK99, zK100, zK199] at q16) | skip
        refine x_bipush (v := (-3)) dX11_undo_19 rfl ?_
        exact x_iret rfl rfl dX11_undo_21 ⟨_, rfl, by rw [bad (by omega)], by rw [bad (by omega)]; exact I⟩
end ZCE

