/-! the class's lots -/
theorem pkN_z {n : Nat} {w : Nat → Nat} {s : Nat} {f : Nat → Nat} (h : lN (w s) = 0) : ∀ k t, lN (ltN n w s f k t) = lN (f t) := by
  intro k
  induction k with
  | zero => intro t; rfl
  | succ k ih =>
    intro t
    rw [ltN]
    unfold adN
    split
    · rw [← lN_add, h, ih t, Int64.add_zero]
    · exact ih t
theorem lS_z {n : Nat} {w : Nat → Nat} {s : Nat} (h : lN (w s) = 0) (t : Nat) : lN (lS n w (s + 1) t) = lN (lS n w s t) := by
  rw [lS]
  unfold adN
  split
  · rw [← lN_add, ← lN_mul, h, pkN_z h, Int64.zero_mul, Int64.add_zero]
  · exact pkN_z h _ t
theorem code_d : ∀ a, a < 10 → ∀ b, b < 10 → nI (10 * a + b) / nI 10 = nI a := by decide +kernel
theorem code_m : ∀ a, a < 10 → ∀ b, b < 10 → nI (10 * a + b) - nI (10 * a + b) / nI 10 * nI 10 = nI b := by decide +kernel
section ZLo
variable {g : zG} {d : Nat} {h0 h h' : zH} {dk : zDk} {st : zSt} {un : List zSt} {tp : List Nat} {tr : Nat → zTr} {pi : Nat → zPi} {fl : Nat × Nat} {ln : zLn} {sb sj : zS3} {dr : Int32} {wst wqu wwe wla : Nat} {qd : Int32} {fs fq : Nat → Int32} {fw fa : Nat → Int64}
theorem c_isOfN {a b : Nat} (ha : a < 10) (hb : b < 10) : Zm g d 0 0 mX6_isOfNeighbours [.int (nI (10 * a + b))] h (rI (b2 (a + 1 = b)) h) := by
  show Zw g d 0 0 mX6_isOfNeighbours 0 [some (.int (nI (10 * a + b)))] [] h _
  refine x_il0 dX6_isOfNeighbours_0 ?_
  refine x_bipush (v := nI 10) dX6_isOfNeighbours_1 rfl ?_
  refine x_idiv (by decide) (code_d a ha b hb) dX6_isOfNeighbours_3 ?_
  refine x_iconst (v := nI 1) dX6_isOfNeighbours_4 rfl ?_
  first | refine x_iadd (nI_add _ _) dX6_isOfNeighbours_5 ?_ | refine x_iadd rfl dX6_isOfNeighbours_5 ?_
  refine x_il0 dX6_isOfNeighbours_6 ?_
  refine x_bipush (v := nI 10) dX6_isOfNeighbours_7 rfl ?_
  refine x_irem (by decide) (code_m a ha b hb) dX6_isOfNeighbours_9 ?_
  refine x_icmp_ne (tgt := 17) dX6_isOfNeighbours_10 rfl (fun q10 => ?_) (fun q10 => ?_)
  · skip
    first | (simp only [cmp_lt, cmp_gt, cmp_eq, zN_cge, zN_cle, Decidable.not_not] at q10) | (simp (disch := omega) only [zN_le, zN_lt, zN_0, zN_1, nI_toInt, zN_eq, zN_eq0, b2_z, b2_nz, Decidable.not_not, Int.not_lt, Int.not_le, zK0, zK1, zK2, zK3, zK5, zK7, zK8, zK9, zK10, zK19, zK20, zK40, zK99, zK100, zK199] at q10) | skip
    refine x_iconst (v := nI 0) dX6_isOfNeighbours_17 rfl ?_
    exact x_iret rfl  rfl dX6_isOfNeighbours_18 ⟨by rw [b2z q10], rfl⟩
  · skip
    first | (simp only [cmp_lt, cmp_gt, cmp_eq, zN_cge, zN_cle, Decidable.not_not] at q10) | (simp (disch := omega) only [zN_le, zN_lt, zN_0, zN_1, nI_toInt, zN_eq, zN_eq0, b2_z, b2_nz, Decidable.not_not, Int.not_lt, Int.not_le, zK0, zK1, zK2, zK3, zK5, zK7, zK8, zK9, zK10, zK19, zK20, zK40, zK99, zK100, zK199] at q10) | skip
    refine x_iconst (v := nI 1) dX6_isOfNeighbours_13 rfl ?_
    refine x_goto (tgt := 18) dX6_isOfNeighbours_14 rfl ?_
    exact x_iret rfl  rfl dX6_isOfNeighbours_18 ⟨by rw [b2o q10], rfl⟩
theorem g_addLots {s : Nat} {w f : Nat → Nat} (G : GE h0 h dk st un tp tr pi fl ln sb sj dr wst wqu wwe wla qd fs fq fw fa) (hs : ln.2.2.1 = true) (hl : fct dk.1 ≤ ln.2.2.2.2.2.2) (hw : ∀ t, t < fct dk.1 → fw t = lN (w t)) (ha : ∀ t, t < fct dk.1 → fa t = lN (f t)) (hsl : s < fct dk.1) : Zm g (d + 1) 0 0 mX6_addLots [.ref 29, .int (nI s)] h (rVp (fun h' => ∃ fa', GE h0 h' dk st un tp tr pi fl ln sb sj dr wst wqu wwe wla qd fs fq fw fa' ∧ ∀ t, t < fct dk.1 → fa' t = lN (adN (ltN dk.1 w s f (dk.1 - 1)) s (w s * (11 - dk.1)) t))) := by
  obtain ⟨d1, d2, d3, d4, d5, d6, d7, d8⟩ := G.ci.dkB
  have npl := np_le d2
  have fl6 := fct_le d2
  obtain ⟨rn, rs, sw, rt, rmv, rmk, moc, len, fre, hR, hv⟩ := G.r
  obtain ⟨o1, o2, o3, o4, o5, o6, o7, o8, o9, o10, p1, p2, p3, p4, p5, p6, p7, p8⟩ := G.o
  show Zw g (d + 1) 0 0 mX6_addLots 0 [some (.ref 29), some (.int (nI s)), none] [] h _
  refine x_al0 rfl dX6_addLots_0 ?_
  refine x_il1 dX6_addLots_1 ?_
  refine x_al0 rfl dX6_addLots_2 ?_
  refine x_il1 dX6_addLots_3 ?_
  refine x_cv1L mX6_weightAt_ok lkX6_37 rfl (Nat.le_of_ble_eq_true rfl) (Nat.le_of_ble_eq_true rfl) dX6_addLots_4 o2  (g_weightAt G (by omega)) ?_
  refine x_bipush (v := nI 10) dX6_addLots_7 rfl ?_
  refine x_al0 rfl dX6_addLots_9 ?_
  refine x_get fdX6_18 o2 rfl dX6_addLots_10 ?_
  refine x_get fdX6_59 hR rfl dX6_addLots_13 ?_
  refine x_isub (pk_sub (by omega)) dX6_addLots_16 ?_
  refine x_iconst (v := nI 1) dX6_addLots_17 rfl ?_
  first | refine x_iadd (nI_add _ _) dX6_addLots_18 ?_ | refine x_iadd rfl dX6_addLots_18 ?_
  refine x_i2l (nI_l (by omega)) dX6_addLots_19 ?_
  rw [hw s hsl, show 10 - dk.1 + 1 = 11 - dk.1 by omega]
  refine x_lmul (lN_mul _ _) dX6_addLots_20 ?_
  refine x_cv2Vp mX6_addLater_ok lkX6_48 rfl (Nat.le_of_ble_eq_true rfl) (Nat.le_of_ble_eq_true rfl) dX6_addLots_21 o2  (g_addLater G (by omega)) (fun h hq => ?_)
  have G := hq
  rw [ha _ hsl, lN_add] at G
  have ha := adN_u (x := w s * (11 - dk.1)) ha hsl
  refine x_iconst (v := nI 0) dX6_addLots_24 rfl ?_
  refine x_is2 rfl dX6_addLots_25 ?_
  refine x_wh (fun (a : Nat × (Nat → Int64)) => [some (.ref 29), some (.int (nI s)), some (.int (nI a.1))]) (fun a h => a.1 ≤ np dk.1 ∧ GE h0 h dk st un tp tr pi fl ln sb sj dr wst wqu wwe wla qd fs fq fw a.2 ∧ ∀ t, t < fct dk.1 → a.2 t = lN (pkN dk.1 w s (adN f s (w s * (11 - dk.1))) a.1 t)) (fun a => np dk.1 - a.1) (0, _) ⟨Nat.zero_le _, G, ha⟩ (fun a h hI ih => ?_)
  obtain ⟨k, fa⟩ := a
  obtain ⟨hk, G, ha⟩ := hI
  simp only at hk G ha
  dsimp only
  obtain ⟨rn, rs, sw, rt, rmv, rmk, moc, len, fre, hR, hv⟩ := G.r
  obtain ⟨o1, o2, o3, o4, o5, o6, o7, o8, o9, o10, p1, p2, p3, p4, p5, p6, p7, p8⟩ := G.o
  refine x_il2 dX6_addLots_26 ?_
  refine x_al0 rfl dX6_addLots_27 ?_
  refine x_get fdX6_18 o2 rfl dX6_addLots_28 ?_
  refine x_get fdX6_41 hR rfl dX6_addLots_31 ?_
  rw [show dk.1 * (dk.1 - 1) / 2 = np dk.1 from rfl]
  refine x_icmp_ge (tgt := 75) dX6_addLots_34 rfl (fun q34 => ?_) (fun q34 => ?_)
  · skip
    first | (simp only [cmp_lt, cmp_gt, cmp_eq, zN_cge, zN_cle, Decidable.not_not] at q34) | (simp (disch := omega) only [zN_le, zN_lt, zN_0, zN_1, nI_toInt, zN_eq, zN_eq0, b2_z, b2_nz, Decidable.not_not, Int.not_lt, Int.not_le, zK0, zK1, zK2, zK3, zK5, zK7, zK8, zK9, zK10, zK19, zK20, zK40, zK99, zK100, zK199] at q34) | skip
    have k9 : k = np dk.1 := by omega
    subst k9
    rw [pkN_lt d1 d2, ltN_ad] at ha
    exact x_vret rfl dX6_addLots_75 ⟨rfl, fa, G, ha⟩
  · skip
    first | (simp only [cmp_lt, cmp_gt, cmp_eq, zN_cge, zN_cle, Decidable.not_not] at q34) | (simp (disch := omega) only [zN_le, zN_lt, zN_0, zN_1, nI_toInt, zN_eq, zN_eq0, b2_z, b2_nz, Decidable.not_not, Int.not_lt, Int.not_le, zK0, zK1, zK2, zK3, zK5, zK7, zK8, zK9, zK10, zK19, zK20, zK40, zK99, zK100, zK199] at q34) | skip
    have kl : k < np dk.1 := by omega
    have sl := swp_lt d1 d2 hsl kl
    have pl := pr_lt d2 kl
    refine x_al0 rfl dX6_addLots_37 ?_
    refine x_get fdX6_18 o2 rfl dX6_addLots_38 ?_
    refine x_il2 dX6_addLots_41 ?_
    refine x_cv1I mX5_codeOf_ok lkX6_62 rfl (Nat.le_of_ble_eq_true rfl) (Nat.le_of_ble_eq_true rfl) dX6_addLots_42 hR  (k_codeOf G.ci hs kl) ?_
    refine x_cs1I mX6_isOfNeighbours_ok lkX6_66 (Nat.le_of_ble_eq_true rfl) (Nat.le_of_ble_eq_true rfl) dX6_addLots_45 (c_isOfN (by omega) (by omega)) ?_
    refine x_if_eq (tgt := 69) dX6_addLots_48 rfl (fun q48 => ?_) (fun q48 => ?_)
    · skip
      first | (simp only [cmp_lt, cmp_gt, cmp_eq, zN_cge, zN_cle, Decidable.not_not] at q48) | (simp (disch := omega) only [zN_le, zN_lt, zN_0, zN_1, nI_toInt, zN_eq, zN_eq0, b2_z, b2_nz, Decidable.not_not, Int.not_lt, Int.not_le, zK0, zK1, zK2, zK3, zK5, zK7, zK8, zK9, zK10, zK19, zK20, zK40, zK99, zK100, zK199] at q48) | skip
      first | refine x_ii2 rfl (nI_1 _) dX6_addLots_69 ?_ | refine x_ii2 rfl rfl dX6_addLots_69 ?_
      refine x_goto (tgt := 26) dX6_addLots_72 rfl ?_
      exact ih (k + 1, fa) _ (by simp only; omega) ⟨kl, G, by rw [pkN, if_neg q48]; exact ha⟩
    · skip
      first | (simp only [cmp_lt, cmp_gt, cmp_eq, zN_cge, zN_cle, Decidable.not_not] at q48) | (simp (disch := omega) only [zN_le, zN_lt, zN_0, zN_1, nI_toInt, zN_eq, zN_eq0, b2_z, b2_nz, Decidable.not_not, Int.not_lt, Int.not_le, zK0, zK1, zK2, zK3, zK5, zK7, zK8, zK9, zK10, zK19, zK20, zK40, zK99, zK100, zK199] at q48) | skip
      refine x_al0 rfl dX6_addLots_51 ?_
      refine x_al0 rfl dX6_addLots_52 ?_
      refine x_get fdX6_18 o2 rfl dX6_addLots_53 ?_
      refine x_il1 dX6_addLots_56 ?_
      refine x_il2 dX6_addLots_57 ?_
      refine x_cv2I mX5_bySwap_ok lkX6_44 rfl (Nat.le_of_ble_eq_true rfl) (Nat.le_of_ble_eq_true rfl) dX6_addLots_58 hR  (k_bySwap G.ci hs hsl kl) ?_
      refine x_al0 rfl dX6_addLots_61 ?_
      refine x_il1 dX6_addLots_62 ?_
      refine x_cv1L mX6_weightAt_ok lkX6_37 rfl (Nat.le_of_ble_eq_true rfl) (Nat.le_of_ble_eq_true rfl) dX6_addLots_63 o2  (g_weightAt G (by omega)) ?_
      refine x_cv2Vp mX6_addLater_ok lkX6_48 rfl (Nat.le_of_ble_eq_true rfl) (Nat.le_of_ble_eq_true rfl) dX6_addLots_66 o2  (g_addLater G (by omega)) (fun h hq => ?_)
      have G := hq
      rw [ha _ sl, hw s hsl, lN_add] at G
      first | refine x_ii2 rfl (nI_1 _) dX6_addLots_69 ?_ | refine x_ii2 rfl rfl dX6_addLots_69 ?_
      refine x_goto (tgt := 26) dX6_addLots_72 rfl ?_
      exact ih (k + 1, _) _ (by simp only; omega) ⟨kl, G, by rw [pkN, if_pos q48]; exact adN_u ha sl⟩
theorem g_byLots {w : Nat → Nat} (P : SpQ h0 h dk st un tp tr pi fl ln sb sj dr w) : Zm g (d + 2) 0 0 mX6_byLots [.ref 29] h (rVp (fun h' => SpQ h0 h' dk st un tp tr pi fl ln sb sj dr (wL dk.1 w))) := by
  obtain ⟨wst, wqu, wwe, wla, qd, fs, fq, fw, fa, G, hs, hl, hw⟩ := P
  obtain ⟨d1, d2, d3, d4, d5, d6, d7, d8⟩ := G.ci.dkB
  have fl6 := fct_le d2
  obtain ⟨rn, rs, sw, rt, rmv, rmk, moc, len, fre, hR, hv⟩ := G.r
  obtain ⟨o1, o2, o3, o4, o5, o6, o7, o8, o9, o10, p1, p2, p3, p4, p5, p6, p7, p8⟩ := G.o
  show Zw g (d + 2) 0 0 mX6_byLots 0 [some (.ref 29), none] [] h _
  refine x_al0 rfl dX6_byLots_0 ?_
  refine x_get fdX6_15 o2 rfl dX6_byLots_1 ?_
  refine x_lconst (v := 0) dX6_byLots_4 rfl ?_
  refine x_cs2Vp mJ7_fill_d0a16_ok lkX6_31 (Nat.le_of_ble_eq_true rfl) (Nat.le_of_ble_eq_true rfl) dX6_byLots_5 (c_fillL o6 o8) (fun h hq => ?_)
  obtain ⟨fa2, rfl, hz⟩ := hq
  have G := G.sfa (fa' := fa2)
  generalize h.set wla _ = h at G ⊢
  refine x_iconst (v := nI 0) dX6_byLots_8 rfl ?_
  refine x_is1 rfl dX6_byLots_9 ?_
  refine x_wh (fun (a : Nat × (Nat → Int64)) => [some (.ref 29), some (.int (nI a.1))]) (fun a h => a.1 ≤ fct dk.1 ∧ GE h0 h dk st un tp tr pi fl ln sb sj dr wst wqu wwe wla qd fs fq fw a.2 ∧ ∀ t, t < fct dk.1 → a.2 t = lN (lS dk.1 w a.1 t)) (fun a => fct dk.1 - a.1) (0, fa2) ⟨Nat.zero_le _, G, fun t ht => hz t (by omega)⟩ (fun a h hI ih => ?_)
  obtain ⟨i, fa⟩ := a
  obtain ⟨hi, G, ha⟩ := hI
  simp only at hi G ha
  dsimp only
  obtain ⟨rn, rs, sw, rt, rmv, rmk, moc, len, fre, hR, hv⟩ := G.r
  obtain ⟨o1, o2, o3, o4, o5, o6, o7, o8, o9, o10, p1, p2, p3, p4, p5, p6, p7, p8⟩ := G.o
  refine x_il1 dX6_byLots_10 ?_
  refine x_al0 rfl dX6_byLots_11 ?_
  refine x_get fdX6_18 o2 rfl dX6_byLots_12 ?_
  refine x_get fdX6_27 hR rfl dX6_byLots_15 ?_
  refine x_icmp_ge (tgt := 42) dX6_byLots_18 rfl (fun q18 => ?_) (fun q18 => ?_)
  · skip
    first | (simp only [cmp_lt, cmp_gt, cmp_eq, zN_cge, zN_cle, Decidable.not_not] at q18) | (simp (disch := omega) only [zN_le, zN_lt, zN_0, zN_1, nI_toInt, zN_eq, zN_eq0, b2_z, b2_nz, Decidable.not_not, Int.not_lt, Int.not_le, zK0, zK1, zK2, zK3, zK5, zK7, zK8, zK9, zK10, zK19, zK20, zK40, zK99, zK100, zK199] at q18) | skip
    have i9 : i = fct dk.1 := by omega
    subst i9
    refine x_al0 rfl dX6_byLots_42 ?_
    refine x_cv0Vp mX6_goOn_ok lkX6_52 rfl (Nat.le_of_ble_eq_true rfl) (Nat.le_of_ble_eq_true rfl) dX6_byLots_43 o2  (g_goOn G) (fun h hq => ?_)
    have G := hq
    exact x_vret rfl dX6_byLots_46 ⟨rfl, _, _, _, _, _, _, _, _, _, G, hs, hl, ha⟩
  · skip
    first | (simp only [cmp_lt, cmp_gt, cmp_eq, zN_cge, zN_cle, Decidable.not_not] at q18) | (simp (disch := omega) only [zN_le, zN_lt, zN_0, zN_1, nI_toInt, zN_eq, zN_eq0, b2_z, b2_nz, Decidable.not_not, Int.not_lt, Int.not_le, zK0, zK1, zK2, zK3, zK5, zK7, zK8, zK9, zK10, zK19, zK20, zK40, zK99, zK100, zK199] at q18) | skip
    have il : i < fct dk.1 := by omega
    refine x_al0 rfl dX6_byLots_21 ?_
    refine x_il1 dX6_byLots_22 ?_
    refine x_cv1L mX6_weightAt_ok lkX6_37 rfl (Nat.le_of_ble_eq_true rfl) (Nat.le_of_ble_eq_true rfl) dX6_byLots_23 o2  (g_weightAt G (by omega)) ?_
    refine x_lconst (v := 0) dX6_byLots_26 rfl ?_
    refine x_lcmp (rfl) dX6_byLots_27 ?_
    refine x_if_eq (tgt := 36) dX6_byLots_28 rfl (fun q28 => ?_) (fun q28 => ?_)
    · skip
      first | (simp only [cmp_lt, cmp_gt, cmp_eq, zN_cge, zN_cle, Decidable.not_not] at q28) | (simp (disch := omega) only [zN_le, zN_lt, zN_0, zN_1, nI_toInt, zN_eq, zN_eq0, b2_z, b2_nz, Decidable.not_not, Int.not_lt, Int.not_le, zK0, zK1, zK2, zK3, zK5, zK7, zK8, zK9, zK10, zK19, zK20, zK40, zK99, zK100, zK199] at q28) | skip
      first | refine x_ii1 rfl (nI_1 _) dX6_byLots_36 ?_ | refine x_ii1 rfl rfl dX6_byLots_36 ?_
      refine x_goto (tgt := 10) dX6_byLots_39 rfl ?_
      exact ih (i + 1, fa) _ (by simp only; omega) ⟨il, G, fun t ht => (ha t ht).trans (lS_z (by rw [← hw i il]; exact q28) t).symm⟩
    · skip
      first | (simp only [cmp_lt, cmp_gt, cmp_eq, zN_cge, zN_cle, Decidable.not_not] at q28) | (simp (disch := omega) only [zN_le, zN_lt, zN_0, zN_1, nI_toInt, zN_eq, zN_eq0, b2_z, b2_nz, Decidable.not_not, Int.not_lt, Int.not_le, zK0, zK1, zK2, zK3, zK5, zK7, zK8, zK9, zK10, zK19, zK20, zK40, zK99, zK100, zK199] at q28) | skip
      refine x_al0 rfl dX6_byLots_31 ?_
      refine x_il1 dX6_byLots_32 ?_
      refine x_cv1Vp mX6_addLots_ok lkX6_55 rfl (Nat.le_of_ble_eq_true rfl) (Nat.le_of_ble_eq_true rfl) dX6_byLots_33 o2  (g_addLots G hs hl hw ha il) (fun h hq => ?_)
      obtain ⟨fa', G, ha⟩ := hq
      first | refine x_ii1 rfl (nI_1 _) dX6_byLots_36 ?_ | refine x_ii1 rfl rfl dX6_byLots_36 ?_
      refine x_goto (tgt := 10) dX6_byLots_39 rfl ?_
      exact ih (i + 1, fa') _ (by simp only; omega) ⟨il, G, ha⟩
end ZLo

