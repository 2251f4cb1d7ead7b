/-! the class's spread -/
theorem aK_z {n : Nat} {w : Nat → Nat} {s : Nat} {f : Nat → Nat} (h : lN (w s) = 0) : ∀ k t, lN (aK n w s f k t) = lN (f t) := by
  intro k
  induction k with
  | zero => intro t; rfl
  | succ k ih =>
    intro t
    rw [aK]
    unfold adN
    split
    · rw [← lN_add, h, ih t, Int64.add_zero]
    · exact ih t
section ZSp
variable {g : zG} {d : Nat} {h0 h h' : zH} {dk : zDk} {st : zSt} {un : List zSt} {tp : List Nat} {tr : Nat → zTr} {pi : Nat → zPi} {fl : Nat × Nat} {ln : zLn} {sb sj : zS3} {dr : Int32} {wst wqu wwe wla : Nat} {qd : Int32} {fs fq : Nat → Int32} {fw fa : Nat → Int64}
theorem g_weightAt {t : Nat} (G : GE h0 h dk st un tp tr pi fl ln sb sj dr wst wqu wwe wla qd fs fq fw fa) (ht : t < ln.2.2.2.2.2.2) : Zm g d 0 0 mX6_weightAt [.ref 29, .int (nI t)] h (rL (fw t) h) := by
  obtain ⟨o1, o2, o3, o4, o5, o6, o7, o8, o9, o10, p1, p2, p3, p4, p5, p6, p7, p8⟩ := G.o
  show Zw g d 0 0 mX6_weightAt 0 [some (.ref 29), some (.int (nI t))] [] h _
  refine x_il1 dX6_weightAt_0 ?_
  refine x_if_lt (tgt := 22) dX6_weightAt_1 rfl (fun q1 => ?_) (fun q1 => ?_)
  · skip
    first | (simp only [cmp_lt, cmp_gt, cmp_eq, zN_cge, zN_cle, Decidable.not_not] at q1) | (simp (disch := omega) only [zN_le, zN_lt, zN_0, zN_1, nI_toInt, zN_eq, zN_eq0, b2_z, b2_nz, Decidable.not_not, Int.not_lt, Int.not_le, zK0, zK1, zK2, zK3, zK5, zK7, zK8, zK9, zK10, zK19, zK20, zK40, zK99, zK100, zK199] at q1) | skip
    omega
  · skip
    first | (simp only [cmp_lt, cmp_gt, cmp_eq, zN_cge, zN_cle, Decidable.not_not] at q1) | (simp (disch := omega) only [zN_le, zN_lt, zN_0, zN_1, nI_toInt, zN_eq, zN_eq0, b2_z, b2_nz, Decidable.not_not, Int.not_lt, Int.not_le, zK0, zK1, zK2, zK3, zK5, zK7, zK8, zK9, zK10, zK19, zK20, zK40, zK99, zK100, zK199] at q1) | skip
    refine x_il1 dX6_weightAt_4 ?_
    refine x_al0 rfl dX6_weightAt_5 ?_
    refine x_get fdX6_9 o2 rfl dX6_weightAt_6 ?_
    refine x_alen rfl o5 rfl dX6_weightAt_9 ?_
    rw [show Int32.ofNat ln.2.2.2.2.2.2 = nI ln.2.2.2.2.2.2 from rfl]
    refine x_icmp_ge (tgt := 22) dX6_weightAt_10 rfl (fun q10 => ?_) (fun q10 => ?_)
    · skip
      first | (simp only [cmp_lt, cmp_gt, cmp_eq, zN_cge, zN_cle, Decidable.not_not] at q10) | (simp (disch := omega) only [zN_le, zN_lt, zN_0, zN_1, nI_toInt, zN_eq, zN_eq0, b2_z, b2_nz, Decidable.not_not, Int.not_lt, Int.not_le, zK0, zK1, zK2, zK3, zK5, zK7, zK8, zK9, zK10, zK19, zK20, zK40, zK99, zK100, zK199] at q10) | skip
      omega
    · skip
      first | (simp only [cmp_lt, cmp_gt, cmp_eq, zN_cge, zN_cle, Decidable.not_not] at q10) | (simp (disch := omega) only [zN_le, zN_lt, zN_0, zN_1, nI_toInt, zN_eq, zN_eq0, b2_z, b2_nz, Decidable.not_not, Int.not_lt, Int.not_le, zK0, zK1, zK2, zK3, zK5, zK7, zK8, zK9, zK10, zK19, zK20, zK40, zK99, zK100, zK199] at q10) | skip
      refine x_al0 rfl dX6_weightAt_13 ?_
      refine x_get fdX6_9 o2 rfl dX6_weightAt_14 ?_
      refine x_il1 dX6_weightAt_17 ?_
      refine x_lald o5 (vp_in_nI (by omega) (by omega)) (congrArg fw (nI_clamp (by omega))) dX6_weightAt_18 ?_
      refine x_goto (tgt := 23) dX6_weightAt_19 rfl ?_
      exact x_lret rfl dX6_weightAt_23 ⟨rfl, rfl⟩
theorem g_addLater {t : Nat} {x : Int64} (G : GE h0 h dk st un tp tr pi fl ln sb sj dr wst wqu wwe wla qd fs fq fw fa) (ht : t < ln.2.2.2.2.2.2) : Zm g d 0 0 mX6_addLater [.ref 29, .int (nI t), .long x] h (rVp (fun h' => GE h0 h' dk st un tp tr pi fl ln sb sj dr wst wqu wwe wla qd fs fq fw (vp_updL fa t (fa t + x)))) := by
  obtain ⟨o1, o2, o3, o4, o5, o6, o7, o8, o9, o10, p1, p2, p3, p4, p5, p6, p7, p8⟩ := G.o
  show Zw g d 0 0 mX6_addLater 0 [some (.ref 29), some (.int (nI t)), some (.long x), none] [] h _
  refine x_il1 dX6_addLater_0 ?_
  refine x_if_lt (tgt := 23) dX6_addLater_1 rfl (fun q1 => ?_) (fun q1 => ?_)
  · skip
    first | (simp only [cmp_lt, cmp_gt, cmp_eq, zN_cge, zN_cle, Decidable.not_not] at q1) | (simp (disch := omega) only [zN_le, zN_lt, zN_0, zN_1, nI_toInt, zN_eq, zN_eq0, b2_z, b2_nz, Decidable.not_not, Int.not_lt, Int.not_le, zK0, zK1, zK2, zK3, zK5, zK7, zK8, zK9, zK10, zK19, zK20, zK40, zK99, zK100, zK199] at q1) | skip
    omega
  · skip
    first | (simp only [cmp_lt, cmp_gt, cmp_eq, zN_cge, zN_cle, Decidable.not_not] at q1) | (simp (disch := omega) only [zN_le, zN_lt, zN_0, zN_1, nI_toInt, zN_eq, zN_eq0, b2_z, b2_nz, Decidable.not_not, Int.not_lt, Int.not_le, zK0, zK1, zK2, zK3, zK5, zK7, zK8, zK9, zK10, zK19, zK20, zK40, zK99, zK100, zK199] at q1) | skip
    refine x_il1 dX6_addLater_4 ?_
    refine x_al0 rfl dX6_addLater_5 ?_
    refine x_get fdX6_15 o2 rfl dX6_addLater_6 ?_
    refine x_alen rfl o6 rfl dX6_addLater_9 ?_
    rw [show Int32.ofNat ln.2.2.2.2.2.2 = nI ln.2.2.2.2.2.2 from rfl]
    refine x_icmp_ge (tgt := 23) dX6_addLater_10 rfl (fun q10 => ?_) (fun q10 => ?_)
    · skip
      first | (simp only [cmp_lt, cmp_gt, cmp_eq, zN_cge, zN_cle, Decidable.not_not] at q10) | (simp (disch := omega) only [zN_le, zN_lt, zN_0, zN_1, nI_toInt, zN_eq, zN_eq0, b2_z, b2_nz, Decidable.not_not, Int.not_lt, Int.not_le, zK0, zK1, zK2, zK3, zK5, zK7, zK8, zK9, zK10, zK19, zK20, zK40, zK99, zK100, zK199] at q10) | skip
      omega
    · skip
      first | (simp only [cmp_lt, cmp_gt, cmp_eq, zN_cge, zN_cle, Decidable.not_not] at q10) | (simp (disch := omega) only [zN_le, zN_lt, zN_0, zN_1, nI_toInt, zN_eq, zN_eq0, b2_z, b2_nz, Decidable.not_not, Int.not_lt, Int.not_le, zK0, zK1, zK2, zK3, zK5, zK7, zK8, zK9, zK10, zK19, zK20, zK40, zK99, zK100, zK199] at q10) | skip
      refine x_al0 rfl dX6_addLater_13 ?_
      refine x_get fdX6_15 o2 rfl dX6_addLater_14 ?_
      refine x_il1 dX6_addLater_17 ?_
      refine x_dup2 rfl rfl dX6_addLater_18 ?_
      refine x_lald o6 (vp_in_nI (by omega) (by omega)) (congrArg fa (nI_clamp (by omega))) dX6_addLater_19 ?_
      refine x_ll2 dX6_addLater_20 ?_
      refine x_ladd (rfl) dX6_addLater_21 ?_
      refine x_last o6 (vp_in_nI (by omega) (by omega)) dX6_addLater_22 ?_
      rw [nI_clamp (by omega)]
      exact x_vret rfl dX6_addLater_23 ⟨rfl, G.sfa⟩
theorem g_goOn (G : GE h0 h dk st un tp tr pi fl ln sb sj dr wst wqu wwe wla qd fs fq fw fa) : Zm g d 0 0 mX6_goOn [.ref 29] h (rVp (fun h' => GE h0 h' dk st un tp tr pi fl ln sb sj dr wst wqu wla wwe qd fs fq fa fw)) := by
  obtain ⟨o1, o2, o3, o4, o5, o6, o7, o8, o9, o10, p1, p2, p3, p4, p5, p6, p7, p8⟩ := G.o
  show Zw g d 0 0 mX6_goOn 0 [some (.ref 29), none] [] h _
  refine x_al0 rfl dX6_goOn_0 ?_
  refine x_get fdX6_9 o2 rfl dX6_goOn_1 ?_
  refine x_as1 rfl rfl dX6_goOn_4 ?_
  refine x_al0 rfl dX6_goOn_5 ?_
  refine x_al0 rfl dX6_goOn_6 ?_
  refine x_get fdX6_15 o2 rfl dX6_goOn_7 ?_
  refine x_put fdX6_9 o2 (by first | exact zf_a | exact zf_an) (by simp) dX6_goOn_10 ?_
  refine x_al0 rfl dX6_goOn_13 ?_
  refine x_al1 rfl dX6_goOn_14 ?_
  refine x_put fdX6_15 (hs_eq o2) (by first | exact zf_a | exact zf_an) (by simp) dX6_goOn_15 ?_
  rw [List.set_set]
  exact x_vret rfl dX6_goOn_18 ⟨rfl, G.s29⟩
/-- spread with its weights -/
def SpQ (h0 h : zH) (dk : zDk) (st : zSt) (un : List zSt) (tp : List Nat) (tr : Nat → zTr) (pi : Nat → zPi) (fl : Nat × Nat) (ln : zLn) (sb sj : zS3) (dr : Int32) (w : Nat → Nat) : Prop := ∃ wst wqu wwe wla qd fs fq fw fa, GE h0 h dk st un tp tr pi fl ln sb sj dr wst wqu wwe wla qd fs fq fw fa ∧ ln.2.2.1 = true ∧ fct dk.1 ≤ ln.2.2.2.2.2.2 ∧ ∀ t, t < fct dk.1 → fw t = lN (w t)
theorem g_bySwaps {w : Nat → Nat} (P : SpQ h0 h dk st un tp tr pi fl ln sb sj dr w) : Zm g (d + 1) 0 0 mX6_bySwaps [.ref 29] h (rVp (fun h' => SpQ h0 h' dk st un tp tr pi fl ln sb sj dr (wS dk.1 w))) := by
  obtain ⟨wst, wqu, wwe, wla, qd, fs, fq, fw, fa, G, hs, hl, hw⟩ := P
  obtain ⟨d1, d2, d3, d4, d5, d6, d7, d8⟩ := G.ci.dkB
  have npl := np_le d2
  have fl6 := fct_le d2
  obtain ⟨rn, rs, sw, rt, rmv, rmk, moc, len, fre, hR, hv⟩ := G.r
  obtain ⟨o1, o2, o3, o4, o5, o6, o7, o8, o9, o10, p1, p2, p3, p4, p5, p6, p7, p8⟩ := G.o
  show Zw g (d + 1) 0 0 mX6_bySwaps 0 [some (.ref 29), none, none, none, none] [] h _
  refine x_al0 rfl dX6_bySwaps_0 ?_
  refine x_get fdX6_15 o2 rfl dX6_bySwaps_1 ?_
  refine x_lconst (v := 0) dX6_bySwaps_4 rfl ?_
  refine x_cs2Vp mJ7_fill_d0a16_ok lkX6_31 (Nat.le_of_ble_eq_true rfl) (Nat.le_of_ble_eq_true rfl) dX6_bySwaps_5 (c_fillL o6 o8) (fun h hq => ?_)
  obtain ⟨fa2, rfl, hz⟩ := hq
  have G := G.sfa (fa' := fa2)
  generalize h.set wla _ = h at G ⊢
  refine x_iconst (v := nI 0) dX6_bySwaps_8 rfl ?_
  refine x_is1 rfl dX6_bySwaps_9 ?_
  refine x_wh (fun (a : Nat × (Nat → Int64)) => [some (.ref 29), some (.int (nI a.1)), none, none, none]) (fun a h => a.1 ≤ fct dk.1 ∧ GE h0 h dk st un tp tr pi fl ln sb sj dr wst wqu wwe wla qd fs fq fw a.2 ∧ ∀ t, t < fct dk.1 → a.2 t = lN (aS dk.1 w a.1 t)) (fun a => fct dk.1 - a.1) (0, fa2) ⟨Nat.zero_le _, G, fun t ht => hz t (by omega)⟩ (fun a h hI ih => ?_)
  obtain ⟨i, fa⟩ := a
  obtain ⟨hi, G, ha⟩ := hI
  simp only at hi G ha
  dsimp only
  obtain ⟨rn, rs, sw, rt, rmv, rmk, moc, len, fre, hR, hv⟩ := G.r
  obtain ⟨o1, o2, o3, o4, o5, o6, o7, o8, o9, o10, p1, p2, p3, p4, p5, p6, p7, p8⟩ := G.o
  refine x_il1 dX6_bySwaps_10 ?_
  refine x_al0 rfl dX6_bySwaps_11 ?_
  refine x_get fdX6_18 o2 rfl dX6_bySwaps_12 ?_
  refine x_get fdX6_27 hR rfl dX6_bySwaps_15 ?_
  refine x_icmp_ge (tgt := 75) dX6_bySwaps_18 rfl (fun q18 => ?_) (fun q18 => ?_)
  · skip
    first | (simp only [cmp_lt, cmp_gt, cmp_eq, zN_cge, zN_cle, Decidable.not_not] at q18) | (simp (disch := omega) only [zN_le, zN_lt, zN_0, zN_1, nI_toInt, zN_eq, zN_eq0, b2_z, b2_nz, Decidable.not_not, Int.not_lt, Int.not_le, zK0, zK1, zK2, zK3, zK5, zK7, zK8, zK9, zK10, zK19, zK20, zK40, zK99, zK100, zK199] at q18) | skip
    have i9 : i = fct dk.1 := by omega
    subst i9
    refine x_al0 rfl dX6_bySwaps_75 ?_
    refine x_cv0Vp mX6_goOn_ok lkX6_52 rfl (Nat.le_of_ble_eq_true rfl) (Nat.le_of_ble_eq_true rfl) dX6_bySwaps_76 o2  (g_goOn G) (fun h hq => ?_)
    have G := hq
    exact x_vret rfl dX6_bySwaps_79 ⟨rfl, _, _, _, _, _, _, _, _, _, G, hs, hl, ha⟩
  · skip
    first | (simp only [cmp_lt, cmp_gt, cmp_eq, zN_cge, zN_cle, Decidable.not_not] at q18) | (simp (disch := omega) only [zN_le, zN_lt, zN_0, zN_1, nI_toInt, zN_eq, zN_eq0, b2_z, b2_nz, Decidable.not_not, Int.not_lt, Int.not_le, zK0, zK1, zK2, zK3, zK5, zK7, zK8, zK9, zK10, zK19, zK20, zK40, zK99, zK100, zK199] at q18) | skip
    have il : i < fct dk.1 := by omega
    refine x_al0 rfl dX6_bySwaps_21 ?_
    refine x_il1 dX6_bySwaps_22 ?_
    refine x_cv1L mX6_weightAt_ok lkX6_37 rfl (Nat.le_of_ble_eq_true rfl) (Nat.le_of_ble_eq_true rfl) dX6_bySwaps_23 o2  (g_weightAt G (by omega)) ?_
    refine x_ls2 rfl dX6_bySwaps_26 ?_
    refine x_iconst (v := nI 0) dX6_bySwaps_27 rfl ?_
    refine x_is4 rfl dX6_bySwaps_28 ?_
    refine x_wh (fun (a : Nat × (Nat → Int64)) => [some (.ref 29), some (.int (nI i)), some (.long (fw i)), none, some (.int (nI a.1))]) (fun a h => a.1 ≤ np dk.1 ∧ GE h0 h dk st un tp tr pi fl ln sb sj dr wst wqu wwe wla qd fs fq fw a.2 ∧ ∀ t, t < fct dk.1 → a.2 t = lN (aK dk.1 w i (aS dk.1 w i) a.1 t)) (fun a => np dk.1 - a.1) (0, fa) ⟨Nat.zero_le _, G, ha⟩ (fun a h hI ih2 => ?_)
    obtain ⟨k, fa⟩ := a
    obtain ⟨hk, G, ha⟩ := hI
    simp only at hk G ha
    dsimp only
    obtain ⟨rn, rs, sw, rt, rmv, rmk, moc, len, fre, hR, hv⟩ := G.r
    obtain ⟨o1, o2, o3, o4, o5, o6, o7, o8, o9, o10, p1, p2, p3, p4, p5, p6, p7, p8⟩ := G.o
    refine x_il4 dX6_bySwaps_30 ?_
    refine x_al0 rfl dX6_bySwaps_32 ?_
    refine x_get fdX6_18 o2 rfl dX6_bySwaps_33 ?_
    refine x_get fdX6_41 hR rfl dX6_bySwaps_36 ?_
    rw [show dk.1 * (dk.1 - 1) / 2 = np dk.1 from rfl]
    refine x_icmp_ge (tgt := 69) dX6_bySwaps_39 rfl (fun q39 => ?_) (fun q39 => ?_)
    · skip
      first | (simp only [cmp_lt, cmp_gt, cmp_eq, zN_cge, zN_cle, Decidable.not_not] at q39) | (simp (disch := omega) only [zN_le, zN_lt, zN_0, zN_1, nI_toInt, zN_eq, zN_eq0, b2_z, b2_nz, Decidable.not_not, Int.not_lt, Int.not_le, zK0, zK1, zK2, zK3, zK5, zK7, zK8, zK9, zK10, zK19, zK20, zK40, zK99, zK100, zK199] at q39) | skip
      first | refine x_ii1 rfl (nI_1 _) dX6_bySwaps_69 ?_ | refine x_ii1 rfl rfl dX6_bySwaps_69 ?_
      refine x_goto (tgt := 10) dX6_bySwaps_72 rfl ?_
      have k9 : k = np dk.1 := by omega
      subst k9
      refine x_k2 (x_k4 ?_)
      exact ih (i + 1, fa) _ (by simp only; omega) ⟨il, G, ha⟩
    · skip
      first | (simp only [cmp_lt, cmp_gt, cmp_eq, zN_cge, zN_cle, Decidable.not_not] at q39) | (simp (disch := omega) only [zN_le, zN_lt, zN_0, zN_1, nI_toInt, zN_eq, zN_eq0, b2_z, b2_nz, Decidable.not_not, Int.not_lt, Int.not_le, zK0, zK1, zK2, zK3, zK5, zK7, zK8, zK9, zK10, zK19, zK20, zK40, zK99, zK100, zK199] at q39) | skip
      have kl : k < np dk.1 := by omega
      have sl := swp_lt d1 d2 il kl
      refine x_ll2 dX6_bySwaps_42 ?_
      refine x_lconst (v := 0) dX6_bySwaps_43 rfl ?_
      refine x_lcmp (rfl) dX6_bySwaps_44 ?_
      refine x_if_eq (tgt := 69) dX6_bySwaps_45 rfl (fun q45 => ?_) (fun q45 => ?_)
      · skip
        first | (simp only [cmp_lt, cmp_gt, cmp_eq, zN_cge, zN_cle, Decidable.not_not] at q45) | (simp (disch := omega) only [zN_le, zN_lt, zN_0, zN_1, nI_toInt, zN_eq, zN_eq0, b2_z, b2_nz, Decidable.not_not, Int.not_lt, Int.not_le, zK0, zK1, zK2, zK3, zK5, zK7, zK8, zK9, zK10, zK19, zK20, zK40, zK99, zK100, zK199] at q45) | skip
        first | refine x_ii1 rfl (nI_1 _) dX6_bySwaps_69 ?_ | refine x_ii1 rfl rfl dX6_bySwaps_69 ?_
        refine x_goto (tgt := 10) dX6_bySwaps_72 rfl ?_
        have wz : lN (w i) = 0 := by rw [← hw i il]; exact q45
        refine x_k2 (x_k4 ?_)
        exact ih (i + 1, fa) _ (by simp only; omega) ⟨il, G, fun t ht => (ha t ht).trans ((aK_z wz _ t).trans (aK_z wz (np dk.1) t).symm)⟩
      · skip
        first | (simp only [cmp_lt, cmp_gt, cmp_eq, zN_cge, zN_cle, Decidable.not_not] at q45) | (simp (disch := omega) only [zN_le, zN_lt, zN_0, zN_1, nI_toInt, zN_eq, zN_eq0, b2_z, b2_nz, Decidable.not_not, Int.not_lt, Int.not_le, zK0, zK1, zK2, zK3, zK5, zK7, zK8, zK9, zK10, zK19, zK20, zK40, zK99, zK100, zK199] at q45) | skip
        refine x_al0 rfl dX6_bySwaps_48 ?_
        refine x_al0 rfl dX6_bySwaps_49 ?_
        refine x_get fdX6_18 o2 rfl dX6_bySwaps_50 ?_
        refine x_il1 dX6_bySwaps_53 ?_
        refine x_il4 dX6_bySwaps_54 ?_
        refine x_cv2I mX5_bySwap_ok lkX6_44 rfl (Nat.le_of_ble_eq_true rfl) (Nat.le_of_ble_eq_true rfl) dX6_bySwaps_56 hR  (k_bySwap G.ci hs il kl) ?_
        refine x_ll2 dX6_bySwaps_59 ?_
        refine x_cv2Vp mX6_addLater_ok lkX6_48 rfl (Nat.le_of_ble_eq_true rfl) (Nat.le_of_ble_eq_true rfl) dX6_bySwaps_60 o2  (g_addLater G (by omega)) (fun h hq => ?_)
        have G := hq
        rw [ha _ sl, hw i il, lN_add] at G
        first | refine x_ii4 rfl (nI_1 _) dX6_bySwaps_63 ?_ | refine x_ii4 rfl rfl dX6_bySwaps_63 ?_
        refine x_goto (tgt := 30) dX6_bySwaps_66 rfl ?_
        exact ih2 (k + 1, _) _ (by simp only; omega) ⟨kl, G, adN_u ha sl⟩
end ZSp

