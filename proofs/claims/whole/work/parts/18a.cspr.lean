/-! the class's spread -/
section ZSp
variable {g : zG} {d : Nat} {h0 h h' : zH} {dk : zDk} {st : zSt} {un : List zSt} {tp : List Nat} {tr : Nat → zTr} {pi : Nat → zPi} {fl : Nat × Nat} {ln : zLn} {sb sj : zS3} {dr : Int32} {wst wqu wwe wla : Nat} {qd : Int32} {fs fq : Nat → Int32} {fw fa : Nat → Int64}
theorem g_weightAt {t : Nat} (G : GE h0 h dk st un tp tr pi fl ln sb sj dr wst wqu wwe wla qd fs fq fw fa) (ht : t < ln.2.2.2.2.2.2) : Zm g d 0 0 mX6_weightAt [.ref 29, .int (nI t)] h (rL (fw t) h) := by
  obtain ⟨o1, o2, o3, o4, o5, o6, o7, o8, o9, o10, p1, p2, p3, p4, p5, p6, p7, p8⟩ := G.o
  show Zw g d 0 0 mX6_weightAt 0 [some (.ref 29), some (.int (nI t))] [] h _
  refine x_il1 dX6_weightAt_0 ?_
  refine x_if_lt (tgt := 22) dX6_weightAt_1 rfl (fun q1 => ?_) (fun q1 => ?_)
  · skip
    first | (simp only [cmp_lt, cmp_gt, cmp_eq, zN_cge, zN_cle, Decidable.not_not] at q1) | (simp (disch := omega) only [zN_le, zN_lt, zN_0, zN_1, nI_toInt, zN_eq, zN_eq0, b2_z, b2_nz, Decidable.not_not, Int.not_lt, Int.not_le, zK0, zK1, zK2, zK3, zK5, zK7, zK8, zK9, zK10, zK19, zK20, zK40, zK99, zK100, zK199] at q1) | skip
    omega
  · skip
    first | (simp only [cmp_lt, cmp_gt, cmp_eq, zN_cge, zN_cle, Decidable.not_not] at q1) | (simp (disch := omega) only [zN_le, zN_lt, zN_0, zN_1, nI_toInt, zN_eq, zN_eq0, b2_z, b2_nz, Decidable.not_not, Int.not_lt, Int.not_le, zK0, zK1, zK2, zK3, zK5, zK7, zK8, zK9, zK10, zK19, zK20, zK40, zK99, zK100, zK199] at q1) | skip
    refine x_il1 dX6_weightAt_4 ?_
    refine x_al0 rfl dX6_weightAt_5 ?_
    refine x_get fdX6_9 o2 rfl dX6_weightAt_6 ?_
    refine x_alen rfl o5 rfl dX6_weightAt_9 ?_
    rw [show Int32.ofNat ln.2.2.2.2.2.2 = nI ln.2.2.2.2.2.2 from rfl]
    refine x_icmp_ge (tgt := 22) dX6_weightAt_10 rfl (fun q10 => ?_) (fun q10 => ?_)
    · skip
      first | (simp only [cmp_lt, cmp_gt, cmp_eq, zN_cge, zN_cle, Decidable.not_not] at q10) | (simp (disch := omega) only [zN_le, zN_lt, zN_0, zN_1, nI_toInt, zN_eq, zN_eq0, b2_z, b2_nz, Decidable.not_not, Int.not_lt, Int.not_le, zK0, zK1, zK2, zK3, zK5, zK7, zK8, zK9, zK10, zK19, zK20, zK40, zK99, zK100, zK199] at q10) | skip
      omega
    · skip
      first | (simp only [cmp_lt, cmp_gt, cmp_eq, zN_cge, zN_cle, Decidable.not_not] at q10) | (simp (disch := omega) only [zN_le, zN_lt, zN_0, zN_1, nI_toInt, zN_eq, zN_eq0, b2_z, b2_nz, Decidable.not_not, Int.not_lt, Int.not_le, zK0, zK1, zK2, zK3, zK5, zK7, zK8, zK9, zK10, zK19, zK20, zK40, zK99, zK100, zK199] at q10) | skip
      refine x_al0 rfl dX6_weightAt_13 ?_
      refine x_get fdX6_9 o2 rfl dX6_weightAt_14 ?_
      refine x_il1 dX6_weightAt_17 ?_
      refine x_lald o5 (vp_in_nI (by omega) (by omega)) (congrArg fw (nI_clamp (by omega))) dX6_weightAt_18 ?_
      refine x_goto (tgt := 23) dX6_weightAt_19 rfl ?_
      exact x_lret rfl dX6_weightAt_23 ⟨rfl, rfl⟩
theorem g_addLater {t : Nat} {x : Int64} (G : GE h0 h dk st un tp tr pi fl ln sb sj dr wst wqu wwe wla qd fs fq fw fa) (ht : t < ln.2.2.2.2.2.2) : Zm g d 0 0 mX6_addLater [.ref 29, .int (nI t), .long x] h (rVp (fun h' => GE h0 h' dk st un tp tr pi fl ln sb sj dr wst wqu wwe wla qd fs fq fw (vp_updL fa t (fa t + x)))) := by
  obtain ⟨o1, o2, o3, o4, o5, o6, o7, o8, o9, o10, p1, p2, p3, p4, p5, p6, p7, p8⟩ := G.o
  show Zw g d 0 0 mX6_addLater 0 [some (.ref 29), some (.int (nI t)), some (.long x), none] [] h _
  refine x_il1 dX6_addLater_0 ?_
  refine x_if_lt (tgt := 23) dX6_addLater_1 rfl (fun q1 => ?_) (fun q1 => ?_)
  · skip
    first | (simp only [cmp_lt, cmp_gt, cmp_eq, zN_cge, zN_cle, Decidable.not_not] at q1) | (simp (disch := omega) only [zN_le, zN_lt, zN_0, zN_1, nI_toInt, zN_eq, zN_eq0, b2_z, b2_nz, Decidable.not_not, Int.not_lt, Int.not_le, zK0, zK1, zK2, zK3, zK5, zK7, zK8, zK9, zK10, zK19, zK20, zK40, zK99, zK100, zK199] at q1) | skip
    omega
  · skip
    first | (simp only [cmp_lt, cmp_gt, cmp_eq, zN_cge, zN_cle, Decidable.not_not] at q1) | (simp (disch := omega) only [zN_le, zN_lt, zN_0, zN_1, nI_toInt, zN_eq, zN_eq0, b2_z, b2_nz, Decidable.not_not, Int.not_lt, Int.not_le, zK0, zK1, zK2, zK3, zK5, zK7, zK8, zK9, zK10, zK19, zK20, zK40, zK99, zK100, zK199] at q1) | skip
    refine x_il1 dX6_addLater_4 ?_
    refine x_al0 rfl dX6_addLater_5 ?_
    refine x_get fdX6_15 o2 rfl dX6_addLater_6 ?_
    refine x_alen rfl o6 rfl dX6_addLater_9 ?_
    rw [show Int32.ofNat ln.2.2.2.2.2.2 = nI ln.2.2.2.2.2.2 from rfl]
    refine x_icmp_ge (tgt := 23) dX6_addLater_10 rfl (fun q10 => ?_) (fun q10 => ?_)
    · skip
      first | (simp only [cmp_lt, cmp_gt, cmp_eq, zN_cge, zN_cle, Decidable.not_not] at q10) | (simp (disch := omega) only [zN_le, zN_lt, zN_0, zN_1, nI_toInt, zN_eq, zN_eq0, b2_z, b2_nz, Decidable.not_not, Int.not_lt, Int.not_le, zK0, zK1, zK2, zK3, zK5, zK7, zK8, zK9, zK10, zK19, zK20, zK40, zK99, zK100, zK199] at q10) | skip
      omega
    · skip
      first | (simp only [cmp_lt, cmp_gt, cmp_eq, zN_cge, zN_cle, Decidable.not_not] at q10) | (simp (disch := omega) only [zN_le, zN_lt, zN_0, zN_1, nI_toInt, zN_eq, zN_eq0, b2_z, b2_nz, Decidable.not_not, Int.not_lt, Int.not_le, zK0, zK1, zK2, zK3, zK5, zK7, zK8, zK9, zK10, zK19, zK20, zK40, zK99, zK100, zK199] at q10) | skip
      refine x_al0 rfl dX6_addLater_13 ?_
      refine x_get fdX6_15 o2 rfl dX6_addLater_14 ?_
      refine x_il1 dX6_addLater_17 ?_
      refine x_dup2 rfl rfl dX6_addLater_18 ?_
      refine x_lald o6 (vp_in_nI (by omega) (by omega)) (congrArg fa (nI_clamp (by omega))) dX6_addLater_19 ?_
      refine x_ll2 dX6_addLater_20 ?_
      refine x_ladd (rfl) dX6_addLater_21 ?_
      refine x_last o6 (vp_in_nI (by omega) (by omega)) dX6_addLater_22 ?_
      rw [nI_clamp (by omega)]
      exact x_vret rfl dX6_addLater_23 ⟨rfl, G.sfa⟩
theorem g_goOn (G : GE h0 h dk st un tp tr pi fl ln sb sj dr wst wqu wwe wla qd fs fq fw fa) : Zm g d 0 0 mX6_goOn [.ref 29] h (rVp (fun h' => GE h0 h' dk st un tp tr pi fl ln sb sj dr wst wqu wla wwe qd fs fq fa fw)) := by
  obtain ⟨o1, o2, o3, o4, o5, o6, o7, o8, o9, o10, p1, p2, p3, p4, p5, p6, p7, p8⟩ := G.o
  show Zw g d 0 0 mX6_goOn 0 [some (.ref 29), none] [] h _
  refine x_al0 rfl dX6_goOn_0 ?_
  refine x_get fdX6_9 o2 rfl dX6_goOn_1 ?_
  refine x_as1 rfl rfl dX6_goOn_4 ?_
  refine x_al0 rfl dX6_goOn_5 ?_
  refine x_al0 rfl dX6_goOn_6 ?_
  refine x_get fdX6_15 o2 rfl dX6_goOn_7 ?_
  refine x_put fdX6_9 o2 (by first | exact zf_a | exact zf_an) (by simp) dX6_goOn_10 ?_
  refine x_al0 rfl dX6_goOn_13 ?_
  refine x_al1 rfl dX6_goOn_14 ?_
  refine x_put fdX6_15 (hs_eq o2) (by first | exact zf_a | exact zf_an) (by simp) dX6_goOn_15 ?_
  rw [List.set_set]
  exact x_vret rfl dX6_goOn_18 ⟨rfl, G.s29⟩
end ZSp

