/-! the model's rows -/
theorem adN_u {l : Nat → Int64} {f : Nat → Nat} {t0 x n : Nat} (h : ∀ t, t < n → l t = lN (f t)) (h0 : t0 < n) : ∀ t, t < n → vp_updL l t0 (lN (f t0 + x)) t = lN (adN f t0 x t) := by
  intro t ht
  unfold adN
  by_cases z : t = t0
  · rw [if_pos z, z, pk_uLs]
  · rw [if_neg z, pk_uLn z, h t ht]
section ZMw
variable {g : zG} {d : Nat} {h0 h : zH} {s : Nat → Value} {M : Nat → Nat → Int32} {L : Nat → Nat → Int64} {dk : zDk} {st : zSt} {un : List zSt} {tp : List Nat} {tr : Nat → zTr} {pi : Nat → zPi} {fl : Nat × Nat}
theorem j_beginsMany (W : MW h0 h s M L) (J : MJ s M L dk st un tp tr pi fl) : Zm g d 0 0 mX12_beginsMany [.ref 59] h (rVp (fun h' => ∃ L', MW h0 h' s M L' ∧ MJ s M L' dk st un tp tr pi fl ∧ Un [] [] [76, 77] s s M M L L' ∧ (∀ t, t < 720 → L' 76 t = lN (w0 st.1 t)) ∧ ∀ t, t < 720 → L' 77 t = lN 0)) := by
  obtain ⟨D, hn0, hn6, ho0, ho9, hng, hli, e0, e1, e2, m1, m2, m3, m4, m5, u1, u2, t1, t2, r1, hf⟩ := MJ.o J
  show Zw g d 0 0 mX12_beginsMany 0 [some (.ref 59), none] [] h _
  refine x_iconst (v := nI 0) dX12_beginsMany_0 rfl ?_
  refine x_is1 rfl dX12_beginsMany_1 ?_
  refine x_for (e := 720) (fun i => [some (.ref 59), some (.int (nI i))]) (fun i h => ∃ L', MW h0 h s M L' ∧ MJ s M L' dk st un tp tr pi fl ∧ Un [] [] [76, 77] s s M M L L' ∧ (∀ t, t < i → L' 76 t = lN (w0 st.1 t)) ∧ ∀ t, t < i → L' 77 t = lN 0) 0 (by omega) ⟨_, W, J, Un.rf, fun t ht => absurd ht (Nat.not_lt_zero _), fun t ht => absurd ht (Nat.not_lt_zero _)⟩ (fun h hI => ?_) (fun i h hi hI ih => ?_)
  · obtain ⟨L1, W, J, U, hw, hz⟩ := hI
    refine x_il1 dX12_beginsMany_2 ?_
    refine x_sipush (v := nI 720) dX12_beginsMany_3 (by decide) ?_
    refine x_icmp_ge (tgt := 44) dX12_beginsMany_6 rfl (fun q6 => ?_) (fun q6 => ?_)
    · skip
      first | (simp only [cmp_lt, cmp_gt, cmp_eq, zN_cge, zN_cle, Decidable.not_not] at q6) | (simp (disch := omega) only [zN_le, zN_lt, zN_0, zN_1, nI_toInt, zN_eq, zN_eq0, b2_z, b2_nz, Decidable.not_not, Int.not_lt, Int.not_le, zK0, zK1, zK2, zK3, zK5, zK7, zK8, zK9, zK10, zK19, zK20, zK40, zK99, zK100, zK199] at q6) | skip
      exact x_vret rfl dX12_beginsMany_44 ⟨rfl, _, W, J, U, hw, hz⟩
    · skip
      first | (simp only [cmp_lt, cmp_gt, cmp_eq, zN_cge, zN_cle, Decidable.not_not] at q6) | (simp (disch := omega) only [zN_le, zN_lt, zN_0, zN_1, nI_toInt, zN_eq, zN_eq0, b2_z, b2_nz, Decidable.not_not, Int.not_lt, Int.not_le, zK0, zK1, zK2, zK3, zK5, zK7, zK8, zK9, zK10, zK19, zK20, zK40, zK99, zK100, zK199] at q6) | skip
      omega
  · obtain ⟨L1, W, J, U, hw, hz⟩ := hI
    obtain ⟨D, hn0, hn6, ho0, ho9, hng, hli, e0, e1, e2, m1, m2, m3, m4, m5, u1, u2, t1, t2, r1, hf⟩ := MJ.o J
    have key : ∀ x : Int64, x = lN (w0 st.1 i) → ∀ t, t < i + 1 → upM (upM L1 76 (vp_updL (L1 76) i x)) 77 (vp_updL (upM L1 76 (vp_updL (L1 76) i x) 77) i 0) 76 t = lN (w0 st.1 t) := fun x hx t ht => by
      show vp_updL (L1 76) i x t = _
      by_cases z : t = i
      · rw [z, pk_uLs]; exact hx
      · rw [pk_uLn z]; exact hw t (by omega)
    have key2 : ∀ x : Int64, ∀ t, t < i + 1 → upM (upM L1 76 (vp_updL (L1 76) i x)) 77 (vp_updL (upM L1 76 (vp_updL (L1 76) i x) 77) i 0) 77 t = lN 0 := fun x t ht => by
      show vp_updL (L1 77) i 0 t = _
      by_cases z : t = i
      · rw [z, pk_uLs]; rfl
      · rw [pk_uLn z]; exact hz t (by omega)
    refine x_il1 dX12_beginsMany_2 ?_
    refine x_sipush (v := nI 720) dX12_beginsMany_3 (by decide) ?_
    refine x_icmp_ge (tgt := 44) dX12_beginsMany_6 rfl (fun q6 => ?_) (fun q6 => ?_)
    · skip
      first | (simp only [cmp_lt, cmp_gt, cmp_eq, zN_cge, zN_cle, Decidable.not_not] at q6) | (simp (disch := omega) only [zN_le, zN_lt, zN_0, zN_1, nI_toInt, zN_eq, zN_eq0, b2_z, b2_nz, Decidable.not_not, Int.not_lt, Int.not_le, zK0, zK1, zK2, zK3, zK5, zK7, zK8, zK9, zK10, zK19, zK20, zK40, zK99, zK100, zK199] at q6) | skip
      omega
    · skip
      first | (simp only [cmp_lt, cmp_gt, cmp_eq, zN_cge, zN_cle, Decidable.not_not] at q6) | (simp (disch := omega) only [zN_le, zN_lt, zN_0, zN_1, nI_toInt, zN_eq, zN_eq0, b2_z, b2_nz, Decidable.not_not, Int.not_lt, Int.not_le, zK0, zK1, zK2, zK3, zK5, zK7, zK8, zK9, zK10, zK19, zK20, zK40, zK99, zK100, zK199] at q6) | skip
      refine x_al0 rfl dX12_beginsMany_9 ?_
      refine x_gm fdX12_67 W.hM (by decide) W.hF.f33 dX12_beginsMany_10 ?_
      refine x_il1 dX12_beginsMany_13 ?_
      refine x_il1 dX12_beginsMany_14 ?_
      refine x_al0 rfl dX12_beginsMany_15 ?_
      refine x_gm fdX12_13 W.hM (by decide) W.hF.f1 dX12_beginsMany_16 ?_
      refine x_bipush (v := nI 21) dX12_beginsMany_19 rfl ?_
      refine x_mld (len := 2868) W rfl rfl (by decide) (by omega) (by first | assumption | rfl) dX12_beginsMany_21 ?_
      refine x_icmp_ne (tgt := 29) dX12_beginsMany_22 rfl (fun q22 => ?_) (fun q22 => ?_)
      · skip
        first | (simp only [cmp_lt, cmp_gt, cmp_eq, zN_cge, zN_cle, Decidable.not_not] at q22) | (simp (disch := omega) only [zN_le, zN_lt, zN_0, zN_1, nI_toInt, zN_eq, zN_eq0, b2_z, b2_nz, Decidable.not_not, Int.not_lt, Int.not_le, zK0, zK1, zK2, zK3, zK5, zK7, zK8, zK9, zK10, zK19, zK20, zK40, zK99, zK100, zK199] at q22) | skip
        refine x_lconst (v := 0) dX12_beginsMany_29 rfl ?_
        refine x_mstlJ (len := 720) W J rfl rfl (by decide) (by decide) (by omega) dX12_beginsMany_30 (fun h W J => ?_)
        refine x_al0 rfl dX12_beginsMany_31 ?_
        refine x_gm fdX12_70 W.hM (by decide) W.hF.f34 dX12_beginsMany_32 ?_
        refine x_il1 dX12_beginsMany_35 ?_
        refine x_lconst (v := 0) dX12_beginsMany_36 rfl ?_
        refine x_mstlJ (len := 720) W J rfl rfl (by decide) (by decide) (by omega) dX12_beginsMany_37 (fun h W J => ?_)
        first | refine x_ii1 rfl (nI_1 _) dX12_beginsMany_38 ?_ | refine x_ii1 rfl rfl dX12_beginsMany_38 ?_
        refine x_goto (tgt := 2) dX12_beginsMany_41 rfl ?_
        exact ih _ ⟨_, W, J, (U.l (by simp)).l (by simp), key _ (by rw [show w0 st.1 i = 0 from if_neg q22]; rfl), key2 _⟩
      · skip
        first | (simp only [cmp_lt, cmp_gt, cmp_eq, zN_cge, zN_cle, Decidable.not_not] at q22) | (simp (disch := omega) only [zN_le, zN_lt, zN_0, zN_1, nI_toInt, zN_eq, zN_eq0, b2_z, b2_nz, Decidable.not_not, Int.not_lt, Int.not_le, zK0, zK1, zK2, zK3, zK5, zK7, zK8, zK9, zK10, zK19, zK20, zK40, zK99, zK100, zK199] at q22) | skip
        refine x_lconst (v := 1) dX12_beginsMany_25 rfl ?_
        refine x_goto (tgt := 30) dX12_beginsMany_26 rfl ?_
        refine x_mstlJ (len := 720) W J rfl rfl (by decide) (by decide) (by omega) dX12_beginsMany_30 (fun h W J => ?_)
        refine x_al0 rfl dX12_beginsMany_31 ?_
        refine x_gm fdX12_70 W.hM (by decide) W.hF.f34 dX12_beginsMany_32 ?_
        refine x_il1 dX12_beginsMany_35 ?_
        refine x_lconst (v := 0) dX12_beginsMany_36 rfl ?_
        refine x_mstlJ (len := 720) W J rfl rfl (by decide) (by decide) (by omega) dX12_beginsMany_37 (fun h W J => ?_)
        first | refine x_ii1 rfl (nI_1 _) dX12_beginsMany_38 ?_ | refine x_ii1 rfl rfl dX12_beginsMany_38 ?_
        refine x_goto (tgt := 2) dX12_beginsMany_41 rfl ?_
        exact ih _ ⟨_, W, J, (U.l (by simp)).l (by simp), key _ (by rw [show w0 st.1 i = 1 from if_pos q22]; rfl), key2 _⟩
theorem j_isThen {f : Nat → Nat} (W : MW h0 h s M L) (J : MJ s M L dk st un tp tr pi fl) (hf : ∀ t, t < 720 → L 77 t = lN (f t)) : Zm g d 0 0 mX12_isThen [.ref 59] h (rVp (fun h' => ∃ L', MW h0 h' s M L' ∧ MJ s M L' dk st un tp tr pi fl ∧ Un [] [] [76, 77] s s M M L L' ∧ (∀ t, t < 720 → L' 76 t = lN (f t)) ∧ ∀ t, t < 720 → L' 77 t = lN 0)) := by
  show Zw g d 0 0 mX12_isThen 0 [some (.ref 59), none] [] h _
  refine x_iconst (v := nI 0) dX12_isThen_0 rfl ?_
  refine x_is1 rfl dX12_isThen_1 ?_
  refine x_for (e := 720) (fun i => [some (.ref 59), some (.int (nI i))]) (fun i h => ∃ L', MW h0 h s M L' ∧ MJ s M L' dk st un tp tr pi fl ∧ Un [] [] [76, 77] s s M M L L' ∧ (∀ t, t < i → L' 76 t = lN (f t)) ∧ (∀ t, t < i → L' 77 t = lN 0) ∧ ∀ t, i ≤ t → t < 720 → L' 77 t = lN (f t)) 0 (by omega) ⟨_, W, J, Un.rf, fun t ht => absurd ht (Nat.not_lt_zero _), fun t ht => absurd ht (Nat.not_lt_zero _), fun t _ ht => hf t ht⟩ (fun h hI => ?_) (fun i h hi hI ih => ?_)
  · obtain ⟨L1, W, J, U, hw, hz, hk⟩ := hI
    refine x_il1 dX12_isThen_2 ?_
    refine x_sipush (v := nI 720) dX12_isThen_3 (by decide) ?_
    refine x_icmp_ge (tgt := 34) dX12_isThen_6 rfl (fun q6 => ?_) (fun q6 => ?_)
    · skip
      first | (simp only [cmp_lt, cmp_gt, cmp_eq, zN_cge, zN_cle, Decidable.not_not] at q6) | (simp (disch := omega) only [zN_le, zN_lt, zN_0, zN_1, nI_toInt, zN_eq, zN_eq0, b2_z, b2_nz, Decidable.not_not, Int.not_lt, Int.not_le, zK0, zK1, zK2, zK3, zK5, zK7, zK8, zK9, zK10, zK19, zK20, zK40, zK99, zK100, zK199] at q6) | skip
      exact x_vret rfl dX12_isThen_34 ⟨rfl, _, W, J, U, hw, hz⟩
    · skip
      first | (simp only [cmp_lt, cmp_gt, cmp_eq, zN_cge, zN_cle, Decidable.not_not] at q6) | (simp (disch := omega) only [zN_le, zN_lt, zN_0, zN_1, nI_toInt, zN_eq, zN_eq0, b2_z, b2_nz, Decidable.not_not, Int.not_lt, Int.not_le, zK0, zK1, zK2, zK3, zK5, zK7, zK8, zK9, zK10, zK19, zK20, zK40, zK99, zK100, zK199] at q6) | skip
      omega
  · obtain ⟨L1, W, J, U, hw, hz, hk⟩ := hI
    refine x_il1 dX12_isThen_2 ?_
    refine x_sipush (v := nI 720) dX12_isThen_3 (by decide) ?_
    refine x_icmp_ge (tgt := 34) dX12_isThen_6 rfl (fun q6 => ?_) (fun q6 => ?_)
    · skip
      first | (simp only [cmp_lt, cmp_gt, cmp_eq, zN_cge, zN_cle, Decidable.not_not] at q6) | (simp (disch := omega) only [zN_le, zN_lt, zN_0, zN_1, nI_toInt, zN_eq, zN_eq0, b2_z, b2_nz, Decidable.not_not, Int.not_lt, Int.not_le, zK0, zK1, zK2, zK3, zK5, zK7, zK8, zK9, zK10, zK19, zK20, zK40, zK99, zK100, zK199] at q6) | skip
      omega
    · skip
      first | (simp only [cmp_lt, cmp_gt, cmp_eq, zN_cge, zN_cle, Decidable.not_not] at q6) | (simp (disch := omega) only [zN_le, zN_lt, zN_0, zN_1, nI_toInt, zN_eq, zN_eq0, b2_z, b2_nz, Decidable.not_not, Int.not_lt, Int.not_le, zK0, zK1, zK2, zK3, zK5, zK7, zK8, zK9, zK10, zK19, zK20, zK40, zK99, zK100, zK199] at q6) | skip
      refine x_al0 rfl dX12_isThen_9 ?_
      refine x_gm fdX12_67 W.hM (by decide) W.hF.f33 dX12_isThen_10 ?_
      refine x_il1 dX12_isThen_13 ?_
      refine x_al0 rfl dX12_isThen_14 ?_
      refine x_gm fdX12_70 W.hM (by decide) W.hF.f34 dX12_isThen_15 ?_
      refine x_il1 dX12_isThen_18 ?_
      refine x_mldl (len := 720) W rfl rfl (by decide) (by omega) (hk i (Nat.le_refl _) hi) dX12_isThen_19 ?_
      refine x_mstlJ (len := 720) W J rfl rfl (by decide) (by decide) (by omega) dX12_isThen_20 (fun h W J => ?_)
      refine x_al0 rfl dX12_isThen_21 ?_
      refine x_gm fdX12_70 W.hM (by decide) W.hF.f34 dX12_isThen_22 ?_
      refine x_il1 dX12_isThen_25 ?_
      refine x_lconst (v := 0) dX12_isThen_26 rfl ?_
      refine x_mstlJ (len := 720) W J rfl rfl (by decide) (by decide) (by omega) dX12_isThen_27 (fun h W J => ?_)
      first | refine x_ii1 rfl (nI_1 _) dX12_isThen_28 ?_ | refine x_ii1 rfl rfl dX12_isThen_28 ?_
      refine x_goto (tgt := 2) dX12_isThen_31 rfl ?_
      refine ih _ ⟨_, W, J, (U.l (by simp)).l (by simp), fun t ht => ?_, fun t ht => ?_, fun t h1 h2 => ?_⟩
      · show vp_updL (L1 76) i (lN (f i)) t = _
        by_cases z : t = i
        · rw [z, pk_uLs]
        · rw [pk_uLn z]; exact hw t (by omega)
      · show vp_updL (L1 77) i 0 t = _
        by_cases z : t = i
        · rw [z, pk_uLs]; rfl
        · rw [pk_uLn z]; exact hz t (by omega)
      · show vp_updL (L1 77) i 0 t = _
        rw [pk_uLn (by omega)]
        exact hk t (by omega) h2
theorem w_rows {x y : Int32} (I : MI h0 h dk st un tp tr pi fl) : Zm g (d + 7) 0 0 mX12_rows [.ref 59, .int x, .int y] h (rLp (fun r h' => r = F_rows dk st x y ∧ MI h0 h' dk st un tp tr pi fl)) := by
  obtain ⟨s, M, L, W, J⟩ := I
  obtain ⟨D, hn0, hn6, ho0, ho9, hng, hli, e0, e1, e2, m1, m2, m3, m4, m5, u1, u2, t1, t2, r1, hf⟩ := MJ.o J
  have npl := np_le hn6
  show Zw g (d + 7) 0 0 mX12_rows 0 [some (.ref 59), some (.int x), some (.int y), none, none, none] [] h _
  refine x_al0 rfl dX12_rows_0 ?_
  refine x_iconst (v := nI 0) dX12_rows_1 rfl ?_
  refine x_mpfJ W J fdX12_1 (by decide) rfl rfl zf_i dX12_rows_2 (fun h W J => ?_)
  refine x_il1 dX12_rows_5 ?_
  refine x_cs1I mX12_isAim_ok lkX12_369 (Nat.le_of_ble_eq_true rfl) (Nat.le_of_ble_eq_true rfl) dX12_rows_6 j_isAim ?_
  refine x_if_ne (tgt := 16) dX12_rows_9 rfl (fun q9 => ?_) (fun q9 => ?_)
  · skip
    first | (simp only [cmp_lt, cmp_gt, cmp_eq, zN_cge, zN_cle, Decidable.not_not] at q9) | (simp (disch := omega) only [zN_le, zN_lt, zN_0, zN_1, nI_toInt, zN_eq, zN_eq0, b2_z, b2_nz, Decidable.not_not, Int.not_lt, Int.not_le, zK0, zK1, zK2, zK3, zK5, zK7, zK8, zK9, zK10, zK19, zK20, zK40, zK99, zK100, zK199] at q9) | skip
    refine x_il2 dX12_rows_16 ?_
    refine x_i2l (rfl) dX12_rows_17 ?_
    refine x_lconst (v := 0) dX12_rows_18 rfl ?_
    refine x_ldc2 kcX12_380 dX12_rows_19 ?_
    refine x_cs3I mX12_within_ok lkX12_157 (Nat.le_of_ble_eq_true rfl) (Nat.le_of_ble_eq_true rfl) dX12_rows_22 j_within ?_
    refine x_if_ne (tgt := 32) dX12_rows_25 rfl (fun q25 => ?_) (fun q25 => ?_)
    · skip
      first | (simp only [cmp_lt, cmp_gt, cmp_eq, zN_cge, zN_cle, Decidable.not_not] at q25) | (simp (disch := omega) only [zN_le, zN_lt, zN_0, zN_1, nI_toInt, zN_eq, zN_eq0, b2_z, b2_nz, Decidable.not_not, Int.not_lt, Int.not_le, zK0, zK1, zK2, zK3, zK5, zK7, zK8, zK9, zK10, zK19, zK20, zK40, zK99, zK100, zK199] at q25) | skip
      unfold F_rows
      rw [if_pos q9, if_pos q25]
      obtain ⟨aim, ha, rfl⟩ := oneOf_ex q9
      obtain ⟨n, -, hn7, rfl⟩ := rng_ex (a := 0) (b := 7) q25 (by decide)
      rw [show tn (nI aim) = aim from nI_clamp (by omega), show tn (nI n) = n from nI_clamp (by omega)]
      refine x_al0 rfl dX12_rows_32 ?_
      refine x_cv0Vp mX12_laysThen_ok lkX12_361 rfl (Nat.le_of_ble_eq_true rfl) (Nat.le_of_ble_eq_true rfl) dX12_rows_33 W.hM  (j_laysThen W J) (fun h hq => ?_)
      obtain ⟨s1, M1, L1, W, J, U, hT⟩ := hq
      obtain ⟨D, hn0, hn6, ho0, ho9, hng, hli, e0, e1, e2, m1, m2, m3, m4, m5, u1, u2, t1, t2, r1, hf⟩ := MJ.o J
      refine x_al0 rfl dX12_rows_36 ?_
      refine x_cv0Vp mX12_beginsMany_ok lkX12_382 rfl (Nat.le_of_ble_eq_true rfl) (Nat.le_of_ble_eq_true rfl) dX12_rows_37 W.hM  (j_beginsMany W J) (fun h hq => ?_)
      obtain ⟨L2, W, J, U2, hw, hz⟩ := hq
      refine x_iconst (v := nI 0) dX12_rows_40 rfl ?_
      refine x_is3 rfl dX12_rows_41 ?_
      obtain ⟨hlet, hsm, hso, hth⟩ := id hT
      refine x_wh (fun (a : Nat × Option Value × Option Value) => [some (.ref 59), some (.int (nI aim)), some (.int (nI n)), some (.int (nI a.1)), a.2.1, a.2.2]) (fun a h => a.1 ≤ n ∧ ∃ L', MW h0 h s1 M1 L' ∧ MJ s1 M1 L' dk st un tp tr pi fl ∧ (∀ t, t < 720 → L' 76 t = lN (wSk dk.1 st.1 a.1 t)) ∧ ∀ t, t < 720 → L' 77 t = lN 0) (fun a => n - a.1) (0, none, none) ⟨Nat.zero_le _, _, W, J, hw, hz⟩ (fun a h hI ih => ?_)
      obtain ⟨i, v1, v2⟩ := a
      obtain ⟨hi, L3, W, J, hw, hz⟩ := hI
      simp only at hi hw
      dsimp only
      refine x_il3 dX12_rows_42 ?_
      refine x_il2 dX12_rows_43 ?_
      refine x_icmp_ge (tgt := 121) dX12_rows_44 rfl (fun q44 => ?_) (fun q44 => ?_)
      · skip
        first | (simp only [cmp_lt, cmp_gt, cmp_eq, zN_cge, zN_cle, Decidable.not_not] at q44) | (simp (disch := omega) only [zN_le, zN_lt, zN_0, zN_1, nI_toInt, zN_eq, zN_eq0, b2_z, b2_nz, Decidable.not_not, Int.not_lt, Int.not_le, zK0, zK1, zK2, zK3, zK5, zK7, zK8, zK9, zK10, zK19, zK20, zK40, zK99, zK100, zK199] at q44) | skip
        refine x_lconst (v := 0) dX12_rows_121 rfl ?_
        refine x_ls3 rfl dX12_rows_122 ?_
        refine x_iconst (v := nI 0) dX12_rows_123 rfl ?_
        refine x_is5 rfl dX12_rows_124 ?_
        have i9 : i = n := by omega
        subst i9
        refine x_for (e := fct dk.1) (fun q => [some (.ref 59), some (.int (nI aim)), some (.int (nI i)), some (.long (lN (smS (soB dk st.2.1 aim) (wSk dk.1 st.1 i) q))), none, some (.int (nI q))]) (fun q h' => h' = h) 0 (by omega) rfl (fun h' hI => ?_) (fun q h' hq hI ih3 => ?_)
        · subst hI
          refine x_il5 dX12_rows_126 ?_
          refine x_al0 rfl dX12_rows_128 ?_
          refine x_gm fdX12_223 W.hM (by decide) (by first | assumption | rfl) dX12_rows_129 ?_
          refine x_icmp_ge (tgt := 165) dX12_rows_132 rfl (fun q132 => ?_) (fun q132 => ?_)
          · skip
            first | (simp only [cmp_lt, cmp_gt, cmp_eq, zN_cge, zN_cle, Decidable.not_not] at q132) | (simp (disch := omega) only [zN_le, zN_lt, zN_0, zN_1, nI_toInt, zN_eq, zN_eq0, b2_z, b2_nz, Decidable.not_not, Int.not_lt, Int.not_le, zK0, zK1, zK2, zK3, zK5, zK7, zK8, zK9, zK10, zK19, zK20, zK40, zK99, zK100, zK199] at q132) | skip
            refine x_ll3 dX12_rows_165 ?_
            exact x_lret rfl dX12_rows_166 ⟨_, rfl, rfl, _, _, _, W, J⟩
          · skip
            first | (simp only [cmp_lt, cmp_gt, cmp_eq, zN_cge, zN_cle, Decidable.not_not] at q132) | (simp (disch := omega) only [zN_le, zN_lt, zN_0, zN_1, nI_toInt, zN_eq, zN_eq0, b2_z, b2_nz, Decidable.not_not, Int.not_lt, Int.not_le, zK0, zK1, zK2, zK3, zK5, zK7, zK8, zK9, zK10, zK19, zK20, zK40, zK99, zK100, zK199] at q132) | skip
            omega
        · subst hI
          have ml := mskK_lt (row := q) (c := st.2.1) hn6
          refine x_il5 dX12_rows_126 ?_
          refine x_al0 rfl dX12_rows_128 ?_
          refine x_gm fdX12_223 W.hM (by decide) (by first | assumption | rfl) dX12_rows_129 ?_
          refine x_icmp_ge (tgt := 165) dX12_rows_132 rfl (fun q132 => ?_) (fun q132 => ?_)
          · skip
            first | (simp only [cmp_lt, cmp_gt, cmp_eq, zN_cge, zN_cle, Decidable.not_not] at q132) | (simp (disch := omega) only [zN_le, zN_lt, zN_0, zN_1, nI_toInt, zN_eq, zN_eq0, b2_z, b2_nz, Decidable.not_not, Int.not_lt, Int.not_le, zK0, zK1, zK2, zK3, zK5, zK7, zK8, zK9, zK10, zK19, zK20, zK40, zK99, zK100, zK199] at q132) | skip
            omega
          · skip
            first | (simp only [cmp_lt, cmp_gt, cmp_eq, zN_cge, zN_cle, Decidable.not_not] at q132) | (simp (disch := omega) only [zN_le, zN_lt, zN_0, zN_1, nI_toInt, zN_eq, zN_eq0, b2_z, b2_nz, Decidable.not_not, Int.not_lt, Int.not_le, zK0, zK1, zK2, zK3, zK5, zK7, zK8, zK9, zK10, zK19, zK20, zK40, zK99, zK100, zK199] at q132) | skip
            refine x_ll3 dX12_rows_135 ?_
            refine x_al0 rfl dX12_rows_136 ?_
            refine x_il5 dX12_rows_137 ?_
            refine x_il1 dX12_rows_139 ?_
            refine x_cv2I mX12_isSo_ok lkX12_364 rfl (Nat.le_of_ble_eq_true rfl) (Nat.le_of_ble_eq_true rfl) dX12_rows_140 W.hM  (j_isSo W J hq ha (hlet q hq) (by omega)) ?_
            refine x_if_eq (tgt := 156) dX12_rows_143 rfl (fun q143 => ?_) (fun q143 => ?_)
            · skip
              first | (simp only [cmp_lt, cmp_gt, cmp_eq, zN_cge, zN_cle, Decidable.not_not] at q143) | (simp (disch := omega) only [zN_le, zN_lt, zN_0, zN_1, nI_toInt, zN_eq, zN_eq0, b2_z, b2_nz, Decidable.not_not, Int.not_lt, Int.not_le, zK0, zK1, zK2, zK3, zK5, zK7, zK8, zK9, zK10, zK19, zK20, zK40, zK99, zK100, zK199] at q143) | skip
              refine x_lconst (v := 0) dX12_rows_156 rfl ?_
              refine x_ladd ((lN_add _ 0).trans (congrArg lN (show _ = smS (soB dk st.2.1 aim) (wSk dk.1 st.1 i) (q + 1) by rw [smS, if_neg (by simpa using q143)]))) dX12_rows_157 ?_
              refine x_ls3 rfl dX12_rows_158 ?_
              first | refine x_ii5 rfl (nI_1 _) dX12_rows_159 ?_ | refine x_ii5 rfl rfl dX12_rows_159 ?_
              refine x_goto (tgt := 126) dX12_rows_162 rfl ?_
              exact ih3 _ rfl
            · skip
              first | (simp only [cmp_lt, cmp_gt, cmp_eq, zN_cge, zN_cle, Decidable.not_not] at q143) | (simp (disch := omega) only [zN_le, zN_lt, zN_0, zN_1, nI_toInt, zN_eq, zN_eq0, b2_z, b2_nz, Decidable.not_not, Int.not_lt, Int.not_le, zK0, zK1, zK2, zK3, zK5, zK7, zK8, zK9, zK10, zK19, zK20, zK40, zK99, zK100, zK199] at q143) | skip
              refine x_al0 rfl dX12_rows_146 ?_
              refine x_gm fdX12_67 W.hM (by decide) W.hF.f33 dX12_rows_147 ?_
              refine x_il5 dX12_rows_150 ?_
              refine x_mldl (len := 720) W rfl rfl (by decide) (by omega) (hw q (by omega)) dX12_rows_152 ?_
              refine x_goto (tgt := 157) dX12_rows_153 rfl ?_
              refine x_ladd ((lN_add _ _).trans (congrArg lN (show _ = smS (soB dk st.2.1 aim) (wSk dk.1 st.1 i) (q + 1) by rw [smS, if_pos (by simpa using q143)]))) dX12_rows_157 ?_
              refine x_ls3 rfl dX12_rows_158 ?_
              first | refine x_ii5 rfl (nI_1 _) dX12_rows_159 ?_ | refine x_ii5 rfl rfl dX12_rows_159 ?_
              refine x_goto (tgt := 126) dX12_rows_162 rfl ?_
              exact ih3 _ rfl
      · skip
        first | (simp only [cmp_lt, cmp_gt, cmp_eq, zN_cge, zN_cle, Decidable.not_not] at q44) | (simp (disch := omega) only [zN_le, zN_lt, zN_0, zN_1, nI_toInt, zN_eq, zN_eq0, b2_z, b2_nz, Decidable.not_not, Int.not_lt, Int.not_le, zK0, zK1, zK2, zK3, zK5, zK7, zK8, zK9, zK10, zK19, zK20, zK40, zK99, zK100, zK199] at q44) | skip
        refine x_iconst (v := nI 0) dX12_rows_47 rfl ?_
        refine x_is4 rfl dX12_rows_48 ?_
        refine x_wh (fun (a : Nat × Option Value) => [some (.ref 59), some (.int (nI aim)), some (.int (nI n)), some (.int (nI i)), some (.int (nI a.1)), a.2]) (fun a h => a.1 ≤ fct dk.1 ∧ ∃ L', MW h0 h s1 M1 L' ∧ MJ s1 M1 L' dk st un tp tr pi fl ∧ (∀ t, t < 720 → L' 76 t = lN (wSk dk.1 st.1 i t)) ∧ ∀ t, t < 720 → L' 77 t = lN (aS dk.1 (wSk dk.1 st.1 i) a.1 t)) (fun a => fct dk.1 - a.1) (0, v2) ⟨Nat.zero_le _, _, W, J, hw, hz⟩ (fun a h hI ih2 => ?_)
        obtain ⟨q, v3⟩ := a
        obtain ⟨hq, L4, W, J, hw, hz⟩ := hI
        simp only at hq hz
        dsimp only
        refine x_il4 dX12_rows_50 ?_
        refine x_al0 rfl dX12_rows_52 ?_
        refine x_gm fdX12_223 W.hM (by decide) (by first | assumption | rfl) dX12_rows_53 ?_
        refine x_icmp_ge (tgt := 111) dX12_rows_56 rfl (fun q56 => ?_) (fun q56 => ?_)
        · skip
          first | (simp only [cmp_lt, cmp_gt, cmp_eq, zN_cge, zN_cle, Decidable.not_not] at q56) | (simp (disch := omega) only [zN_le, zN_lt, zN_0, zN_1, nI_toInt, zN_eq, zN_eq0, b2_z, b2_nz, Decidable.not_not, Int.not_lt, Int.not_le, zK0, zK1, zK2, zK3, zK5, zK7, zK8, zK9, zK10, zK19, zK20, zK40, zK99, zK100, zK199] at q56) | skip
          have q9' : q = fct dk.1 := by omega
          subst q9'
          refine x_al0 rfl dX12_rows_111 ?_
          refine x_cv0Vp mX12_isThen_ok lkX12_385 rfl (Nat.le_of_ble_eq_true rfl) (Nat.le_of_ble_eq_true rfl) dX12_rows_112 W.hM  (j_isThen W J hz) (fun h hq => ?_)
          obtain ⟨L5, W, J, U5, hw5, hz5⟩ := hq
          first | refine x_ii3 rfl (nI_1 _) dX12_rows_115 ?_ | refine x_ii3 rfl rfl dX12_rows_115 ?_
          refine x_goto (tgt := 42) dX12_rows_118 rfl ?_
          exact ih (i + 1, _, _) _ (by simp only; omega) ⟨by simp only; omega, _, W, J, hw5, hz5⟩
        · skip
          first | (simp only [cmp_lt, cmp_gt, cmp_eq, zN_cge, zN_cle, Decidable.not_not] at q56) | (simp (disch := omega) only [zN_le, zN_lt, zN_0, zN_1, nI_toInt, zN_eq, zN_eq0, b2_z, b2_nz, Decidable.not_not, Int.not_lt, Int.not_le, zK0, zK1, zK2, zK3, zK5, zK7, zK8, zK9, zK10, zK19, zK20, zK40, zK99, zK100, zK199] at q56) | skip
          refine x_iconst (v := nI 0) dX12_rows_59 rfl ?_
          refine x_is5 rfl dX12_rows_60 ?_
          have ql : q < fct dk.1 := by omega
          refine x_for (e := np dk.1) (fun k => [some (.ref 59), some (.int (nI aim)), some (.int (nI n)), some (.int (nI i)), some (.int (nI q)), some (.int (nI k))]) (fun k h => ∃ L', MW h0 h s1 M1 L' ∧ MJ s1 M1 L' dk st un tp tr pi fl ∧ (∀ t, t < 720 → L' 76 t = lN (wSk dk.1 st.1 i t)) ∧ ∀ t, t < 720 → L' 77 t = lN (aK dk.1 (wSk dk.1 st.1 i) q (aS dk.1 (wSk dk.1 st.1 i) q) k t)) 0 (by omega) ⟨_, W, J, hw, hz⟩ (fun h hI => ?_) (fun k h hk hI ih4 => ?_)
          · obtain ⟨L5, W, J, hw, hz⟩ := hI
            refine x_il5 dX12_rows_62 ?_
            refine x_al0 rfl dX12_rows_64 ?_
            refine x_gm fdX12_358 W.hM (by decide) (hsm) dX12_rows_65 ?_
            refine x_icmp_ge (tgt := 105) dX12_rows_68 rfl (fun q68 => ?_) (fun q68 => ?_)
            · skip
              first | (simp only [cmp_lt, cmp_gt, cmp_eq, zN_cge, zN_cle, Decidable.not_not] at q68) | (simp (disch := omega) only [zN_le, zN_lt, zN_0, zN_1, nI_toInt, zN_eq, zN_eq0, b2_z, b2_nz, Decidable.not_not, Int.not_lt, Int.not_le, zK0, zK1, zK2, zK3, zK5, zK7, zK8, zK9, zK10, zK19, zK20, zK40, zK99, zK100, zK199] at q68) | skip
              first | refine x_ii4 rfl (nI_1 _) dX12_rows_105 ?_ | refine x_ii4 rfl rfl dX12_rows_105 ?_
              refine x_goto (tgt := 50) dX12_rows_108 rfl ?_
              exact ih2 (q + 1, _) _ (by simp only; omega) ⟨ql, _, W, J, hw, hz⟩
            · skip
              first | (simp only [cmp_lt, cmp_gt, cmp_eq, zN_cge, zN_cle, Decidable.not_not] at q68) | (simp (disch := omega) only [zN_le, zN_lt, zN_0, zN_1, nI_toInt, zN_eq, zN_eq0, b2_z, b2_nz, Decidable.not_not, Int.not_lt, Int.not_le, zK0, zK1, zK2, zK3, zK5, zK7, zK8, zK9, zK10, zK19, zK20, zK40, zK99, zK100, zK199] at q68) | skip
              omega
          · obtain ⟨L5, W, J, hw, hz⟩ := hI
            have sl := swp_lt hn0 hn6 ql hk
            refine x_il5 dX12_rows_62 ?_
            refine x_al0 rfl dX12_rows_64 ?_
            refine x_gm fdX12_358 W.hM (by decide) (hsm) dX12_rows_65 ?_
            refine x_icmp_ge (tgt := 105) dX12_rows_68 rfl (fun q68 => ?_) (fun q68 => ?_)
            · skip
              first | (simp only [cmp_lt, cmp_gt, cmp_eq, zN_cge, zN_cle, Decidable.not_not] at q68) | (simp (disch := omega) only [zN_le, zN_lt, zN_0, zN_1, nI_toInt, zN_eq, zN_eq0, b2_z, b2_nz, Decidable.not_not, Int.not_lt, Int.not_le, zK0, zK1, zK2, zK3, zK5, zK7, zK8, zK9, zK10, zK19, zK20, zK40, zK99, zK100, zK199] at q68) | skip
              omega
            · skip
              first | (simp only [cmp_lt, cmp_gt, cmp_eq, zN_cge, zN_cle, Decidable.not_not] at q68) | (simp (disch := omega) only [zN_le, zN_lt, zN_0, zN_1, nI_toInt, zN_eq, zN_eq0, b2_z, b2_nz, Decidable.not_not, Int.not_lt, Int.not_le, zK0, zK1, zK2, zK3, zK5, zK7, zK8, zK9, zK10, zK19, zK20, zK40, zK99, zK100, zK199] at q68) | skip
              refine x_al0 rfl dX12_rows_71 ?_
              refine x_gm fdX12_70 W.hM (by decide) W.hF.f34 dX12_rows_72 ?_
              refine x_al0 rfl dX12_rows_75 ?_
              refine x_gm fdX12_58 W.hM (by decide) W.hF.f29 dX12_rows_76 ?_
              refine x_bipush (v := nI 15) dX12_rows_79 rfl ?_
              refine x_il4 dX12_rows_81 ?_
              first | refine x_imul (pk_mul _ _) dX12_rows_83 ?_ | refine x_imul rfl dX12_rows_83 ?_
              refine x_il5 dX12_rows_84 ?_
              first | refine x_iadd (nI_add _ _) dX12_rows_86 ?_ | refine x_iadd rfl dX12_rows_86 ?_
              refine x_mld (len := 10800) W rfl rfl (by decide) (by omega) (hth q ql k hk) dX12_rows_87 ?_
              refine x_dup2 rfl rfl dX12_rows_88 ?_
              refine x_mldl (len := 720) W rfl rfl (by decide) (by omega) (hz _ (by omega)) dX12_rows_89 ?_
              refine x_al0 rfl dX12_rows_90 ?_
              refine x_gm fdX12_67 W.hM (by decide) W.hF.f33 dX12_rows_91 ?_
              refine x_il4 dX12_rows_94 ?_
              refine x_mldl (len := 720) W rfl rfl (by decide) (by omega) (hw q (by omega)) dX12_rows_96 ?_
              refine x_ladd (lN_add _ _) dX12_rows_97 ?_
              refine x_mstlJ (len := 720) W J rfl rfl (by decide) (by decide) (by omega) dX12_rows_98 (fun h W J => ?_)
              first | refine x_ii5 rfl (nI_1 _) dX12_rows_99 ?_ | refine x_ii5 rfl rfl dX12_rows_99 ?_
              refine x_goto (tgt := 62) dX12_rows_102 rfl ?_
              exact ih4 _ ⟨_, W, J, hw, adN_u hz (by omega)⟩
    · skip
      first | (simp only [cmp_lt, cmp_gt, cmp_eq, zN_cge, zN_cle, Decidable.not_not] at q25) | (simp (disch := omega) only [zN_le, zN_lt, zN_0, zN_1, nI_toInt, zN_eq, zN_eq0, b2_z, b2_nz, Decidable.not_not, Int.not_lt, Int.not_le, zK0, zK1, zK2, zK3, zK5, zK7, zK8, zK9, zK10, zK19, zK20, zK40, zK99, zK100, zK199] at q25) | skip
      refine x_ldc2 kcX12_353 dX12_rows_28 ?_
      exact x_lret rfl dX12_rows_31 ⟨_, rfl, by rw [F_rows, if_pos q9, if_neg q25], _, _, _, W, J⟩
  · skip
    first | (simp only [cmp_lt, cmp_gt, cmp_eq, zN_cge, zN_cle, Decidable.not_not] at q9) | (simp (disch := omega) only [zN_le, zN_lt, zN_0, zN_1, nI_toInt, zN_eq, zN_eq0, b2_z, b2_nz, Decidable.not_not, Int.not_lt, Int.not_le, zK0, zK1, zK2, zK3, zK5, zK7, zK8, zK9, zK10, zK19, zK20, zK40, zK99, zK100, zK199] at q9) | skip
    refine x_ldc2 kcX12_378 dX12_rows_12 ?_
    exact x_lret rfl dX12_rows_15 ⟨_, rfl, by rw [F_rows, if_neg q9], _, _, _, W, J⟩
end ZMw

