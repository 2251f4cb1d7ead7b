/-! the class's round, power, roots, lies, bounded -/
section ZCr
variable {g : zG} {d : Nat} {h0 h h' : zH} {dk : zDk} {st : zSt} {un : List zSt} {tp : List Nat} {tr : Nat → zTr} {pi : Nat → zPi} {fl : Nat × Nat} {ln : zLn} {sb sj : zS3} {dr : Int32}
theorem CI.i33 (I : CI h0 h dk st un tp tr pi fl ln sb sj dr) : ∃ f, h[33]? = some (lnA 21 f) := by
  obtain ⟨Z, rt, ds, C, W, J⟩ := I
  obtain ⟨f, z⟩ := J.2.2.2.2.2.2.2.2.1.2
  exact ⟨f, C.get z⟩
theorem CI.i32 (I : CI h0 h dk st un tp tr pi fl ln sb sj dr) : ∃ f, h[32]? = some (inA 36 f) := by
  obtain ⟨Z, rt, ds, C, W, J⟩ := I
  obtain ⟨f, z⟩ := J.2.2.2.2.2.2.2.2.1.1
  exact ⟨f, C.get z⟩
theorem CI.s33 {f : Nat → Int64} (I : CI h0 h dk st un tp tr pi fl ln sb sj dr) : CI h0 (h.set 33 (lnA 21 f)) dk st un tp tr pi fl ln sb sj dr := by
  obtain ⟨Z, rt, ds, C, W, J⟩ := I
  obtain ⟨f0, z⟩ := J.2.2.2.2.2.2.2.2.1.2
  exact ⟨_, rt, ds, C.set z rfl, EW.set W C z, J.bo⟩
theorem CI.s32 {f : Nat → Int32} (I : CI h0 h dk st un tp tr pi fl ln sb sj dr) : CI h0 (h.set 32 (inA 36 f)) dk st un tp tr pi fl ln sb sj dr := by
  obtain ⟨Z, rt, ds, C, W, J⟩ := I
  obtain ⟨f0, z⟩ := J.2.2.2.2.2.2.2.2.1.1
  exact ⟨_, rt, ds, C.set z rfl, EW.set W C z, J.ly⟩
theorem k_round {x y : Int32} (I : CI h0 h dk st un tp tr pi fl ln sb sj dr) : Zm g (d + 3) 0 0 mX11_round [.ref 0, .int x, .int y] h (rIp (fun r h' => r = F_round dk st x y ∧ CI h0 h' dk st un tp tr pi fl ln sb sj dr)) := by
  obtain ⟨rt, rn, rs, sw, rmv, rmk, moc, len, fre, fc, fr, vn, vs, qd, wst, wqu, wwe, wla, hx, hn, hd, hR, hv, hw, hs⟩ := I.o
  obtain ⟨d1, d2, d3, d4, d5, d6, d7, d8⟩ := I.dkB
  obtain ⟨rn, rs, sw, T⟩ := I.rT
  show Zw g (d + 3) 0 0 mX11_round 0 [some (.ref 0), some (.int x), some (.int y), none] [] h _
  refine x_al0 rfl dX11_round_0 ?_
  refine x_il1 dX11_round_1 ?_
  refine x_cv1I mX11_isDrawer_ok lkX11_153 rfl (Nat.le_of_ble_eq_true rfl) (Nat.le_of_ble_eq_true rfl) dX11_round_2 hx  (k_isDrawer I) ?_
  refine x_if_eq (tgt := 16) dX11_round_5 rfl (fun q5 => ?_) (fun q5 => ?_)
  · skip
    first | (simp only [cmp_lt, cmp_gt, cmp_eq, zN_cge, zN_cle, Decidable.not_not] at q5) | (simp (disch := omega) only [zN_le, zN_lt, zN_0, zN_1, nI_toInt, zN_eq, zN_eq0, b2_z, b2_nz, Decidable.not_not, Int.not_lt, Int.not_le, zK0, zK1, zK2, zK3, zK5, zK7, zK8, zK9, zK10, zK19, zK20, zK40, zK99, zK100, zK199] at q5) | skip
    refine x_bipush (v := (-2)) dX11_round_16 rfl ?_
    refine x_iret rfl rfl dX11_round_18 ⟨_, rfl, ?_, I⟩
    rw [F_round, if_neg (fun z => q5 z.1)]
  · skip
    first | (simp only [cmp_lt, cmp_gt, cmp_eq, zN_cge, zN_cle, Decidable.not_not] at q5) | (simp (disch := omega) only [zN_le, zN_lt, zN_0, zN_1, nI_toInt, zN_eq, zN_eq0, b2_z, b2_nz, Decidable.not_not, Int.not_lt, Int.not_le, zK0, zK1, zK2, zK3, zK5, zK7, zK8, zK9, zK10, zK19, zK20, zK40, zK99, zK100, zK199] at q5) | skip
    refine x_il2 dX11_round_8 ?_
    refine x_iconst (v := nI 2) dX11_round_9 rfl ?_
    refine x_cs2I mX11_isOneOf_ok lkX11_157 (Nat.le_of_ble_eq_true rfl) (Nat.le_of_ble_eq_true rfl) dX11_round_10 (c_isOneOf (by decide)) ?_
    refine x_if_ne (tgt := 19) dX11_round_13 rfl (fun q13 => ?_) (fun q13 => ?_)
    · skip
      first | (simp only [cmp_lt, cmp_gt, cmp_eq, zN_cge, zN_cle, Decidable.not_not] at q13) | (simp (disch := omega) only [zN_le, zN_lt, zN_0, zN_1, nI_toInt, zN_eq, zN_eq0, b2_z, b2_nz, Decidable.not_not, Int.not_lt, Int.not_le, zK0, zK1, zK2, zK3, zK5, zK7, zK8, zK9, zK10, zK19, zK20, zK40, zK99, zK100, zK199] at q13) | skip
      unfold F_round
      rw [if_pos ⟨q5, q13⟩]
      obtain ⟨k, hk, rfl⟩ := oneOf_ex q5
      rw [show tn (nI k) = k from nI_clamp (by omega)]
      have rf := rb_facts d2 d7 hk
      refine x_al0 rfl dX11_round_19 ?_
      refine x_get fdX11_62 hx rfl dX11_round_20 ?_
      refine x_al0 rfl dX11_round_23 ?_
      refine x_get fdX11_27 hx rfl dX11_round_24 ?_
      refine x_get fdX11_128 hn rfl dX11_round_27 ?_
      refine x_il1 dX11_round_30 ?_
      refine x_cv2I mX5_roundBits_ok lkX11_276 rfl (Nat.le_of_ble_eq_true rfl) (Nat.le_of_ble_eq_true rfl) dX11_round_31 hR  (c_X5_roundBits T d7 hk) ?_
      refine x_is3 rfl dX11_round_34 ?_
      refine x_il2 dX11_round_35 ?_
      refine x_if_ne (tgt := 46) dX11_round_36 rfl (fun q36 => ?_) (fun q36 => ?_)
      · skip
        first | (simp only [cmp_lt, cmp_gt, cmp_eq, zN_cge, zN_cle, Decidable.not_not] at q36) | (simp (disch := omega) only [zN_le, zN_lt, zN_0, zN_1, nI_toInt, zN_eq, zN_eq0, b2_z, b2_nz, Decidable.not_not, Int.not_lt, Int.not_le, zK0, zK1, zK2, zK3, zK5, zK7, zK8, zK9, zK10, zK19, zK20, zK40, zK99, zK100, zK199] at q36) | skip
        refine x_il3 dX11_round_46 ?_
        refine x_iret rfl rfl dX11_round_47 ⟨_, rfl, ?_, I⟩
        rw [if_neg q36]
      · skip
        first | (simp only [cmp_lt, cmp_gt, cmp_eq, zN_cge, zN_cle, Decidable.not_not] at q36) | (simp (disch := omega) only [zN_le, zN_lt, zN_0, zN_1, nI_toInt, zN_eq, zN_eq0, b2_z, b2_nz, Decidable.not_not, Int.not_lt, Int.not_le, zK0, zK1, zK2, zK3, zK5, zK7, zK8, zK9, zK10, zK19, zK20, zK40, zK99, zK100, zK199] at q36) | skip
        refine x_il3 dX11_round_39 ?_
        refine x_cs1I mJ6_bitCount_0f7a4_ok lkX11_186 (Nat.le_of_ble_eq_true rfl) (Nat.le_of_ble_eq_true rfl) dX11_round_40 (c_bitCount rf.2.1) ?_
        refine x_goto (tgt := 47) dX11_round_43 rfl ?_
        refine x_iret rfl rfl dX11_round_47 ⟨_, rfl, ?_, I⟩
        rw [if_pos q36]
    · skip
      first | (simp only [cmp_lt, cmp_gt, cmp_eq, zN_cge, zN_cle, Decidable.not_not] at q13) | (simp (disch := omega) only [zN_le, zN_lt, zN_0, zN_1, nI_toInt, zN_eq, zN_eq0, b2_z, b2_nz, Decidable.not_not, Int.not_lt, Int.not_le, zK0, zK1, zK2, zK3, zK5, zK7, zK8, zK9, zK10, zK19, zK20, zK40, zK99, zK100, zK199] at q13) | skip
      refine x_bipush (v := (-2)) dX11_round_16 rfl ?_
      refine x_iret rfl rfl dX11_round_18 ⟨_, rfl, ?_, I⟩
      rw [F_round, if_neg (fun z => q13 z.2)]
theorem k_power {v : Int64} (I : CI h0 h dk st un tp tr pi fl ln sb sj dr) : Zm g (d + 3) 0 0 mX11_power [.ref 0, .long v] h (rIp (fun r h' => r = F_power dk st v ∧ CI h0 h' dk st un tp tr pi fl ln sb sj dr)) := by
  obtain ⟨rt, rn, rs, sw, rmv, rmk, moc, len, fre, fc, fr, vn, vs, qd, wst, wqu, wwe, wla, hx, hn, hd, hR, hv, hw, hs⟩ := I.o
  obtain ⟨d1, d2, d3, d4, d5, d6, d7, d8⟩ := I.dkB
  have e1 : v < 0 ↔ v.toInt < 0 := Int64.lt_iff_toInt_lt
  have e2 : v ≤ 1000000000000000 ↔ v.toInt ≤ 1000000000000000 := Int64.le_iff_toInt_le
  show Zw g (d + 3) 0 0 mX11_power 0 [some (.ref 0), some (.long v), none] [] h _
  refine x_ll1 dX11_power_0 ?_
  refine x_lconst (v := 0) dX11_power_1 rfl ?_
  refine x_lcmp (rfl) dX11_power_2 ?_
  refine x_if_lt (tgt := 14) dX11_power_3 rfl (fun q3 => ?_) (fun q3 => ?_)
  · skip
    first | (simp only [cmp_lt, cmp_gt, cmp_eq, zN_cge, zN_cle, Decidable.not_not] at q3) | (simp (disch := omega) only [zN_le, zN_lt, zN_0, zN_1, nI_toInt, zN_eq, zN_eq0, b2_z, b2_nz, Decidable.not_not, Int.not_lt, Int.not_le, zK0, zK1, zK2, zK3, zK5, zK7, zK8, zK9, zK10, zK19, zK20, zK40, zK99, zK100, zK199] at q3) | skip
    refine x_bipush (v := (-3)) dX11_power_14 rfl ?_
    refine x_iret rfl rfl dX11_power_16 ⟨_, rfl, ?_, I⟩
    rw [F_power, if_neg (by rw [e1] at q3; omega)]
  · skip
    first | (simp only [cmp_lt, cmp_gt, cmp_eq, zN_cge, zN_cle, Decidable.not_not] at q3) | (simp (disch := omega) only [zN_le, zN_lt, zN_0, zN_1, nI_toInt, zN_eq, zN_eq0, b2_z, b2_nz, Decidable.not_not, Int.not_lt, Int.not_le, zK0, zK1, zK2, zK3, zK5, zK7, zK8, zK9, zK10, zK19, zK20, zK40, zK99, zK100, zK199] at q3) | skip
    refine x_ll1 dX11_power_6 ?_
    refine x_ldc2 kcX11_279 dX11_power_7 ?_
    refine x_lcmp (rfl) dX11_power_10 ?_
    refine x_if_le (tgt := 17) dX11_power_11 rfl (fun q11 => ?_) (fun q11 => ?_)
    · skip
      first | (simp only [cmp_lt, cmp_gt, cmp_eq, zN_cge, zN_cle, Decidable.not_not] at q11) | (simp (disch := omega) only [zN_le, zN_lt, zN_0, zN_1, nI_toInt, zN_eq, zN_eq0, b2_z, b2_nz, Decidable.not_not, Int.not_lt, Int.not_le, zK0, zK1, zK2, zK3, zK5, zK7, zK8, zK9, zK10, zK19, zK20, zK40, zK99, zK100, zK199] at q11) | skip
      rw [e1] at q3
      rw [e2] at q11
      obtain ⟨K, hK, rfl⟩ : ∃ K : Nat, K ≤ 1000000000000000 ∧ v = lN K := ⟨v.toInt.toNat, by omega, Int64.toInt_inj.mp (by rw [pk_lT (by omega)]; omega)⟩
      refine x_al0 rfl dX11_power_17 ?_
      refine x_get fdX11_62 hx rfl dX11_power_18 ?_
      refine x_al0 rfl dX11_power_21 ?_
      refine x_get fdX11_27 hx rfl dX11_power_22 ?_
      refine x_get fdX11_128 hn rfl dX11_power_25 ?_
      refine x_ll1 dX11_power_28 ?_
      refine x_cv2Ip mX5_powerOf_ok lkX11_210 rfl (Nat.le_of_ble_eq_true rfl) (Nat.le_of_ble_eq_true rfl) dX11_power_29 hR  (k_powerOf I (by first | assumption | omega) (by first | assumption | omega)) (fun r h hq => ?_)
      obtain ⟨rfl, I⟩ := hq
      obtain ⟨rt, rn, rs, sw, rmv, rmk, moc, len, fre, fc, fr, vn, vs, qd, wst, wqu, wwe, wla, hx, hn, hd, hR, hv, hw, hs⟩ := I.o
      refine x_iret rfl rfl dX11_power_32 ⟨_, rfl, ?_, I⟩
      rw [F_power, if_pos (by omega), pk_lT (by omega), Int.toNat_natCast]
    · skip
      first | (simp only [cmp_lt, cmp_gt, cmp_eq, zN_cge, zN_cle, Decidable.not_not] at q11) | (simp (disch := omega) only [zN_le, zN_lt, zN_0, zN_1, nI_toInt, zN_eq, zN_eq0, b2_z, b2_nz, Decidable.not_not, Int.not_lt, Int.not_le, zK0, zK1, zK2, zK3, zK5, zK7, zK8, zK9, zK10, zK19, zK20, zK40, zK99, zK100, zK199] at q11) | skip
      refine x_bipush (v := (-3)) dX11_power_14 rfl ?_
      refine x_iret rfl rfl dX11_power_16 ⟨_, rfl, ?_, I⟩
      rw [F_power, if_neg (by rw [e2] at q11; omega)]
theorem rootB_iff {n s k q : Nat} (h0 : 0 < n) (hn : n ≤ 6) (hs : s < fct n) (hq : q < fct n) : allL (rootB n s k q) n 0 = true ↔ rnk n (nbk n s k) = q := by
  have all : ∀ m j, allL (rootB n s k q) m j = true ↔ ∀ i, j ≤ i → i < j + m → nbk n s k i = nm n q i := by
    intro m
    induction m with
    | zero => intro j; exact ⟨fun _ i h1 h2 => by omega, fun _ => rfl⟩
    | succ m ih =>
      intro j
      rw [allL, Bool.and_eq_true, ih, rootB, decide_eq_true_eq]
      constructor
      · intro z i h1 h2
        by_cases e : i = j
        · rw [e]; exact z.1
        · exact z.2 i (by omega) (by omega)
      · intro z
        exact ⟨z j (by omega) (by omega), fun i h1 h2 => z i (by omega) (by omega)⟩
  have p := perm_row h0 hn (fun j hj => nbk_lt hn hs k j hj) (fun i j hi hj z => nbk_inj hn hs k i j hi hj z)
  rw [all]
  constructor
  · intro z
    refine row_ext hn p.1 hq (fun i hi => ?_)
    rw [p.2 i hi]
    exact z i (by omega) (by omega)
  · intro z i _ hi
    rw [← z, p.2 i (by omega)]
theorem k_roots {x : Int32} (I : CI h0 h dk st un tp tr pi fl ln sb sj dr) : Zm g (d + 4) 0 0 mX11_roots [.ref 0, .int x] h (rIp (fun r h' => r = F_roots dk st x ∧ CI h0 h' dk st un tp tr pi fl ln sb sj dr)) := by
  obtain ⟨rt, rn, rs, sw, rmv, rmk, moc, len, fre, fc, fr, vn, vs, qd, wst, wqu, wwe, wla, hx, hn, hd, hR, hv, hw, hs⟩ := I.o
  obtain ⟨d1, d2, d3, d4, d5, d6, d7, d8⟩ := I.dkB
  obtain ⟨rn', rs', sw', T⟩ := I.rT
  have hf := fct_le d2
  show Zw g (d + 4) 0 0 mX11_roots 0 [some (.ref 0), some (.int x), none, none] [] h _
  refine x_il1 dX11_roots_0 ?_
  refine x_iconst (v := nI 1) dX11_roots_1 rfl ?_
  refine x_icmp_lt (tgt := 11) dX11_roots_2 rfl (fun q2 => ?_) (fun q2 => ?_)
  · skip
    first | (simp only [cmp_lt, cmp_gt, cmp_eq, zN_cge, zN_cle, Decidable.not_not] at q2) | (simp (disch := omega) only [zN_le, zN_lt, zN_0, zN_1, nI_toInt, zN_eq, zN_eq0, b2_z, b2_nz, Decidable.not_not, Int.not_lt, Int.not_le, zK0, zK1, zK2, zK3, zK5, zK7, zK8, zK9, zK10, zK19, zK20, zK40, zK99, zK100, zK199] at q2) | skip
    refine x_bipush (v := (-3)) dX11_roots_11 rfl ?_
    exact x_iret rfl rfl dX11_roots_13 ⟨_, rfl, by rw [F_roots, if_neg (by omega)], I⟩
  · skip
    first | (simp only [cmp_lt, cmp_gt, cmp_eq, zN_cge, zN_cle, Decidable.not_not] at q2) | (simp (disch := omega) only [zN_le, zN_lt, zN_0, zN_1, nI_toInt, zN_eq, zN_eq0, b2_z, b2_nz, Decidable.not_not, Int.not_lt, Int.not_le, zK0, zK1, zK2, zK3, zK5, zK7, zK8, zK9, zK10, zK19, zK20, zK40, zK99, zK100, zK199] at q2) | skip
    refine x_il1 dX11_roots_5 ?_
    refine x_bipush (v := nI 9) dX11_roots_6 rfl ?_
    refine x_icmp_le (tgt := 14) dX11_roots_8 rfl (fun q8 => ?_) (fun q8 => ?_)
    · skip
      first | (simp only [cmp_lt, cmp_gt, cmp_eq, zN_cge, zN_cle, Decidable.not_not] at q8) | (simp (disch := omega) only [zN_le, zN_lt, zN_0, zN_1, nI_toInt, zN_eq, zN_eq0, b2_z, b2_nz, Decidable.not_not, Int.not_lt, Int.not_le, zK0, zK1, zK2, zK3, zK5, zK7, zK8, zK9, zK10, zK19, zK20, zK40, zK99, zK100, zK199] at q8) | skip
      unfold F_roots
      have q14 : 1 ≤ x.toInt ∧ x.toInt ≤ 9 := by omega
      rw [if_pos q14]
      obtain ⟨k, hk1, hk2, rfl⟩ := rng_ex (a := 1) (b := 9) q14 (by decide)
      rw [show tn (nI k) = k from nI_clamp (by omega)]
      refine x_iconst (v := nI 0) dX11_roots_14 rfl ?_
      refine x_is2 rfl dX11_roots_15 ?_
      refine x_iconst (v := nI 0) dX11_roots_16 rfl ?_
      refine x_is3 rfl dX11_roots_17 ?_
      refine x_for (e := fct dk.1) (fun i => [some (.ref 0), some (.int (nI k)), some (.int (nI (cnt (fun s => decide (rnk dk.1 (nbk dk.1 s k) = st.1)) i))), some (.int (nI i))]) (fun i h' => h' = h) 0 (by omega) rfl (fun h' hI => ?_) (fun i h' hi hI ih => ?_)
      · subst hI
        refine x_il3 dX11_roots_18 ?_
        refine x_al0 rfl dX11_roots_19 ?_
        refine x_get fdX11_62 hx rfl dX11_roots_20 ?_
        refine x_get fdX11_281 hR rfl dX11_roots_23 ?_
        refine x_icmp_ge (tgt := 57) dX11_roots_26 rfl (fun q26 => ?_) (fun q26 => ?_)
        · skip
          first | (simp only [cmp_lt, cmp_gt, cmp_eq, zN_cge, zN_cle, Decidable.not_not] at q26) | (simp (disch := omega) only [zN_le, zN_lt, zN_0, zN_1, nI_toInt, zN_eq, zN_eq0, b2_z, b2_nz, Decidable.not_not, Int.not_lt, Int.not_le, zK0, zK1, zK2, zK3, zK5, zK7, zK8, zK9, zK10, zK19, zK20, zK40, zK99, zK100, zK199] at q26) | skip
          refine x_il2 dX11_roots_57 ?_
          exact x_iret rfl rfl dX11_roots_58 ⟨_, rfl, rfl, I⟩
        · skip
          first | (simp only [cmp_lt, cmp_gt, cmp_eq, zN_cge, zN_cle, Decidable.not_not] at q26) | (simp (disch := omega) only [zN_le, zN_lt, zN_0, zN_1, nI_toInt, zN_eq, zN_eq0, b2_z, b2_nz, Decidable.not_not, Int.not_lt, Int.not_le, zK0, zK1, zK2, zK3, zK5, zK7, zK8, zK9, zK10, zK19, zK20, zK40, zK99, zK100, zK199] at q26) | skip
          omega
      · subst hI
        refine x_il3 dX11_roots_18 ?_
        refine x_al0 rfl dX11_roots_19 ?_
        refine x_get fdX11_62 hx rfl dX11_roots_20 ?_
        refine x_get fdX11_281 hR rfl dX11_roots_23 ?_
        refine x_icmp_ge (tgt := 57) dX11_roots_26 rfl (fun q26 => ?_) (fun q26 => ?_)
        · skip
          first | (simp only [cmp_lt, cmp_gt, cmp_eq, zN_cge, zN_cle, Decidable.not_not] at q26) | (simp (disch := omega) only [zN_le, zN_lt, zN_0, zN_1, nI_toInt, zN_eq, zN_eq0, b2_z, b2_nz, Decidable.not_not, Int.not_lt, Int.not_le, zK0, zK1, zK2, zK3, zK5, zK7, zK8, zK9, zK10, zK19, zK20, zK40, zK99, zK100, zK199] at q26) | skip
          omega
        · skip
          first | (simp only [cmp_lt, cmp_gt, cmp_eq, zN_cge, zN_cle, Decidable.not_not] at q26) | (simp (disch := omega) only [zN_le, zN_lt, zN_0, zN_1, nI_toInt, zN_eq, zN_eq0, b2_z, b2_nz, Decidable.not_not, Int.not_lt, Int.not_le, zK0, zK1, zK2, zK3, zK5, zK7, zK8, zK9, zK10, zK19, zK20, zK40, zK99, zK100, zK199] at q26) | skip
          refine x_al0 rfl dX11_roots_29 ?_
          refine x_get fdX11_62 hx rfl dX11_roots_30 ?_
          refine x_il3 dX11_roots_33 ?_
          refine x_il1 dX11_roots_34 ?_
          refine x_al0 rfl dX11_roots_35 ?_
          refine x_get fdX11_27 hx rfl dX11_roots_36 ?_
          refine x_get fdX11_128 hn rfl dX11_roots_39 ?_
          refine x_cv3I mX5_isRoot_ok lkX11_284 rfl (Nat.le_of_ble_eq_true rfl) (Nat.le_of_ble_eq_true rfl) dX11_roots_42 hR  (c_X5_isRoot T hi d7 (by omega)) ?_
          rw [b2_congr (rootB_iff d1 d2 hi d7)]
          refine x_if_eq (tgt := 51) dX11_roots_45 rfl (fun q45 => ?_) (fun q45 => ?_)
          · skip
            first | (simp only [cmp_lt, cmp_gt, cmp_eq, zN_cge, zN_cle, Decidable.not_not] at q45) | (simp (disch := omega) only [zN_le, zN_lt, zN_0, zN_1, nI_toInt, zN_eq, zN_eq0, b2_z, b2_nz, Decidable.not_not, Int.not_lt, Int.not_le, zK0, zK1, zK2, zK3, zK5, zK7, zK8, zK9, zK10, zK19, zK20, zK40, zK99, zK100, zK199] at q45) | skip
            refine x_ii3 rfl (nI_1 _) dX11_roots_51 ?_
            refine x_goto (tgt := 18) dX11_roots_54 rfl ?_
            rw [show cnt (fun s => decide (rnk dk.1 (nbk dk.1 s k) = st.1)) i = cnt (fun s => decide (rnk dk.1 (nbk dk.1 s k) = st.1)) (i + 1) by rw [cnt, if_neg (by simpa using q45)]; rfl]
            exact ih _ rfl
          · skip
            first | (simp only [cmp_lt, cmp_gt, cmp_eq, zN_cge, zN_cle, Decidable.not_not] at q45) | (simp (disch := omega) only [zN_le, zN_lt, zN_0, zN_1, nI_toInt, zN_eq, zN_eq0, b2_z, b2_nz, Decidable.not_not, Int.not_lt, Int.not_le, zK0, zK1, zK2, zK3, zK5, zK7, zK8, zK9, zK10, zK19, zK20, zK40, zK99, zK100, zK199] at q45) | skip
            first | refine x_ii2 rfl (nI_1 _) dX11_roots_48 ?_ | refine x_ii2 rfl rfl dX11_roots_48 ?_
            refine x_ii3 rfl (nI_1 _) dX11_roots_51 ?_
            refine x_goto (tgt := 18) dX11_roots_54 rfl ?_
            rw [show cnt (fun s => decide (rnk dk.1 (nbk dk.1 s k) = st.1)) i + 1 = cnt (fun s => decide (rnk dk.1 (nbk dk.1 s k) = st.1)) (i + 1) by rw [cnt, if_pos (by simpa using q45)]]
            exact ih _ rfl
    · skip
      first | (simp only [cmp_lt, cmp_gt, cmp_eq, zN_cge, zN_cle, Decidable.not_not] at q8) | (simp (disch := omega) only [zN_le, zN_lt, zN_0, zN_1, nI_toInt, zN_eq, zN_eq0, b2_z, b2_nz, Decidable.not_not, Int.not_lt, Int.not_le, zK0, zK1, zK2, zK3, zK5, zK7, zK8, zK9, zK10, zK19, zK20, zK40, zK99, zK100, zK199] at q8) | skip
      refine x_bipush (v := (-3)) dX11_roots_11 rfl ?_
      exact x_iret rfl rfl dX11_roots_13 ⟨_, rfl, by rw [F_roots, if_neg (by omega)], I⟩
theorem k_lies {x : Int32} (I : CI h0 h dk st un tp tr pi fl ln sb sj dr) : Zm g (d + 5) 0 0 mX11_lies [.ref 0, .int x] h (rIp (fun r h' => r = F_lies dk st x ∧ CI h0 h' dk st un tp tr pi fl ln sb sj dr)) := by
  obtain ⟨rt, rn, rs, sw, rmv, rmk, moc, len, fre, fc, fr, vn, vs, qd, wst, wqu, wwe, wla, hx, hn, hd, hR, hv, hw, hs⟩ := I.o
  obtain ⟨d1, d2, d3, d4, d5, d6, d7, d8⟩ := I.dkB
  obtain ⟨rn', rs', sw', T⟩ := I.rT
  have t0 : ∀ k : Nat, k < 2 ^ 31 → (x = nI k ↔ x.toInt = (k : Int)) := fun k hk => zN_x hk
  show Zw g (d + 5) 0 0 mX11_lies 0 [some (.ref 0), some (.int x)] [] h _
  by_cases s6 : 0 ≤ x.toInt ∧ x.toInt ≤ 5
  · obtain ⟨k, -, hk, rfl⟩ := rng_ex (a := 0) (b := 5) s6 (by decide)
    refine x_il1 dX11_lies_0 ?_
    rcases (show k = 0 ∨ k = 1 ∨ k = 2 ∨ k = 3 ∨ k = 4 ∨ k = 5 by omega) with rfl | rfl | rfl | rfl | rfl | rfl
    · refine x_tabIn (tgt := 40) dX11_lies_1 (by decide) (by decide) rfl rfl ?_
      refine x_al0 rfl dX11_lies_40 ?_
      refine x_get fdX11_27 hx rfl dX11_lies_41 ?_
      refine x_get fdX11_128 hn rfl dX11_lies_44 ?_
      exact x_iret rfl rfl dX11_lies_47 ⟨_, rfl, rfl, I⟩
    · refine x_tabIn (tgt := 48) dX11_lies_1 (by decide) (by decide) rfl rfl ?_
      refine x_al0 rfl dX11_lies_48 ?_
      refine x_get fdX11_62 hx rfl dX11_lies_49 ?_
      refine x_al0 rfl dX11_lies_52 ?_
      refine x_get fdX11_27 hx rfl dX11_lies_53 ?_
      refine x_get fdX11_128 hn rfl dX11_lies_56 ?_
      refine x_cv1I mX5_roundsOf_ok lkX11_261 rfl (Nat.le_of_ble_eq_true rfl) (Nat.le_of_ble_eq_true rfl) dX11_lies_59 hR  (c_X5_roundsOf T d7) ?_
      exact x_iret rfl rfl dX11_lies_62 ⟨_, rfl, by rw [cntL_cnt]; rfl, I⟩
    · refine x_tabIn (tgt := 63) dX11_lies_1 (by decide) (by decide) rfl rfl ?_
      refine x_al0 rfl dX11_lies_63 ?_
      refine x_get fdX11_62 hx rfl dX11_lies_64 ?_
      refine x_al0 rfl dX11_lies_67 ?_
      refine x_get fdX11_27 hx rfl dX11_lies_68 ?_
      refine x_get fdX11_128 hn rfl dX11_lies_71 ?_
      refine x_cv1I mX5_longestOf_ok lkX11_264 rfl (Nat.le_of_ble_eq_true rfl) (Nat.le_of_ble_eq_true rfl) dX11_lies_74 hR  (c_X5_longestOf T d7) ?_
      exact x_iret rfl rfl dX11_lies_77 ⟨_, rfl, by have z := mxL_mx (F := fun j => popc (rb dk.1 st.1 j)) dk.1 0; rw [Nat.zero_add] at z; exact congrArg nI z, I⟩
    · refine x_tabIn (tgt := 78) dX11_lies_1 (by decide) (by decide) rfl rfl ?_
      refine x_al0 rfl dX11_lies_78 ?_
      refine x_get fdX11_62 hx rfl dX11_lies_79 ?_
      refine x_al0 rfl dX11_lies_82 ?_
      refine x_get fdX11_27 hx rfl dX11_lies_83 ?_
      refine x_get fdX11_128 hn rfl dX11_lies_86 ?_
      refine x_cv1I mX5_fixedOf_ok lkX11_267 rfl (Nat.le_of_ble_eq_true rfl) (Nat.le_of_ble_eq_true rfl) dX11_lies_89 hR  (c_X5_fixedOf T d7) ?_
      exact x_iret rfl rfl dX11_lies_92 ⟨_, rfl, by rw [cntL_cnt]; rfl, I⟩
    · refine x_tabIn (tgt := 93) dX11_lies_1 (by decide) (by decide) rfl rfl ?_
      refine x_al0 rfl dX11_lies_93 ?_
      refine x_get fdX11_62 hx rfl dX11_lies_94 ?_
      refine x_al0 rfl dX11_lies_97 ?_
      refine x_get fdX11_27 hx rfl dX11_lies_98 ?_
      refine x_get fdX11_128 hn rfl dX11_lies_101 ?_
      refine x_cv1Ip mX5_orderOf_ok lkX11_270 rfl (Nat.le_of_ble_eq_true rfl) (Nat.le_of_ble_eq_true rfl) dX11_lies_104 hR  (k_orderOf I (by first | assumption | omega)) (fun r h hq => ?_)
      obtain ⟨rfl, I⟩ := hq
      obtain ⟨rt, rn, rs, sw, rmv, rmk, moc, len, fre, fc, fr, vn, vs, qd, wst, wqu, wwe, wla, hx, hn, hd, hR, hv, hw, hs⟩ := I.o
      exact x_iret rfl rfl dX11_lies_107 ⟨_, rfl, rfl, I⟩
    · refine x_tabIn (tgt := 108) dX11_lies_1 (by decide) (by decide) rfl rfl ?_
      refine x_al0 rfl dX11_lies_108 ?_
      refine x_get fdX11_62 hx rfl dX11_lies_109 ?_
      refine x_al0 rfl dX11_lies_112 ?_
      refine x_get fdX11_27 hx rfl dX11_lies_113 ?_
      refine x_get fdX11_128 hn rfl dX11_lies_116 ?_
      refine x_cv1I mX5_inversionsOf_ok lkX11_273 rfl (Nat.le_of_ble_eq_true rfl) (Nat.le_of_ble_eq_true rfl) dX11_lies_119 hR  (c_X5_inversionsOf T d7) ?_
      exact x_iret rfl rfl dX11_lies_122 ⟨_, rfl, by have z := invL_iv (n := dk.1) (s := st.1) dk.1 0; rw [Nat.zero_add] at z; exact congrArg nI z, I⟩
  · refine x_il1 dX11_lies_0 ?_
    refine x_tabOut (tgt := 123) dX11_lies_1 (by omega) rfl ?_
    refine x_bipush (v := (-2)) dX11_lies_123 rfl ?_
    refine x_iret rfl rfl dX11_lies_125 ⟨_, rfl, ?_, I⟩
    have t1 : ∀ k : Nat, k ≤ 5 → ¬ x = nI k := fun k hk z => s6 (by rw [t0 k (by omega)] at z; omega)
    rw [F_lies, if_neg (show ¬ x = 0 from t1 0 (by decide)), if_neg (t1 1 (by decide)), if_neg (t1 2 (by decide)), if_neg (t1 3 (by decide)), if_neg (t1 4 (by decide)), if_neg (t1 5 (by decide))]
theorem k_boundedBy {i k : Nat} {f : Nat → Int64} (hx : ∃ tl rt ud, h[0]? = some (xE tl rt ud dr)) (hb : h[33]? = some (lnA 21 f)) (hi : i < 20) (hk : k ≤ 20) : Zm g (d + 1) 0 0 mX11_boundedBy [.ref 0, .int (nI (i + 1)), .int (nI k)] h (rL (bs f (i + 1) (min k (i + 1))).1 h) := by
  obtain ⟨tl, rt, ud, hx⟩ := hx
  show Zw g (d + 1) 0 0 mX11_boundedBy 0 [some (.ref 0), some (.int (nI (i + 1))), some (.int (nI k)), none, none, none, none, none] [] h _
  refine x_lconst (v := 0) dX11_boundedBy_0 rfl ?_
  refine x_ls3 rfl dX11_boundedBy_1 ?_
  refine x_lconst (v := 1) dX11_boundedBy_2 rfl ?_
  refine x_ls5 rfl dX11_boundedBy_3 ?_
  refine x_iconst (v := nI 1) dX11_boundedBy_5 rfl ?_
  refine x_is7 rfl dX11_boundedBy_6 ?_
  refine x_wh (fun (m : Nat) => [some (.ref 0), some (.int (nI (i + 1))), some (.int (nI k)), some (.long (bs f (i + 1) m).1), none, some (.long (bs f (i + 1) m).2), none, some (.int (nI (m + 1)))]) (fun m h' => m ≤ min k (i + 1) ∧ h' = h) (fun m => 50 - m) 0 ⟨Nat.zero_le _, rfl⟩ (fun m h' hI ih => ?_)
  obtain ⟨hm, rfl⟩ := hI
  refine x_il7 dX11_boundedBy_8 ?_
  refine x_il1 dX11_boundedBy_10 ?_
  refine x_icmp_gt (tgt := 51) dX11_boundedBy_11 rfl (fun q11 => ?_) (fun q11 => ?_)
  · skip
    first | (simp only [cmp_lt, cmp_gt, cmp_eq, zN_cge, zN_cle, Decidable.not_not] at q11) | (simp (disch := omega) only [zN_le, zN_lt, zN_0, zN_1, nI_toInt, zN_eq, zN_eq0, b2_z, b2_nz, Decidable.not_not, Int.not_lt, Int.not_le, zK0, zK1, zK2, zK3, zK5, zK7, zK8, zK9, zK10, zK19, zK20, zK40, zK99, zK100, zK199] at q11) | skip
    refine x_ll3 dX11_boundedBy_51 ?_
    exact x_lret rfl dX11_boundedBy_52 ⟨by rw [show m = min k (i + 1) by omega], rfl⟩
  · skip
    first | (simp only [cmp_lt, cmp_gt, cmp_eq, zN_cge, zN_cle, Decidable.not_not] at q11) | (simp (disch := omega) only [zN_le, zN_lt, zN_0, zN_1, nI_toInt, zN_eq, zN_eq0, b2_z, b2_nz, Decidable.not_not, Int.not_lt, Int.not_le, zK0, zK1, zK2, zK3, zK5, zK7, zK8, zK9, zK10, zK19, zK20, zK40, zK99, zK100, zK199] at q11) | skip
    refine x_il7 dX11_boundedBy_14 ?_
    refine x_il2 dX11_boundedBy_16 ?_
    refine x_icmp_gt (tgt := 51) dX11_boundedBy_17 rfl (fun q17 => ?_) (fun q17 => ?_)
    · skip
      first | (simp only [cmp_lt, cmp_gt, cmp_eq, zN_cge, zN_cle, Decidable.not_not] at q17) | (simp (disch := omega) only [zN_le, zN_lt, zN_0, zN_1, nI_toInt, zN_eq, zN_eq0, b2_z, b2_nz, Decidable.not_not, Int.not_lt, Int.not_le, zK0, zK1, zK2, zK3, zK5, zK7, zK8, zK9, zK10, zK19, zK20, zK40, zK99, zK100, zK199] at q17) | skip
      refine x_ll3 dX11_boundedBy_51 ?_
      exact x_lret rfl dX11_boundedBy_52 ⟨by rw [show m = min k (i + 1) by omega], rfl⟩
    · skip
      first | (simp only [cmp_lt, cmp_gt, cmp_eq, zN_cge, zN_cle, Decidable.not_not] at q17) | (simp (disch := omega) only [zN_le, zN_lt, zN_0, zN_1, nI_toInt, zN_eq, zN_eq0, b2_z, b2_nz, Decidable.not_not, Int.not_lt, Int.not_le, zK0, zK1, zK2, zK3, zK5, zK7, zK8, zK9, zK10, zK19, zK20, zK40, zK99, zK100, zK199] at q17) | skip
      refine x_ll3 dX11_boundedBy_20 ?_
      refine x_ll5 dX11_boundedBy_21 ?_
      refine x_al0 rfl dX11_boundedBy_23 ?_
      refine x_get fdX11_95 hx rfl dX11_boundedBy_24 ?_
      refine x_il1 dX11_boundedBy_27 ?_
      refine x_il7 dX11_boundedBy_28 ?_
      refine x_isub (pk_sub (by omega)) dX11_boundedBy_30 ?_
      refine x_lald hb (vp_in_nI (by omega) (by decide)) (ald rfl (by omega)) dX11_boundedBy_31 ?_
      refine x_lmul (rfl) dX11_boundedBy_32 ?_
      refine x_ladd (rfl) dX11_boundedBy_33 ?_
      refine x_ls3 rfl dX11_boundedBy_34 ?_
      refine x_ll5 dX11_boundedBy_35 ?_
      refine x_il1 dX11_boundedBy_37 ?_
      refine x_il7 dX11_boundedBy_38 ?_
      refine x_isub (pk_sub (by omega)) dX11_boundedBy_40 ?_
      refine x_i2l (rfl) dX11_boundedBy_41 ?_
      refine x_lmul (rfl) dX11_boundedBy_42 ?_
      refine x_ls5 rfl dX11_boundedBy_43 ?_
      first | refine x_ii7 rfl (nI_1 _) dX11_boundedBy_45 ?_ | refine x_ii7 rfl rfl dX11_boundedBy_45 ?_
      refine x_goto (tgt := 8) dX11_boundedBy_48 rfl ?_
      exact ih (m + 1) _ (by omega) ⟨by omega, rfl⟩
theorem k_bounded {x y : Int32} (I : CI h0 h dk st un tp tr pi fl ln sb sj dr) : Zm g (d + 3) 0 0 mX11_bounded [.ref 0, .int x, .int y] h (rLp (fun r h' => r = F_bounded x y ∧ CI h0 h' dk st un tp tr pi fl ln sb sj dr)) := by
  obtain ⟨rt, rn, rs, sw, rmv, rmk, moc, len, fre, fc, fr, vn, vs, qd, wst, wqu, wwe, wla, hx, hn, hd, hR, hv, hw, hs⟩ := I.o
  obtain ⟨f0, hb⟩ := I.i33
  show Zw g (d + 3) 0 0 mX11_bounded 0 [some (.ref 0), some (.int x), some (.int y), none] [] h _
  refine x_il1 dX11_bounded_0 ?_
  refine x_iconst (v := nI 1) dX11_bounded_1 rfl ?_
  refine x_icmp_lt (tgt := 22) dX11_bounded_2 rfl (fun q2 => ?_) (fun q2 => ?_)
  · skip
    first | (simp only [cmp_lt, cmp_gt, cmp_eq, zN_cge, zN_cle, Decidable.not_not] at q2) | (simp (disch := omega) only [zN_le, zN_lt, zN_0, zN_1, nI_toInt, zN_eq, zN_eq0, b2_z, b2_nz, Decidable.not_not, Int.not_lt, Int.not_le, zK0, zK1, zK2, zK3, zK5, zK7, zK8, zK9, zK10, zK19, zK20, zK40, zK99, zK100, zK199] at q2) | skip
    refine x_ldc2 kcX11_288 dX11_bounded_22 ?_
    exact x_lret rfl dX11_bounded_25 ⟨_, rfl, by rw [F_bounded, if_neg (by omega)], I⟩
  · skip
    first | (simp only [cmp_lt, cmp_gt, cmp_eq, zN_cge, zN_cle, Decidable.not_not] at q2) | (simp (disch := omega) only [zN_le, zN_lt, zN_0, zN_1, nI_toInt, zN_eq, zN_eq0, b2_z, b2_nz, Decidable.not_not, Int.not_lt, Int.not_le, zK0, zK1, zK2, zK3, zK5, zK7, zK8, zK9, zK10, zK19, zK20, zK40, zK99, zK100, zK199] at q2) | skip
    refine x_il1 dX11_bounded_5 ?_
    refine x_bipush (v := nI 20) dX11_bounded_6 rfl ?_
    refine x_icmp_gt (tgt := 22) dX11_bounded_8 rfl (fun q8 => ?_) (fun q8 => ?_)
    · skip
      first | (simp only [cmp_lt, cmp_gt, cmp_eq, zN_cge, zN_cle, Decidable.not_not] at q8) | (simp (disch := omega) only [zN_le, zN_lt, zN_0, zN_1, nI_toInt, zN_eq, zN_eq0, b2_z, b2_nz, Decidable.not_not, Int.not_lt, Int.not_le, zK0, zK1, zK2, zK3, zK5, zK7, zK8, zK9, zK10, zK19, zK20, zK40, zK99, zK100, zK199] at q8) | skip
      refine x_ldc2 kcX11_288 dX11_bounded_22 ?_
      exact x_lret rfl dX11_bounded_25 ⟨_, rfl, by rw [F_bounded, if_neg (by omega)], I⟩
    · skip
      first | (simp only [cmp_lt, cmp_gt, cmp_eq, zN_cge, zN_cle, Decidable.not_not] at q8) | (simp (disch := omega) only [zN_le, zN_lt, zN_0, zN_1, nI_toInt, zN_eq, zN_eq0, b2_z, b2_nz, Decidable.not_not, Int.not_lt, Int.not_le, zK0, zK1, zK2, zK3, zK5, zK7, zK8, zK9, zK10, zK19, zK20, zK40, zK99, zK100, zK199] at q8) | skip
      refine x_il2 dX11_bounded_11 ?_
      refine x_iconst (v := nI 1) dX11_bounded_12 rfl ?_
      refine x_icmp_lt (tgt := 22) dX11_bounded_13 rfl (fun q13 => ?_) (fun q13 => ?_)
      · skip
        first | (simp only [cmp_lt, cmp_gt, cmp_eq, zN_cge, zN_cle, Decidable.not_not] at q13) | (simp (disch := omega) only [zN_le, zN_lt, zN_0, zN_1, nI_toInt, zN_eq, zN_eq0, b2_z, b2_nz, Decidable.not_not, Int.not_lt, Int.not_le, zK0, zK1, zK2, zK3, zK5, zK7, zK8, zK9, zK10, zK19, zK20, zK40, zK99, zK100, zK199] at q13) | skip
        refine x_ldc2 kcX11_288 dX11_bounded_22 ?_
        exact x_lret rfl dX11_bounded_25 ⟨_, rfl, by rw [F_bounded, if_neg (by omega)], I⟩
      · skip
        first | (simp only [cmp_lt, cmp_gt, cmp_eq, zN_cge, zN_cle, Decidable.not_not] at q13) | (simp (disch := omega) only [zN_le, zN_lt, zN_0, zN_1, nI_toInt, zN_eq, zN_eq0, b2_z, b2_nz, Decidable.not_not, Int.not_lt, Int.not_le, zK0, zK1, zK2, zK3, zK5, zK7, zK8, zK9, zK10, zK19, zK20, zK40, zK99, zK100, zK199] at q13) | skip
        refine x_il2 dX11_bounded_16 ?_
        refine x_bipush (v := nI 20) dX11_bounded_17 rfl ?_
        refine x_icmp_le (tgt := 26) dX11_bounded_19 rfl (fun q19 => ?_) (fun q19 => ?_)
        · skip
          first | (simp only [cmp_lt, cmp_gt, cmp_eq, zN_cge, zN_cle, Decidable.not_not] at q19) | (simp (disch := omega) only [zN_le, zN_lt, zN_0, zN_1, nI_toInt, zN_eq, zN_eq0, b2_z, b2_nz, Decidable.not_not, Int.not_lt, Int.not_le, zK0, zK1, zK2, zK3, zK5, zK7, zK8, zK9, zK10, zK19, zK20, zK40, zK99, zK100, zK199] at q19) | skip
          unfold F_bounded
          have qx : 1 ≤ x.toInt ∧ x.toInt ≤ 20 := by omega
          have qy : 1 ≤ y.toInt ∧ y.toInt ≤ 20 := by omega
          rw [if_pos ⟨qx, qy⟩]
          obtain ⟨n, hn1, hn2, rfl⟩ := rng_ex (a := 1) (b := 20) qx (by decide)
          obtain ⟨k, hk1, hk2, rfl⟩ := rng_ex (a := 1) (b := 20) qy (by decide)
          rw [show tn (nI n) = n from nI_clamp (by omega), show tn (nI k) = k from nI_clamp (by omega)]
          refine x_al0 rfl dX11_bounded_26 ?_
          refine x_get fdX11_95 hx rfl dX11_bounded_27 ?_
          refine x_iconst (v := nI 0) dX11_bounded_30 rfl ?_
          refine x_lconst (v := 1) dX11_bounded_31 rfl ?_
          refine x_last hb (vp_in_nI (by decide) (by decide)) dX11_bounded_32 ?_
          replace I := I.s33 (f := vp_updL f0 0 1)
          refine x_iconst (v := nI 1) dX11_bounded_33 rfl ?_
          refine x_is3 rfl dX11_bounded_34 ?_
          refine x_wh (fun (i : Nat) => [some (.ref 0), some (.int (nI n)), some (.int (nI k)), some (.int (nI (i + 1)))]) (fun i h => i ≤ n ∧ CI h0 h dk st un tp tr pi fl ln sb sj dr ∧ ∃ f, h[33]? = some (lnA 21 f) ∧ ∀ j, j ≤ i → f j = tbl k i j) (fun i => n - i) 0 ⟨Nat.zero_le _, I, _, hs_eq hb, fun j hj => by obtain rfl : j = 0 := Nat.le_zero.mp hj; rfl⟩ (fun i h hI ih => ?_)
          obtain ⟨hi, I, f, hb, hf⟩ := hI
          obtain ⟨rt, rn, rs, sw, rmv, rmk, moc, len, fre, fc, fr, vn, vs, qd, wst, wqu, wwe, wla, hx, hn, hd, hR, hv, hw, hs⟩ := I.o
          refine x_il3 dX11_bounded_35 ?_
          refine x_il1 dX11_bounded_36 ?_
          refine x_icmp_gt (tgt := 58) dX11_bounded_37 rfl (fun q37 => ?_) (fun q37 => ?_)
          · skip
            first | (simp only [cmp_lt, cmp_gt, cmp_eq, zN_cge, zN_cle, Decidable.not_not] at q37) | (simp (disch := omega) only [zN_le, zN_lt, zN_0, zN_1, nI_toInt, zN_eq, zN_eq0, b2_z, b2_nz, Decidable.not_not, Int.not_lt, Int.not_le, zK0, zK1, zK2, zK3, zK5, zK7, zK8, zK9, zK10, zK19, zK20, zK40, zK99, zK100, zK199] at q37) | skip
            have : i = n := by omega
            subst this
            refine x_al0 rfl dX11_bounded_58 ?_
            refine x_get fdX11_95 hx rfl dX11_bounded_59 ?_
            refine x_il1 dX11_bounded_62 ?_
            refine x_lald hb (vp_in_nI (by omega) (by decide)) (ald (hf i (Nat.le_refl _)) (by omega)) dX11_bounded_63 ?_
            exact x_lret rfl dX11_bounded_64 ⟨_, rfl, rfl, I⟩
          · skip
            first | (simp only [cmp_lt, cmp_gt, cmp_eq, zN_cge, zN_cle, Decidable.not_not] at q37) | (simp (disch := omega) only [zN_le, zN_lt, zN_0, zN_1, nI_toInt, zN_eq, zN_eq0, b2_z, b2_nz, Decidable.not_not, Int.not_lt, Int.not_le, zK0, zK1, zK2, zK3, zK5, zK7, zK8, zK9, zK10, zK19, zK20, zK40, zK99, zK100, zK199] at q37) | skip
            refine x_al0 rfl dX11_bounded_40 ?_
            refine x_get fdX11_95 hx rfl dX11_bounded_41 ?_
            refine x_il3 dX11_bounded_44 ?_
            refine x_al0 rfl dX11_bounded_45 ?_
            refine x_il3 dX11_bounded_46 ?_
            refine x_il2 dX11_bounded_47 ?_
            refine x_cv2L mX11_boundedBy_ok lkX11_290 rfl (Nat.le_of_ble_eq_true rfl) (Nat.le_of_ble_eq_true rfl) dX11_bounded_48 hx  (k_boundedBy ⟨_, _, _, hx⟩ hb (by omega) (by omega)) ?_
            refine x_last hb (vp_in_nI (by omega) (by decide)) dX11_bounded_51 ?_
            rw [nI_clamp (by omega)]
            first | refine x_ii3 rfl (nI_1 _) dX11_bounded_52 ?_ | refine x_ii3 rfl rfl dX11_bounded_52 ?_
            refine x_goto (tgt := 35) dX11_bounded_55 rfl ?_
            refine ih (i + 1) _ (by omega) ⟨by omega, I.s33, _, hs_eq hb, fun j hj => ?_⟩
            unfold vp_updL tbl
            by_cases z : j = i + 1
            · rw [if_pos z, if_pos z, bs_congr (fun j hj => hf j (by omega)) (by omega)]
            · rw [if_neg z, if_neg z]
              exact hf j (by omega)
        · skip
          first | (simp only [cmp_lt, cmp_gt, cmp_eq, zN_cge, zN_cle, Decidable.not_not] at q19) | (simp (disch := omega) only [zN_le, zN_lt, zN_0, zN_1, nI_toInt, zN_eq, zN_eq0, b2_z, b2_nz, Decidable.not_not, Int.not_lt, Int.not_le, zK0, zK1, zK2, zK3, zK5, zK7, zK8, zK9, zK10, zK19, zK20, zK40, zK99, zK100, zK199] at q19) | skip
          refine x_ldc2 kcX11_288 dX11_bounded_22 ?_
          exact x_lret rfl dX11_bounded_25 ⟨_, rfl, by rw [F_bounded, if_neg (by omega)], I⟩
end ZCr

