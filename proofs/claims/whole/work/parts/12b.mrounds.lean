/-! the model's round, power, roots, lies, bounded -/
theorem rb_shift {u k : Nat} (hu : u < 64) (hk : k < 6) : (nI u >>> (nI k &&& 31)) <<< (nI k &&& 31) = nI (u / 2 ^ k * 2 ^ k) := by
  have : ∀ u, u < 64 → ∀ k, k < 6 → (nI u >>> (nI k &&& 31)) <<< (nI k &&& 31) = nI (u / 2 ^ k * 2 ^ k) := by decide +kernel
  exact this u hu k hk
theorem tz_shift {u k : Nat} (hu : u < 64) (hk : k < 6) (hb : u / 2 ^ k % 2 = 1) : u / 2 ^ k * 2 ^ k = u ↔ tz u = k := by
  have : ∀ u, u < 64 → ∀ k, k < 6 → u / 2 ^ k % 2 = 1 → decide (u / 2 ^ k * 2 ^ k = u) = decide (tz u = k) := by decide +kernel
  have z := this u hu k hk hb
  exact ⟨fun q => of_decide_eq_true (z ▸ decide_eq_true q), fun q => of_decide_eq_true (z.symm ▸ decide_eq_true q)⟩
def rbB (n s : Nat) : Bool := (List.range n).all (fun j => decide (rb n s j / 2 ^ j % 2 = 1))
theorem rbB_all : ∀ n, n < 7 → ∀ s, s < fct n → rbB n s = true := by decide +kernel
theorem rb_bit {n s j : Nat} (hn : n ≤ 6) (hs : s < fct n) (hj : j < n) : rb n s j / 2 ^ j % 2 = 1 := by
  have h := rbB_all n (by omega) s hs
  unfold rbB at h
  simp only [decide_eq_true_eq, List.all_eq_true, List.mem_range] at h
  exact h j hj
theorem mx_le {F : Nat → Nat} {b : Nat} (h : ∀ j, F j ≤ b) : ∀ k, mx F k ≤ b := by
  intro k
  induction k with
  | zero => exact Nat.zero_le _
  | succ k ih => exact Nat.max_le.mpr ⟨ih, h k⟩
theorem iv_le {n s : Nat} : ∀ k, iv n s k ≤ n * k := by
  intro k
  induction k with
  | zero => exact Nat.zero_le _
  | succ k ih =>
    have := cntL_le (P := fun e => decide (nm n s e < nm n s k)) (n - (k + 1)) (k + 1)
    rw [iv, Nat.mul_succ]
    omega
section ZMr
variable {g : zG} {d : Nat} {h0 h : zH} {s : Nat → Value} {M : Nat → Nat → Int32} {L : Nat → Nat → Int64} {dk : zDk} {st : zSt} {un : List zSt} {tp : List Nat} {tr : Nat → zTr} {pi : Nat → zPi} {fl : Nat × Nat}
theorem w_round {x y : Int32} (I : MI h0 h dk st un tp tr pi fl) : Zm g (d + 3) 0 0 mX12_round [.ref 59, .int x, .int y] h (rIp (fun r h' => r = F_round dk st x y ∧ MI h0 h' dk st un tp tr pi fl)) := by
  obtain ⟨s, M, L, W, J⟩ := I
  obtain ⟨D, hn0, hn6, ho0, ho9, hng, hli, e0, e1, e2, m1, m2, m3, m4, m5, u1, u2, t1, t2, r1, hf⟩ := MJ.o J
  have e2 : oneOf y 2 ↔ 0 ≤ y.toInt ∧ y.toInt ≤ 1 := by
    unfold oneOf
    omega
  show Zw g (d + 3) 0 0 mX12_round 0 [some (.ref 59), some (.int x), some (.int y), none] [] h _
  refine x_al0 rfl dX12_round_0 ?_
  refine x_iconst (v := nI 0) dX12_round_1 rfl ?_
  refine x_mpfJ W J fdX12_1 (by decide) rfl rfl zf_i dX12_round_2 (fun h W J => ?_)
  refine x_al0 rfl dX12_round_5 ?_
  refine x_il1 dX12_round_6 ?_
  refine x_i2l (rfl) dX12_round_7 ?_
  refine x_cv1I mX12_isDrawer_ok lkX12_261 rfl (Nat.le_of_ble_eq_true rfl) (Nat.le_of_ble_eq_true rfl) dX12_round_8 W.hM  (j_isDrawer W J) ?_
  refine x_if_eq (tgt := 24) dX12_round_11 rfl (fun q11 => ?_) (fun q11 => ?_)
  · skip
    first | (simp only [cmp_lt, cmp_gt, cmp_eq, zN_cge, zN_cle, Decidable.not_not] at q11) | (simp (disch := omega) only [zN_le, zN_lt, zN_0, zN_1, nI_toInt, zN_eq, zN_eq0, b2_z, b2_nz, Decidable.not_not, Int.not_lt, Int.not_le, zK0, zK1, zK2, zK3, zK5, zK7, zK8, zK9, zK10, zK19, zK20, zK40, zK99, zK100, zK199] at q11) | skip
    refine x_bipush (v := (-2)) dX12_round_24 rfl ?_
    refine x_iret rfl rfl dX12_round_26 ⟨_, rfl, ?_, _, _, _, W, J⟩
    rw [F_round, if_neg (fun z => q11 z.1)]
  · skip
    first | (simp only [cmp_lt, cmp_gt, cmp_eq, zN_cge, zN_cle, Decidable.not_not] at q11) | (simp (disch := omega) only [zN_le, zN_lt, zN_0, zN_1, nI_toInt, zN_eq, zN_eq0, b2_z, b2_nz, Decidable.not_not, Int.not_lt, Int.not_le, zK0, zK1, zK2, zK3, zK5, zK7, zK8, zK9, zK10, zK19, zK20, zK40, zK99, zK100, zK199] at q11) | skip
    refine x_il2 dX12_round_14 ?_
    refine x_i2l (rfl) dX12_round_15 ?_
    refine x_lconst (v := 0) dX12_round_16 rfl ?_
    refine x_lconst (v := 1) dX12_round_17 rfl ?_
    refine x_cs3I mX12_within_ok lkX12_157 (Nat.le_of_ble_eq_true rfl) (Nat.le_of_ble_eq_true rfl) dX12_round_18 j_within ?_
    refine x_if_ne (tgt := 27) dX12_round_21 rfl (fun q21 => ?_) (fun q21 => ?_)
    · skip
      first | (simp only [cmp_lt, cmp_gt, cmp_eq, zN_cge, zN_cle, Decidable.not_not] at q21) | (simp (disch := omega) only [zN_le, zN_lt, zN_0, zN_1, nI_toInt, zN_eq, zN_eq0, b2_z, b2_nz, Decidable.not_not, Int.not_lt, Int.not_le, zK0, zK1, zK2, zK3, zK5, zK7, zK8, zK9, zK10, zK19, zK20, zK40, zK99, zK100, zK199] at q21) | skip
      unfold F_round
      rw [if_pos ⟨q11, e2.mpr q21⟩]
      obtain ⟨k, hk, rfl⟩ := oneOf_ex q11
      rw [show tn (nI k) = k from nI_clamp (by omega)]
      have rf := rb_facts hn6 m4 hk
      refine x_al0 rfl dX12_round_27 ?_
      refine x_al0 rfl dX12_round_28 ?_
      refine x_gm fdX12_13 W.hM (by decide) W.hF.f1 dX12_round_29 ?_
      refine x_bipush (v := nI 21) dX12_round_32 rfl ?_
      refine x_mld (len := 2868) W rfl rfl (by decide) (by omega) (by first | assumption | rfl) dX12_round_34 ?_
      refine x_il1 dX12_round_35 ?_
      refine x_cv2I mX12_roundOf_ok lkX12_338 rfl (Nat.le_of_ble_eq_true rfl) (Nat.le_of_ble_eq_true rfl) dX12_round_36 W.hM  (m_roundOf (W.mt J.1) m4 hk) ?_
      refine x_is3 rfl dX12_round_39 ?_
      refine x_il2 dX12_round_40 ?_
      refine x_if_ne (tgt := 51) dX12_round_41 rfl (fun q41 => ?_) (fun q41 => ?_)
      · skip
        first | (simp only [cmp_lt, cmp_gt, cmp_eq, zN_cge, zN_cle, Decidable.not_not] at q41) | (simp (disch := omega) only [zN_le, zN_lt, zN_0, zN_1, nI_toInt, zN_eq, zN_eq0, b2_z, b2_nz, Decidable.not_not, Int.not_lt, Int.not_le, zK0, zK1, zK2, zK3, zK5, zK7, zK8, zK9, zK10, zK19, zK20, zK40, zK99, zK100, zK199] at q41) | skip
        refine x_il3 dX12_round_51 ?_
        refine x_iret rfl rfl dX12_round_52 ⟨_, rfl, ?_, _, _, _, W, J⟩
        rw [if_neg q41]
      · skip
        first | (simp only [cmp_lt, cmp_gt, cmp_eq, zN_cge, zN_cle, Decidable.not_not] at q41) | (simp (disch := omega) only [zN_le, zN_lt, zN_0, zN_1, nI_toInt, zN_eq, zN_eq0, b2_z, b2_nz, Decidable.not_not, Int.not_lt, Int.not_le, zK0, zK1, zK2, zK3, zK5, zK7, zK8, zK9, zK10, zK19, zK20, zK40, zK99, zK100, zK199] at q41) | skip
        refine x_il3 dX12_round_44 ?_
        refine x_cs1I mX12_bitsOf_ok lkX12_284 (Nat.le_of_ble_eq_true rfl) (Nat.le_of_ble_eq_true rfl) dX12_round_45 (m_bitsOf rf.2.1) ?_
        refine x_goto (tgt := 52) dX12_round_48 rfl ?_
        refine x_iret rfl rfl dX12_round_52 ⟨_, rfl, ?_, _, _, _, W, J⟩
        rw [if_pos q41]
    · skip
      first | (simp only [cmp_lt, cmp_gt, cmp_eq, zN_cge, zN_cle, Decidable.not_not] at q21) | (simp (disch := omega) only [zN_le, zN_lt, zN_0, zN_1, nI_toInt, zN_eq, zN_eq0, b2_z, b2_nz, Decidable.not_not, Int.not_lt, Int.not_le, zK0, zK1, zK2, zK3, zK5, zK7, zK8, zK9, zK10, zK19, zK20, zK40, zK99, zK100, zK199] at q21) | skip
      refine x_bipush (v := (-2)) dX12_round_24 rfl ?_
      refine x_iret rfl rfl dX12_round_26 ⟨_, rfl, ?_, _, _, _, W, J⟩
      rw [F_round, if_neg (fun z => q21 (e2.mp z.2))]
theorem w_power {v : Int64} (I : MI h0 h dk st un tp tr pi fl) : Zm g (d + 9) 0 0 mX12_power [.ref 59, .long v] h (rIp (fun r h' => r = F_power dk st v ∧ MI h0 h' dk st un tp tr pi fl)) := by
  obtain ⟨s, M, L, W, J⟩ := I
  obtain ⟨D, hn0, hn6, ho0, ho9, hng, hli, e0, e1, e2, m1, m2, m3, m4, m5, u1, u2, t1, t2, r1, hf⟩ := MJ.o J
  have e2 : (0 : Int64) ≤ v ∧ v ≤ 1000000000000000 ↔ 0 ≤ v.toInt ∧ v.toInt ≤ 1000000000000000 := by
    rw [Int64.le_iff_toInt_le, Int64.le_iff_toInt_le]; exact Iff.rfl
  show Zw g (d + 9) 0 0 mX12_power 0 [some (.ref 59), some (.long v), none] [] h _
  refine x_al0 rfl dX12_power_0 ?_
  refine x_iconst (v := nI 0) dX12_power_1 rfl ?_
  refine x_mpfJ W J fdX12_1 (by decide) rfl rfl zf_i dX12_power_2 (fun h W J => ?_)
  refine x_ll1 dX12_power_5 ?_
  refine x_lconst (v := 0) dX12_power_6 rfl ?_
  refine x_ldc2 kcX12_346 dX12_power_7 ?_
  refine x_cs3I mX12_within_ok lkX12_157 (Nat.le_of_ble_eq_true rfl) (Nat.le_of_ble_eq_true rfl) dX12_power_10 c_X12_within ?_
  refine x_if_eq (tgt := 45) dX12_power_13 rfl (fun q13 => ?_) (fun q13 => ?_)
  · skip
    first | (simp only [cmp_lt, cmp_gt, cmp_eq, zN_cge, zN_cle, Decidable.not_not] at q13) | (simp (disch := omega) only [zN_le, zN_lt, zN_0, zN_1, nI_toInt, zN_eq, zN_eq0, b2_z, b2_nz, Decidable.not_not, Int.not_lt, Int.not_le, zK0, zK1, zK2, zK3, zK5, zK7, zK8, zK9, zK10, zK19, zK20, zK40, zK99, zK100, zK199] at q13) | skip
    refine x_bipush (v := (-3)) dX12_power_45 rfl ?_
    refine x_iret rfl rfl dX12_power_47 ⟨_, rfl, ?_, _, _, _, W, J⟩
    rw [F_power, if_neg (fun z => q13 (e2.mpr z))]
  · skip
    first | (simp only [cmp_lt, cmp_gt, cmp_eq, zN_cge, zN_cle, Decidable.not_not] at q13) | (simp (disch := omega) only [zN_le, zN_lt, zN_0, zN_1, nI_toInt, zN_eq, zN_eq0, b2_z, b2_nz, Decidable.not_not, Int.not_lt, Int.not_le, zK0, zK1, zK2, zK3, zK5, zK7, zK8, zK9, zK10, zK19, zK20, zK40, zK99, zK100, zK199] at q13) | skip
    rw [e2] at q13
    obtain ⟨K, hK, rfl⟩ : ∃ K : Nat, K ≤ 1000000000000000 ∧ v = lN K := ⟨v.toInt.toNat, by omega, Int64.toInt_inj.mp (by rw [pk_lT (by omega)]; omega)⟩
    have of := rnd_facts hn6 m4
    refine x_al0 rfl dX12_power_16 ?_
    refine x_al0 rfl dX12_power_17 ?_
    refine x_gm fdX12_13 W.hM (by decide) W.hF.f1 dX12_power_18 ?_
    refine x_bipush (v := nI 21) dX12_power_21 rfl ?_
    refine x_mld (len := 2868) W rfl rfl (by decide) (by omega) (by first | assumption | rfl) dX12_power_23 ?_
    refine x_ll1 dX12_power_24 ?_
    refine x_al0 rfl dX12_power_25 ?_
    refine x_al0 rfl dX12_power_26 ?_
    refine x_gm fdX12_13 W.hM (by decide) W.hF.f1 dX12_power_27 ?_
    refine x_bipush (v := nI 21) dX12_power_30 rfl ?_
    refine x_mld (len := 2868) W rfl rfl (by decide) (by omega) (by first | assumption | rfl) dX12_power_32 ?_
    refine x_cv1I mX12_orderOf_ok lkX12_343 rfl (Nat.le_of_ble_eq_true rfl) (Nat.le_of_ble_eq_true rfl) dX12_power_33 W.hM  (m_orderOf (W.mt J.1) m4) ?_
    refine x_i2l (nI_l (by omega)) dX12_power_36 ?_
    refine x_lrem (by rw [show (0 : Int64) = lN 0 from rfl, lN_eq (by omega) (by omega)]; omega) (pk_lRem (by omega) (by omega) (by omega)) dX12_power_37 ?_
    refine x_l2i (lN_i _) dX12_power_38 ?_
    have lt := Nat.mod_lt K of.2.2.1
    refine x_cv2Ip mX12_powerOf_ok lkX12_348 rfl (Nat.le_of_ble_eq_true rfl) (Nat.le_of_ble_eq_true rfl) dX12_power_39 W.hM  (j_powerOf W J (by first | assumption | omega) (by first | assumption | omega)) (fun r h hq => ?_)
    obtain ⟨rfl, s, M, L, W, J, U⟩ := hq
    obtain ⟨D, hn0, hn6, ho0, ho9, hng, hli, e0, e1, e2, m1, m2, m3, m4, m5, u1, u2, t1, t2, r1, hf⟩ := MJ.o J
    refine x_goto (tgt := 47) dX12_power_42 rfl ?_
    refine x_iret rfl rfl dX12_power_47 ⟨_, rfl, ?_, _, _, _, W, J⟩
    rw [F_power, if_pos q13, pk_lT (by omega), Int.toNat_natCast]
    exact congrArg nI (rnk_congr (fun j hj => pwk_ord hn6 m4 hj))
theorem w_roots {x : Int32} (I : MI h0 h dk st un tp tr pi fl) : Zm g (d + 3) 0 0 mX12_roots [.ref 59, .int x] h (rIp (fun r h' => r = F_roots dk st x ∧ MI h0 h' dk st un tp tr pi fl)) := by
  obtain ⟨s, M, L, W, J⟩ := I
  obtain ⟨D, hn0, hn6, ho0, ho9, hng, hli, e0, e1, e2, m1, m2, m3, m4, m5, u1, u2, t1, t2, r1, hf⟩ := MJ.o J
  show Zw g (d + 3) 0 0 mX12_roots 0 [some (.ref 59), some (.int x), none, none] [] h _
  refine x_al0 rfl dX12_roots_0 ?_
  refine x_iconst (v := nI 0) dX12_roots_1 rfl ?_
  refine x_mpfJ W J fdX12_1 (by decide) rfl rfl zf_i dX12_roots_2 (fun h W J => ?_)
  refine x_il1 dX12_roots_5 ?_
  refine x_i2l (rfl) dX12_roots_6 ?_
  refine x_lconst (v := 1) dX12_roots_7 rfl ?_
  refine x_ldc2 kcX12_292 dX12_roots_8 ?_
  refine x_cs3I mX12_within_ok lkX12_157 (Nat.le_of_ble_eq_true rfl) (Nat.le_of_ble_eq_true rfl) dX12_roots_11 j_within ?_
  refine x_if_ne (tgt := 20) dX12_roots_14 rfl (fun q14 => ?_) (fun q14 => ?_)
  · skip
    first | (simp only [cmp_lt, cmp_gt, cmp_eq, zN_cge, zN_cle, Decidable.not_not] at q14) | (simp (disch := omega) only [zN_le, zN_lt, zN_0, zN_1, nI_toInt, zN_eq, zN_eq0, b2_z, b2_nz, Decidable.not_not, Int.not_lt, Int.not_le, zK0, zK1, zK2, zK3, zK5, zK7, zK8, zK9, zK10, zK19, zK20, zK40, zK99, zK100, zK199] at q14) | skip
    unfold F_roots
    rw [if_pos q14]
    obtain ⟨k, hk1, hk2, rfl⟩ := rng_ex (a := 1) (b := 9) q14 (by decide)
    rw [show tn (nI k) = k from nI_clamp (by omega)]
    refine x_iconst (v := nI 0) dX12_roots_20 rfl ?_
    refine x_is2 rfl dX12_roots_21 ?_
    refine x_iconst (v := nI 0) dX12_roots_22 rfl ?_
    refine x_is3 rfl dX12_roots_23 ?_
    refine x_for (e := fct dk.1) (fun i => [some (.ref 59), some (.int (nI k)), some (.int (nI (cnt (fun s => decide (rnk dk.1 (nbk dk.1 s k) = st.1)) i))), some (.int (nI i))]) (fun i h => ∃ s M L, MW h0 h s M L ∧ MJ s M L dk st un tp tr pi fl) 0 (by omega) ⟨_, _, _, W, J⟩ (fun h hI => ?_) (fun i h hi hI ih => ?_)
    · obtain ⟨s, M, L, W, J⟩ := hI
      obtain ⟨D, hn0, hn6, ho0, ho9, hng, hli, e0, e1, e2, m1, m2, m3, m4, m5, u1, u2, t1, t2, r1, hf⟩ := MJ.o J
      refine x_il3 dX12_roots_24 ?_
      refine x_al0 rfl dX12_roots_25 ?_
      refine x_gm fdX12_223 W.hM (by decide) (by first | assumption | rfl) dX12_roots_26 ?_
      refine x_icmp_ge (tgt := 62) dX12_roots_29 rfl (fun q29 => ?_) (fun q29 => ?_)
      · skip
        first | (simp only [cmp_lt, cmp_gt, cmp_eq, zN_cge, zN_cle, Decidable.not_not] at q29) | (simp (disch := omega) only [zN_le, zN_lt, zN_0, zN_1, nI_toInt, zN_eq, zN_eq0, b2_z, b2_nz, Decidable.not_not, Int.not_lt, Int.not_le, zK0, zK1, zK2, zK3, zK5, zK7, zK8, zK9, zK10, zK19, zK20, zK40, zK99, zK100, zK199] at q29) | skip
        refine x_il2 dX12_roots_62 ?_
        exact x_iret rfl rfl dX12_roots_63 ⟨_, rfl, rfl, _, _, _, W, J⟩
      · skip
        first | (simp only [cmp_lt, cmp_gt, cmp_eq, zN_cge, zN_cle, Decidable.not_not] at q29) | (simp (disch := omega) only [zN_le, zN_lt, zN_0, zN_1, nI_toInt, zN_eq, zN_eq0, b2_z, b2_nz, Decidable.not_not, Int.not_lt, Int.not_le, zK0, zK1, zK2, zK3, zK5, zK7, zK8, zK9, zK10, zK19, zK20, zK40, zK99, zK100, zK199] at q29) | skip
        omega
    · obtain ⟨s, M, L, W, J⟩ := hI
      obtain ⟨D, hn0, hn6, ho0, ho9, hng, hli, e0, e1, e2, m1, m2, m3, m4, m5, u1, u2, t1, t2, r1, hf⟩ := MJ.o J
      refine x_il3 dX12_roots_24 ?_
      refine x_al0 rfl dX12_roots_25 ?_
      refine x_gm fdX12_223 W.hM (by decide) (by first | assumption | rfl) dX12_roots_26 ?_
      refine x_icmp_ge (tgt := 62) dX12_roots_29 rfl (fun q29 => ?_) (fun q29 => ?_)
      · skip
        first | (simp only [cmp_lt, cmp_gt, cmp_eq, zN_cge, zN_cle, Decidable.not_not] at q29) | (simp (disch := omega) only [zN_le, zN_lt, zN_0, zN_1, nI_toInt, zN_eq, zN_eq0, b2_z, b2_nz, Decidable.not_not, Int.not_lt, Int.not_le, zK0, zK1, zK2, zK3, zK5, zK7, zK8, zK9, zK10, zK19, zK20, zK40, zK99, zK100, zK199] at q29) | skip
        omega
      · skip
        first | (simp only [cmp_lt, cmp_gt, cmp_eq, zN_cge, zN_cle, Decidable.not_not] at q29) | (simp (disch := omega) only [zN_le, zN_lt, zN_0, zN_1, nI_toInt, zN_eq, zN_eq0, b2_z, b2_nz, Decidable.not_not, Int.not_lt, Int.not_le, zK0, zK1, zK2, zK3, zK5, zK7, zK8, zK9, zK10, zK19, zK20, zK40, zK99, zK100, zK199] at q29) | skip
        refine x_il2 dX12_roots_32 ?_
        refine x_al0 rfl dX12_roots_33 ?_
        refine x_il3 dX12_roots_34 ?_
        refine x_il1 dX12_roots_35 ?_
        refine x_cv2Ip mX12_powerOf_ok lkX12_348 rfl (Nat.le_of_ble_eq_true rfl) (Nat.le_of_ble_eq_true rfl) dX12_roots_36 W.hM  (j_powerOf W J (by first | assumption | omega) (by first | assumption | omega)) (fun r h hq => ?_)
        obtain ⟨rfl, s, M, L, W, J, U⟩ := hq
        obtain ⟨D, hn0, hn6, ho0, ho9, hng, hli, e0, e1, e2, m1, m2, m3, m4, m5, u1, u2, t1, t2, r1, hf⟩ := MJ.o J
        refine x_al0 rfl dX12_roots_39 ?_
        refine x_gm fdX12_13 W.hM (by decide) W.hF.f1 dX12_roots_40 ?_
        refine x_bipush (v := nI 21) dX12_roots_43 rfl ?_
        refine x_mld (len := 2868) W rfl rfl (by decide) (by omega) (by first | assumption | rfl) dX12_roots_45 ?_
        refine x_t_icmp_ne (t1 := 53) (t2 := 54) dX12_roots_46 rfl dX12_roots_49 dX12_roots_50 rfl dX12_roots_53 rfl ?_
        rw [b2_bN]
        have rk : rnk dk.1 (nbk dk.1 i k) < fct dk.1 := (perm_row hn0 hn6 (fun j hj => nbk_lt hn6 hi k j hj) (fun a b ha hb z => nbk_inj hn6 hi k a b ha hb z)).1
        refine x_iadd ((nI_add _ _).trans (congrArg nI (cnt_s (P := fun s => decide (rnk dk.1 (nbk dk.1 s k) = st.1)) (by rw [nI_eq (by omega) (by omega)]; simp)))) dX12_roots_54 ?_
        refine x_is2 rfl dX12_roots_55 ?_
        first | refine x_ii3 rfl (nI_1 _) dX12_roots_56 ?_ | refine x_ii3 rfl rfl dX12_roots_56 ?_
        refine x_goto (tgt := 24) dX12_roots_59 rfl ?_
        exact ih _ ⟨_, _, _, W, J⟩
  · skip
    first | (simp only [cmp_lt, cmp_gt, cmp_eq, zN_cge, zN_cle, Decidable.not_not] at q14) | (simp (disch := omega) only [zN_le, zN_lt, zN_0, zN_1, nI_toInt, zN_eq, zN_eq0, b2_z, b2_nz, Decidable.not_not, Int.not_lt, Int.not_le, zK0, zK1, zK2, zK3, zK5, zK7, zK8, zK9, zK10, zK19, zK20, zK40, zK99, zK100, zK199] at q14) | skip
    refine x_bipush (v := (-3)) dX12_roots_17 rfl ?_
    exact x_iret rfl rfl dX12_roots_19 ⟨_, rfl, by rw [F_roots, if_neg q14], _, _, _, W, J⟩
theorem w_bounded {x y : Int32} (I : MI h0 h dk st un tp tr pi fl) : Zm g (d + 3) 0 0 mX12_bounded [.ref 59, .int x, .int y] h (rLp (fun r h' => r = F_bounded x y ∧ MI h0 h' dk st un tp tr pi fl)) := by
  obtain ⟨s, M, L, W, J⟩ := I
  show Zw g (d + 3) 0 0 mX12_bounded 0 [some (.ref 59), some (.int x), some (.int y), none, none, none, none, none, none] [] h _
  refine x_al0 rfl dX12_bounded_0 ?_
  refine x_iconst (v := nI 0) dX12_bounded_1 rfl ?_
  refine x_mpfJ W J fdX12_1 (by decide) rfl rfl zf_i dX12_bounded_2 (fun h W J => ?_)
  refine x_il1 dX12_bounded_5 ?_
  refine x_i2l (rfl) dX12_bounded_6 ?_
  refine x_lconst (v := 1) dX12_bounded_7 rfl ?_
  refine x_ldc2 kcX12_351 dX12_bounded_8 ?_
  refine x_cs3I mX12_within_ok lkX12_157 (Nat.le_of_ble_eq_true rfl) (Nat.le_of_ble_eq_true rfl) dX12_bounded_11 j_within ?_
  refine x_if_eq (tgt := 29) dX12_bounded_14 rfl (fun q14 => ?_) (fun q14 => ?_)
  · skip
    first | (simp only [cmp_lt, cmp_gt, cmp_eq, zN_cge, zN_cle, Decidable.not_not] at q14) | (simp (disch := omega) only [zN_le, zN_lt, zN_0, zN_1, nI_toInt, zN_eq, zN_eq0, b2_z, b2_nz, Decidable.not_not, Int.not_lt, Int.not_le, zK0, zK1, zK2, zK3, zK5, zK7, zK8, zK9, zK10, zK19, zK20, zK40, zK99, zK100, zK199] at q14) | skip
    refine x_ldc2 kcX12_353 dX12_bounded_29 ?_
    exact x_lret rfl dX12_bounded_32 ⟨_, rfl, by rw [F_bounded, if_neg (fun z => q14 z.1)], _, _, _, W, J⟩
  · skip
    first | (simp only [cmp_lt, cmp_gt, cmp_eq, zN_cge, zN_cle, Decidable.not_not] at q14) | (simp (disch := omega) only [zN_le, zN_lt, zN_0, zN_1, nI_toInt, zN_eq, zN_eq0, b2_z, b2_nz, Decidable.not_not, Int.not_lt, Int.not_le, zK0, zK1, zK2, zK3, zK5, zK7, zK8, zK9, zK10, zK19, zK20, zK40, zK99, zK100, zK199] at q14) | skip
    refine x_il2 dX12_bounded_17 ?_
    refine x_i2l (rfl) dX12_bounded_18 ?_
    refine x_lconst (v := 1) dX12_bounded_19 rfl ?_
    refine x_ldc2 kcX12_351 dX12_bounded_20 ?_
    refine x_cs3I mX12_within_ok lkX12_157 (Nat.le_of_ble_eq_true rfl) (Nat.le_of_ble_eq_true rfl) dX12_bounded_23 j_within ?_
    refine x_if_ne (tgt := 33) dX12_bounded_26 rfl (fun q26 => ?_) (fun q26 => ?_)
    · skip
      first | (simp only [cmp_lt, cmp_gt, cmp_eq, zN_cge, zN_cle, Decidable.not_not] at q26) | (simp (disch := omega) only [zN_le, zN_lt, zN_0, zN_1, nI_toInt, zN_eq, zN_eq0, b2_z, b2_nz, Decidable.not_not, Int.not_lt, Int.not_le, zK0, zK1, zK2, zK3, zK5, zK7, zK8, zK9, zK10, zK19, zK20, zK40, zK99, zK100, zK199] at q26) | skip
      unfold F_bounded
      rw [if_pos ⟨q14, q26⟩]
      obtain ⟨n, hn1, hn2, rfl⟩ := rng_ex (a := 1) (b := 20) q14 (by decide)
      obtain ⟨k, hk1, hk2, rfl⟩ := rng_ex (a := 1) (b := 20) q26 (by decide)
      rw [show tn (nI n) = n from nI_clamp (by omega), show tn (nI k) = k from nI_clamp (by omega)]
      refine x_al0 rfl dX12_bounded_33 ?_
      refine x_gm fdX12_48 W.hM (by decide) W.hF.f26 dX12_bounded_34 ?_
      refine x_iconst (v := nI 0) dX12_bounded_37 rfl ?_
      refine x_lconst (v := 1) dX12_bounded_38 rfl ?_
      refine x_mstlJ (len := 21) W J rfl rfl (by decide) (by decide) (by omega) dX12_bounded_39 (fun h W J => ?_)
      refine x_iconst (v := nI 1) dX12_bounded_40 rfl ?_
      refine x_is3 rfl dX12_bounded_41 ?_
      have hL0 : ∀ j, j ≤ 0 → upM L 70 (vp_updL (L 70) 0 1) 70 j = tbl k 0 j := fun j hj => by
        obtain rfl : j = 0 := by omega
        rfl
      refine x_wh (fun (a : Nat × Option Value × Option Value × Option Value) => [some (.ref 59), some (.int (nI n)), some (.int (nI k)), some (.int (nI (a.1 + 1))), a.2.1, none, a.2.2.1, none, a.2.2.2]) (fun a h => a.1 ≤ n ∧ ∃ s M L, MW h0 h s M L ∧ MJ s M L dk st un tp tr pi fl ∧ ∀ j, j ≤ a.1 → L 70 j = tbl k a.1 j) (fun a => n - a.1) (0, none, none, none) ⟨Nat.zero_le _, _, _, _, W, J, hL0⟩ (fun a h hI ih => ?_)
      obtain ⟨i, v1, v2, v3⟩ := a
      obtain ⟨hi, s, M, L, W, J, hL⟩ := hI
      simp only at hi hL
      dsimp only
      refine x_il3 dX12_bounded_42 ?_
      refine x_il1 dX12_bounded_43 ?_
      refine x_icmp_gt (tgt := 115) dX12_bounded_44 rfl (fun q44 => ?_) (fun q44 => ?_)
      · skip
        first | (simp only [cmp_lt, cmp_gt, cmp_eq, zN_cge, zN_cle, Decidable.not_not] at q44) | (simp (disch := omega) only [zN_le, zN_lt, zN_0, zN_1, nI_toInt, zN_eq, zN_eq0, b2_z, b2_nz, Decidable.not_not, Int.not_lt, Int.not_le, zK0, zK1, zK2, zK3, zK5, zK7, zK8, zK9, zK10, zK19, zK20, zK40, zK99, zK100, zK199] at q44) | skip
        have : i = n := by omega
        subst this
        refine x_al0 rfl dX12_bounded_115 ?_
        refine x_gm fdX12_48 W.hM (by decide) W.hF.f26 dX12_bounded_116 ?_
        refine x_il1 dX12_bounded_119 ?_
        refine x_mldl (len := 21) W rfl rfl (by decide) (by omega) (hL i (Nat.le_refl _)) dX12_bounded_120 ?_
        exact x_lret rfl dX12_bounded_121 ⟨_, rfl, rfl, _, _, _, W, J⟩
      · skip
        first | (simp only [cmp_lt, cmp_gt, cmp_eq, zN_cge, zN_cle, Decidable.not_not] at q44) | (simp (disch := omega) only [zN_le, zN_lt, zN_0, zN_1, nI_toInt, zN_eq, zN_eq0, b2_z, b2_nz, Decidable.not_not, Int.not_lt, Int.not_le, zK0, zK1, zK2, zK3, zK5, zK7, zK8, zK9, zK10, zK19, zK20, zK40, zK99, zK100, zK199] at q44) | skip
        refine x_lconst (v := 0) dX12_bounded_47 rfl ?_
        refine x_ls4 rfl dX12_bounded_48 ?_
        refine x_lconst (v := 1) dX12_bounded_50 rfl ?_
        refine x_ls6 rfl dX12_bounded_51 ?_
        refine x_iconst (v := nI 1) dX12_bounded_53 rfl ?_
        refine x_is8 rfl dX12_bounded_54 ?_
        have hb : ∀ m, m ≤ min k (i + 1) → bs (L 70) (i + 1) m = bs (tbl k i) (i + 1) m := fun m _ => bs_congr (fun j hj => hL j (by omega)) (by omega) m
        refine x_wh (fun (m : Nat) => [some (.ref 59), some (.int (nI n)), some (.int (nI k)), some (.int (nI (i + 1))), some (.long (bs (L 70) (i + 1) m).1), none, some (.long (bs (L 70) (i + 1) m).2), none, some (.int (nI (m + 1)))]) (fun m h' => m ≤ min k (i + 1) ∧ h' = h) (fun m => 50 - m) 0 ⟨Nat.zero_le _, rfl⟩ (fun m h' hI ih2 => ?_)
        obtain ⟨hm, rfl⟩ := hI
        refine x_il8 dX12_bounded_56 ?_
        refine x_il2 dX12_bounded_58 ?_
        refine x_icmp_gt (tgt := 101) dX12_bounded_59 rfl (fun q59 => ?_) (fun q59 => ?_)
        · skip
          first | (simp only [cmp_lt, cmp_gt, cmp_eq, zN_cge, zN_cle, Decidable.not_not] at q59) | (simp (disch := omega) only [zN_le, zN_lt, zN_0, zN_1, nI_toInt, zN_eq, zN_eq0, b2_z, b2_nz, Decidable.not_not, Int.not_lt, Int.not_le, zK0, zK1, zK2, zK3, zK5, zK7, zK8, zK9, zK10, zK19, zK20, zK40, zK99, zK100, zK199] at q59) | skip
          have hm' : m = min k (i + 1) := by omega
          subst hm'
          refine x_al0 rfl dX12_bounded_101 ?_
          refine x_gm fdX12_48 W.hM (by decide) W.hF.f26 dX12_bounded_102 ?_
          refine x_il3 dX12_bounded_105 ?_
          refine x_ll4 dX12_bounded_106 ?_
          refine x_mstlJ (len := 21) W J rfl rfl (by decide) (by decide) (by omega) dX12_bounded_108 (fun h W J => ?_)
          first | refine x_ii3 rfl (nI_1 _) dX12_bounded_109 ?_ | refine x_ii3 rfl rfl dX12_bounded_109 ?_
          refine x_goto (tgt := 42) dX12_bounded_112 rfl ?_
          refine ih (i + 1, _, _, _) _ (by simp only; omega) ⟨by simp only; omega, _, _, _, W, J, fun j hj => ?_⟩
          simp only at hj
          show vp_updL (L 70) (i + 1) _ j = _
          unfold vp_updL tbl
          by_cases z : j = i + 1
          · rw [if_pos z, if_pos z, hb _ (Nat.le_refl _)]
          · rw [if_neg z, if_neg z]
            exact hL j (by omega)
        · skip
          first | (simp only [cmp_lt, cmp_gt, cmp_eq, zN_cge, zN_cle, Decidable.not_not] at q59) | (simp (disch := omega) only [zN_le, zN_lt, zN_0, zN_1, nI_toInt, zN_eq, zN_eq0, b2_z, b2_nz, Decidable.not_not, Int.not_lt, Int.not_le, zK0, zK1, zK2, zK3, zK5, zK7, zK8, zK9, zK10, zK19, zK20, zK40, zK99, zK100, zK199] at q59) | skip
          refine x_il8 dX12_bounded_62 ?_
          refine x_il3 dX12_bounded_64 ?_
          refine x_icmp_gt (tgt := 101) dX12_bounded_65 rfl (fun q65 => ?_) (fun q65 => ?_)
          · skip
            first | (simp only [cmp_lt, cmp_gt, cmp_eq, zN_cge, zN_cle, Decidable.not_not] at q65) | (simp (disch := omega) only [zN_le, zN_lt, zN_0, zN_1, nI_toInt, zN_eq, zN_eq0, b2_z, b2_nz, Decidable.not_not, Int.not_lt, Int.not_le, zK0, zK1, zK2, zK3, zK5, zK7, zK8, zK9, zK10, zK19, zK20, zK40, zK99, zK100, zK199] at q65) | skip
            have hm' : m = min k (i + 1) := by omega
            subst hm'
            refine x_al0 rfl dX12_bounded_101 ?_
            refine x_gm fdX12_48 W.hM (by decide) W.hF.f26 dX12_bounded_102 ?_
            refine x_il3 dX12_bounded_105 ?_
            refine x_ll4 dX12_bounded_106 ?_
            refine x_mstlJ (len := 21) W J rfl rfl (by decide) (by decide) (by omega) dX12_bounded_108 (fun h W J => ?_)
            first | refine x_ii3 rfl (nI_1 _) dX12_bounded_109 ?_ | refine x_ii3 rfl rfl dX12_bounded_109 ?_
            refine x_goto (tgt := 42) dX12_bounded_112 rfl ?_
            refine ih (i + 1, _, _, _) _ (by simp only; omega) ⟨by simp only; omega, _, _, _, W, J, fun j hj => ?_⟩
            simp only at hj
            show vp_updL (L 70) (i + 1) _ j = _
            unfold vp_updL tbl
            by_cases z : j = i + 1
            · rw [if_pos z, if_pos z, hb _ (Nat.le_refl _)]
            · rw [if_neg z, if_neg z]
              exact hL j (by omega)
          · skip
            first | (simp only [cmp_lt, cmp_gt, cmp_eq, zN_cge, zN_cle, Decidable.not_not] at q65) | (simp (disch := omega) only [zN_le, zN_lt, zN_0, zN_1, nI_toInt, zN_eq, zN_eq0, b2_z, b2_nz, Decidable.not_not, Int.not_lt, Int.not_le, zK0, zK1, zK2, zK3, zK5, zK7, zK8, zK9, zK10, zK19, zK20, zK40, zK99, zK100, zK199] at q65) | skip
            refine x_ll4 dX12_bounded_68 ?_
            refine x_ll6 dX12_bounded_70 ?_
            refine x_al0 rfl dX12_bounded_72 ?_
            refine x_gm fdX12_48 W.hM (by decide) W.hF.f26 dX12_bounded_73 ?_
            refine x_il3 dX12_bounded_76 ?_
            refine x_il8 dX12_bounded_77 ?_
            refine x_isub (pk_sub (by omega)) dX12_bounded_79 ?_
            refine x_mldl (len := 21) W rfl rfl (by decide) (by omega) rfl dX12_bounded_80 ?_
            refine x_lmul (rfl) dX12_bounded_81 ?_
            refine x_ladd (rfl) dX12_bounded_82 ?_
            refine x_ls4 rfl dX12_bounded_83 ?_
            refine x_ll6 dX12_bounded_85 ?_
            refine x_il3 dX12_bounded_87 ?_
            refine x_il8 dX12_bounded_88 ?_
            refine x_isub (pk_sub (by omega)) dX12_bounded_90 ?_
            refine x_i2l (rfl) dX12_bounded_91 ?_
            refine x_lmul (rfl) dX12_bounded_92 ?_
            refine x_ls6 rfl dX12_bounded_93 ?_
            first | refine x_ii8 rfl (nI_1 _) dX12_bounded_95 ?_ | refine x_ii8 rfl rfl dX12_bounded_95 ?_
            refine x_goto (tgt := 56) dX12_bounded_98 rfl ?_
            exact ih2 (m + 1) _ (by omega) ⟨by omega, rfl⟩
    · skip
      first | (simp only [cmp_lt, cmp_gt, cmp_eq, zN_cge, zN_cle, Decidable.not_not] at q26) | (simp (disch := omega) only [zN_le, zN_lt, zN_0, zN_1, nI_toInt, zN_eq, zN_eq0, b2_z, b2_nz, Decidable.not_not, Int.not_lt, Int.not_le, zK0, zK1, zK2, zK3, zK5, zK7, zK8, zK9, zK10, zK19, zK20, zK40, zK99, zK100, zK199] at q26) | skip
      refine x_ldc2 kcX12_353 dX12_bounded_29 ?_
      exact x_lret rfl dX12_bounded_32 ⟨_, rfl, by rw [F_bounded, if_neg (fun z => q26 z.2)], _, _, _, W, J⟩
theorem w_lies {x : Int32} (I : MI h0 h dk st un tp tr pi fl) : Zm g (d + 9) 0 0 mX12_lies [.ref 59, .int x] h (rIp (fun r h' => r = F_lies dk st x ∧ MI h0 h' dk st un tp tr pi fl)) := by
  obtain ⟨s, M, L, W, J⟩ := I
  obtain ⟨D, hn0, hn6, ho0, ho9, hng, hli, e0, e1, e2, m1, m2, m3, m4, m5, u1, u2, t1, t2, r1, hf⟩ := MJ.o J
  have pl : ∀ j, popc (rb dk.1 st.1 j) ≤ 6 := fun j => popc_le
  have t0 : ∀ k : Nat, k < 2 ^ 31 → (x = nI k ↔ x.toInt = (k : Int)) := fun k hk => zN_x hk
  show Zw g (d + 9) 0 0 mX12_lies 0 [some (.ref 59), some (.int x), none, none, none, none, none, none, none, none] [] h _
  refine x_al0 rfl dX12_lies_0 ?_
  refine x_iconst (v := nI 0) dX12_lies_1 rfl ?_
  refine x_mpfJ W J fdX12_1 (by decide) rfl rfl zf_i dX12_lies_2 (fun h W J => ?_)
  refine x_il1 dX12_lies_5 ?_
  refine x_i2l (rfl) dX12_lies_6 ?_
  refine x_lconst (v := 0) dX12_lies_7 rfl ?_
  refine x_ldc2 kcX12_341 dX12_lies_8 ?_
  refine x_cs3I mX12_within_ok lkX12_157 (Nat.le_of_ble_eq_true rfl) (Nat.le_of_ble_eq_true rfl) dX12_lies_11 j_within ?_
  refine x_if_ne (tgt := 20) dX12_lies_14 rfl (fun q14 => ?_) (fun q14 => ?_)
  · skip
    first | (simp only [cmp_lt, cmp_gt, cmp_eq, zN_cge, zN_cle, Decidable.not_not] at q14) | (simp (disch := omega) only [zN_le, zN_lt, zN_0, zN_1, nI_toInt, zN_eq, zN_eq0, b2_z, b2_nz, Decidable.not_not, Int.not_lt, Int.not_le, zK0, zK1, zK2, zK3, zK5, zK7, zK8, zK9, zK10, zK19, zK20, zK40, zK99, zK100, zK199] at q14) | skip
    refine x_al0 rfl dX12_lies_20 ?_
    refine x_gm fdX12_13 W.hM (by decide) W.hF.f1 dX12_lies_21 ?_
    refine x_bipush (v := nI 21) dX12_lies_24 rfl ?_
    refine x_mld (len := 2868) W rfl rfl (by decide) (by omega) (by first | assumption | rfl) dX12_lies_26 ?_
    refine x_is2 rfl dX12_lies_27 ?_
    refine x_il1 dX12_lies_28 ?_
    refine x_if_ne (tgt := 34) dX12_lies_29 rfl (fun q29 => ?_) (fun q29 => ?_)
    · skip
      first | (simp only [cmp_lt, cmp_gt, cmp_eq, zN_cge, zN_cle, Decidable.not_not] at q29) | (simp (disch := omega) only [zN_le, zN_lt, zN_0, zN_1, nI_toInt, zN_eq, zN_eq0, b2_z, b2_nz, Decidable.not_not, Int.not_lt, Int.not_le, zK0, zK1, zK2, zK3, zK5, zK7, zK8, zK9, zK10, zK19, zK20, zK40, zK99, zK100, zK199] at q29) | skip
      refine x_il1 dX12_lies_34 ?_
      refine x_iconst (v := nI 4) dX12_lies_35 rfl ?_
      refine x_icmp_ne (tgt := 45) dX12_lies_36 rfl (fun q36 => ?_) (fun q36 => ?_)
      · skip
        first | (simp only [cmp_lt, cmp_gt, cmp_eq, zN_cge, zN_cle, Decidable.not_not] at q36) | (simp (disch := omega) only [zN_le, zN_lt, zN_0, zN_1, nI_toInt, zN_eq, zN_eq0, b2_z, b2_nz, Decidable.not_not, Int.not_lt, Int.not_le, zK0, zK1, zK2, zK3, zK5, zK7, zK8, zK9, zK10, zK19, zK20, zK40, zK99, zK100, zK199] at q36) | skip
        refine x_iconst (v := nI 0) dX12_lies_45 rfl ?_
        refine x_is3 rfl dX12_lies_46 ?_
        refine x_iconst (v := nI 0) dX12_lies_47 rfl ?_
        refine x_is4 rfl dX12_lies_48 ?_
        refine x_iconst (v := nI 0) dX12_lies_50 rfl ?_
        refine x_is5 rfl dX12_lies_51 ?_
        refine x_iconst (v := nI 0) dX12_lies_53 rfl ?_
        refine x_is6 rfl dX12_lies_54 ?_
        refine x_iconst (v := nI 0) dX12_lies_56 rfl ?_
        refine x_is7 rfl dX12_lies_57 ?_
        have key : ∀ i, i ≤ dk.1 → cnt (fun j => decide (tz (rb dk.1 st.1 j) = j)) i ≤ 6 ∧ mx (fun j => popc (rb dk.1 st.1 j)) i ≤ 6 ∧ cnt (fun j => decide (nm dk.1 st.1 j = j)) i ≤ 6 ∧ iv dk.1 st.1 i ≤ 36 := fun i hi => by
          have a1 := cnt_le (P := fun j => decide (tz (rb dk.1 st.1 j) = j)) i
          have a2 := mx_le pl i
          have a3 := cnt_le (P := fun j => decide (nm dk.1 st.1 j = j)) i
          have a4 := iv_le (n := dk.1) (s := st.1) i
          have a5 : dk.1 * i ≤ 6 * 6 := Nat.mul_le_mul hn6 (by omega)
          exact ⟨by omega, a2, by omega, by omega⟩
        refine x_wh (fun (a : Nat × Option Value × Option Value) => [some (.ref 59), some (.int x), some (.int (nI st.1)), some (.int (nI (cnt (fun j => decide (tz (rb dk.1 st.1 j) = j)) a.1))), some (.int (nI (mx (fun j => popc (rb dk.1 st.1 j)) a.1))), some (.int (nI (cnt (fun j => decide (nm dk.1 st.1 j = j)) a.1))), some (.int (nI (iv dk.1 st.1 a.1))), some (.int (nI a.1)), a.2.1, a.2.2]) (fun a h' => a.1 ≤ dk.1 ∧ h' = h) (fun a => dk.1 - a.1) (0, none, none) ⟨Nat.zero_le _, rfl⟩ (fun a h' hI ih => ?_)
        obtain ⟨i, v1, v2⟩ := a
        obtain ⟨hi, rfl⟩ := hI
        simp only at hi
        dsimp only
        obtain ⟨k1, k2, k3, k4⟩ := key i hi
        refine x_il7 dX12_lies_59 ?_
        refine x_al0 rfl dX12_lies_61 ?_
        refine x_gm fdX12_13 W.hM (by decide) W.hF.f1 dX12_lies_62 ?_
        refine x_iconst (v := nI 1) dX12_lies_65 rfl ?_
        refine x_mld (len := 2868) W rfl rfl (by decide) (by omega) (by first | assumption | rfl) dX12_lies_66 ?_
        refine x_icmp_ge (tgt := 200) dX12_lies_67 rfl (fun q67 => ?_) (fun q67 => ?_)
        · skip
          first | (simp only [cmp_lt, cmp_gt, cmp_eq, zN_cge, zN_cle, Decidable.not_not] at q67) | (simp (disch := omega) only [zN_le, zN_lt, zN_0, zN_1, nI_toInt, zN_eq, zN_eq0, b2_z, b2_nz, Decidable.not_not, Int.not_lt, Int.not_le, zK0, zK1, zK2, zK3, zK5, zK7, zK8, zK9, zK10, zK19, zK20, zK40, zK99, zK100, zK199] at q67) | skip
          have : i = dk.1 := by omega
          subst this
          refine x_il1 dX12_lies_200 ?_
          refine x_iconst (v := nI 1) dX12_lies_201 rfl ?_
          refine x_icmp_ne (tgt := 209) dX12_lies_202 rfl (fun q202 => ?_) (fun q202 => ?_)
          · skip
            first | (simp only [cmp_lt, cmp_gt, cmp_eq, zN_cge, zN_cle, Decidable.not_not] at q202) | (simp (disch := omega) only [zN_le, zN_lt, zN_0, zN_1, nI_toInt, zN_eq, zN_eq0, b2_z, b2_nz, Decidable.not_not, Int.not_lt, Int.not_le, zK0, zK1, zK2, zK3, zK5, zK7, zK8, zK9, zK10, zK19, zK20, zK40, zK99, zK100, zK199] at q202) | skip
            refine x_il1 dX12_lies_209 ?_
            refine x_iconst (v := nI 2) dX12_lies_210 rfl ?_
            refine x_icmp_ne (tgt := 219) dX12_lies_211 rfl (fun q211 => ?_) (fun q211 => ?_)
            · skip
              first | (simp only [cmp_lt, cmp_gt, cmp_eq, zN_cge, zN_cle, Decidable.not_not] at q211) | (simp (disch := omega) only [zN_le, zN_lt, zN_0, zN_1, nI_toInt, zN_eq, zN_eq0, b2_z, b2_nz, Decidable.not_not, Int.not_lt, Int.not_le, zK0, zK1, zK2, zK3, zK5, zK7, zK8, zK9, zK10, zK19, zK20, zK40, zK99, zK100, zK199] at q211) | skip
              refine x_il1 dX12_lies_219 ?_
              refine x_iconst (v := nI 3) dX12_lies_220 rfl ?_
              refine x_icmp_ne (tgt := 229) dX12_lies_221 rfl (fun q221 => ?_) (fun q221 => ?_)
              · skip
                first | (simp only [cmp_lt, cmp_gt, cmp_eq, zN_cge, zN_cle, Decidable.not_not] at q221) | (simp (disch := omega) only [zN_le, zN_lt, zN_0, zN_1, nI_toInt, zN_eq, zN_eq0, b2_z, b2_nz, Decidable.not_not, Int.not_lt, Int.not_le, zK0, zK1, zK2, zK3, zK5, zK7, zK8, zK9, zK10, zK19, zK20, zK40, zK99, zK100, zK199] at q221) | skip
                refine x_il6 dX12_lies_229 ?_
                refine x_iret rfl rfl dX12_lies_231 ⟨_, rfl, ?_, _, _, _, W, J⟩
                have x5 : x = nI 5 := (t0 5 (by decide)).mpr (by rw [t0 1 (by decide)] at q202; rw [t0 2 (by decide)] at q211; rw [t0 3 (by decide)] at q221; rw [t0 4 (by decide)] at q36; rw [show (0 : Int32) = nI 0 from rfl, t0 0 (by decide)] at q29; omega)
                rw [x5]
                rfl
              · skip
                first | (simp only [cmp_lt, cmp_gt, cmp_eq, zN_cge, zN_cle, Decidable.not_not] at q221) | (simp (disch := omega) only [zN_le, zN_lt, zN_0, zN_1, nI_toInt, zN_eq, zN_eq0, b2_z, b2_nz, Decidable.not_not, Int.not_lt, Int.not_le, zK0, zK1, zK2, zK3, zK5, zK7, zK8, zK9, zK10, zK19, zK20, zK40, zK99, zK100, zK199] at q221) | skip
                refine x_il5 dX12_lies_224 ?_
                refine x_goto (tgt := 231) dX12_lies_226 rfl ?_
                refine x_iret rfl rfl dX12_lies_231 ⟨_, rfl, ?_, _, _, _, W, J⟩
                rw [q221]
                rfl
            · skip
              first | (simp only [cmp_lt, cmp_gt, cmp_eq, zN_cge, zN_cle, Decidable.not_not] at q211) | (simp (disch := omega) only [zN_le, zN_lt, zN_0, zN_1, nI_toInt, zN_eq, zN_eq0, b2_z, b2_nz, Decidable.not_not, Int.not_lt, Int.not_le, zK0, zK1, zK2, zK3, zK5, zK7, zK8, zK9, zK10, zK19, zK20, zK40, zK99, zK100, zK199] at q211) | skip
              refine x_il4 dX12_lies_214 ?_
              refine x_goto (tgt := 231) dX12_lies_216 rfl ?_
              refine x_iret rfl rfl dX12_lies_231 ⟨_, rfl, ?_, _, _, _, W, J⟩
              rw [q211]
              rfl
          · skip
            first | (simp only [cmp_lt, cmp_gt, cmp_eq, zN_cge, zN_cle, Decidable.not_not] at q202) | (simp (disch := omega) only [zN_le, zN_lt, zN_0, zN_1, nI_toInt, zN_eq, zN_eq0, b2_z, b2_nz, Decidable.not_not, Int.not_lt, Int.not_le, zK0, zK1, zK2, zK3, zK5, zK7, zK8, zK9, zK10, zK19, zK20, zK40, zK99, zK100, zK199] at q202) | skip
            refine x_il3 dX12_lies_205 ?_
            refine x_goto (tgt := 231) dX12_lies_206 rfl ?_
            refine x_iret rfl rfl dX12_lies_231 ⟨_, rfl, ?_, _, _, _, W, J⟩
            rw [q202]
            rfl
        · skip
          first | (simp only [cmp_lt, cmp_gt, cmp_eq, zN_cge, zN_cle, Decidable.not_not] at q67) | (simp (disch := omega) only [zN_le, zN_lt, zN_0, zN_1, nI_toInt, zN_eq, zN_eq0, b2_z, b2_nz, Decidable.not_not, Int.not_lt, Int.not_le, zK0, zK1, zK2, zK3, zK5, zK7, zK8, zK9, zK10, zK19, zK20, zK40, zK99, zK100, zK199] at q67) | skip
          have hi2 : i < dk.1 := by omega
          have rf := rb_facts hn6 m4 hi2
          have nl := nm_lt hn6 m4 hi2
          refine x_al0 rfl dX12_lies_70 ?_
          refine x_il2 dX12_lies_71 ?_
          refine x_il7 dX12_lies_72 ?_
          refine x_cv2I mX12_roundOf_ok lkX12_338 rfl (Nat.le_of_ble_eq_true rfl) (Nat.le_of_ble_eq_true rfl) dX12_lies_74 W.hM  (m_roundOf (W.mt J.1) m4 hi2) ?_
          refine x_is8 rfl dX12_lies_77 ?_
          refine x_il3 dX12_lies_79 ?_
          refine x_il8 dX12_lies_80 ?_
          refine x_il7 dX12_lies_82 ?_
          refine x_ishr (rfl) dX12_lies_84 ?_
          refine x_il7 dX12_lies_85 ?_
          refine x_ishl (rb_shift rf.2.1 (by omega)) dX12_lies_87 ?_
          refine x_il8 dX12_lies_88 ?_
          refine x_t_icmp_ne (t1 := 97) (t2 := 98) dX12_lies_90 rfl dX12_lies_93 dX12_lies_94 rfl dX12_lies_97 rfl ?_
          rw [b2_bN]
          refine x_iadd ((nI_add _ _).trans (congrArg nI (cnt_s (P := fun j => decide (tz (rb dk.1 st.1 j) = j)) (by rw [nI_eq (by have := rf.2.1; have := Nat.div_mul_le_self (rb dk.1 st.1 i) (2 ^ i); omega) (by omega), tz_shift rf.2.1 (by omega) (rb_bit hn6 m4 hi2)]; simp)))) dX12_lies_98 ?_
          refine x_is3 rfl dX12_lies_99 ?_
          refine x_il8 dX12_lies_100 ?_
          refine x_cs1I mX12_bitsOf_ok lkX12_284 (Nat.le_of_ble_eq_true rfl) (Nat.le_of_ble_eq_true rfl) dX12_lies_102 (m_bitsOf rf.2.1) ?_
          refine x_il4 dX12_lies_105 ?_
          have pi6 := pl i
          refine x_icmp_le (tgt := 118) dX12_lies_107 rfl (fun q107 => ?_) (fun q107 => ?_)
          · skip
            first | (simp only [cmp_lt, cmp_gt, cmp_eq, zN_cge, zN_cle, Decidable.not_not] at q107) | (simp (disch := omega) only [zN_le, zN_lt, zN_0, zN_1, nI_toInt, zN_eq, zN_eq0, b2_z, b2_nz, Decidable.not_not, Int.not_lt, Int.not_le, zK0, zK1, zK2, zK3, zK5, zK7, zK8, zK9, zK10, zK19, zK20, zK40, zK99, zK100, zK199] at q107) | skip
            refine x_il4 dX12_lies_118 ?_
            rw [show nI (mx (fun j => popc (rb dk.1 st.1 j)) i) = nI (mx (fun j => popc (rb dk.1 st.1 j)) (i + 1)) from congrArg nI (Nat.max_eq_left (show popc (rb dk.1 st.1 i) ≤ mx _ i by omega)).symm]
            refine x_is4 rfl dX12_lies_120 ?_
            refine x_il5 dX12_lies_122 ?_
            refine x_al0 rfl dX12_lies_124 ?_
            refine x_il2 dX12_lies_125 ?_
            refine x_il7 dX12_lies_126 ?_
            refine x_cv2I mX12_nameIn_ok lkX12_251 rfl (Nat.le_of_ble_eq_true rfl) (Nat.le_of_ble_eq_true rfl) dX12_lies_128 W.hM  (j_nameIn W J m4 hi2) ?_
            refine x_il7 dX12_lies_131 ?_
            refine x_t_icmp_ne (t1 := 140) (t2 := 141) dX12_lies_133 rfl dX12_lies_136 dX12_lies_137 rfl dX12_lies_140 rfl ?_
            rw [b2_bN]
            refine x_iadd ((nI_add _ _).trans (congrArg nI (cnt_s (P := fun j => decide (nm dk.1 st.1 j = j)) (by rw [nI_eq (by omega) (by omega)]; simp)))) dX12_lies_141 ?_
            refine x_is5 rfl dX12_lies_142 ?_
            refine x_il7 dX12_lies_144 ?_
            refine x_iconst (v := nI 1) dX12_lies_146 rfl ?_
            first | refine x_iadd (nI_add _ _) dX12_lies_147 ?_ | refine x_iadd rfl dX12_lies_147 ?_
            refine x_is9 rfl dX12_lies_148 ?_
            refine x_wh (fun (e : Nat) => [some (.ref 59), some (.int x), some (.int (nI st.1)), some (.int (nI (cnt (fun j => decide (tz (rb dk.1 st.1 j) = j)) (i + 1)))), some (.int (nI (mx (fun j => popc (rb dk.1 st.1 j)) (i + 1)))), some (.int (nI (cnt (fun j => decide (nm dk.1 st.1 j = j)) (i + 1)))), some (.int (nI (iv dk.1 st.1 i + cntL (fun e => decide (nm dk.1 st.1 e < nm dk.1 st.1 i)) e (i + 1)))), some (.int (nI i)), some (.int (nI (rb dk.1 st.1 i))), some (.int (nI (i + 1 + e)))]) (fun e h'' => i + 1 + e ≤ dk.1 ∧ h'' = h') (fun e => dk.1 - e) 0 ⟨by omega, rfl⟩ (fun e h'' hI ih2 => ?_)
            obtain ⟨he, rfl⟩ := hI
            refine x_il9 dX12_lies_150 ?_
            refine x_al0 rfl dX12_lies_152 ?_
            refine x_gm fdX12_13 W.hM (by decide) W.hF.f1 dX12_lies_153 ?_
            refine x_iconst (v := nI 1) dX12_lies_156 rfl ?_
            refine x_mld (len := 2868) W rfl rfl (by decide) (by omega) (by first | assumption | rfl) dX12_lies_157 ?_
            refine x_icmp_ge (tgt := 194) dX12_lies_158 rfl (fun q158 => ?_) (fun q158 => ?_)
            · skip
              first | (simp only [cmp_lt, cmp_gt, cmp_eq, zN_cge, zN_cle, Decidable.not_not] at q158) | (simp (disch := omega) only [zN_le, zN_lt, zN_0, zN_1, nI_toInt, zN_eq, zN_eq0, b2_z, b2_nz, Decidable.not_not, Int.not_lt, Int.not_le, zK0, zK1, zK2, zK3, zK5, zK7, zK8, zK9, zK10, zK19, zK20, zK40, zK99, zK100, zK199] at q158) | skip
              have e9 : e = dk.1 - (i + 1) := by omega
              first | refine x_ii7 rfl (nI_1 _) dX12_lies_194 ?_ | refine x_ii7 rfl rfl dX12_lies_194 ?_
              refine x_goto (tgt := 59) dX12_lies_197 rfl ?_
              subst e9
              exact ih (i + 1, _, _) _ (by simp only; omega) ⟨by simp only; omega, rfl⟩
            · skip
              first | (simp only [cmp_lt, cmp_gt, cmp_eq, zN_cge, zN_cle, Decidable.not_not] at q158) | (simp (disch := omega) only [zN_le, zN_lt, zN_0, zN_1, nI_toInt, zN_eq, zN_eq0, b2_z, b2_nz, Decidable.not_not, Int.not_lt, Int.not_le, zK0, zK1, zK2, zK3, zK5, zK7, zK8, zK9, zK10, zK19, zK20, zK40, zK99, zK100, zK199] at q158) | skip
              have he2 : i + 1 + e < dk.1 := by omega
              have nl2 := nm_lt hn6 m4 he2
              have cl := cntL_le (P := fun e => decide (nm dk.1 st.1 e < nm dk.1 st.1 i)) e (i + 1)
              refine x_il6 dX12_lies_161 ?_
              refine x_al0 rfl dX12_lies_163 ?_
              refine x_il2 dX12_lies_164 ?_
              refine x_il7 dX12_lies_165 ?_
              refine x_cv2I mX12_nameIn_ok lkX12_251 rfl (Nat.le_of_ble_eq_true rfl) (Nat.le_of_ble_eq_true rfl) dX12_lies_167 W.hM  (j_nameIn W J m4 hi2) ?_
              refine x_al0 rfl dX12_lies_170 ?_
              refine x_il2 dX12_lies_171 ?_
              refine x_il9 dX12_lies_172 ?_
              refine x_cv2I mX12_nameIn_ok lkX12_251 rfl (Nat.le_of_ble_eq_true rfl) (Nat.le_of_ble_eq_true rfl) dX12_lies_174 W.hM  (j_nameIn W J m4 he2) ?_
              refine x_t_icmp_le (t1 := 184) (t2 := 185) dX12_lies_177 rfl dX12_lies_180 dX12_lies_181 rfl dX12_lies_184 rfl ?_
              rw [b2_bN]
              refine x_iadd (nI_add _ _) dX12_lies_185 ?_
              refine x_is6 rfl dX12_lies_186 ?_
              rw [show iv dk.1 st.1 i + cntL (fun e => decide (nm dk.1 st.1 e < nm dk.1 st.1 i)) e (i + 1) + bN (nI (nm dk.1 st.1 (i + 1 + e)) < nI (nm dk.1 st.1 i)) = iv dk.1 st.1 i + cntL (fun e => decide (nm dk.1 st.1 e < nm dk.1 st.1 i)) (e + 1) (i + 1) by rw [Nat.add_assoc, cntL_sb (by rw [nI_ltI (by omega) (by omega)]; simp)]]
              first | refine x_ii9 rfl (nI_1 _) dX12_lies_188 ?_ | refine x_ii9 rfl rfl dX12_lies_188 ?_
              refine x_goto (tgt := 150) dX12_lies_191 rfl ?_
              exact ih2 (e + 1) _ (by omega) ⟨by omega, rfl⟩
          · skip
            first | (simp only [cmp_lt, cmp_gt, cmp_eq, zN_cge, zN_cle, Decidable.not_not] at q107) | (simp (disch := omega) only [zN_le, zN_lt, zN_0, zN_1, nI_toInt, zN_eq, zN_eq0, b2_z, b2_nz, Decidable.not_not, Int.not_lt, Int.not_le, zK0, zK1, zK2, zK3, zK5, zK7, zK8, zK9, zK10, zK19, zK20, zK40, zK99, zK100, zK199] at q107) | skip
            refine x_il8 dX12_lies_110 ?_
            refine x_cs1I mX12_bitsOf_ok lkX12_284 (Nat.le_of_ble_eq_true rfl) (Nat.le_of_ble_eq_true rfl) dX12_lies_112 (m_bitsOf rf.2.1) ?_
            refine x_goto (tgt := 120) dX12_lies_115 rfl ?_
            rw [show nI (popc (rb dk.1 st.1 i)) = nI (mx (fun j => popc (rb dk.1 st.1 j)) (i + 1)) from congrArg nI (Nat.max_eq_right (show mx _ i ≤ popc (rb dk.1 st.1 i) by omega)).symm]
            refine x_is4 rfl dX12_lies_120 ?_
            refine x_il5 dX12_lies_122 ?_
            refine x_al0 rfl dX12_lies_124 ?_
            refine x_il2 dX12_lies_125 ?_
            refine x_il7 dX12_lies_126 ?_
            refine x_cv2I mX12_nameIn_ok lkX12_251 rfl (Nat.le_of_ble_eq_true rfl) (Nat.le_of_ble_eq_true rfl) dX12_lies_128 W.hM  (j_nameIn W J m4 hi2) ?_
            refine x_il7 dX12_lies_131 ?_
            refine x_t_icmp_ne (t1 := 140) (t2 := 141) dX12_lies_133 rfl dX12_lies_136 dX12_lies_137 rfl dX12_lies_140 rfl ?_
            rw [b2_bN]
            refine x_iadd ((nI_add _ _).trans (congrArg nI (cnt_s (P := fun j => decide (nm dk.1 st.1 j = j)) (by rw [nI_eq (by omega) (by omega)]; simp)))) dX12_lies_141 ?_
            refine x_is5 rfl dX12_lies_142 ?_
            refine x_il7 dX12_lies_144 ?_
            refine x_iconst (v := nI 1) dX12_lies_146 rfl ?_
            first | refine x_iadd (nI_add _ _) dX12_lies_147 ?_ | refine x_iadd rfl dX12_lies_147 ?_
            refine x_is9 rfl dX12_lies_148 ?_
            refine x_wh (fun (e : Nat) => [some (.ref 59), some (.int x), some (.int (nI st.1)), some (.int (nI (cnt (fun j => decide (tz (rb dk.1 st.1 j) = j)) (i + 1)))), some (.int (nI (mx (fun j => popc (rb dk.1 st.1 j)) (i + 1)))), some (.int (nI (cnt (fun j => decide (nm dk.1 st.1 j = j)) (i + 1)))), some (.int (nI (iv dk.1 st.1 i + cntL (fun e => decide (nm dk.1 st.1 e < nm dk.1 st.1 i)) e (i + 1)))), some (.int (nI i)), some (.int (nI (rb dk.1 st.1 i))), some (.int (nI (i + 1 + e)))]) (fun e h'' => i + 1 + e ≤ dk.1 ∧ h'' = h') (fun e => dk.1 - e) 0 ⟨by omega, rfl⟩ (fun e h'' hI ih2 => ?_)
            obtain ⟨he, rfl⟩ := hI
            refine x_il9 dX12_lies_150 ?_
            refine x_al0 rfl dX12_lies_152 ?_
            refine x_gm fdX12_13 W.hM (by decide) W.hF.f1 dX12_lies_153 ?_
            refine x_iconst (v := nI 1) dX12_lies_156 rfl ?_
            refine x_mld (len := 2868) W rfl rfl (by decide) (by omega) (by first | assumption | rfl) dX12_lies_157 ?_
            refine x_icmp_ge (tgt := 194) dX12_lies_158 rfl (fun q158 => ?_) (fun q158 => ?_)
            · skip
              first | (simp only [cmp_lt, cmp_gt, cmp_eq, zN_cge, zN_cle, Decidable.not_not] at q158) | (simp (disch := omega) only [zN_le, zN_lt, zN_0, zN_1, nI_toInt, zN_eq, zN_eq0, b2_z, b2_nz, Decidable.not_not, Int.not_lt, Int.not_le, zK0, zK1, zK2, zK3, zK5, zK7, zK8, zK9, zK10, zK19, zK20, zK40, zK99, zK100, zK199] at q158) | skip
              have e9 : e = dk.1 - (i + 1) := by omega
              first | refine x_ii7 rfl (nI_1 _) dX12_lies_194 ?_ | refine x_ii7 rfl rfl dX12_lies_194 ?_
              refine x_goto (tgt := 59) dX12_lies_197 rfl ?_
              subst e9
              exact ih (i + 1, _, _) _ (by simp only; omega) ⟨by simp only; omega, rfl⟩
            · skip
              first | (simp only [cmp_lt, cmp_gt, cmp_eq, zN_cge, zN_cle, Decidable.not_not] at q158) | (simp (disch := omega) only [zN_le, zN_lt, zN_0, zN_1, nI_toInt, zN_eq, zN_eq0, b2_z, b2_nz, Decidable.not_not, Int.not_lt, Int.not_le, zK0, zK1, zK2, zK3, zK5, zK7, zK8, zK9, zK10, zK19, zK20, zK40, zK99, zK100, zK199] at q158) | skip
              have he2 : i + 1 + e < dk.1 := by omega
              have nl2 := nm_lt hn6 m4 he2
              have cl := cntL_le (P := fun e => decide (nm dk.1 st.1 e < nm dk.1 st.1 i)) e (i + 1)
              refine x_il6 dX12_lies_161 ?_
              refine x_al0 rfl dX12_lies_163 ?_
              refine x_il2 dX12_lies_164 ?_
              refine x_il7 dX12_lies_165 ?_
              refine x_cv2I mX12_nameIn_ok lkX12_251 rfl (Nat.le_of_ble_eq_true rfl) (Nat.le_of_ble_eq_true rfl) dX12_lies_167 W.hM  (j_nameIn W J m4 hi2) ?_
              refine x_al0 rfl dX12_lies_170 ?_
              refine x_il2 dX12_lies_171 ?_
              refine x_il9 dX12_lies_172 ?_
              refine x_cv2I mX12_nameIn_ok lkX12_251 rfl (Nat.le_of_ble_eq_true rfl) (Nat.le_of_ble_eq_true rfl) dX12_lies_174 W.hM  (j_nameIn W J m4 he2) ?_
              refine x_t_icmp_le (t1 := 184) (t2 := 185) dX12_lies_177 rfl dX12_lies_180 dX12_lies_181 rfl dX12_lies_184 rfl ?_
              rw [b2_bN]
              refine x_iadd (nI_add _ _) dX12_lies_185 ?_
              refine x_is6 rfl dX12_lies_186 ?_
              rw [show iv dk.1 st.1 i + cntL (fun e => decide (nm dk.1 st.1 e < nm dk.1 st.1 i)) e (i + 1) + bN (nI (nm dk.1 st.1 (i + 1 + e)) < nI (nm dk.1 st.1 i)) = iv dk.1 st.1 i + cntL (fun e => decide (nm dk.1 st.1 e < nm dk.1 st.1 i)) (e + 1) (i + 1) by rw [Nat.add_assoc, cntL_sb (by rw [nI_ltI (by omega) (by omega)]; simp)]]
              first | refine x_ii9 rfl (nI_1 _) dX12_lies_188 ?_ | refine x_ii9 rfl rfl dX12_lies_188 ?_
              refine x_goto (tgt := 150) dX12_lies_191 rfl ?_
              exact ih2 (e + 1) _ (by omega) ⟨by omega, rfl⟩
      · skip
        first | (simp only [cmp_lt, cmp_gt, cmp_eq, zN_cge, zN_cle, Decidable.not_not] at q36) | (simp (disch := omega) only [zN_le, zN_lt, zN_0, zN_1, nI_toInt, zN_eq, zN_eq0, b2_z, b2_nz, Decidable.not_not, Int.not_lt, Int.not_le, zK0, zK1, zK2, zK3, zK5, zK7, zK8, zK9, zK10, zK19, zK20, zK40, zK99, zK100, zK199] at q36) | skip
        refine x_al0 rfl dX12_lies_39 ?_
        refine x_il2 dX12_lies_40 ?_
        refine x_cv1I mX12_orderOf_ok lkX12_343 rfl (Nat.le_of_ble_eq_true rfl) (Nat.le_of_ble_eq_true rfl) dX12_lies_41 W.hM  (m_orderOf (W.mt J.1) m4) ?_
        exact x_iret rfl rfl dX12_lies_44 ⟨_, rfl, by rw [q36]; rfl, _, _, _, W, J⟩
    · skip
      first | (simp only [cmp_lt, cmp_gt, cmp_eq, zN_cge, zN_cle, Decidable.not_not] at q29) | (simp (disch := omega) only [zN_le, zN_lt, zN_0, zN_1, nI_toInt, zN_eq, zN_eq0, b2_z, b2_nz, Decidable.not_not, Int.not_lt, Int.not_le, zK0, zK1, zK2, zK3, zK5, zK7, zK8, zK9, zK10, zK19, zK20, zK40, zK99, zK100, zK199] at q29) | skip
      refine x_il2 dX12_lies_32 ?_
      exact x_iret rfl rfl dX12_lies_33 ⟨_, rfl, by rw [F_lies, if_pos q29], _, _, _, W, J⟩
  · skip
    first | (simp only [cmp_lt, cmp_gt, cmp_eq, zN_cge, zN_cle, Decidable.not_not] at q14) | (simp (disch := omega) only [zN_le, zN_lt, zN_0, zN_1, nI_toInt, zN_eq, zN_eq0, b2_z, b2_nz, Decidable.not_not, Int.not_lt, Int.not_le, zK0, zK1, zK2, zK3, zK5, zK7, zK8, zK9, zK10, zK19, zK20, zK40, zK99, zK100, zK199] at q14) | skip
    refine x_bipush (v := (-2)) dX12_lies_17 rfl ?_
    refine x_iret rfl rfl dX12_lies_19 ⟨_, rfl, ?_, _, _, _, W, J⟩
    have t1 : ∀ k : Nat, k ≤ 5 → ¬ x = nI k := fun k hk z => q14 (by rw [t0 k (by omega)] at z; omega)
    rw [F_lies, if_neg (show ¬ x = 0 from t1 0 (by decide)), if_neg (t1 1 (by decide)), if_neg (t1 2 (by decide)), if_neg (t1 3 (by decide)), if_neg (t1 4 (by decide)), if_neg (t1 5 (by decide))]
end ZMr

