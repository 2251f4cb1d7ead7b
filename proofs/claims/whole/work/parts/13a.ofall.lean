/-! who is let off of all rows: ofAll, ofOne, just on both sides -/
theorem mskL_ltn {n op : Nat} {nx sp : Option (List Nat)} {row c : Nat} : ∀ k p b, p + k ≤ n → b < 2 ^ n → mskL n op nx sp row c k p b < 2 ^ n := by
  intro k
  induction k with
  | zero => intro p b _ hb; exact hb
  | succ k ih =>
    intro p b hp hb
    unfold mskL
    refine ih _ _ (by omega) (Nat.or_lt_two_pow hb ?_)
    split
    · exact Nat.pow_lt_pow_right (by decide) (by omega)
    · exact Nat.pos_of_ne_zero (by simp)
theorem mskK_ltn {dk : zDk} {row c : Nat} : mskK dk row c < 2 ^ dk.1 := mskL_ltn dk.1 0 0 (by omega) (Nat.pos_of_ne_zero (by simp))
theorem mskK_lt {dk : zDk} {row c : Nat} (hn : dk.1 ≤ 6) : mskK dk row c < 64 := msk_lt hn
theorem popc_all {n u : Nat} (hn : n ≤ 6) (hu : u < 2 ^ n) : (popc u = n ↔ u = 2 ^ n - 1) ∧ (popc u = 0 ↔ u = 0) := by
  have : ∀ n, n < 7 → ∀ u, u < 2 ^ n → decide ((popc u = n ↔ u = 2 ^ n - 1) ∧ (popc u = 0 ↔ u = 0)) = true := by decide +kernel
  exact of_decide_eq_true (this n (by omega) u hu)
theorem bit_n {u k : Nat} (hu : u < 64) (hk : k < 6) : nI u >>> (nI k &&& 31) &&& nI 1 = nI (u / 2 ^ k % 2) := by
  have : ∀ u, u < 64 → ∀ k, k < 6 → nI u >>> (nI k &&& 31) &&& nI 1 = nI (u / 2 ^ k % 2) := by decide +kernel
  exact this u hu k hk
theorem goal_n {n : Nat} (hn : n ≤ 6) : (nI 1 <<< (nI n &&& 31)) - nI 1 = nI (2 ^ n - 1) := by
  have : ∀ n, n < 7 → (nI 1 <<< (nI n &&& 31)) - nI 1 = nI (2 ^ n - 1) := by decide +kernel
  exact this n (by omega)
theorem pow6 {n : Nat} (hn : n ≤ 6) : 2 ^ n ≤ 64 := Nat.pow_le_pow_right (n := 2) (by decide) hn
theorem goal_lt {n a : Nat} (hn : n ≤ 6) : goal n a < 64 := by
  have := pow6 hn
  unfold goal
  split <;> omega
abbrev soB (dk : zDk) (c aim : Nat) (q : Nat) : Bool := decide (mskK dk q c = goal dk.1 aim)
def F_ofAll (dk : zDk) (st : zSt) (x : Int32) : Int32 := if oneOf x 2 then nI (cnt (soB dk st.2.1 (tn x)) (fct dk.1)) else -2
def F_ofOne (dk : zDk) (st : zSt) (x : Int32) : Int32 := if oneOf x dk.1 then nI (cnt (fun q => decide (mskK dk q st.2.1 / 2 ^ tn x % 2 = 1)) (fct dk.1)) else -2
def justB (dk : zDk) (c : Nat) (x : Int32) (q : Nat) : Bool := decide (nI (popc (mskK dk q c)) = x)
def F_just (dk : zDk) (st : zSt) (x : Int32) : Int32 := if x < 0 then -3 else nI (cnt (justB dk st.2.1 x) (fct dk.1))
theorem cnt_congr {P P' : Nat → Bool} : ∀ {k : Nat}, (∀ j, j < k → P j = P' j) → cnt P k = cnt P' k := by
  intro k
  induction k with
  | zero => intro _; rfl
  | succ k ih => intro h; rw [cnt, cnt, ih (fun j hj => h j (by omega)), h k (by omega)]
theorem cnt_bit {f : Nat → Nat} {i : Nat} : cnt (fun q => decide (f q % 2 = 1)) i + f i % 2 = cnt (fun q => decide (f q % 2 = 1)) (i + 1) := by
  rw [cnt]
  by_cases z : f i % 2 = 1
  · rw [if_pos (decide_eq_true z), z]
  · rw [if_neg (by simp [z])]
    omega
section ZMo
variable {g : zG} {d : Nat} {h0 h : zH} {s : Nat → Value} {M : Nat → Nat → Int32} {L : Nat → Nat → Int64} {dk : zDk} {st : zSt} {un : List zSt} {tp : List Nat} {tr : Nat → zTr} {pi : Nat → zPi} {fl : Nat × Nat}
theorem j_isAim {x : Int32} : Zm g (d + 1) 0 0 mX12_isAim [.int x] h (rI (b2 (oneOf x 2)) h) := by
  have e2 : (0 : Int64).toInt ≤ x.toInt ∧ x.toInt ≤ (1 : Int64).toInt ↔ oneOf x 2 := by
    rw [zK0, zK1]
    unfold oneOf
    omega
  show Zw g (d + 1) 0 0 mX12_isAim 0 [some (.int x)] [] h _
  refine x_il0 dX12_isAim_0 ?_
  refine x_i2l (rfl) dX12_isAim_1 ?_
  refine x_lconst (v := 0) dX12_isAim_2 rfl ?_
  refine x_lconst (v := 1) dX12_isAim_3 rfl ?_
  refine x_cs3I mX12_within_ok lkX12_157 (Nat.le_of_ble_eq_true rfl) (Nat.le_of_ble_eq_true rfl) dX12_isAim_4 j_within ?_
  exact x_iret rfl  b2_nar dX12_isAim_7 ⟨by rw [b2_iff e2], rfl⟩
theorem j_laysLet (W : MW h0 h s M L) (J : MJ s M L dk st un tp tr pi fl) : Zm g (d + 4) 0 0 mX12_laysLet [.ref 59] h (rVp (fun h' => ∃ s' M' L', MW h0 h' s' M' L' ∧ MJ s' M' L' dk st un tp tr pi fl ∧ Un [21, 22] [66, 67, 68, 72] [] s s' M M' L L' ∧ ∀ q, q < fct dk.1 → M' 72 q = nI (mskK dk q st.2.1))) := by
  obtain ⟨D, hn0, hn6, ho0, ho9, hng, hli, e0, e1, e2, m1, m2, m3, m4, m5, u1, u2, t1, t2, r1, hf⟩ := MJ.o J
  show Zw g (d + 4) 0 0 mX12_laysLet 0 [some (.ref 59), none] [] h _
  refine x_iconst (v := nI 0) dX12_laysLet_0 rfl ?_
  refine x_is1 rfl dX12_laysLet_1 ?_
  refine x_for (e := fct dk.1) (fun i => [some (.ref 59), some (.int (nI i))]) (fun i h => ∃ s' M' L', MW h0 h s' M' L' ∧ MJ s' M' L' dk st un tp tr pi fl ∧ Un [21, 22] [66, 67, 68, 72] [] s s' M M' L L' ∧ ∀ q, q < i → M' 72 q = nI (mskK dk q st.2.1)) 0 (by omega) ⟨_, _, _, W, J, Un.rf, fun q hq => absurd hq (Nat.not_lt_zero _)⟩ (fun h hI => ?_) (fun i h hi hI ih => ?_)
  · obtain ⟨s', M', L', W, J, U, hl⟩ := hI
    obtain ⟨D, hn0, hn6, ho0, ho9, hng, hli, e0, e1, e2, m1, m2, m3, m4, m5, u1, u2, t1, t2, r1, hf⟩ := MJ.o J
    refine x_il1 dX12_laysLet_2 ?_
    refine x_al0 rfl dX12_laysLet_3 ?_
    refine x_gm fdX12_223 W.hM (by decide) (by first | assumption | rfl) dX12_laysLet_4 ?_
    refine x_icmp_ge (tgt := 34) dX12_laysLet_7 rfl (fun q7 => ?_) (fun q7 => ?_)
    · skip
      first | (simp only [cmp_lt, cmp_gt, cmp_eq, zN_cge, zN_cle, Decidable.not_not] at q7) | (simp (disch := omega) only [zN_le, zN_lt, zN_0, zN_1, nI_toInt, zN_eq, zN_eq0, b2_z, b2_nz, Decidable.not_not, Int.not_lt, Int.not_le, zK0, zK1, zK2, zK3, zK5, zK7, zK8, zK9, zK10, zK19, zK20, zK40, zK99, zK100, zK199] at q7) | skip
      exact x_vret rfl dX12_laysLet_34 ⟨rfl, _, _, _, W, J, U, hl⟩
    · skip
      first | (simp only [cmp_lt, cmp_gt, cmp_eq, zN_cge, zN_cle, Decidable.not_not] at q7) | (simp (disch := omega) only [zN_le, zN_lt, zN_0, zN_1, nI_toInt, zN_eq, zN_eq0, b2_z, b2_nz, Decidable.not_not, Int.not_lt, Int.not_le, zK0, zK1, zK2, zK3, zK5, zK7, zK8, zK9, zK10, zK19, zK20, zK40, zK99, zK100, zK199] at q7) | skip
      omega
  · obtain ⟨s', M', L', W, J, U, hl⟩ := hI
    obtain ⟨D, hn0, hn6, ho0, ho9, hng, hli, e0, e1, e2, m1, m2, m3, m4, m5, u1, u2, t1, t2, r1, hf⟩ := MJ.o J
    refine x_il1 dX12_laysLet_2 ?_
    refine x_al0 rfl dX12_laysLet_3 ?_
    refine x_gm fdX12_223 W.hM (by decide) (by first | assumption | rfl) dX12_laysLet_4 ?_
    refine x_icmp_ge (tgt := 34) dX12_laysLet_7 rfl (fun q7 => ?_) (fun q7 => ?_)
    · skip
      first | (simp only [cmp_lt, cmp_gt, cmp_eq, zN_cge, zN_cle, Decidable.not_not] at q7) | (simp (disch := omega) only [zN_le, zN_lt, zN_0, zN_1, nI_toInt, zN_eq, zN_eq0, b2_z, b2_nz, Decidable.not_not, Int.not_lt, Int.not_le, zK0, zK1, zK2, zK3, zK5, zK7, zK8, zK9, zK10, zK19, zK20, zK40, zK99, zK100, zK199] at q7) | skip
      omega
    · skip
      first | (simp only [cmp_lt, cmp_gt, cmp_eq, zN_cge, zN_cle, Decidable.not_not] at q7) | (simp (disch := omega) only [zN_le, zN_lt, zN_0, zN_1, nI_toInt, zN_eq, zN_eq0, b2_z, b2_nz, Decidable.not_not, Int.not_lt, Int.not_le, zK0, zK1, zK2, zK3, zK5, zK7, zK8, zK9, zK10, zK19, zK20, zK40, zK99, zK100, zK199] at q7) | skip
      refine x_al0 rfl dX12_laysLet_10 ?_
      refine x_gm fdX12_55 W.hM (by decide) W.hF.f28 dX12_laysLet_11 ?_
      refine x_il1 dX12_laysLet_14 ?_
      refine x_al0 rfl dX12_laysLet_15 ?_
      refine x_il1 dX12_laysLet_16 ?_
      refine x_al0 rfl dX12_laysLet_17 ?_
      refine x_gm fdX12_13 W.hM (by decide) W.hF.f1 dX12_laysLet_18 ?_
      refine x_bipush (v := nI 22) dX12_laysLet_21 rfl ?_
      refine x_mld (len := 2868) W rfl rfl (by decide) (by omega) (by first | assumption | rfl) dX12_laysLet_23 ?_
      refine x_cv2Ip mX12_letIn_ok lkX12_258 rfl (Nat.le_of_ble_eq_true rfl) (Nat.le_of_ble_eq_true rfl) dX12_laysLet_24 W.hM  (j_letIn W J (by first | assumption | omega)) (fun r h hq => ?_)
      obtain ⟨rfl, s2, M2, L2, W, J, U2⟩ := hq
      have e72 := U2.2.1 72 (by decide)
      refine x_mstJ (len := 720) W J rfl rfl (by decide) rfl (by omega) dX12_laysLet_27 (fun h W J => ?_)
      first | refine x_ii1 rfl (nI_1 _) dX12_laysLet_28 ?_ | refine x_ii1 rfl rfl dX12_laysLet_28 ?_
      refine x_goto (tgt := 2) dX12_laysLet_31 rfl ?_
      refine ih _ ⟨_, _, _, W, J, (U.tr (U2.mono (by simp) (by simp) (by simp))).m (by simp), fun q hq => ?_⟩
      rw [upM_eq]
      by_cases z : q = i
      · subst z; exact pk_us
      · rw [pk_un z, e72]; exact hl q (by omega)
theorem j_isSo {q aim m : Nat} (W : MW h0 h s M L) (J : MJ s M L dk st un tp tr pi fl) (hq : q < fct dk.1) (ha : aim < 2) (hl : M 72 q = nI m) (hm : m < 2 ^ 31) : Zm g d 0 0 mX12_isSo [.ref 59, .int (nI q), .int (nI aim)] h (rI (b2 (m = goal dk.1 aim)) h) := by
  obtain ⟨D, hn0, hn6, ho0, ho9, hng, hli, e0, e1, e2, m1, m2, m3, m4, m5, u1, u2, t1, t2, r1, hf⟩ := MJ.o J
  have gl := goal_lt (a := aim) hn6
  have p6 := pow6 hn6
  show Zw g d 0 0 mX12_isSo 0 [some (.ref 59), some (.int (nI q)), some (.int (nI aim))] [] h _
  refine x_al0 rfl dX12_isSo_0 ?_
  refine x_gm fdX12_55 W.hM (by decide) W.hF.f28 dX12_isSo_1 ?_
  refine x_il1 dX12_isSo_4 ?_
  refine x_mld (len := 720) W rfl rfl (by decide) (by omega) (by first | assumption | rfl) dX12_isSo_5 ?_
  refine x_il2 dX12_isSo_6 ?_
  refine x_if_ne (tgt := 23) dX12_isSo_7 rfl (fun q7 => ?_) (fun q7 => ?_)
  · skip
    first | (simp only [cmp_lt, cmp_gt, cmp_eq, zN_cge, zN_cle, Decidable.not_not] at q7) | (simp (disch := omega) only [zN_le, zN_lt, zN_0, zN_1, nI_toInt, zN_eq, zN_eq0, b2_z, b2_nz, Decidable.not_not, Int.not_lt, Int.not_le, zK0, zK1, zK2, zK3, zK5, zK7, zK8, zK9, zK10, zK19, zK20, zK40, zK99, zK100, zK199] at q7) | skip
    refine x_iconst (v := nI 0) dX12_isSo_23 rfl ?_
    refine x_t_icmp_ne (t1 := 31) (t2 := 32) dX12_isSo_24 rfl dX12_isSo_27 dX12_isSo_28 rfl dX12_isSo_31 rfl ?_
    exact x_iret rfl  b2_nar dX12_isSo_32 ⟨by rw [b2_iff (show nI m = nI 0 ↔ m = goal dk.1 aim by rw [nI_eq (by omega) (by omega), goal, if_neg (by omega)])], rfl⟩
  · skip
    first | (simp only [cmp_lt, cmp_gt, cmp_eq, zN_cge, zN_cle, Decidable.not_not] at q7) | (simp (disch := omega) only [zN_le, zN_lt, zN_0, zN_1, nI_toInt, zN_eq, zN_eq0, b2_z, b2_nz, Decidable.not_not, Int.not_lt, Int.not_le, zK0, zK1, zK2, zK3, zK5, zK7, zK8, zK9, zK10, zK19, zK20, zK40, zK99, zK100, zK199] at q7) | skip
    refine x_iconst (v := nI 1) dX12_isSo_10 rfl ?_
    refine x_al0 rfl dX12_isSo_11 ?_
    refine x_gm fdX12_13 W.hM (by decide) W.hF.f1 dX12_isSo_12 ?_
    refine x_iconst (v := nI 1) dX12_isSo_15 rfl ?_
    refine x_mld (len := 2868) W rfl rfl (by decide) (by omega) (by first | assumption | rfl) dX12_isSo_16 ?_
    refine x_ishl (rfl) dX12_isSo_17 ?_
    refine x_iconst (v := nI 1) dX12_isSo_18 rfl ?_
    refine x_isub (goal_n hn6) dX12_isSo_19 ?_
    refine x_goto (tgt := 24) dX12_isSo_20 rfl ?_
    refine x_t_icmp_ne (t1 := 31) (t2 := 32) dX12_isSo_24 rfl dX12_isSo_27 dX12_isSo_28 rfl dX12_isSo_31 rfl ?_
    exact x_iret rfl  b2_nar dX12_isSo_32 ⟨by rw [b2_iff (show nI m = nI (2 ^ dk.1 - 1) ↔ m = goal dk.1 aim by rw [nI_eq (by omega) (by omega), goal, if_pos (by omega)])], rfl⟩
theorem w_ofAll {x : Int32} (I : MI h0 h dk st un tp tr pi fl) : Zm g (d + 5) 0 0 mX12_ofAll [.ref 59, .int x] h (rIp (fun r h' => r = F_ofAll dk st x ∧ MI h0 h' dk st un tp tr pi fl)) := by
  obtain ⟨s, M, L, W, J⟩ := I
  obtain ⟨D, hn0, hn6, ho0, ho9, hng, hli, e0, e1, e2, m1, m2, m3, m4, m5, u1, u2, t1, t2, r1, hf⟩ := MJ.o J
  show Zw g (d + 5) 0 0 mX12_ofAll 0 [some (.ref 59), some (.int x), none, none] [] h _
  refine x_al0 rfl dX12_ofAll_0 ?_
  refine x_iconst (v := nI 0) dX12_ofAll_1 rfl ?_
  refine x_mpfJ W J fdX12_1 (by decide) rfl rfl zf_i dX12_ofAll_2 (fun h W J => ?_)
  refine x_il1 dX12_ofAll_5 ?_
  refine x_cs1I mX12_isAim_ok lkX12_369 (Nat.le_of_ble_eq_true rfl) (Nat.le_of_ble_eq_true rfl) dX12_ofAll_6 j_isAim ?_
  refine x_if_ne (tgt := 15) dX12_ofAll_9 rfl (fun q9 => ?_) (fun q9 => ?_)
  · skip
    first | (simp only [cmp_lt, cmp_gt, cmp_eq, zN_cge, zN_cle, Decidable.not_not] at q9) | (simp (disch := omega) only [zN_le, zN_lt, zN_0, zN_1, nI_toInt, zN_eq, zN_eq0, b2_z, b2_nz, Decidable.not_not, Int.not_lt, Int.not_le, zK0, zK1, zK2, zK3, zK5, zK7, zK8, zK9, zK10, zK19, zK20, zK40, zK99, zK100, zK199] at q9) | skip
    unfold F_ofAll
    rw [if_pos q9]
    obtain ⟨k, hk, rfl⟩ := oneOf_ex q9
    rw [show tn (nI k) = k from nI_clamp (by omega)]
    refine x_al0 rfl dX12_ofAll_15 ?_
    refine x_cv0Vp mX12_laysLet_ok lkX12_355 rfl (Nat.le_of_ble_eq_true rfl) (Nat.le_of_ble_eq_true rfl) dX12_ofAll_16 W.hM  (j_laysLet W J) (fun h hq => ?_)
    obtain ⟨s, M, L, W, J, U, hlet⟩ := hq
    obtain ⟨D, hn0, hn6, ho0, ho9, hng, hli, e0, e1, e2, m1, m2, m3, m4, m5, u1, u2, t1, t2, r1, hf⟩ := MJ.o J
    refine x_iconst (v := nI 0) dX12_ofAll_19 rfl ?_
    refine x_is2 rfl dX12_ofAll_20 ?_
    refine x_iconst (v := nI 0) dX12_ofAll_21 rfl ?_
    refine x_is3 rfl dX12_ofAll_22 ?_
    refine x_for (e := fct dk.1) (fun i => [some (.ref 59), some (.int (nI k)), some (.int (nI (cnt (soB dk st.2.1 k) i))), some (.int (nI i))]) (fun i h' => h' = h) 0 (by omega) rfl (fun h' hI => ?_) (fun i h' hi hI ih => ?_)
    · subst hI
      refine x_il3 dX12_ofAll_23 ?_
      refine x_al0 rfl dX12_ofAll_24 ?_
      refine x_gm fdX12_223 W.hM (by decide) (by first | assumption | rfl) dX12_ofAll_25 ?_
      refine x_icmp_ge (tgt := 54) dX12_ofAll_28 rfl (fun q28 => ?_) (fun q28 => ?_)
      · skip
        first | (simp only [cmp_lt, cmp_gt, cmp_eq, zN_cge, zN_cle, Decidable.not_not] at q28) | (simp (disch := omega) only [zN_le, zN_lt, zN_0, zN_1, nI_toInt, zN_eq, zN_eq0, b2_z, b2_nz, Decidable.not_not, Int.not_lt, Int.not_le, zK0, zK1, zK2, zK3, zK5, zK7, zK8, zK9, zK10, zK19, zK20, zK40, zK99, zK100, zK199] at q28) | skip
        refine x_il2 dX12_ofAll_54 ?_
        exact x_iret rfl rfl dX12_ofAll_55 ⟨_, rfl, rfl, _, _, _, W, J⟩
      · skip
        first | (simp only [cmp_lt, cmp_gt, cmp_eq, zN_cge, zN_cle, Decidable.not_not] at q28) | (simp (disch := omega) only [zN_le, zN_lt, zN_0, zN_1, nI_toInt, zN_eq, zN_eq0, b2_z, b2_nz, Decidable.not_not, Int.not_lt, Int.not_le, zK0, zK1, zK2, zK3, zK5, zK7, zK8, zK9, zK10, zK19, zK20, zK40, zK99, zK100, zK199] at q28) | skip
        omega
    · subst hI
      have ml := mskK_lt (row := i) (c := st.2.1) hn6
      refine x_il3 dX12_ofAll_23 ?_
      refine x_al0 rfl dX12_ofAll_24 ?_
      refine x_gm fdX12_223 W.hM (by decide) (by first | assumption | rfl) dX12_ofAll_25 ?_
      refine x_icmp_ge (tgt := 54) dX12_ofAll_28 rfl (fun q28 => ?_) (fun q28 => ?_)
      · skip
        first | (simp only [cmp_lt, cmp_gt, cmp_eq, zN_cge, zN_cle, Decidable.not_not] at q28) | (simp (disch := omega) only [zN_le, zN_lt, zN_0, zN_1, nI_toInt, zN_eq, zN_eq0, b2_z, b2_nz, Decidable.not_not, Int.not_lt, Int.not_le, zK0, zK1, zK2, zK3, zK5, zK7, zK8, zK9, zK10, zK19, zK20, zK40, zK99, zK100, zK199] at q28) | skip
        omega
      · skip
        first | (simp only [cmp_lt, cmp_gt, cmp_eq, zN_cge, zN_cle, Decidable.not_not] at q28) | (simp (disch := omega) only [zN_le, zN_lt, zN_0, zN_1, nI_toInt, zN_eq, zN_eq0, b2_z, b2_nz, Decidable.not_not, Int.not_lt, Int.not_le, zK0, zK1, zK2, zK3, zK5, zK7, zK8, zK9, zK10, zK19, zK20, zK40, zK99, zK100, zK199] at q28) | skip
        refine x_il2 dX12_ofAll_31 ?_
        refine x_al0 rfl dX12_ofAll_32 ?_
        refine x_il3 dX12_ofAll_33 ?_
        refine x_il1 dX12_ofAll_34 ?_
        refine x_cv2I mX12_isSo_ok lkX12_364 rfl (Nat.le_of_ble_eq_true rfl) (Nat.le_of_ble_eq_true rfl) dX12_ofAll_35 W.hM  (j_isSo W J hi hk (hlet i hi) (by omega)) ?_
        refine x_t_if_eq (t1 := 45) (t2 := 46) dX12_ofAll_38 rfl dX12_ofAll_41 dX12_ofAll_42 rfl dX12_ofAll_45 rfl ?_
        rw [b2_bN]
        refine x_iadd ((nI_add _ _).trans (congrArg nI (cnt_s (P := soB dk st.2.1 k) (by rw [b2_nz]; simp)))) dX12_ofAll_46 ?_
        refine x_is2 rfl dX12_ofAll_47 ?_
        first | refine x_ii3 rfl (nI_1 _) dX12_ofAll_48 ?_ | refine x_ii3 rfl rfl dX12_ofAll_48 ?_
        refine x_goto (tgt := 23) dX12_ofAll_51 rfl ?_
        exact ih _ rfl
  · skip
    first | (simp only [cmp_lt, cmp_gt, cmp_eq, zN_cge, zN_cle, Decidable.not_not] at q9) | (simp (disch := omega) only [zN_le, zN_lt, zN_0, zN_1, nI_toInt, zN_eq, zN_eq0, b2_z, b2_nz, Decidable.not_not, Int.not_lt, Int.not_le, zK0, zK1, zK2, zK3, zK5, zK7, zK8, zK9, zK10, zK19, zK20, zK40, zK99, zK100, zK199] at q9) | skip
    refine x_bipush (v := (-2)) dX12_ofAll_12 rfl ?_
    exact x_iret rfl rfl dX12_ofAll_14 ⟨_, rfl, by rw [F_ofAll, if_neg q9], _, _, _, W, J⟩
theorem w_ofOne {x : Int32} (I : MI h0 h dk st un tp tr pi fl) : Zm g (d + 5) 0 0 mX12_ofOne [.ref 59, .int x] h (rIp (fun r h' => r = F_ofOne dk st x ∧ MI h0 h' dk st un tp tr pi fl)) := by
  obtain ⟨s, M, L, W, J⟩ := I
  obtain ⟨D, hn0, hn6, ho0, ho9, hng, hli, e0, e1, e2, m1, m2, m3, m4, m5, u1, u2, t1, t2, r1, hf⟩ := MJ.o J
  show Zw g (d + 5) 0 0 mX12_ofOne 0 [some (.ref 59), some (.int x), none, none] [] h _
  refine x_al0 rfl dX12_ofOne_0 ?_
  refine x_iconst (v := nI 0) dX12_ofOne_1 rfl ?_
  refine x_mpfJ W J fdX12_1 (by decide) rfl rfl zf_i dX12_ofOne_2 (fun h W J => ?_)
  refine x_al0 rfl dX12_ofOne_5 ?_
  refine x_il1 dX12_ofOne_6 ?_
  refine x_i2l (rfl) dX12_ofOne_7 ?_
  refine x_cv1I mX12_isDrawer_ok lkX12_261 rfl (Nat.le_of_ble_eq_true rfl) (Nat.le_of_ble_eq_true rfl) dX12_ofOne_8 W.hM  (j_isDrawer W J) ?_
  refine x_if_ne (tgt := 17) dX12_ofOne_11 rfl (fun q11 => ?_) (fun q11 => ?_)
  · skip
    first | (simp only [cmp_lt, cmp_gt, cmp_eq, zN_cge, zN_cle, Decidable.not_not] at q11) | (simp (disch := omega) only [zN_le, zN_lt, zN_0, zN_1, nI_toInt, zN_eq, zN_eq0, b2_z, b2_nz, Decidable.not_not, Int.not_lt, Int.not_le, zK0, zK1, zK2, zK3, zK5, zK7, zK8, zK9, zK10, zK19, zK20, zK40, zK99, zK100, zK199] at q11) | skip
    unfold F_ofOne
    rw [if_pos q11]
    obtain ⟨k, hk, rfl⟩ := oneOf_ex q11
    rw [show tn (nI k) = k from nI_clamp (by omega)]
    refine x_al0 rfl dX12_ofOne_17 ?_
    refine x_cv0Vp mX12_laysLet_ok lkX12_355 rfl (Nat.le_of_ble_eq_true rfl) (Nat.le_of_ble_eq_true rfl) dX12_ofOne_18 W.hM  (j_laysLet W J) (fun h hq => ?_)
    obtain ⟨s, M, L, W, J, U, hlet⟩ := hq
    obtain ⟨D, hn0, hn6, ho0, ho9, hng, hli, e0, e1, e2, m1, m2, m3, m4, m5, u1, u2, t1, t2, r1, hf⟩ := MJ.o J
    refine x_iconst (v := nI 0) dX12_ofOne_21 rfl ?_
    refine x_is2 rfl dX12_ofOne_22 ?_
    refine x_iconst (v := nI 0) dX12_ofOne_23 rfl ?_
    refine x_is3 rfl dX12_ofOne_24 ?_
    refine x_for (e := fct dk.1) (fun i => [some (.ref 59), some (.int (nI k)), some (.int (nI (cnt (fun q => decide (mskK dk q st.2.1 / 2 ^ k % 2 = 1)) i))), some (.int (nI i))]) (fun i h' => h' = h) 0 (by omega) rfl (fun h' hI => ?_) (fun i h' hi hI ih => ?_)
    · subst hI
      refine x_il3 dX12_ofOne_25 ?_
      refine x_al0 rfl dX12_ofOne_26 ?_
      refine x_gm fdX12_223 W.hM (by decide) (by first | assumption | rfl) dX12_ofOne_27 ?_
      refine x_icmp_ge (tgt := 52) dX12_ofOne_30 rfl (fun q30 => ?_) (fun q30 => ?_)
      · skip
        first | (simp only [cmp_lt, cmp_gt, cmp_eq, zN_cge, zN_cle, Decidable.not_not] at q30) | (simp (disch := omega) only [zN_le, zN_lt, zN_0, zN_1, nI_toInt, zN_eq, zN_eq0, b2_z, b2_nz, Decidable.not_not, Int.not_lt, Int.not_le, zK0, zK1, zK2, zK3, zK5, zK7, zK8, zK9, zK10, zK19, zK20, zK40, zK99, zK100, zK199] at q30) | skip
        refine x_il2 dX12_ofOne_52 ?_
        exact x_iret rfl rfl dX12_ofOne_53 ⟨_, rfl, rfl, _, _, _, W, J⟩
      · skip
        first | (simp only [cmp_lt, cmp_gt, cmp_eq, zN_cge, zN_cle, Decidable.not_not] at q30) | (simp (disch := omega) only [zN_le, zN_lt, zN_0, zN_1, nI_toInt, zN_eq, zN_eq0, b2_z, b2_nz, Decidable.not_not, Int.not_lt, Int.not_le, zK0, zK1, zK2, zK3, zK5, zK7, zK8, zK9, zK10, zK19, zK20, zK40, zK99, zK100, zK199] at q30) | skip
        omega
    · subst hI
      have ml := mskK_lt (row := i) (c := st.2.1) hn6
      refine x_il3 dX12_ofOne_25 ?_
      refine x_al0 rfl dX12_ofOne_26 ?_
      refine x_gm fdX12_223 W.hM (by decide) (by first | assumption | rfl) dX12_ofOne_27 ?_
      refine x_icmp_ge (tgt := 52) dX12_ofOne_30 rfl (fun q30 => ?_) (fun q30 => ?_)
      · skip
        first | (simp only [cmp_lt, cmp_gt, cmp_eq, zN_cge, zN_cle, Decidable.not_not] at q30) | (simp (disch := omega) only [zN_le, zN_lt, zN_0, zN_1, nI_toInt, zN_eq, zN_eq0, b2_z, b2_nz, Decidable.not_not, Int.not_lt, Int.not_le, zK0, zK1, zK2, zK3, zK5, zK7, zK8, zK9, zK10, zK19, zK20, zK40, zK99, zK100, zK199] at q30) | skip
        omega
      · skip
        first | (simp only [cmp_lt, cmp_gt, cmp_eq, zN_cge, zN_cle, Decidable.not_not] at q30) | (simp (disch := omega) only [zN_le, zN_lt, zN_0, zN_1, nI_toInt, zN_eq, zN_eq0, b2_z, b2_nz, Decidable.not_not, Int.not_lt, Int.not_le, zK0, zK1, zK2, zK3, zK5, zK7, zK8, zK9, zK10, zK19, zK20, zK40, zK99, zK100, zK199] at q30) | skip
        refine x_il2 dX12_ofOne_33 ?_
        refine x_al0 rfl dX12_ofOne_34 ?_
        refine x_gm fdX12_55 W.hM (by decide) W.hF.f28 dX12_ofOne_35 ?_
        refine x_il3 dX12_ofOne_38 ?_
        refine x_mld (len := 720) W rfl rfl (by decide) (by omega) (hlet i hi) dX12_ofOne_39 ?_
        refine x_il1 dX12_ofOne_40 ?_
        refine x_ishr (rfl) dX12_ofOne_41 ?_
        refine x_iconst (v := nI 1) dX12_ofOne_42 rfl ?_
        refine x_iand (bit_n ml (by omega)) dX12_ofOne_43 ?_
        refine x_iadd ((nI_add _ _).trans (congrArg nI (cnt_bit (f := fun q => mskK dk q st.2.1 / 2 ^ k)))) dX12_ofOne_44 ?_
        refine x_is2 rfl dX12_ofOne_45 ?_
        first | refine x_ii3 rfl (nI_1 _) dX12_ofOne_46 ?_ | refine x_ii3 rfl rfl dX12_ofOne_46 ?_
        refine x_goto (tgt := 25) dX12_ofOne_49 rfl ?_
        exact ih _ rfl
  · skip
    first | (simp only [cmp_lt, cmp_gt, cmp_eq, zN_cge, zN_cle, Decidable.not_not] at q11) | (simp (disch := omega) only [zN_le, zN_lt, zN_0, zN_1, nI_toInt, zN_eq, zN_eq0, b2_z, b2_nz, Decidable.not_not, Int.not_lt, Int.not_le, zK0, zK1, zK2, zK3, zK5, zK7, zK8, zK9, zK10, zK19, zK20, zK40, zK99, zK100, zK199] at q11) | skip
    refine x_bipush (v := (-2)) dX12_ofOne_14 rfl ?_
    exact x_iret rfl rfl dX12_ofOne_16 ⟨_, rfl, by rw [F_ofOne, if_neg q11], _, _, _, W, J⟩
theorem w_just {x : Int32} (I : MI h0 h dk st un tp tr pi fl) : Zm g (d + 5) 0 0 mX12_just [.ref 59, .int x] h (rIp (fun r h' => r = F_just dk st x ∧ MI h0 h' dk st un tp tr pi fl)) := by
  obtain ⟨s, M, L, W, J⟩ := I
  obtain ⟨D, hn0, hn6, ho0, ho9, hng, hli, e0, e1, e2, m1, m2, m3, m4, m5, u1, u2, t1, t2, r1, hf⟩ := MJ.o J
  show Zw g (d + 5) 0 0 mX12_just 0 [some (.ref 59), some (.int x), none, none] [] h _
  refine x_al0 rfl dX12_just_0 ?_
  refine x_iconst (v := nI 0) dX12_just_1 rfl ?_
  refine x_mpfJ W J fdX12_1 (by decide) rfl rfl zf_i dX12_just_2 (fun h W J => ?_)
  refine x_il1 dX12_just_5 ?_
  refine x_if_ge (tgt := 12) dX12_just_6 rfl (fun q6 => ?_) (fun q6 => ?_)
  · skip
    unfold F_just
    rw [if_neg (fun z => absurd q6 (Int32.not_le.mpr z))]
    refine x_al0 rfl dX12_just_12 ?_
    refine x_cv0Vp mX12_laysLet_ok lkX12_355 rfl (Nat.le_of_ble_eq_true rfl) (Nat.le_of_ble_eq_true rfl) dX12_just_13 W.hM  (j_laysLet W J) (fun h hq => ?_)
    obtain ⟨s, M, L, W, J, U, hlet⟩ := hq
    obtain ⟨D, hn0, hn6, ho0, ho9, hng, hli, e0, e1, e2, m1, m2, m3, m4, m5, u1, u2, t1, t2, r1, hf⟩ := MJ.o J
    refine x_iconst (v := nI 0) dX12_just_16 rfl ?_
    refine x_is2 rfl dX12_just_17 ?_
    refine x_iconst (v := nI 0) dX12_just_18 rfl ?_
    refine x_is3 rfl dX12_just_19 ?_
    refine x_for (e := fct dk.1) (fun i => [some (.ref 59), some (.int x), some (.int (nI (cnt (justB dk st.2.1 x) i))), some (.int (nI i))]) (fun i h' => h' = h) 0 (by omega) rfl (fun h' hI => ?_) (fun i h' hi hI ih => ?_)
    · subst hI
      refine x_il3 dX12_just_20 ?_
      refine x_al0 rfl dX12_just_21 ?_
      refine x_gm fdX12_223 W.hM (by decide) (by first | assumption | rfl) dX12_just_22 ?_
      refine x_icmp_ge (tgt := 55) dX12_just_25 rfl (fun q25 => ?_) (fun q25 => ?_)
      · skip
        first | (simp only [cmp_lt, cmp_gt, cmp_eq, zN_cge, zN_cle, Decidable.not_not] at q25) | (simp (disch := omega) only [zN_le, zN_lt, zN_0, zN_1, nI_toInt, zN_eq, zN_eq0, b2_z, b2_nz, Decidable.not_not, Int.not_lt, Int.not_le, zK0, zK1, zK2, zK3, zK5, zK7, zK8, zK9, zK10, zK19, zK20, zK40, zK99, zK100, zK199] at q25) | skip
        refine x_il2 dX12_just_55 ?_
        exact x_iret rfl rfl dX12_just_56 ⟨_, rfl, rfl, _, _, _, W, J⟩
      · skip
        first | (simp only [cmp_lt, cmp_gt, cmp_eq, zN_cge, zN_cle, Decidable.not_not] at q25) | (simp (disch := omega) only [zN_le, zN_lt, zN_0, zN_1, nI_toInt, zN_eq, zN_eq0, b2_z, b2_nz, Decidable.not_not, Int.not_lt, Int.not_le, zK0, zK1, zK2, zK3, zK5, zK7, zK8, zK9, zK10, zK19, zK20, zK40, zK99, zK100, zK199] at q25) | skip
        omega
    · subst hI
      have ml := mskK_lt (row := i) (c := st.2.1) hn6
      refine x_il3 dX12_just_20 ?_
      refine x_al0 rfl dX12_just_21 ?_
      refine x_gm fdX12_223 W.hM (by decide) (by first | assumption | rfl) dX12_just_22 ?_
      refine x_icmp_ge (tgt := 55) dX12_just_25 rfl (fun q25 => ?_) (fun q25 => ?_)
      · skip
        first | (simp only [cmp_lt, cmp_gt, cmp_eq, zN_cge, zN_cle, Decidable.not_not] at q25) | (simp (disch := omega) only [zN_le, zN_lt, zN_0, zN_1, nI_toInt, zN_eq, zN_eq0, b2_z, b2_nz, Decidable.not_not, Int.not_lt, Int.not_le, zK0, zK1, zK2, zK3, zK5, zK7, zK8, zK9, zK10, zK19, zK20, zK40, zK99, zK100, zK199] at q25) | skip
        omega
      · skip
        first | (simp only [cmp_lt, cmp_gt, cmp_eq, zN_cge, zN_cle, Decidable.not_not] at q25) | (simp (disch := omega) only [zN_le, zN_lt, zN_0, zN_1, nI_toInt, zN_eq, zN_eq0, b2_z, b2_nz, Decidable.not_not, Int.not_lt, Int.not_le, zK0, zK1, zK2, zK3, zK5, zK7, zK8, zK9, zK10, zK19, zK20, zK40, zK99, zK100, zK199] at q25) | skip
        refine x_il2 dX12_just_28 ?_
        refine x_al0 rfl dX12_just_29 ?_
        refine x_gm fdX12_55 W.hM (by decide) W.hF.f28 dX12_just_30 ?_
        refine x_il3 dX12_just_33 ?_
        refine x_mld (len := 720) W rfl rfl (by decide) (by omega) (hlet i hi) dX12_just_34 ?_
        refine x_cs1I mX12_bitsOf_ok lkX12_284 (Nat.le_of_ble_eq_true rfl) (Nat.le_of_ble_eq_true rfl) dX12_just_35 (m_bitsOf ml) ?_
        refine x_il1 dX12_just_38 ?_
        refine x_t_icmp_ne (t1 := 46) (t2 := 47) dX12_just_39 rfl dX12_just_42 dX12_just_43 rfl dX12_just_46 rfl ?_
        rw [b2_bN]
        refine x_iadd ((nI_add _ _).trans (congrArg nI (cnt_s (P := justB dk st.2.1 x) (by unfold justB; simp)))) dX12_just_47 ?_
        refine x_is2 rfl dX12_just_48 ?_
        first | refine x_ii3 rfl (nI_1 _) dX12_just_49 ?_ | refine x_ii3 rfl rfl dX12_just_49 ?_
        refine x_goto (tgt := 20) dX12_just_52 rfl ?_
        exact ih _ rfl
  · skip
    refine x_bipush (v := (-3)) dX12_just_9 rfl ?_
    exact x_iret rfl rfl dX12_just_11 ⟨_, rfl, by rw [F_just, if_pos (Int32.not_le.mp q6)], _, _, _, W, J⟩
end ZMo
section ZCo
variable {g : zG} {d : Nat} {h0 h h' : zH} {dk : zDk} {st : zSt} {un : List zSt} {tp : List Nat} {tr : Nat → zTr} {pi : Nat → zPi} {fl : Nat × Nat} {ln : zLn} {sb sj : zS3} {dr : Int32}
theorem c_isAim {x : Int32} : Zm g d 0 0 mX11_isAim [.int x] h (rI (b2 (oneOf x 2)) h) := by
  have t0 : (x = 0 ↔ x.toInt = 0) := zN_x (k := 0) (by decide)
  have t1 : (x = nI 1 ↔ x.toInt = 1) := zN_x (k := 1) (by decide)
  show Zw g d 0 0 mX11_isAim 0 [some (.int x)] [] h _
  refine x_il0 dX11_isAim_0 ?_
  refine x_if_eq (tgt := 9) dX11_isAim_1 rfl (fun q1 => ?_) (fun q1 => ?_)
  · skip
    first | (simp only [cmp_lt, cmp_gt, cmp_eq, zN_cge, zN_cle, Decidable.not_not] at q1) | (simp (disch := omega) only [zN_le, zN_lt, zN_0, zN_1, nI_toInt, zN_eq, zN_eq0, b2_z, b2_nz, Decidable.not_not, Int.not_lt, Int.not_le, zK0, zK1, zK2, zK3, zK5, zK7, zK8, zK9, zK10, zK19, zK20, zK40, zK99, zK100, zK199] at q1) | skip
    refine x_iconst (v := nI 1) dX11_isAim_9 rfl ?_
    refine x_goto (tgt := 14) dX11_isAim_10 rfl ?_
    exact x_iret rfl  rfl dX11_isAim_14 ⟨by rw [b2o (by rw [t0] at q1; unfold oneOf; omega)], rfl⟩
  · skip
    first | (simp only [cmp_lt, cmp_gt, cmp_eq, zN_cge, zN_cle, Decidable.not_not] at q1) | (simp (disch := omega) only [zN_le, zN_lt, zN_0, zN_1, nI_toInt, zN_eq, zN_eq0, b2_z, b2_nz, Decidable.not_not, Int.not_lt, Int.not_le, zK0, zK1, zK2, zK3, zK5, zK7, zK8, zK9, zK10, zK19, zK20, zK40, zK99, zK100, zK199] at q1) | skip
    refine x_il0 dX11_isAim_4 ?_
    refine x_iconst (v := nI 1) dX11_isAim_5 rfl ?_
    refine x_icmp_ne (tgt := 13) dX11_isAim_6 rfl (fun q6 => ?_) (fun q6 => ?_)
    · skip
      first | (simp only [cmp_lt, cmp_gt, cmp_eq, zN_cge, zN_cle, Decidable.not_not] at q6) | (simp (disch := omega) only [zN_le, zN_lt, zN_0, zN_1, nI_toInt, zN_eq, zN_eq0, b2_z, b2_nz, Decidable.not_not, Int.not_lt, Int.not_le, zK0, zK1, zK2, zK3, zK5, zK7, zK8, zK9, zK10, zK19, zK20, zK40, zK99, zK100, zK199] at q6) | skip
      refine x_iconst (v := nI 0) dX11_isAim_13 rfl ?_
      exact x_iret rfl  rfl dX11_isAim_14 ⟨by rw [b2z (by rw [t0] at q1; rw [t1] at q6; unfold oneOf; omega)], rfl⟩
    · skip
      first | (simp only [cmp_lt, cmp_gt, cmp_eq, zN_cge, zN_cle, Decidable.not_not] at q6) | (simp (disch := omega) only [zN_le, zN_lt, zN_0, zN_1, nI_toInt, zN_eq, zN_eq0, b2_z, b2_nz, Decidable.not_not, Int.not_lt, Int.not_le, zK0, zK1, zK2, zK3, zK5, zK7, zK8, zK9, zK10, zK19, zK20, zK40, zK99, zK100, zK199] at q6) | skip
      refine x_iconst (v := nI 1) dX11_isAim_9 rfl ?_
      refine x_goto (tgt := 14) dX11_isAim_10 rfl ?_
      exact x_iret rfl  rfl dX11_isAim_14 ⟨by rw [b2o (by rw [t1] at q6; unfold oneOf; omega)], rfl⟩
theorem k_rowsWithJust {x : Int32} (I : CI h0 h dk st un tp tr pi fl ln sb sj dr) : Zm g (d + 6) 0 0 mX11_rowsWithJust [.ref 0, .int x] h (rIp (fun r h' => r = nI (cnt (justB dk st.2.1 x) (fct dk.1)) ∧ CI h0 h' dk st un tp tr pi fl ln sb sj dr)) := by
  obtain ⟨rt, rn, rs, sw, rmv, rmk, moc, len, fre, fc, fr, vn, vs, qd, wst, wqu, wwe, wla, hx, hn, hd, hR, hv, hw, hs⟩ := I.o
  obtain ⟨d1, d2, d3, d4, d5, d6, d7, d8⟩ := I.dkB
  have hf := fct_le d2
  show Zw g (d + 6) 0 0 mX11_rowsWithJust 0 [some (.ref 0), some (.int x), none, none] [] h _
  refine x_iconst (v := nI 0) dX11_rowsWithJust_0 rfl ?_
  refine x_is2 rfl dX11_rowsWithJust_1 ?_
  refine x_iconst (v := nI 0) dX11_rowsWithJust_2 rfl ?_
  refine x_is3 rfl dX11_rowsWithJust_3 ?_
  refine x_for (e := fct dk.1) (fun i => [some (.ref 0), some (.int x), some (.int (nI (cnt (justB dk st.2.1 x) i))), some (.int (nI i))]) (fun i h => CI h0 h dk st un tp tr pi fl ln sb sj dr) 0 (by omega) I (fun h I => ?_) (fun i h hi I ih => ?_)
  · obtain ⟨rt, rn, rs, sw, rmv, rmk, moc, len, fre, fc, fr, vn, vs, qd, wst, wqu, wwe, wla, hx, hn, hd, hR, hv, hw, hs⟩ := I.o
    refine x_il3 dX11_rowsWithJust_4 ?_
    refine x_al0 rfl dX11_rowsWithJust_5 ?_
    refine x_get fdX11_62 hx rfl dX11_rowsWithJust_6 ?_
    refine x_get fdX11_281 hR rfl dX11_rowsWithJust_9 ?_
    refine x_icmp_ge (tgt := 46) dX11_rowsWithJust_12 rfl (fun q12 => ?_) (fun q12 => ?_)
    · skip
      first | (simp only [cmp_lt, cmp_gt, cmp_eq, zN_cge, zN_cle, Decidable.not_not] at q12) | (simp (disch := omega) only [zN_le, zN_lt, zN_0, zN_1, nI_toInt, zN_eq, zN_eq0, b2_z, b2_nz, Decidable.not_not, Int.not_lt, Int.not_le, zK0, zK1, zK2, zK3, zK5, zK7, zK8, zK9, zK10, zK19, zK20, zK40, zK99, zK100, zK199] at q12) | skip
      refine x_il2 dX11_rowsWithJust_46 ?_
      exact x_iret rfl rfl dX11_rowsWithJust_47 ⟨_, rfl, rfl, I⟩
    · skip
      first | (simp only [cmp_lt, cmp_gt, cmp_eq, zN_cge, zN_cle, Decidable.not_not] at q12) | (simp (disch := omega) only [zN_le, zN_lt, zN_0, zN_1, nI_toInt, zN_eq, zN_eq0, b2_z, b2_nz, Decidable.not_not, Int.not_lt, Int.not_le, zK0, zK1, zK2, zK3, zK5, zK7, zK8, zK9, zK10, zK19, zK20, zK40, zK99, zK100, zK199] at q12) | skip
      omega
  · obtain ⟨rt, rn, rs, sw, rmv, rmk, moc, len, fre, fc, fr, vn, vs, qd, wst, wqu, wwe, wla, hx, hn, hd, hR, hv, hw, hs⟩ := I.o
    have ml := mskK_lt (row := i) (c := st.2.1) d2
    refine x_il3 dX11_rowsWithJust_4 ?_
    refine x_al0 rfl dX11_rowsWithJust_5 ?_
    refine x_get fdX11_62 hx rfl dX11_rowsWithJust_6 ?_
    refine x_get fdX11_281 hR rfl dX11_rowsWithJust_9 ?_
    refine x_icmp_ge (tgt := 46) dX11_rowsWithJust_12 rfl (fun q12 => ?_) (fun q12 => ?_)
    · skip
      first | (simp only [cmp_lt, cmp_gt, cmp_eq, zN_cge, zN_cle, Decidable.not_not] at q12) | (simp (disch := omega) only [zN_le, zN_lt, zN_0, zN_1, nI_toInt, zN_eq, zN_eq0, b2_z, b2_nz, Decidable.not_not, Int.not_lt, Int.not_le, zK0, zK1, zK2, zK3, zK5, zK7, zK8, zK9, zK10, zK19, zK20, zK40, zK99, zK100, zK199] at q12) | skip
      omega
    · skip
      first | (simp only [cmp_lt, cmp_gt, cmp_eq, zN_cge, zN_cle, Decidable.not_not] at q12) | (simp (disch := omega) only [zN_le, zN_lt, zN_0, zN_1, nI_toInt, zN_eq, zN_eq0, b2_z, b2_nz, Decidable.not_not, Int.not_lt, Int.not_le, zK0, zK1, zK2, zK3, zK5, zK7, zK8, zK9, zK10, zK19, zK20, zK40, zK99, zK100, zK199] at q12) | skip
      refine x_al0 rfl dX11_rowsWithJust_15 ?_
      refine x_get fdX11_71 hx rfl dX11_rowsWithJust_16 ?_
      refine x_il3 dX11_rowsWithJust_19 ?_
      refine x_al0 rfl dX11_rowsWithJust_20 ?_
      refine x_get fdX11_27 hx rfl dX11_rowsWithJust_21 ?_
      refine x_get fdX11_134 hn rfl dX11_rowsWithJust_24 ?_
      refine x_cv2Ip mX9_maskOf_ok lkX11_183 rfl (Nat.le_of_ble_eq_true rfl) (Nat.le_of_ble_eq_true rfl) dX11_rowsWithJust_27 hv  (k_maskOf I (by first | assumption | omega) (by first | assumption | omega)) (fun r h hq => ?_)
      obtain ⟨rfl, I⟩ := hq
      obtain ⟨rt, rn, rs, sw, rmv, rmk, moc, len, fre, fc, fr, vn, vs, qd, wst, wqu, wwe, wla, hx, hn, hd, hR, hv, hw, hs⟩ := I.o
      refine x_cs1I mJ6_bitCount_0f7a4_ok lkX11_186 (Nat.le_of_ble_eq_true rfl) (Nat.le_of_ble_eq_true rfl) dX11_rowsWithJust_30 (c_bitCount ml) ?_
      refine x_il1 dX11_rowsWithJust_33 ?_
      refine x_icmp_ne (tgt := 40) dX11_rowsWithJust_34 rfl (fun q34 => ?_) (fun q34 => ?_)
      · skip
        first | (simp only [cmp_lt, cmp_gt, cmp_eq, zN_cge, zN_cle, Decidable.not_not] at q34) | (simp (disch := omega) only [zN_le, zN_lt, zN_0, zN_1, nI_toInt, zN_eq, zN_eq0, b2_z, b2_nz, Decidable.not_not, Int.not_lt, Int.not_le, zK0, zK1, zK2, zK3, zK5, zK7, zK8, zK9, zK10, zK19, zK20, zK40, zK99, zK100, zK199] at q34) | skip
        refine x_ii3 rfl (nI_1 _) dX11_rowsWithJust_40 ?_
        refine x_goto (tgt := 4) dX11_rowsWithJust_43 rfl ?_
        rw [show cnt (justB dk st.2.1 x) i = cnt (justB dk st.2.1 x) (i + 1) by rw [cnt, if_neg (by unfold justB; simpa using q34)]; rfl]
        exact ih _ I
      · skip
        first | (simp only [cmp_lt, cmp_gt, cmp_eq, zN_cge, zN_cle, Decidable.not_not] at q34) | (simp (disch := omega) only [zN_le, zN_lt, zN_0, zN_1, nI_toInt, zN_eq, zN_eq0, b2_z, b2_nz, Decidable.not_not, Int.not_lt, Int.not_le, zK0, zK1, zK2, zK3, zK5, zK7, zK8, zK9, zK10, zK19, zK20, zK40, zK99, zK100, zK199] at q34) | skip
        first | refine x_ii2 rfl (nI_1 _) dX11_rowsWithJust_37 ?_ | refine x_ii2 rfl rfl dX11_rowsWithJust_37 ?_
        refine x_ii3 rfl (nI_1 _) dX11_rowsWithJust_40 ?_
        refine x_goto (tgt := 4) dX11_rowsWithJust_43 rfl ?_
        rw [show cnt (justB dk st.2.1 x) i + 1 = cnt (justB dk st.2.1 x) (i + 1) by rw [cnt, if_pos (by unfold justB; simpa using q34)]]
        exact ih _ I
theorem k_just {x : Int32} (I : CI h0 h dk st un tp tr pi fl ln sb sj dr) : Zm g (d + 7) 0 0 mX11_just [.ref 0, .int x] h (rIp (fun r h' => r = F_just dk st x ∧ CI h0 h' dk st un tp tr pi fl ln sb sj dr)) := by
  obtain ⟨rt, rn, rs, sw, rmv, rmk, moc, len, fre, fc, fr, vn, vs, qd, wst, wqu, wwe, wla, hx, hn, hd, hR, hv, hw, hs⟩ := I.o
  show Zw g (d + 7) 0 0 mX11_just 0 [some (.ref 0), some (.int x)] [] h _
  refine x_il1 dX11_just_0 ?_
  refine x_if_ge (tgt := 9) dX11_just_1 rfl (fun q1 => ?_) (fun q1 => ?_)
  · skip
    refine x_al0 rfl dX11_just_9 ?_
    refine x_il1 dX11_just_10 ?_
    refine x_cv1Ip mX11_rowsWithJust_ok lkX11_330 rfl (Nat.le_of_ble_eq_true rfl) (Nat.le_of_ble_eq_true rfl) dX11_just_11 hx  (k_rowsWithJust I) (fun r h hq => ?_)
    obtain ⟨rfl, I⟩ := hq
    obtain ⟨rt, rn, rs, sw, rmv, rmk, moc, len, fre, fc, fr, vn, vs, qd, wst, wqu, wwe, wla, hx, hn, hd, hR, hv, hw, hs⟩ := I.o
    exact x_iret rfl rfl dX11_just_14 ⟨_, rfl, by rw [F_just, if_neg (fun z => absurd q1 (Int32.not_le.mpr z))], I⟩
  · skip
    refine x_bipush (v := (-3)) dX11_just_4 rfl ?_
    refine x_goto (tgt := 14) dX11_just_6 rfl ?_
    exact x_iret rfl rfl dX11_just_14 ⟨_, rfl, by rw [F_just, if_pos (Int32.not_le.mp q1)], I⟩
theorem k_ofAll {x : Int32} (I : CI h0 h dk st un tp tr pi fl ln sb sj dr) : Zm g (d + 7) 0 0 mX11_ofAll [.ref 0, .int x] h (rIp (fun r h' => r = F_ofAll dk st x ∧ CI h0 h' dk st un tp tr pi fl ln sb sj dr)) := by
  obtain ⟨rt, rn, rs, sw, rmv, rmk, moc, len, fre, fc, fr, vn, vs, qd, wst, wqu, wwe, wla, hx, hn, hd, hR, hv, hw, hs⟩ := I.o
  obtain ⟨d1, d2, d3, d4, d5, d6, d7, d8⟩ := I.dkB
  show Zw g (d + 7) 0 0 mX11_ofAll 0 [some (.ref 0), some (.int x)] [] h _
  refine x_il1 dX11_ofAll_0 ?_
  refine x_cs1I mX11_isAim_ok lkX11_294 (Nat.le_of_ble_eq_true rfl) (Nat.le_of_ble_eq_true rfl) dX11_ofAll_1 c_isAim ?_
  refine x_if_ne (tgt := 10) dX11_ofAll_4 rfl (fun q4 => ?_) (fun q4 => ?_)
  · skip
    first | (simp only [cmp_lt, cmp_gt, cmp_eq, zN_cge, zN_cle, Decidable.not_not] at q4) | (simp (disch := omega) only [zN_le, zN_lt, zN_0, zN_1, nI_toInt, zN_eq, zN_eq0, b2_z, b2_nz, Decidable.not_not, Int.not_lt, Int.not_le, zK0, zK1, zK2, zK3, zK5, zK7, zK8, zK9, zK10, zK19, zK20, zK40, zK99, zK100, zK199] at q4) | skip
    unfold F_ofAll
    rw [if_pos q4]
    obtain ⟨k, hk, rfl⟩ := oneOf_ex q4
    rw [show tn (nI k) = k from nI_clamp (by omega)]
    refine x_al0 rfl dX11_ofAll_10 ?_
    refine x_il1 dX11_ofAll_11 ?_
    refine x_if_ne (tgt := 25) dX11_ofAll_12 rfl (fun q12 => ?_) (fun q12 => ?_)
    · skip
      first | (simp only [cmp_lt, cmp_gt, cmp_eq, zN_cge, zN_cle, Decidable.not_not] at q12) | (simp (disch := omega) only [zN_le, zN_lt, zN_0, zN_1, nI_toInt, zN_eq, zN_eq0, b2_z, b2_nz, Decidable.not_not, Int.not_lt, Int.not_le, zK0, zK1, zK2, zK3, zK5, zK7, zK8, zK9, zK10, zK19, zK20, zK40, zK99, zK100, zK199] at q12) | skip
      refine x_iconst (v := nI 0) dX11_ofAll_25 rfl ?_
      refine x_cv1Ip mX11_rowsWithJust_ok lkX11_330 rfl (Nat.le_of_ble_eq_true rfl) (Nat.le_of_ble_eq_true rfl) dX11_ofAll_26 hx  (k_rowsWithJust I) (fun r h hq => ?_)
      obtain ⟨rfl, I⟩ := hq
      obtain ⟨rt, rn, rs, sw, rmv, rmk, moc, len, fre, fc, fr, vn, vs, qd, wst, wqu, wwe, wla, hx, hn, hd, hR, hv, hw, hs⟩ := I.o
      have pl : ∀ j, popc (mskK dk j st.2.1) ≤ 6 := fun j => popc_le
      exact x_iret rfl rfl dX11_ofAll_29 ⟨_, rfl, congrArg nI (cnt_congr (fun j _ => by unfold justB soB; exact decide_eq_decide.mpr (by rw [nI_eq (by have := pl j; omega) (by omega), (popc_all d2 mskK_ltn).2, goal, if_neg (by omega)]))), I⟩
    · skip
      first | (simp only [cmp_lt, cmp_gt, cmp_eq, zN_cge, zN_cle, Decidable.not_not] at q12) | (simp (disch := omega) only [zN_le, zN_lt, zN_0, zN_1, nI_toInt, zN_eq, zN_eq0, b2_z, b2_nz, Decidable.not_not, Int.not_lt, Int.not_le, zK0, zK1, zK2, zK3, zK5, zK7, zK8, zK9, zK10, zK19, zK20, zK40, zK99, zK100, zK199] at q12) | skip
      refine x_al0 rfl dX11_ofAll_15 ?_
      refine x_get fdX11_106 hx rfl dX11_ofAll_16 ?_
      refine x_get fdX11_143 hd rfl dX11_ofAll_19 ?_
      refine x_goto (tgt := 26) dX11_ofAll_22 rfl ?_
      refine x_cv1Ip mX11_rowsWithJust_ok lkX11_330 rfl (Nat.le_of_ble_eq_true rfl) (Nat.le_of_ble_eq_true rfl) dX11_ofAll_26 hx  (k_rowsWithJust I) (fun r h hq => ?_)
      obtain ⟨rfl, I⟩ := hq
      obtain ⟨rt, rn, rs, sw, rmv, rmk, moc, len, fre, fc, fr, vn, vs, qd, wst, wqu, wwe, wla, hx, hn, hd, hR, hv, hw, hs⟩ := I.o
      have pl : ∀ j, popc (mskK dk j st.2.1) ≤ 6 := fun j => popc_le
      exact x_iret rfl rfl dX11_ofAll_29 ⟨_, rfl, congrArg nI (cnt_congr (fun j _ => by unfold justB soB; exact decide_eq_decide.mpr (by rw [nI_eq (by have := pl j; omega) (by omega), (popc_all d2 mskK_ltn).1, goal, if_pos (by omega)]))), I⟩
  · skip
    first | (simp only [cmp_lt, cmp_gt, cmp_eq, zN_cge, zN_cle, Decidable.not_not] at q4) | (simp (disch := omega) only [zN_le, zN_lt, zN_0, zN_1, nI_toInt, zN_eq, zN_eq0, b2_z, b2_nz, Decidable.not_not, Int.not_lt, Int.not_le, zK0, zK1, zK2, zK3, zK5, zK7, zK8, zK9, zK10, zK19, zK20, zK40, zK99, zK100, zK199] at q4) | skip
    refine x_bipush (v := (-2)) dX11_ofAll_7 rfl ?_
    exact x_iret rfl rfl dX11_ofAll_9 ⟨_, rfl, by rw [F_ofAll, if_neg q4], I⟩
theorem k_ofOne {x : Int32} (I : CI h0 h dk st un tp tr pi fl ln sb sj dr) : Zm g (d + 7) 0 0 mX11_ofOne [.ref 0, .int x] h (rIp (fun r h' => r = F_ofOne dk st x ∧ CI h0 h' dk st un tp tr pi fl ln sb sj dr)) := by
  obtain ⟨rt, rn, rs, sw, rmv, rmk, moc, len, fre, fc, fr, vn, vs, qd, wst, wqu, wwe, wla, hx, hn, hd, hR, hv, hw, hs⟩ := I.o
  obtain ⟨d1, d2, d3, d4, d5, d6, d7, d8⟩ := I.dkB
  have hf := fct_le d2
  show Zw g (d + 7) 0 0 mX11_ofOne 0 [some (.ref 0), some (.int x), none, none] [] h _
  refine x_al0 rfl dX11_ofOne_0 ?_
  refine x_il1 dX11_ofOne_1 ?_
  refine x_cv1I mX11_isDrawer_ok lkX11_153 rfl (Nat.le_of_ble_eq_true rfl) (Nat.le_of_ble_eq_true rfl) dX11_ofOne_2 hx  (k_isDrawer I) ?_
  refine x_if_ne (tgt := 11) dX11_ofOne_5 rfl (fun q5 => ?_) (fun q5 => ?_)
  · skip
    first | (simp only [cmp_lt, cmp_gt, cmp_eq, zN_cge, zN_cle, Decidable.not_not] at q5) | (simp (disch := omega) only [zN_le, zN_lt, zN_0, zN_1, nI_toInt, zN_eq, zN_eq0, b2_z, b2_nz, Decidable.not_not, Int.not_lt, Int.not_le, zK0, zK1, zK2, zK3, zK5, zK7, zK8, zK9, zK10, zK19, zK20, zK40, zK99, zK100, zK199] at q5) | skip
    unfold F_ofOne
    rw [if_pos q5]
    obtain ⟨k, hk, rfl⟩ := oneOf_ex q5
    rw [show tn (nI k) = k from nI_clamp (by omega)]
    refine x_iconst (v := nI 0) dX11_ofOne_11 rfl ?_
    refine x_is2 rfl dX11_ofOne_12 ?_
    refine x_iconst (v := nI 0) dX11_ofOne_13 rfl ?_
    refine x_is3 rfl dX11_ofOne_14 ?_
    refine x_for (e := fct dk.1) (fun i => [some (.ref 0), some (.int (nI k)), some (.int (nI (cnt (fun q => decide (mskK dk q st.2.1 / 2 ^ k % 2 = 1)) i))), some (.int (nI i))]) (fun i h => CI h0 h dk st un tp tr pi fl ln sb sj dr) 0 (by omega) I (fun h I => ?_) (fun i h hi I ih => ?_)
    · obtain ⟨rt, rn, rs, sw, rmv, rmk, moc, len, fre, fc, fr, vn, vs, qd, wst, wqu, wwe, wla, hx, hn, hd, hR, hv, hw, hs⟩ := I.o
      refine x_il3 dX11_ofOne_15 ?_
      refine x_al0 rfl dX11_ofOne_16 ?_
      refine x_get fdX11_62 hx rfl dX11_ofOne_17 ?_
      refine x_get fdX11_281 hR rfl dX11_ofOne_20 ?_
      refine x_icmp_ge (tgt := 54) dX11_ofOne_23 rfl (fun q23 => ?_) (fun q23 => ?_)
      · skip
        first | (simp only [cmp_lt, cmp_gt, cmp_eq, zN_cge, zN_cle, Decidable.not_not] at q23) | (simp (disch := omega) only [zN_le, zN_lt, zN_0, zN_1, nI_toInt, zN_eq, zN_eq0, b2_z, b2_nz, Decidable.not_not, Int.not_lt, Int.not_le, zK0, zK1, zK2, zK3, zK5, zK7, zK8, zK9, zK10, zK19, zK20, zK40, zK99, zK100, zK199] at q23) | skip
        refine x_il2 dX11_ofOne_54 ?_
        exact x_iret rfl rfl dX11_ofOne_55 ⟨_, rfl, rfl, I⟩
      · skip
        first | (simp only [cmp_lt, cmp_gt, cmp_eq, zN_cge, zN_cle, Decidable.not_not] at q23) | (simp (disch := omega) only [zN_le, zN_lt, zN_0, zN_1, nI_toInt, zN_eq, zN_eq0, b2_z, b2_nz, Decidable.not_not, Int.not_lt, Int.not_le, zK0, zK1, zK2, zK3, zK5, zK7, zK8, zK9, zK10, zK19, zK20, zK40, zK99, zK100, zK199] at q23) | skip
        omega
    · obtain ⟨rt, rn, rs, sw, rmv, rmk, moc, len, fre, fc, fr, vn, vs, qd, wst, wqu, wwe, wla, hx, hn, hd, hR, hv, hw, hs⟩ := I.o
      have ml := mskK_lt (row := i) (c := st.2.1) d2
      refine x_il3 dX11_ofOne_15 ?_
      refine x_al0 rfl dX11_ofOne_16 ?_
      refine x_get fdX11_62 hx rfl dX11_ofOne_17 ?_
      refine x_get fdX11_281 hR rfl dX11_ofOne_20 ?_
      refine x_icmp_ge (tgt := 54) dX11_ofOne_23 rfl (fun q23 => ?_) (fun q23 => ?_)
      · skip
        first | (simp only [cmp_lt, cmp_gt, cmp_eq, zN_cge, zN_cle, Decidable.not_not] at q23) | (simp (disch := omega) only [zN_le, zN_lt, zN_0, zN_1, nI_toInt, zN_eq, zN_eq0, b2_z, b2_nz, Decidable.not_not, Int.not_lt, Int.not_le, zK0, zK1, zK2, zK3, zK5, zK7, zK8, zK9, zK10, zK19, zK20, zK40, zK99, zK100, zK199] at q23) | skip
        omega
      · skip
        first | (simp only [cmp_lt, cmp_gt, cmp_eq, zN_cge, zN_cle, Decidable.not_not] at q23) | (simp (disch := omega) only [zN_le, zN_lt, zN_0, zN_1, nI_toInt, zN_eq, zN_eq0, b2_z, b2_nz, Decidable.not_not, Int.not_lt, Int.not_le, zK0, zK1, zK2, zK3, zK5, zK7, zK8, zK9, zK10, zK19, zK20, zK40, zK99, zK100, zK199] at q23) | skip
        refine x_il2 dX11_ofOne_26 ?_
        refine x_al0 rfl dX11_ofOne_27 ?_
        refine x_get fdX11_71 hx rfl dX11_ofOne_28 ?_
        refine x_il3 dX11_ofOne_31 ?_
        refine x_al0 rfl dX11_ofOne_32 ?_
        refine x_get fdX11_27 hx rfl dX11_ofOne_33 ?_
        refine x_get fdX11_134 hn rfl dX11_ofOne_36 ?_
        refine x_cv2Ip mX9_maskOf_ok lkX11_183 rfl (Nat.le_of_ble_eq_true rfl) (Nat.le_of_ble_eq_true rfl) dX11_ofOne_39 hv  (k_maskOf I (by first | assumption | omega) (by first | assumption | omega)) (fun r h hq => ?_)
        obtain ⟨rfl, I⟩ := hq
        obtain ⟨rt, rn, rs, sw, rmv, rmk, moc, len, fre, fc, fr, vn, vs, qd, wst, wqu, wwe, wla, hx, hn, hd, hR, hv, hw, hs⟩ := I.o
        refine x_il1 dX11_ofOne_42 ?_
        refine x_ishr (rfl) dX11_ofOne_43 ?_
        refine x_iconst (v := nI 1) dX11_ofOne_44 rfl ?_
        refine x_iand (bit_n ml (by omega)) dX11_ofOne_45 ?_
        refine x_iadd ((nI_add _ _).trans (congrArg nI (cnt_bit (f := fun q => mskK dk q st.2.1 / 2 ^ k)))) dX11_ofOne_46 ?_
        refine x_is2 rfl dX11_ofOne_47 ?_
        first | refine x_ii3 rfl (nI_1 _) dX11_ofOne_48 ?_ | refine x_ii3 rfl rfl dX11_ofOne_48 ?_
        refine x_goto (tgt := 15) dX11_ofOne_51 rfl ?_
        exact ih _ I
  · skip
    first | (simp only [cmp_lt, cmp_gt, cmp_eq, zN_cge, zN_cle, Decidable.not_not] at q5) | (simp (disch := omega) only [zN_le, zN_lt, zN_0, zN_1, nI_toInt, zN_eq, zN_eq0, b2_z, b2_nz, Decidable.not_not, Int.not_lt, Int.not_le, zK0, zK1, zK2, zK3, zK5, zK7, zK8, zK9, zK10, zK19, zK20, zK40, zK99, zK100, zK199] at q5) | skip
    refine x_bipush (v := (-2)) dX11_ofOne_8 rfl ?_
    exact x_iret rfl rfl dX11_ofOne_10 ⟨_, rfl, by rw [F_ofOne, if_neg q5], I⟩
end ZCo

