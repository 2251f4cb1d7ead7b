/-! the class's rows, chance, mean -/
theorem smS_z {B : Nat → Bool} {w : Nat → Nat} {s : Nat} (h : lN (w s) = 0) : lN (smS B w (s + 1)) = lN (smS B w s) := by
  rw [smS]
  split
  · rw [← lN_add, h, Int64.add_zero]
  · rfl
theorem smM_z {F w : Nat → Nat} {s : Nat} (h : lN (w s) = 0) : lN (smM F w (s + 1)) = lN (smM F w s) := by
  rw [smM, ← lN_add, ← lN_mul, h, Int64.zero_mul, Int64.add_zero]
section ZRl
variable {m : zMe} {g : zG} {d κ σ pc : Nat} {ls : List (Option Value)} {h : zH} {Q : Option Value → zH → Prop}
theorem x_cv1Lr {v1 : Value} {mz : zMe} {n κ1 σ1 κ2 σ2 : Nat} {rest : List Value} {P : Int64 → zH → Prop} {i ci : Nat} {fs : List Value} (hM : zMV mz 1) (hL : zLk m.1.cls n mz) (hcl : vwCl[ci]?.map (fun q => q.1) = some mz.1.cls) (hfl : (z_fl [.ref i, v1]).length ≤ mz.2.2.1) (hr : (rest.map fun v => v.category).sum ≤ 8) (hd : decode m.2.1 pc = .ok (.invokevirtual n, 3)) (he : h[i]? = some (.inr (ci, fs))) (h1 : κ1 + κ2 ≤ κ) (h2 : σ1 + σ2 ≤ σ) (C : Zm g d κ1 σ1 mz [.ref i, v1] h (rLp P)) (kk : ∀ (r : Int64) (h' : zH), P r h' → Zw g (d + 1) κ2 σ2 m (pc + 3) ls (.long r :: rest) h' Q) : Zw g (d + 1) κ σ m pc ls (v1 :: .ref i :: rest) h Q := x_callV (as := [v1]) hM hL hcl rfl hfl hr hd he h1 h2 C (fun _ _ q => by obtain ⟨r, rfl, q⟩ := q; exact kk r _ q)
theorem c_greatestDivisor {A B : Nat} (hA : A < 2 ^ 31) (hB : B < 2 ^ 30) : Zm g d 0 0 mX11_greatestDivisor [.long (lN A), .long (lN B)] h (rL (lN (Nat.gcd A B)) h) := by
  show Zw g d 0 0 mX11_greatestDivisor 0 [some (.long (lN A)), none, some (.long (lN B)), none, none, none, none, none, none, none, none] [] h _
  have AB : A * B < 2 ^ 61 := by
    have := Nat.mul_lt_mul'' hA hB
    rw [← Nat.pow_add] at this
    exact this
  refine x_ll0 dX11_greatestDivisor_0 ?_
  refine x_ls4 rfl dX11_greatestDivisor_1 ?_
  refine x_ll2 dX11_greatestDivisor_3 ?_
  refine x_ls6 rfl dX11_greatestDivisor_4 ?_
  refine x_iconst (v := nI 0) dX11_greatestDivisor_6 rfl ?_
  refine x_is8 rfl dX11_greatestDivisor_7 ?_
  refine x_wh (fun (a : Nat × Nat × Nat × Option Value) => [some (.long (lN A)), none, some (.long (lN B)), none, some (.long (lN a.1)), none, some (.long (lN a.2.1)), none, some (.int (nI a.2.2.1)), a.2.2.2, none]) (fun a h' => h' = h ∧ a.1 < 2 ^ 31 ∧ a.2.1 < 2 ^ 31 ∧ a.2.2.1 ≤ 200 ∧ Nat.gcd a.1 a.2.1 = Nat.gcd A B ∧ ((a.2.2.1 = 0 ∧ a.1 = A ∧ a.2.1 = B) ∨ (0 < a.2.2.1 ∧ a.2.1 < a.1 ∧ a.1 * a.2.1 * 2 ^ (a.2.2.1 - 1) ≤ A * B))) (fun a => 200 - a.2.2.1) (A, B, 0, none) ⟨rfl, hA, by simp only; omega, Nat.zero_le _, rfl, Or.inl ⟨rfl, rfl, rfl⟩⟩ (fun a h' hI ih => ?_)
  obtain ⟨a, b, i, lv⟩ := a
  obtain ⟨rfl, ha, hb, hi, hg, hc⟩ := hI
  simp only at ha hb hi hg hc
  dsimp only
  rw [← hg]
  refine x_il8 dX11_greatestDivisor_9 ?_
  refine x_sipush (v := nI 200) dX11_greatestDivisor_11 (by decide) ?_
  refine x_icmp_ge (tgt := 45) dX11_greatestDivisor_14 rfl (fun q14 => ?_) (fun q14 => ?_)
  · skip
    first | (simp only [cmp_lt, cmp_gt, cmp_eq, zN_cge, zN_cle, Decidable.not_not] at q14) | (simp (disch := omega) only [zN_le, zN_lt, zN_0, zN_1, nI_toInt, zN_eq, zN_eq0, b2_z, b2_nz, Decidable.not_not, Int.not_lt, Int.not_le, zK0, zK1, zK2, zK3, zK5, zK7, zK8, zK9, zK10, zK19, zK20, zK40, zK99, zK100, zK199] at q14) | skip
    refine x_ll4 dX11_greatestDivisor_45 ?_
    refine x_lret rfl dX11_greatestDivisor_47 ⟨?_, rfl⟩
    have b0 : b = 0 := by
      rcases hc with ⟨c, -⟩ | ⟨c1, c2, c3⟩
      · omega
      · rcases Nat.eq_zero_or_pos b with z | z
        · exact z
        · have p : 0 < a * b := Nat.mul_pos (by omega) z
          have e1 : 2 ^ (i - 1) ≤ a * b * 2 ^ (i - 1) := Nat.le_mul_of_pos_left _ p
          rw [show i - 1 = 199 by omega] at e1 c3
          exact absurd (Nat.lt_of_le_of_lt (Nat.le_trans e1 c3) AB) (by decide)
    rw [b0, Nat.gcd_zero_right]
  · skip
    first | (simp only [cmp_lt, cmp_gt, cmp_eq, zN_cge, zN_cle, Decidable.not_not] at q14) | (simp (disch := omega) only [zN_le, zN_lt, zN_0, zN_1, nI_toInt, zN_eq, zN_eq0, b2_z, b2_nz, Decidable.not_not, Int.not_lt, Int.not_le, zK0, zK1, zK2, zK3, zK5, zK7, zK8, zK9, zK10, zK19, zK20, zK40, zK99, zK100, zK199] at q14) | skip
    refine x_ll6 dX11_greatestDivisor_17 ?_
    refine x_lconst (v := 0) dX11_greatestDivisor_19 rfl ?_
    refine x_lcmp (rfl) dX11_greatestDivisor_20 ?_
    refine x_if_eq (tgt := 45) dX11_greatestDivisor_21 rfl (fun q21 => ?_) (fun q21 => ?_)
    · skip
      first | (simp only [cmp_lt, cmp_gt, cmp_eq, zN_cge, zN_cle, Decidable.not_not] at q21) | (simp (disch := omega) only [zN_le, zN_lt, zN_0, zN_1, nI_toInt, zN_eq, zN_eq0, b2_z, b2_nz, Decidable.not_not, Int.not_lt, Int.not_le, zK0, zK1, zK2, zK3, zK5, zK7, zK8, zK9, zK10, zK19, zK20, zK40, zK99, zK100, zK199] at q21) | skip
      refine x_ll4 dX11_greatestDivisor_45 ?_
      refine x_lret rfl dX11_greatestDivisor_47 ⟨?_, rfl⟩
      have b0 : b = 0 := (lN_z (by omega)).mp q21
      rw [b0, Nat.gcd_zero_right]
    · skip
      first | (simp only [cmp_lt, cmp_gt, cmp_eq, zN_cge, zN_cle, Decidable.not_not] at q21) | (simp (disch := omega) only [zN_le, zN_lt, zN_0, zN_1, nI_toInt, zN_eq, zN_eq0, b2_z, b2_nz, Decidable.not_not, Int.not_lt, Int.not_le, zK0, zK1, zK2, zK3, zK5, zK7, zK8, zK9, zK10, zK19, zK20, zK40, zK99, zK100, zK199] at q21) | skip
      have bp : 0 < b := by rcases Nat.eq_zero_or_pos b with z | z; exact absurd ((lN_z (by omega)).mpr z) q21; exact z
      have ml := Nat.mod_lt a bp
      refine x_ll4 dX11_greatestDivisor_24 ?_
      refine x_ll6 dX11_greatestDivisor_26 ?_
      refine x_lrem q21 (pk_lRem (by omega) bp (by omega)) dX11_greatestDivisor_28 ?_
      refine x_ls9 rfl dX11_greatestDivisor_29 ?_
      refine x_ll6 dX11_greatestDivisor_31 ?_
      refine x_ls4 rfl dX11_greatestDivisor_33 ?_
      refine x_ll9 dX11_greatestDivisor_35 ?_
      refine x_ls6 rfl dX11_greatestDivisor_37 ?_
      first | refine x_ii8 rfl (nI_1 _) dX11_greatestDivisor_39 ?_ | refine x_ii8 rfl rfl dX11_greatestDivisor_39 ?_
      refine x_goto (tgt := 9) dX11_greatestDivisor_42 rfl ?_
      rw [show Nat.gcd a b = Nat.gcd b (a % b) by rw [Nat.gcd_comm b, ← Nat.gcd_rec, Nat.gcd_comm]] at hg ⊢
      rw [hg]
      refine ih (b, a % b, i + 1, _) _ (by simp only; omega) ⟨rfl, hb, by simp only; omega, by simp only; omega, hg, Or.inr ⟨by simp only; omega, ml, ?_⟩⟩
      simp only
      rw [show i + 1 - 1 = i by omega]
      rcases hc with ⟨c1, c2, c3⟩ | ⟨c1, c2, c3⟩
      · rw [c1, c2, c3, Nat.pow_zero, Nat.mul_one, Nat.mul_comm]
        exact Nat.mul_le_mul_right _ (Nat.mod_le _ _)
      · refine Nat.le_trans ?_ c3
        have mh := mod_half bp (show b ≤ a by omega)
        rw [show i = i - 1 + 1 by omega, Nat.pow_succ, show i - 1 + 1 - 1 = i - 1 by omega]
        have e : b * (a % b) * (2 ^ (i - 1) * 2) = b * (2 * (a % b)) * 2 ^ (i - 1) := by
          rw [Nat.mul_comm (2 ^ (i - 1)) 2, ← Nat.mul_assoc, Nat.mul_assoc b, Nat.mul_comm (a % b) 2]
        rw [e, Nat.mul_comm a b]
        exact Nat.mul_le_mul_right _ (Nat.mul_le_mul_left _ mh)
theorem c_inLowest {a b : Nat} {y : Int32} (ha : a < 2 ^ 31) (h1 : 0 < b) (hb : b < 2 ^ 30) : Zm g (d + 1) 0 0 mX11_inLowestTerms [.long (lN a), .long (lN b), .int y] h (rI (ptN a b y) h) := by
  have gp : 0 < Nat.gcd a b := Nat.gcd_pos_of_pos_right _ h1
  have gl : Nat.gcd a b ≤ b := Nat.gcd_le_right _ h1
  have ne : ¬ lN (Nat.gcd a b) = 0 := fun c => by
    have := (lN_z (by omega)).mp c
    omega
  show Zw g (d + 1) 0 0 mX11_inLowestTerms 0 [some (.long (lN a)), none, some (.long (lN b)), none, some (.int y), none, none] [] h _
  refine x_lconst (v := 1) dX11_inLowestTerms_0 rfl ?_
  refine x_ll0 dX11_inLowestTerms_1 ?_
  refine x_ll2 dX11_inLowestTerms_2 ?_
  refine x_cs2L mX11_greatestDivisor_ok lkX11_393 (Nat.le_of_ble_eq_true rfl) (Nat.le_of_ble_eq_true rfl) dX11_inLowestTerms_3 (c_greatestDivisor ha hb) ?_
  refine x_mmaxl kjX11_397 (Nat.le_of_ble_eq_true rfl) (if_neg (by rw [Int64.lt_iff_toInt_lt, pk_lT (by omega), show (1 : Int64).toInt = 1 from rfl]; omega)) dX11_inLowestTerms_6 ?_
  refine x_ls5 rfl dX11_inLowestTerms_9 ?_
  refine x_il4 dX11_inLowestTerms_11 ?_
  refine x_if_ne (tgt := 20) dX11_inLowestTerms_13 rfl (fun q13 => ?_) (fun q13 => ?_)
  · skip
    refine x_ll2 dX11_inLowestTerms_20 ?_
    refine x_ll5 dX11_inLowestTerms_21 ?_
    refine x_ldiv ne (pk_lDiv (by omega) gp (by omega)) dX11_inLowestTerms_23 ?_
    refine x_l2i (lN_i _) dX11_inLowestTerms_24 ?_
    exact x_iret rfl rfl dX11_inLowestTerms_25 ⟨by rw [ptN, if_neg q13], rfl⟩
  · skip
    refine x_ll0 dX11_inLowestTerms_16 ?_
    refine x_goto (tgt := 21) dX11_inLowestTerms_17 rfl ?_
    refine x_ll5 dX11_inLowestTerms_21 ?_
    refine x_ldiv ne (pk_lDiv (by omega) gp (by omega)) dX11_inLowestTerms_23 ?_
    refine x_l2i (lN_i _) dX11_inLowestTerms_24 ?_
    exact x_iret rfl rfl dX11_inLowestTerms_25 ⟨by rw [ptN, if_pos q13], rfl⟩
end ZRl

