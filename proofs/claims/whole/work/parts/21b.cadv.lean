/-! the class's advance: a token -/
def tok (k : Nat) : Nat := if k < 16 then 300 + k else if k = 16 then 317 else if k = 17 then 316 else if k = 18 then 318 else if k = 22 then 319 else if k = 23 then 1 else if k = 24 then 0 else if k = 25 then 2 else zSg.getD (k - 30) 0
def sw (k : Nat) : Nat := if k = 16 then 17 else if k = 17 then 16 else k
def cwP (j : Nat) : Nat := [0, 5, 13, 19, 24, 30, 35, 40, 46, 49, 54, 59, 63, 66, 72, 77, 83, 86, 90, 94].getD j 94
theorem cwA : ∀ j, j < 19 → cwP j + kwN (sw j) < 94 ∧ kd (cwP j + kwN (sw j)) = 32 ∧ cwP (j + 1) = cwP j + kwN (sw j) + 1 ∧ tok (sw j) = 300 + j ∧ ∀ t, t < kwN (sw j) → kd (cwP j + t) ≠ 32 ∧ kd (cwP j + t) = kc (kwP (sw j) + t) ∧ kd (cwP j + t) < 128 := by decide +kernel
theorem cwB : ∀ i, i < 94 → kb 0 i = nI (kd i) ∧ kd i < 128 := by decide +kernel
theorem cwC : ∀ k, k < 12 → kb 1 k = nI (zSg.getD k 0) ∧ zSg.getD k 0 < 128 := by decide +kernel
theorem tokS : ∀ c, c < 256 → sgK c = 25 ∨ tok (sgK c) = c := by decide +kernel
theorem sgN_25 {c : Nat} : ∀ n, sgN c n = 25 ↔ ∀ k, k < n → c ≠ zSg.getD k 0 := by
  intro n
  induction n with
  | zero => exact ⟨fun _ k hk => absurd hk (Nat.not_lt_zero _), fun _ => rfl⟩
  | succ n ih =>
    rw [sgN]
    by_cases z : c = zSg.getD n 0
    · rw [if_pos z]
      exact ⟨fun y => by omega, fun y => absurd z (y n (by omega))⟩
    · rw [if_neg z, ih]
      refine ⟨fun y k hk => ?_, fun y k hk => y k (by omega)⟩
      by_cases w : k = n
      · rw [w]; exact z
      · exact y k (by omega)
theorem sw_sw {k : Nat} : sw (sw k) = k := by
  unfold sw
  (repeat' split) <;> omega
theorem sw_lt {k : Nat} (h : k < 19) : sw k < 19 := by
  unfold sw
  (repeat' split) <;> omega
theorem keyC_f {X : zX} {a b : Nat} (h : ∀ i, i < 19 → ¬ kwE X a b (sw i)) : keyX X a b = 22 := keyX_f (fun i hi => by have := h (sw i) (sw_lt hi); rwa [sw_sw] at this)
theorem keyC_t {X : zX} {a b j : Nat} (hj : j < 19) (h : ∀ i, i < j → ¬ kwE X a b (sw i)) (e : kwE X a b (sw j)) : keyX X a b = sw j := by
  refine keyX_t (sw_lt hj) (fun i hi z => ?_) e
  by_cases w : sw i < j
  · have := h (sw i) w
    rw [sw_sw] at this
    exact this z
  · have hh : j = 16 ∧ i = 16 := by
      unfold sw at w hi
      (repeat' split at w) <;> (repeat' split at hi) <;> omega
    obtain ⟨rfl, rfl⟩ := hh
    have e1 := e.1
    have z1 := z.1
    rw [show kwN (sw 16) = 2 from by decide] at e1
    rw [show kwN 16 = 3 from by decide] at z1
    omega
def CKo (X : zX) (r : Nat → Value) (p : Nat) : Prop := r 0 = .int 0 ∧ p ≤ X.2 ∧ r 12 = .int (nI (tkB X p)) ∧ r 13 = .int (nI (tok (tkK X p))) ∧ r 14 = .int (nI (tkA X p)) ∧ (tkK X p = 23 → r 15 = .int (nI (tkV X p))) ∧ tkK X p ≠ 25
def CKe (r : Nat → Value) (e : Nat × Nat) : Prop := r 0 = .int (nI e.1) ∧ r 1 = .int (nI e.2) ∧ r 13 = .int (nI 2) ∧ 0 < e.1 ∧ e.1 < 5
/-- the reading's own fields alone have changed -/
def CU (r r' : Nat → Value) : Prop := ∀ k, k ≠ 0 → k ≠ 1 → k ≠ 12 → k ≠ 13 → k ≠ 14 → k ≠ 15 → r' k = r k
theorem CU.rf {r : Nat → Value} : CU r r := fun _ _ _ _ _ _ _ => rfl
theorem CU.tr {r r' r2 : Nat → Value} (a : CU r r') (b : CU r' r2) : CU r r2 := fun k h0 h1 h2 h3 h4 h5 => (b k h0 h1 h2 h3 h4 h5).trans (a k h0 h1 h2 h3 h4 h5)
theorem CU.up {r r' : Nat → Value} {k : Nat} {v : Value} (a : CU r r') (hk : k = 0 ∨ k = 1 ∨ k = 12 ∨ k = 13 ∨ k = 14 ∨ k = 15) : CU r (va_up r' k v) := fun j h0 h1 h2 h3 h4 h5 => (va_up_ne _ _ (by omega)).trans (a j h0 h1 h2 h3 h4 h5)
section ZAd
variable {g : zG} {d : Nat} {h0 h : zH} {r r' : Nat → Value} {A : Nat → Nat → Int32} {Q : Nat → zS3} {X : zX} {a b k p q : Nat} {e : Nat × Nat}
theorem CX.cu (T : CX X h0 r) (u : CU r r') : CX X h0 r' := by
  obtain ⟨t1, t2, t3⟩ := T
  exact ⟨by rw [u 10 (by decide) (by decide) (by decide) (by decide) (by decide) (by decide)]; exact t1, by rw [u 11 (by decide) (by decide) (by decide) (by decide) (by decide) (by decide)]; exact t2, t3⟩
theorem c_len0 : Zm g (d + 1) 0 0 mJ0_length_8abf5 [.retAddr 10] h (rI (nI 94) h) := c_len (i := 0) (by decide)
theorem c_len1 : Zm g (d + 1) 0 0 mJ0_length_8abf5 [.retAddr 11] h (rI (nI 12) h) := c_len (i := 1) (by decide)
theorem c_ch0 {i : Nat} (hi : i < 94) : Zm g (d + 3) 0 0 mJ0_charAt_5068e [.retAddr 10, .int (nI i)] h (rI (nI (kd i)) h) := by
  rw [← (cwB i hi).1]
  exact c_cha (i := 0) (by decide) hi
theorem c_isLetter {x : Int32} : Zm g d 0 0 mX4_isLetter [.int x] h (rI (b2 (97 ≤ x.toInt ∧ x.toInt ≤ 122)) h) := by
  show Zw g d 0 0 mX4_isLetter 0 [some (.int x)] [] h _
  refine x_il0 dX4_isLetter_0 ?_
  refine x_bipush (v := nI 97) dX4_isLetter_1 rfl ?_
  refine x_icmp_lt (tgt := 16) dX4_isLetter_3 rfl (fun q3 => ?_) (fun q3 => ?_)
  · skip
    refine x_iconst (v := nI 0) dX4_isLetter_16 rfl ?_
    rw [Int32.lt_iff_toInt_lt, show (nI 97).toInt = 97 from rfl] at q3
    exact x_iret rfl  rfl dX4_isLetter_17 ⟨by rw [b2z (by omega)], rfl⟩
  · skip
    refine x_il0 dX4_isLetter_6 ?_
    refine x_bipush (v := nI 122) dX4_isLetter_7 rfl ?_
    refine x_icmp_gt (tgt := 16) dX4_isLetter_9 rfl (fun q9 => ?_) (fun q9 => ?_)
    · skip
      refine x_iconst (v := nI 0) dX4_isLetter_16 rfl ?_
      rw [Int32.lt_iff_toInt_lt, show (nI 122).toInt = 122 from rfl] at q9
      exact x_iret rfl  rfl dX4_isLetter_17 ⟨by rw [b2z (by omega)], rfl⟩
    · skip
      refine x_iconst (v := nI 1) dX4_isLetter_12 rfl ?_
      refine x_goto (tgt := 17) dX4_isLetter_13 rfl ?_
      rw [Int32.lt_iff_toInt_lt, show (nI 97).toInt = 97 from rfl] at q3
      rw [Int32.lt_iff_toInt_lt, show (nI 122).toInt = 122 from rfl] at q9
      exact x_iret rfl  rfl dX4_isLetter_17 ⟨by rw [b2o (by omega)], rfl⟩
theorem c_isDigC {x : Int32} : Zm g d 0 0 mX4_isDigit [.int x] h (rI (b2 (48 ≤ x.toInt ∧ x.toInt ≤ 57)) h) := by
  show Zw g d 0 0 mX4_isDigit 0 [some (.int x)] [] h _
  refine x_il0 dX4_isDigit_0 ?_
  refine x_bipush (v := nI 48) dX4_isDigit_1 rfl ?_
  refine x_icmp_lt (tgt := 16) dX4_isDigit_3 rfl (fun q3 => ?_) (fun q3 => ?_)
  · skip
    refine x_iconst (v := nI 0) dX4_isDigit_16 rfl ?_
    rw [Int32.lt_iff_toInt_lt, show (nI 48).toInt = 48 from rfl] at q3
    exact x_iret rfl  rfl dX4_isDigit_17 ⟨by rw [b2z (by omega)], rfl⟩
  · skip
    refine x_il0 dX4_isDigit_6 ?_
    refine x_bipush (v := nI 57) dX4_isDigit_7 rfl ?_
    refine x_icmp_gt (tgt := 16) dX4_isDigit_9 rfl (fun q9 => ?_) (fun q9 => ?_)
    · skip
      refine x_iconst (v := nI 0) dX4_isDigit_16 rfl ?_
      rw [Int32.lt_iff_toInt_lt, show (nI 57).toInt = 57 from rfl] at q9
      exact x_iret rfl  rfl dX4_isDigit_17 ⟨by rw [b2z (by omega)], rfl⟩
    · skip
      refine x_iconst (v := nI 1) dX4_isDigit_12 rfl ?_
      refine x_goto (tgt := 17) dX4_isDigit_13 rfl ?_
      rw [Int32.lt_iff_toInt_lt, show (nI 48).toInt = 48 from rfl] at q3
      rw [Int32.lt_iff_toInt_lt, show (nI 57).toInt = 57 from rfl] at q9
      exact x_iret rfl  rfl dX4_isDigit_17 ⟨by rw [b2o (by omega)], rfl⟩
theorem c_letB {c : Nat} (hc : c < 256) : Zm g d 0 0 mX4_isLetter [.int (bsg c)] h (rI (b2 (isLo c = true)) h) := by
  have := c_isLetter (g := g) (d := d) (h := h) (x := bsg c)
  rw [b2_congr (show (97 ≤ (bsg c).toInt ∧ (bsg c).toInt ≤ 122) ↔ (97 ≤ c ∧ c ≤ 122) from bsg_i (lo := 97) (hi := 122) hc (by decide) (by decide))] at this
  rw [b2_congr (show isLo c = true ↔ (97 ≤ c ∧ c ≤ 122) by rw [isLo, decide_eq_true_iff])]
  exact this
theorem c_letN {c : Nat} (hc : c < 256) : Zm g d 0 0 mX4_isLetter [.int (nI c)] h (rI (b2 (isLo c = true)) h) := by
  have := c_isLetter (g := g) (d := d) (h := h) (x := nI c)
  rw [b2_congr (show (97 ≤ (nI c).toInt ∧ (nI c).toInt ≤ 122) ↔ (97 ≤ c ∧ c ≤ 122) by rw [nI_toInt (by omega)]; omega)] at this
  rw [b2_congr (show isLo c = true ↔ (97 ≤ c ∧ c ≤ 122) by rw [isLo, decide_eq_true_iff])]
  exact this
theorem c_digB {c : Nat} (hc : c < 256) : Zm g d 0 0 mX4_isDigit [.int (bsg c)] h (rI (b2 (isDg c = true)) h) := by
  have := c_isDigC (g := g) (d := d) (h := h) (x := bsg c)
  rw [b2_congr (show (48 ≤ (bsg c).toInt ∧ (bsg c).toInt ≤ 57) ↔ (48 ≤ c ∧ c ≤ 57) from bsg_i (lo := 48) (hi := 57) hc (by decide) (by decide))] at this
  rw [b2_congr (show isDg c = true ↔ (48 ≤ c ∧ c ≤ 57) by rw [isDg, decide_eq_true_iff])]
  exact this
theorem c_digN {c : Nat} (hc : c < 256) : Zm g d 0 0 mX4_isDigit [.int (nI c)] h (rI (b2 (isDg c = true)) h) := by
  have := c_isDigC (g := g) (d := d) (h := h) (x := nI c)
  rw [b2_congr (show (48 ≤ (nI c).toInt ∧ (nI c).toInt ≤ 57) ↔ (48 ≤ c ∧ c ≤ 57) by rw [nI_toInt (by omega)]; omega)] at this
  rw [b2_congr (show isDg c = true ↔ (48 ≤ c ∧ c ≤ 57) by rw [isDg, decide_eq_true_iff])]
  exact this
/-! a sign's place -/
theorem c_canE {c : Nat} (hc : c < 256) : Zm g d 0 0 mJ1_canEncode_9a6ad [.int (nI c)] h (rI 1 h) := by
  show Zw g d 0 0 mJ1_canEncode_9a6ad 0 [some (.int (nI c))] [] h _
  refine x_il0 dJ1_canEncode_9a6ad_0 ?_
  refine x_if_lt (tgt := 15) dJ1_canEncode_9a6ad_1 rfl (fun q1 => ?_) (fun q1 => ?_)
  · skip
    first | (simp only [cmp_lt, cmp_gt, cmp_eq, zN_cge, zN_cle, Decidable.not_not] at q1) | (simp (disch := omega) only [zN_le, zN_lt, zN_0, zN_1, nI_toInt, zN_eq, zN_eq0, b2_z, b2_nz, Decidable.not_not, Int.not_lt, Int.not_le, zK0, zK1, zK2, zK3, zK5, zK7, zK8, zK9, zK10, zK19, zK20, zK40, zK99, zK100, zK199] at q1) | skip
    omega
  · skip
    first | (simp only [cmp_lt, cmp_gt, cmp_eq, zN_cge, zN_cle, Decidable.not_not] at q1) | (simp (disch := omega) only [zN_le, zN_lt, zN_0, zN_1, nI_toInt, zN_eq, zN_eq0, b2_z, b2_nz, Decidable.not_not, Int.not_lt, Int.not_le, zK0, zK1, zK2, zK3, zK5, zK7, zK8, zK9, zK10, zK19, zK20, zK40, zK99, zK100, zK199] at q1) | skip
    refine x_il0 dJ1_canEncode_9a6ad_4 ?_
    refine x_sipush (v := nI 255) dJ1_canEncode_9a6ad_5 (by decide) ?_
    refine x_icmp_gt (tgt := 15) dJ1_canEncode_9a6ad_8 rfl (fun q8 => ?_) (fun q8 => ?_)
    · skip
      first | (simp only [cmp_lt, cmp_gt, cmp_eq, zN_cge, zN_cle, Decidable.not_not] at q8) | (simp (disch := omega) only [zN_le, zN_lt, zN_0, zN_1, nI_toInt, zN_eq, zN_eq0, b2_z, b2_nz, Decidable.not_not, Int.not_lt, Int.not_le, zK0, zK1, zK2, zK3, zK5, zK7, zK8, zK9, zK10, zK19, zK20, zK40, zK99, zK100, zK199] at q8) | skip
      omega
    · skip
      first | (simp only [cmp_lt, cmp_gt, cmp_eq, zN_cge, zN_cle, Decidable.not_not] at q8) | (simp (disch := omega) only [zN_le, zN_lt, zN_0, zN_1, nI_toInt, zN_eq, zN_eq0, b2_z, b2_nz, Decidable.not_not, Int.not_lt, Int.not_le, zK0, zK1, zK2, zK3, zK5, zK7, zK8, zK9, zK10, zK19, zK20, zK40, zK99, zK100, zK199] at q8) | skip
      refine x_iconst (v := nI 1) dJ1_canEncode_9a6ad_11 rfl ?_
      refine x_goto (tgt := 16) dJ1_canEncode_9a6ad_12 rfl ?_
      exact x_iret rfl  rfl dJ1_canEncode_9a6ad_16 ⟨rfl, rfl⟩
def ixP (c : Nat) (h : zH) : Int32 → zH → Prop := fun x h' => h' = h ∧ (if sgK c = 25 then x < 0 else ¬ x < 0)
theorem c_ixC {c : Nat} (hc : c < 256) : Zm g d 0 0 mJ1_indexOfChar_4cfef [.retAddr 21, .int (nI c), .int (nI 0), .int (nI 12)] h (rIp (ixP c h)) := by
  show Zw g d 0 0 mJ1_indexOfChar_4cfef 0 [some (.retAddr 21), some (.int (nI c)), some (.int (nI 0)), some (.int (nI 12)), none, none] [] h _
  refine x_il1 dJ1_indexOfChar_4cfef_0 ?_
  refine x_i2b (rfl) dJ1_indexOfChar_4cfef_1 ?_
  refine x_is4 rfl dJ1_indexOfChar_4cfef_2 ?_
  refine x_il2 dJ1_indexOfChar_4cfef_4 ?_
  refine x_is5 rfl dJ1_indexOfChar_4cfef_5 ?_
  refine x_for (e := 12) (fun k => [some (.retAddr 21), some (.int (nI c)), some (.int (nI 0)), some (.int (nI 12)), some (.int (bsg c)), some (.int (nI k))]) (fun k h' => h' = h ∧ ∀ t, t < k → c ≠ zSg.getD t 0) 0 (by decide) ⟨rfl, fun t ht => absurd ht (Nat.not_lt_zero _)⟩ (fun h' hI => ?_) (fun k h' hk hI ih => ?_)
  · obtain ⟨hh, hno⟩ := hI
    subst hh
    refine x_il5 dJ1_indexOfChar_4cfef_7 ?_
    refine x_il3 dJ1_indexOfChar_4cfef_9 ?_
    refine x_icmp_ge (tgt := 31) dJ1_indexOfChar_4cfef_10 rfl (fun q10 => ?_) (fun q10 => ?_)
    · skip
      first | (simp only [cmp_lt, cmp_gt, cmp_eq, zN_cge, zN_cle, Decidable.not_not] at q10) | (simp (disch := omega) only [zN_le, zN_lt, zN_0, zN_1, nI_toInt, zN_eq, zN_eq0, b2_z, b2_nz, Decidable.not_not, Int.not_lt, Int.not_le, zK0, zK1, zK2, zK3, zK5, zK7, zK8, zK9, zK10, zK19, zK20, zK40, zK99, zK100, zK199] at q10) | skip
      refine x_iconst (v := (-1)) dJ1_indexOfChar_4cfef_31 rfl ?_
      exact x_iret rfl rfl dJ1_indexOfChar_4cfef_32 ⟨_, rfl, rfl, by rw [if_pos ((sgN_25 12).mpr hno)]; decide⟩
    · skip
      first | (simp only [cmp_lt, cmp_gt, cmp_eq, zN_cge, zN_cle, Decidable.not_not] at q10) | (simp (disch := omega) only [zN_le, zN_lt, zN_0, zN_1, nI_toInt, zN_eq, zN_eq0, b2_z, b2_nz, Decidable.not_not, Int.not_lt, Int.not_le, zK0, zK1, zK2, zK3, zK5, zK7, zK8, zK9, zK10, zK19, zK20, zK40, zK99, zK100, zK199] at q10) | skip
      omega
  · obtain ⟨hh, hno⟩ := hI
    subst hh
    refine x_il5 dJ1_indexOfChar_4cfef_7 ?_
    refine x_il3 dJ1_indexOfChar_4cfef_9 ?_
    refine x_icmp_ge (tgt := 31) dJ1_indexOfChar_4cfef_10 rfl (fun q10 => ?_) (fun q10 => ?_)
    · skip
      first | (simp only [cmp_lt, cmp_gt, cmp_eq, zN_cge, zN_cle, Decidable.not_not] at q10) | (simp (disch := omega) only [zN_le, zN_lt, zN_0, zN_1, nI_toInt, zN_eq, zN_eq0, b2_z, b2_nz, Decidable.not_not, Int.not_lt, Int.not_le, zK0, zK1, zK2, zK3, zK5, zK7, zK8, zK9, zK10, zK19, zK20, zK40, zK99, zK100, zK199] at q10) | skip
      omega
    · skip
      first | (simp only [cmp_lt, cmp_gt, cmp_eq, zN_cge, zN_cle, Decidable.not_not] at q10) | (simp (disch := omega) only [zN_le, zN_lt, zN_0, zN_1, nI_toInt, zN_eq, zN_eq0, b2_z, b2_nz, Decidable.not_not, Int.not_lt, Int.not_le, zK0, zK1, zK2, zK3, zK5, zK7, zK8, zK9, zK10, zK19, zK20, zK40, zK99, zK100, zK199] at q10) | skip
      refine x_al0 rfl dJ1_indexOfChar_4cfef_13 ?_
      refine x_il5 dJ1_indexOfChar_4cfef_14 ?_
      refine x_sby  (i := 1) (by decide) (vp_in_nI hk (by decide)) (show (zByt.getD 1 []).getD (nI k).toNatClampNeg 0 = nI (zSg.getD k 0) by rw [nI_clamp (by omega)]; exact (cwC k hk).1) dJ1_indexOfChar_4cfef_16 ?_
      refine x_il4 dJ1_indexOfChar_4cfef_17 ?_
      refine x_icmp_ne (tgt := 25) dJ1_indexOfChar_4cfef_19 rfl (fun q19 => ?_) (fun q19 => ?_)
      · skip
        first | refine x_ii5 rfl (nI_1 _) dJ1_indexOfChar_4cfef_25 ?_ | refine x_ii5 rfl rfl dJ1_indexOfChar_4cfef_25 ?_
        refine x_goto (tgt := 7) dJ1_indexOfChar_4cfef_28 rfl ?_
        refine ih _ ⟨rfl, fun t ht => ?_⟩
        by_cases z : t = k
        · rw [z]; exact fun y => q19 ((bsg_e hc (cwC k hk).2).mpr y).symm
        · exact hno t (by omega)
      · skip
        refine x_il5 dJ1_indexOfChar_4cfef_22 ?_
        have e1 := (bsg_e hc (cwC k hk).2).mp q19.symm
        exact x_iret rfl rfl dJ1_indexOfChar_4cfef_24 ⟨_, rfl, rfl, by rw [if_neg (fun y => (sgN_25 12).mp y k hk e1), Int32.lt_iff_toInt_lt, nI_toInt (by omega)]; exact Int.not_lt.mpr (Int.natCast_nonneg k)⟩
theorem c_ixL {c : Nat} (hc : c < 256) : Zm g (d + 1) 0 0 mJ1_indexOf_4cfef [.retAddr 21, .int (nI c), .int (nI 0), .int (nI 12)] h (rIp (ixP c h)) := by
  show Zw g (d + 1) 0 0 mJ1_indexOf_4cfef 0 [some (.retAddr 21), some (.int (nI c)), some (.int (nI 0)), some (.int (nI 12))] [] h _
  refine x_il1 dJ1_indexOf_4cfef_0 ?_
  refine x_cs1I mJ1_canEncode_9a6ad_ok lkJ1_88 (Nat.le_of_ble_eq_true rfl) (Nat.le_of_ble_eq_true rfl) dJ1_indexOf_4cfef_1 (c_canE hc) ?_
  refine x_if_ne (tgt := 9) dJ1_indexOf_4cfef_4 rfl (fun q4 => ?_) (fun q4 => ?_)
  · skip
    first | (simp only [cmp_lt, cmp_gt, cmp_eq, zN_cge, zN_cle, Decidable.not_not] at q4) | (simp (disch := omega) only [zN_le, zN_lt, zN_0, zN_1, nI_toInt, zN_eq, zN_eq0, b2_z, b2_nz, Decidable.not_not, Int.not_lt, Int.not_le, zK0, zK1, zK2, zK3, zK5, zK7, zK8, zK9, zK10, zK19, zK20, zK40, zK99, zK100, zK199] at q4) | skip
    refine x_il2 dJ1_indexOf_4cfef_9 ?_
    refine x_iconst (v := nI 0) dJ1_indexOf_4cfef_10 rfl ?_
    refine x_mmax kjJ1_92 (Nat.le_of_ble_eq_true rfl) (show (if nI 0 < nI 0 then nI 0 else nI 0) = nI 0 from rfl) dJ1_indexOf_4cfef_11 ?_
    refine x_is2 rfl dJ1_indexOf_4cfef_14 ?_
    refine x_il3 dJ1_indexOf_4cfef_15 ?_
    refine x_al0 rfl dJ1_indexOf_4cfef_16 ?_
    refine x_sbl  (i := 1) (by decide) rfl dJ1_indexOf_4cfef_17 ?_
    refine x_mmin kjJ1_38 (Nat.le_of_ble_eq_true rfl) (show (if Int32.ofNat (zByt.getD 1 []).length < nI 12 then Int32.ofNat (zByt.getD 1 []).length else nI 12) = nI 12 from rfl) dJ1_indexOf_4cfef_18 ?_
    refine x_is3 rfl dJ1_indexOf_4cfef_21 ?_
    refine x_il2 dJ1_indexOf_4cfef_22 ?_
    refine x_il3 dJ1_indexOf_4cfef_23 ?_
    refine x_icmp_lt (tgt := 29) dJ1_indexOf_4cfef_24 rfl (fun q24 => ?_) (fun q24 => ?_)
    · skip
      first | (simp only [cmp_lt, cmp_gt, cmp_eq, zN_cge, zN_cle, Decidable.not_not] at q24) | (simp (disch := omega) only [zN_le, zN_lt, zN_0, zN_1, nI_toInt, zN_eq, zN_eq0, b2_z, b2_nz, Decidable.not_not, Int.not_lt, Int.not_le, zK0, zK1, zK2, zK3, zK5, zK7, zK8, zK9, zK10, zK19, zK20, zK40, zK99, zK100, zK199] at q24) | skip
      refine x_al0 rfl dJ1_indexOf_4cfef_29 ?_
      refine x_il1 dJ1_indexOf_4cfef_30 ?_
      refine x_il2 dJ1_indexOf_4cfef_31 ?_
      refine x_il3 dJ1_indexOf_4cfef_32 ?_
      refine x_cs4Ip mJ1_indexOfChar_4cfef_ok lkJ1_95 (Nat.le_of_ble_eq_true rfl) (Nat.le_of_ble_eq_true rfl) dJ1_indexOf_4cfef_33 (c_ixC hc) (fun r h hq => ?_)
      exact x_iret rfl rfl dJ1_indexOf_4cfef_36 ⟨_, rfl, hq⟩
    · skip
      first | (simp only [cmp_lt, cmp_gt, cmp_eq, zN_cge, zN_cle, Decidable.not_not] at q24) | (simp (disch := omega) only [zN_le, zN_lt, zN_0, zN_1, nI_toInt, zN_eq, zN_eq0, b2_z, b2_nz, Decidable.not_not, Int.not_lt, Int.not_le, zK0, zK1, zK2, zK3, zK5, zK7, zK8, zK9, zK10, zK19, zK20, zK40, zK99, zK100, zK199] at q24) | skip
      omega
  · skip
    first | (simp only [cmp_lt, cmp_gt, cmp_eq, zN_cge, zN_cle, Decidable.not_not] at q4) | (simp (disch := omega) only [zN_le, zN_lt, zN_0, zN_1, nI_toInt, zN_eq, zN_eq0, b2_z, b2_nz, Decidable.not_not, Int.not_lt, Int.not_le, zK0, zK1, zK2, zK3, zK5, zK7, zK8, zK9, zK10, zK19, zK20, zK40, zK99, zK100, zK199] at q4) | skip
    exact absurd q4 (by decide)
theorem c_ixS {c : Nat} (hc : c < 256) : Zm g (d + 2) 0 0 mJ0_indexOf_7cf53 [.retAddr 11, .int (nI c), .int (nI 0)] h (rIp (ixP c h)) := by
  show Zw g (d + 2) 0 0 mJ0_indexOf_7cf53 0 [some (.retAddr 11), some (.int (nI c)), some (.int (nI 0))] [] h _
  refine x_al0 rfl dJ0_indexOf_7cf53_0 ?_
  refine x_ct0I (j := 1) mJ0_isLatin1_aae02_ok lkJ0_492 rfl (by omega) (Nat.le_of_ble_eq_true rfl) (Nat.le_of_ble_eq_true rfl) dJ0_indexOf_7cf53_1 (c_latin (i := 1) (by decide)) ?_
  refine x_if_eq (tgt := 23) dJ0_indexOf_7cf53_4 rfl (fun q4 => ?_) (fun q4 => ?_)
  · skip
    first | (simp only [cmp_lt, cmp_gt, cmp_eq, zN_cge, zN_cle, Decidable.not_not] at q4) | (simp (disch := omega) only [zN_le, zN_lt, zN_0, zN_1, nI_toInt, zN_eq, zN_eq0, b2_z, b2_nz, Decidable.not_not, Int.not_lt, Int.not_le, zK0, zK1, zK2, zK3, zK5, zK7, zK8, zK9, zK10, zK19, zK20, zK40, zK99, zK100, zK199] at q4) | skip
    exact absurd q4 (by decide)
  · skip
    first | (simp only [cmp_lt, cmp_gt, cmp_eq, zN_cge, zN_cle, Decidable.not_not] at q4) | (simp (disch := omega) only [zN_le, zN_lt, zN_0, zN_1, nI_toInt, zN_eq, zN_eq0, b2_z, b2_nz, Decidable.not_not, Int.not_lt, Int.not_le, zK0, zK1, zK2, zK3, zK5, zK7, zK8, zK9, zK10, zK19, zK20, zK40, zK99, zK100, zK199] at q4) | skip
    refine x_al0 rfl dJ0_indexOf_7cf53_7 ?_
    refine x_sva (i := 1) (by decide) rfl dJ0_indexOf_7cf53_8 ?_
    refine x_il1 dJ0_indexOf_7cf53_11 ?_
    refine x_il2 dJ0_indexOf_7cf53_12 ?_
    refine x_al0 rfl dJ0_indexOf_7cf53_13 ?_
    refine x_ct0I (j := 1) mJ0_length_8abf5_ok lkJ0_505 rfl (by omega) (Nat.le_of_ble_eq_true rfl) (Nat.le_of_ble_eq_true rfl) dJ0_indexOf_7cf53_14 c_len1 ?_
    refine x_cs4Ip mJ1_indexOf_4cfef_ok lkJ0_637 (Nat.le_of_ble_eq_true rfl) (Nat.le_of_ble_eq_true rfl) dJ0_indexOf_7cf53_17 (c_ixL hc) (fun r h hq => ?_)
    refine x_goto (tgt := 36) dJ0_indexOf_7cf53_20 rfl ?_
    exact x_iret rfl rfl dJ0_indexOf_7cf53_36 ⟨_, rfl, hq⟩
theorem c_ixO {c : Nat} (hc : c < 256) : Zm g (d + 3) 0 0 mJ0_indexOf_0f7a4 [.retAddr 11, .int (nI c)] h (rIp (ixP c h)) := by
  show Zw g (d + 3) 0 0 mJ0_indexOf_0f7a4 0 [some (.retAddr 11), some (.int (nI c))] [] h _
  refine x_al0 rfl dJ0_indexOf_0f7a4_0 ?_
  refine x_il1 dJ0_indexOf_0f7a4_1 ?_
  refine x_iconst (v := nI 0) dJ0_indexOf_0f7a4_2 rfl ?_
  refine x_ct2 (j := 1) mJ0_indexOf_7cf53_ok lkJ0_633 rfl (by omega) (Nat.le_of_ble_eq_true rfl) (Nat.le_of_ble_eq_true rfl) dJ0_indexOf_0f7a4_3 (c_ixS hc) (fun v h' hq => ?_)
  obtain ⟨x, rfl, hq⟩ := hq
  exact x_iret rfl rfl dJ0_indexOf_0f7a4_6 ⟨_, rfl, hq⟩
theorem c_word (R : RW h0 h r A Q) (T : CX X h0 r) (hab : a ≤ b) (hb : b ≤ X.2) : Zm g (d + 4) 0 0 mX4_wordBetween [.ref 2, .int (nI a), .int (nI b)] h (rI (nI (tok (keyX X a b))) h) := by
  obtain ⟨t10, t11, t9, F, tF, tx⟩ := id T
  show Zw g (d + 4) 0 0 mX4_wordBetween 0 [some (.ref 2), some (.int (nI a)), some (.int (nI b)), none, none, none, none, none] [] h _
  refine x_sipush (v := nI 300) dX4_wordBetween_0 (by decide) ?_
  refine x_is3 rfl dX4_wordBetween_3 ?_
  refine x_il1 dX4_wordBetween_4 ?_
  refine x_is4 rfl dX4_wordBetween_5 ?_
  refine x_iconst (v := nI 1) dX4_wordBetween_7 rfl ?_
  refine x_is5 rfl dX4_wordBetween_8 ?_
  refine x_iconst (v := nI 0) dX4_wordBetween_10 rfl ?_
  refine x_is6 rfl dX4_wordBetween_11 ?_
  refine x_wh (fun (w : Nat) => [some (.ref 2), some (.int (nI a)), some (.int (nI b)), some (.int (nI (300 + w))), some (.int (nI a)), some (.int (nI 1)), some (.int (nI (cwP w))), none]) (fun w h' => h' = h ∧ w ≤ 19 ∧ ∀ i, i < w → ¬ kwE X a b (sw i)) (fun w => 19 - w) 0 ⟨rfl, by decide, fun i hi => absurd hi (Nat.not_lt_zero _)⟩ (fun w h' hI ih => ?_)
  obtain ⟨hh, hw, hno⟩ := hI
  subst hh
  rcases Nat.lt_or_ge w 19 with w19 | w19
  · obtain ⟨k1, k2, k3, k5, k4⟩ := cwA w w19
    generalize hP : cwP w = P at k1 k2 k3 k4 ⊢
    generalize hN : kwN (sw w) = N at k1 k2 k3 k4
    have fin : ∀ j, (∀ t, t < j → a + t < b ∧ X.1 (a + t) = kd (P + t)) → j = N → a + j = b → kwE X a b (sw w) := fun j h1 h2 h3 => ⟨by rw [hN]; omega, fun t ht => by rw [hN] at ht; rw [← (k4 t ht).2.1]; exact (h1 t (by omega)).2⟩
    have nfin : ∀ j, j = N → ¬ ((∀ t, t < j → a + t < b ∧ X.1 (a + t) = kd (P + t)) ∧ a + j = b) → ¬ kwE X a b (sw w) := fun j h1 h2 z => by
      obtain ⟨z1, z2⟩ := z
      rw [hN] at z1 z2
      exact h2 ⟨fun t ht => ⟨by omega, by rw [(k4 t (by omega)).2.1]; exact z2 t (by omega)⟩, by omega⟩
    refine x_wh (fun (j : Nat) => [some (.ref 2), some (.int (nI a)), some (.int (nI b)), some (.int (nI (300 + w))), some (.int (nI (a + j))), some (.int (b2 (∀ t, t < j → a + t < b ∧ X.1 (a + t) = kd (P + t)))), some (.int (nI (P + j))), none]) (fun j h => h = h' ∧ j ≤ N) (fun j => N - j) 0 ⟨rfl, Nat.zero_le _⟩ (fun j h hI ih2 => ?_)
    obtain ⟨hh, hj⟩ := hI
    subst hh
    have kt := (cwB (P + j) (by omega)).2
    refine x_il6 dX4_wordBetween_13 ?_
    refine x_lit0 rfl dX4_wordBetween_15 ?_
    refine x_ct0I (j := 0) mJ0_length_8abf5_ok lkX4_175 rfl (by omega) (Nat.le_of_ble_eq_true rfl) (Nat.le_of_ble_eq_true rfl) dX4_wordBetween_17 c_len0 ?_
    refine x_icmp_ge (tgt := 103) dX4_wordBetween_20 rfl (fun q20 => ?_) (fun q20 => ?_)
    · skip
      first | (simp only [cmp_lt, cmp_gt, cmp_eq, zN_cge, zN_cle, Decidable.not_not] at q20) | (simp (disch := omega) only [zN_le, zN_lt, zN_0, zN_1, nI_toInt, zN_eq, zN_eq0, b2_z, b2_nz, Decidable.not_not, Int.not_lt, Int.not_le, zK0, zK1, zK2, zK3, zK5, zK7, zK8, zK9, zK10, zK19, zK20, zK40, zK99, zK100, zK199] at q20) | skip
      omega
    · skip
      first | (simp only [cmp_lt, cmp_gt, cmp_eq, zN_cge, zN_cle, Decidable.not_not] at q20) | (simp (disch := omega) only [zN_le, zN_lt, zN_0, zN_1, nI_toInt, zN_eq, zN_eq0, b2_z, b2_nz, Decidable.not_not, Int.not_lt, Int.not_le, zK0, zK1, zK2, zK3, zK5, zK7, zK8, zK9, zK10, zK19, zK20, zK40, zK99, zK100, zK199] at q20) | skip
      refine x_lit0 rfl dX4_wordBetween_23 ?_
      refine x_il6 dX4_wordBetween_25 ?_
      refine x_ct1I (j := 0) mJ0_charAt_5068e_ok lkX4_177 rfl (by omega) (Nat.le_of_ble_eq_true rfl) (Nat.le_of_ble_eq_true rfl) dX4_wordBetween_27 (c_ch0 (by omega)) ?_
      refine x_is7 rfl dX4_wordBetween_30 ?_
      refine x_il7 dX4_wordBetween_32 ?_
      refine x_bipush (v := nI 32) dX4_wordBetween_34 rfl ?_
      refine x_icmp_eq (tgt := 75) dX4_wordBetween_36 rfl (fun q36 => ?_) (fun q36 => ?_)
      · skip
        first | (simp only [cmp_lt, cmp_gt, cmp_eq, zN_cge, zN_cle, Decidable.not_not] at q36) | (simp (disch := omega) only [zN_le, zN_lt, zN_0, zN_1, nI_toInt, zN_eq, zN_eq0, b2_z, b2_nz, Decidable.not_not, Int.not_lt, Int.not_le, zK0, zK1, zK2, zK3, zK5, zK7, zK8, zK9, zK10, zK19, zK20, zK40, zK99, zK100, zK199] at q36) | skip
        refine x_il5 dX4_wordBetween_75 ?_
        refine x_if_eq (tgt := 88) dX4_wordBetween_77 rfl (fun q77 => ?_) (fun q77 => ?_)
        · skip
          first | (simp only [cmp_lt, cmp_gt, cmp_eq, zN_cge, zN_cle, Decidable.not_not] at q77) | (simp (disch := omega) only [zN_le, zN_lt, zN_0, zN_1, nI_toInt, zN_eq, zN_eq0, b2_z, b2_nz, Decidable.not_not, Int.not_lt, Int.not_le, zK0, zK1, zK2, zK3, zK5, zK7, zK8, zK9, zK10, zK19, zK20, zK40, zK99, zK100, zK199] at q77) | skip
          have jN : j = N := by
            rcases Nat.lt_or_ge j N with y | y
            · exact absurd q36 (k4 j y).1
            · omega
          have hne : ¬ kwE X a b (sw w) := nfin j jN (fun z => by first | exact q77 z.1 | exact q83 z.2)
          first | refine x_ii3 rfl (nI_1 _) dX4_wordBetween_88 ?_ | refine x_ii3 rfl rfl dX4_wordBetween_88 ?_
          refine x_il1 dX4_wordBetween_91 ?_
          refine x_is4 rfl dX4_wordBetween_92 ?_
          refine x_iconst (v := nI 1) dX4_wordBetween_94 rfl ?_
          refine x_is5 rfl dX4_wordBetween_95 ?_
          first | refine x_ii6 rfl (nI_1 _) dX4_wordBetween_97 ?_ | refine x_ii6 rfl rfl dX4_wordBetween_97 ?_
          refine x_goto (tgt := 13) dX4_wordBetween_100 rfl ?_
          refine x_kill 7 ?_
          subst jN
          rw [← k3]
          exact ih (w + 1) _ (by omega) ⟨rfl, w19, fun i hi => by
            by_cases z : i = w
            · rw [z]; exact hne
            · exact hno i (by omega)⟩
        · skip
          first | (simp only [cmp_lt, cmp_gt, cmp_eq, zN_cge, zN_cle, Decidable.not_not] at q77) | (simp (disch := omega) only [zN_le, zN_lt, zN_0, zN_1, nI_toInt, zN_eq, zN_eq0, b2_z, b2_nz, Decidable.not_not, Int.not_lt, Int.not_le, zK0, zK1, zK2, zK3, zK5, zK7, zK8, zK9, zK10, zK19, zK20, zK40, zK99, zK100, zK199] at q77) | skip
          refine x_il4 dX4_wordBetween_80 ?_
          refine x_il2 dX4_wordBetween_82 ?_
          refine x_icmp_ne (tgt := 88) dX4_wordBetween_83 rfl (fun q83 => ?_) (fun q83 => ?_)
          · skip
            first | (simp only [cmp_lt, cmp_gt, cmp_eq, zN_cge, zN_cle, Decidable.not_not] at q83) | (simp (disch := omega) only [zN_le, zN_lt, zN_0, zN_1, nI_toInt, zN_eq, zN_eq0, b2_z, b2_nz, Decidable.not_not, Int.not_lt, Int.not_le, zK0, zK1, zK2, zK3, zK5, zK7, zK8, zK9, zK10, zK19, zK20, zK40, zK99, zK100, zK199] at q83) | skip
            have jN : j = N := by
              rcases Nat.lt_or_ge j N with y | y
              · exact absurd q36 (k4 j y).1
              · omega
            have hne : ¬ kwE X a b (sw w) := nfin j jN (fun z => by first | exact q77 z.1 | exact q83 z.2)
            first | refine x_ii3 rfl (nI_1 _) dX4_wordBetween_88 ?_ | refine x_ii3 rfl rfl dX4_wordBetween_88 ?_
            refine x_il1 dX4_wordBetween_91 ?_
            refine x_is4 rfl dX4_wordBetween_92 ?_
            refine x_iconst (v := nI 1) dX4_wordBetween_94 rfl ?_
            refine x_is5 rfl dX4_wordBetween_95 ?_
            first | refine x_ii6 rfl (nI_1 _) dX4_wordBetween_97 ?_ | refine x_ii6 rfl rfl dX4_wordBetween_97 ?_
            refine x_goto (tgt := 13) dX4_wordBetween_100 rfl ?_
            refine x_kill 7 ?_
            subst jN
            rw [← k3]
            exact ih (w + 1) _ (by omega) ⟨rfl, w19, fun i hi => by
              by_cases z : i = w
              · rw [z]; exact hne
              · exact hno i (by omega)⟩
          · skip
            first | (simp only [cmp_lt, cmp_gt, cmp_eq, zN_cge, zN_cle, Decidable.not_not] at q83) | (simp (disch := omega) only [zN_le, zN_lt, zN_0, zN_1, nI_toInt, zN_eq, zN_eq0, b2_z, b2_nz, Decidable.not_not, Int.not_lt, Int.not_le, zK0, zK1, zK2, zK3, zK5, zK7, zK8, zK9, zK10, zK19, zK20, zK40, zK99, zK100, zK199] at q83) | skip
            refine x_il3 dX4_wordBetween_86 ?_
            have jN : j = N := by
              rcases Nat.lt_or_ge j N with y | y
              · exact absurd q36 (k4 j y).1
              · omega
            exact x_iret rfl rfl dX4_wordBetween_87 ⟨by rw [keyC_t w19 hno (fin j q77 jN q83), k5], rfl⟩
      · skip
        first | (simp only [cmp_lt, cmp_gt, cmp_eq, zN_cge, zN_cle, Decidable.not_not] at q36) | (simp (disch := omega) only [zN_le, zN_lt, zN_0, zN_1, nI_toInt, zN_eq, zN_eq0, b2_z, b2_nz, Decidable.not_not, Int.not_lt, Int.not_le, zK0, zK1, zK2, zK3, zK5, zK7, zK8, zK9, zK10, zK19, zK20, zK40, zK99, zK100, zK199] at q36) | skip
        have jN : j < N := by
          rcases Nat.lt_or_ge j N with y | y
          · exact y
          · obtain rfl : j = N := by omega
            exact absurd k2 q36
        refine x_il5 dX4_wordBetween_39 ?_
        refine x_if_eq (tgt := 66) dX4_wordBetween_41 rfl (fun q41 => ?_) (fun q41 => ?_)
        · skip
          first | (simp only [cmp_lt, cmp_gt, cmp_eq, zN_cge, zN_cle, Decidable.not_not] at q41) | (simp (disch := omega) only [zN_le, zN_lt, zN_0, zN_1, nI_toInt, zN_eq, zN_eq0, b2_z, b2_nz, Decidable.not_not, Int.not_lt, Int.not_le, zK0, zK1, zK2, zK3, zK5, zK7, zK8, zK9, zK10, zK19, zK20, zK40, zK99, zK100, zK199] at q41) | skip
          refine x_iconst (v := nI 0) dX4_wordBetween_66 rfl ?_
          rw [show nI 0 = b2 (∀ t, t < j + 1 → a + t < b ∧ X.1 (a + t) = kd (P + t)) from (b2_f (fun z => q41 (fun t ht => z t (by omega)))).symm]
          refine x_is5 rfl dX4_wordBetween_67 ?_
          first | refine x_ii4 rfl (nI_1 _) dX4_wordBetween_69 ?_ | refine x_ii4 rfl rfl dX4_wordBetween_69 ?_
          refine x_goto (tgt := 97) dX4_wordBetween_72 rfl ?_
          first | refine x_ii6 rfl (nI_1 _) dX4_wordBetween_97 ?_ | refine x_ii6 rfl rfl dX4_wordBetween_97 ?_
          refine x_goto (tgt := 13) dX4_wordBetween_100 rfl ?_
          exact x_kill 7 (ih2 (j + 1) _ (by omega) ⟨rfl, jN⟩)
        · skip
          first | (simp only [cmp_lt, cmp_gt, cmp_eq, zN_cge, zN_cle, Decidable.not_not] at q41) | (simp (disch := omega) only [zN_le, zN_lt, zN_0, zN_1, nI_toInt, zN_eq, zN_eq0, b2_z, b2_nz, Decidable.not_not, Int.not_lt, Int.not_le, zK0, zK1, zK2, zK3, zK5, zK7, zK8, zK9, zK10, zK19, zK20, zK40, zK99, zK100, zK199] at q41) | skip
          refine x_il4 dX4_wordBetween_44 ?_
          refine x_il2 dX4_wordBetween_46 ?_
          refine x_icmp_ge (tgt := 66) dX4_wordBetween_47 rfl (fun q47 => ?_) (fun q47 => ?_)
          · skip
            first | (simp only [cmp_lt, cmp_gt, cmp_eq, zN_cge, zN_cle, Decidable.not_not] at q47) | (simp (disch := omega) only [zN_le, zN_lt, zN_0, zN_1, nI_toInt, zN_eq, zN_eq0, b2_z, b2_nz, Decidable.not_not, Int.not_lt, Int.not_le, zK0, zK1, zK2, zK3, zK5, zK7, zK8, zK9, zK10, zK19, zK20, zK40, zK99, zK100, zK199] at q47) | skip
            refine x_iconst (v := nI 0) dX4_wordBetween_66 rfl ?_
            rw [show nI 0 = b2 (∀ t, t < j + 1 → a + t < b ∧ X.1 (a + t) = kd (P + t)) from (b2_f (fun z => absurd (z j (by omega)).1 (by omega))).symm]
            refine x_is5 rfl dX4_wordBetween_67 ?_
            first | refine x_ii4 rfl (nI_1 _) dX4_wordBetween_69 ?_ | refine x_ii4 rfl rfl dX4_wordBetween_69 ?_
            refine x_goto (tgt := 97) dX4_wordBetween_72 rfl ?_
            first | refine x_ii6 rfl (nI_1 _) dX4_wordBetween_97 ?_ | refine x_ii6 rfl rfl dX4_wordBetween_97 ?_
            refine x_goto (tgt := 13) dX4_wordBetween_100 rfl ?_
            exact x_kill 7 (ih2 (j + 1) _ (by omega) ⟨rfl, jN⟩)
          · skip
            first | (simp only [cmp_lt, cmp_gt, cmp_eq, zN_cge, zN_cle, Decidable.not_not] at q47) | (simp (disch := omega) only [zN_le, zN_lt, zN_0, zN_1, nI_toInt, zN_eq, zN_eq0, b2_z, b2_nz, Decidable.not_not, Int.not_lt, Int.not_le, zK0, zK1, zK2, zK3, zK5, zK7, zK8, zK9, zK10, zK19, zK20, zK40, zK99, zK100, zK199] at q47) | skip
            refine x_al0 rfl dX4_wordBetween_50 ?_
            refine x_rg R fdX4_47 (by decide) (by first | assumption | rfl) dX4_wordBetween_51 ?_
            refine x_il4 dX4_wordBetween_54 ?_
            refine x_txt R T (by omega) dX4_wordBetween_56 ?_
            have tb := (tx (a + j) (by omega)).2
            refine x_il7 dX4_wordBetween_57 ?_
            refine x_icmp_ne (tgt := 66) dX4_wordBetween_59 rfl (fun q59 => ?_) (fun q59 => ?_)
            · skip
              refine x_iconst (v := nI 0) dX4_wordBetween_66 rfl ?_
              rw [show nI 0 = b2 (∀ t, t < j + 1 → a + t < b ∧ X.1 (a + t) = kd (P + t)) from (b2_f (fun z => q59 ((bsg_e tb kt).mpr (z j (by omega)).2))).symm]
              refine x_is5 rfl dX4_wordBetween_67 ?_
              first | refine x_ii4 rfl (nI_1 _) dX4_wordBetween_69 ?_ | refine x_ii4 rfl rfl dX4_wordBetween_69 ?_
              refine x_goto (tgt := 97) dX4_wordBetween_72 rfl ?_
              first | refine x_ii6 rfl (nI_1 _) dX4_wordBetween_97 ?_ | refine x_ii6 rfl rfl dX4_wordBetween_97 ?_
              refine x_goto (tgt := 13) dX4_wordBetween_100 rfl ?_
              exact x_kill 7 (ih2 (j + 1) _ (by omega) ⟨rfl, jN⟩)
            · skip
              refine x_iconst (v := nI 1) dX4_wordBetween_62 rfl ?_
              refine x_goto (tgt := 67) dX4_wordBetween_63 rfl ?_
              rw [show nI 1 = b2 (∀ t, t < j + 1 → a + t < b ∧ X.1 (a + t) = kd (P + t)) from (b2_t (fun t ht => by
                by_cases z : t = j
                · rw [z]; exact ⟨by omega, (bsg_e tb kt).mp q59⟩
                · exact q41 t (by omega))).symm]
              refine x_is5 rfl dX4_wordBetween_67 ?_
              first | refine x_ii4 rfl (nI_1 _) dX4_wordBetween_69 ?_ | refine x_ii4 rfl rfl dX4_wordBetween_69 ?_
              refine x_goto (tgt := 97) dX4_wordBetween_72 rfl ?_
              first | refine x_ii6 rfl (nI_1 _) dX4_wordBetween_97 ?_ | refine x_ii6 rfl rfl dX4_wordBetween_97 ?_
              refine x_goto (tgt := 13) dX4_wordBetween_100 rfl ?_
              exact x_kill 7 (ih2 (j + 1) _ (by omega) ⟨rfl, jN⟩)
  · obtain rfl : w = 19 := by omega
    refine x_il6 dX4_wordBetween_13 ?_
    refine x_lit0 rfl dX4_wordBetween_15 ?_
    refine x_ct0I (j := 0) mJ0_length_8abf5_ok lkX4_175 rfl (by omega) (Nat.le_of_ble_eq_true rfl) (Nat.le_of_ble_eq_true rfl) dX4_wordBetween_17 c_len0 ?_
    refine x_icmp_ge (tgt := 103) dX4_wordBetween_20 rfl (fun q20 => ?_) (fun q20 => ?_)
    · skip
      first | (simp only [cmp_lt, cmp_gt, cmp_eq, zN_cge, zN_cle, Decidable.not_not] at q20) | (simp (disch := omega) only [zN_le, zN_lt, zN_0, zN_1, nI_toInt, zN_eq, zN_eq0, b2_z, b2_nz, Decidable.not_not, Int.not_lt, Int.not_le, zK0, zK1, zK2, zK3, zK5, zK7, zK8, zK9, zK10, zK19, zK20, zK40, zK99, zK100, zK199] at q20) | skip
      refine x_sipush (v := nI 319) dX4_wordBetween_103 (by decide) ?_
      exact x_iret rfl rfl dX4_wordBetween_106 ⟨by rw [keyC_f hno]; rfl, rfl⟩
    · skip
      first | (simp only [cmp_lt, cmp_gt, cmp_eq, zN_cge, zN_cle, Decidable.not_not] at q20) | (simp (disch := omega) only [zN_le, zN_lt, zN_0, zN_1, nI_toInt, zN_eq, zN_eq0, b2_z, b2_nz, Decidable.not_not, Int.not_lt, Int.not_le, zK0, zK1, zK2, zK3, zK5, zK7, zK8, zK9, zK10, zK19, zK20, zK40, zK99, zK100, zK199] at q20) | skip
      exact absurd q20 (by decide)
theorem c_fail {fa : Nat} (h1 : 0 < fa) (h5 : fa < 5) (R : RW h0 h r A Q) (e0 : r 0 = .int 0) (e14 : r 14 = .int (nI a)) : Zm g d 0 0 mX4_fail [.ref 2, .int (nI fa)] h (rVp (fun h' => ∃ r', RW h0 h' r' A Q ∧ CU r r' ∧ CKe r' (fa, a))) := by
  show Zw g d 0 0 mX4_fail 0 [some (.ref 2), some (.int (nI fa))] [] h _
  refine x_al0 rfl dX4_fail_0 ?_
  refine x_rg R fdX4_9 (by decide) (by first | assumption | rfl) dX4_fail_1 ?_
  refine x_if_ne (tgt := 25) dX4_fail_4 rfl (fun q4 => ?_) (fun q4 => ?_)
  · skip
    first | (simp only [cmp_lt, cmp_gt, cmp_eq, zN_cge, zN_cle, Decidable.not_not] at q4) | (simp (disch := omega) only [zN_le, zN_lt, zN_0, zN_1, nI_toInt, zN_eq, zN_eq0, b2_z, b2_nz, Decidable.not_not, Int.not_lt, Int.not_le, zK0, zK1, zK2, zK3, zK5, zK7, zK8, zK9, zK10, zK19, zK20, zK40, zK99, zK100, zK199] at q4) | skip
    exact absurd trivial q4
  · skip
    first | (simp only [cmp_lt, cmp_gt, cmp_eq, zN_cge, zN_cle, Decidable.not_not] at q4) | (simp (disch := omega) only [zN_le, zN_lt, zN_0, zN_1, nI_toInt, zN_eq, zN_eq0, b2_z, b2_nz, Decidable.not_not, Int.not_lt, Int.not_le, zK0, zK1, zK2, zK3, zK5, zK7, zK8, zK9, zK10, zK19, zK20, zK40, zK99, zK100, zK199] at q4) | skip
    refine x_al0 rfl dX4_fail_7 ?_
    refine x_il1 dX4_fail_8 ?_
    refine x_rp R fdX4_9 (by decide) (by decide) (by first | exact fun _ => ⟨_, rfl⟩ | exact fun z => absurd z (by decide)) zf_i dX4_fail_9 (fun h R => ?_)
    refine x_al0 rfl dX4_fail_12 ?_
    refine x_al0 rfl dX4_fail_13 ?_
    refine x_rg R fdX4_60 (by decide) (by first | assumption | rfl) dX4_fail_14 ?_
    refine x_rp R fdX4_15 (by decide) (by decide) (by first | exact fun _ => ⟨_, rfl⟩ | exact fun z => absurd z (by decide)) zf_i dX4_fail_17 (fun h R => ?_)
    refine x_al0 rfl dX4_fail_20 ?_
    refine x_iconst (v := nI 2) dX4_fail_21 rfl ?_
    refine x_rp R fdX4_57 (by decide) (by decide) (by first | exact fun _ => ⟨_, rfl⟩ | exact fun z => absurd z (by decide)) zf_i dX4_fail_22 (fun h R => ?_)
    exact x_vret rfl dX4_fail_25 ⟨rfl, _, R, ((CU.rf.up (Or.inl rfl)).up (Or.inr (Or.inl rfl))).up (Or.inr (Or.inr (Or.inr (Or.inl rfl)))), rfl, rfl, rfl, h1, h5⟩
theorem e_fail {x : Int32} (R : RW h0 h r A Q) (E : CKe r e) : Zm g d 0 0 mX4_fail [.ref 2, .int x] h (rV h) := by
  have e0 := E.1
  show Zw g d 0 0 mX4_fail 0 [some (.ref 2), some (.int x)] [] h _
  refine x_al0 rfl dX4_fail_0 ?_
  refine x_rg R fdX4_9 (by decide) (by first | assumption | rfl) dX4_fail_1 ?_
  refine x_if_ne (tgt := 25) dX4_fail_4 rfl (fun q4 => ?_) (fun q4 => ?_)
  · skip
    exact x_vret rfl dX4_fail_25 ⟨rfl, rfl⟩
  · skip
    exact absurd q4 (nI_n05 E.2.2.2.1 E.2.2.2.2)
/-- a token stands, or there is none -/
def AD (X : zX) (h0 h : zH) (r : Nat → Value) (A : Nat → Nat → Int32) (Q : Nat → zS3) (q : Nat) : Prop := ∃ r', RW h0 h r' A Q ∧ CU r r' ∧ if tkK X q = 25 then CKe r' (1, tkA X q) else CKo X r' q
theorem c_readN (R : RW h0 h r A Q) (T : CX X h0 r) (e0 : r 0 = .int 0) (e12 : r 12 = .int (nI a)) (e14 : r 14 = .int (nI a)) (aX : a ≤ X.2) : Zm g (d + 1) 0 0 mX4_readNumber [.ref 2] h (rVp (fun h' => ∃ r', RW h0 h' r' A Q ∧ CU r r' ∧ if 3 < rnX X isDg a - a then CKe r' (1, a) else (r' 0 = .int 0 ∧ r' 12 = .int (nI (rnX X isDg a)) ∧ r' 13 = .int (nI 1) ∧ r' 14 = .int (nI a) ∧ r' 15 = .int (nI (dgV X a (rnX X isDg a - a)))))) := by
  obtain ⟨t10, t11, t9, F, tF, tx⟩ := id T
  show Zw g (d + 1) 0 0 mX4_readNumber 0 [some (.ref 2)] [] h _
  refine x_al0 rfl dX4_readNumber_0 ?_
  refine x_iconst (v := nI 0) dX4_readNumber_1 rfl ?_
  refine x_rp R fdX4_63 (by decide) (by decide) (by first | exact fun _ => ⟨_, rfl⟩ | exact fun z => absurd z (by decide)) zf_i dX4_readNumber_2 (fun h R => ?_)
  refine x_wh (fun (b : Nat) => [some (.ref 2)]) (fun b h => ∃ r', RW h0 h r' A Q ∧ CU r r' ∧ r' 0 = .int 0 ∧ r' 12 = .int (nI b) ∧ r' 14 = .int (nI a) ∧ r' 15 = .int (nI (dgV X a (b - a))) ∧ a ≤ b ∧ b ≤ X.2 ∧ rnX X isDg a = rnX X isDg b) (fun b => X.2 - b) a ⟨_, R, CU.rf.up (Or.inr (Or.inr (Or.inr (Or.inr (Or.inr rfl))))), e0, e12, e14, by rw [Nat.sub_self]; rfl, Nat.le_refl _, aX, rfl⟩ (fun b h hI ih => ?_)
  obtain ⟨r2, R, U, e0, e12, e14, e15, ab, bX, hr⟩ := hI
  have T2 := T.cu U
  have t10 := T2.1
  have t11 := T2.2.1
  have last : ¬ (b < X.2 ∧ isDg (X.1 b) = true) → Zw g (d + 1) 0 0 mX4_readNumber 81 [some (.ref 2)] [] h (rVp (fun h' => ∃ r', RW h0 h' r' A Q ∧ CU r r' ∧ if 3 < rnX X isDg a - a then CKe r' (1, a) else (r' 0 = .int 0 ∧ r' 12 = .int (nI (rnX X isDg a)) ∧ r' 13 = .int (nI 1) ∧ r' 14 = .int (nI a) ∧ r' 15 = .int (nI (dgV X a (rnX X isDg a - a)))))) := by
    intro hn
    have er : rnX X isDg a = b := by rw [hr]; exact rnX_f hn
    refine x_al0 rfl dX4_readNumber_81 ?_
    refine x_iconst (v := nI 1) dX4_readNumber_82 rfl ?_
    refine x_rp R fdX4_57 (by decide) (by decide) (by first | exact fun _ => ⟨_, rfl⟩ | exact fun z => absurd z (by decide)) zf_i dX4_readNumber_83 (fun h R => ?_)
    refine x_al0 rfl dX4_readNumber_86 ?_
    refine x_rg R fdX4_54 (by decide) (by first | assumption | rfl) dX4_readNumber_87 ?_
    refine x_al0 rfl dX4_readNumber_90 ?_
    refine x_rg R fdX4_60 (by decide) (by first | assumption | rfl) dX4_readNumber_91 ?_
    refine x_isub (pk_sub ab) dX4_readNumber_94 ?_
    refine x_iconst (v := nI 3) dX4_readNumber_95 rfl ?_
    refine x_icmp_le (tgt := 104) dX4_readNumber_96 rfl (fun q96 => ?_) (fun q96 => ?_)
    · skip
      first | (simp only [cmp_lt, cmp_gt, cmp_eq, zN_cge, zN_cle, Decidable.not_not] at q96) | (simp (disch := omega) only [zN_le, zN_lt, zN_0, zN_1, nI_toInt, zN_eq, zN_eq0, b2_z, b2_nz, Decidable.not_not, Int.not_lt, Int.not_le, zK0, zK1, zK2, zK3, zK5, zK7, zK8, zK9, zK10, zK19, zK20, zK40, zK99, zK100, zK199] at q96) | skip
      exact x_vret rfl dX4_readNumber_104 ⟨rfl, _, R, U.up (Or.inr (Or.inr (Or.inr (Or.inl rfl)))), by rw [er, if_neg (by omega)]; exact ⟨e0, e12, rfl, e14, e15⟩⟩
    · skip
      first | (simp only [cmp_lt, cmp_gt, cmp_eq, zN_cge, zN_cle, Decidable.not_not] at q96) | (simp (disch := omega) only [zN_le, zN_lt, zN_0, zN_1, nI_toInt, zN_eq, zN_eq0, b2_z, b2_nz, Decidable.not_not, Int.not_lt, Int.not_le, zK0, zK1, zK2, zK3, zK5, zK7, zK8, zK9, zK10, zK19, zK20, zK40, zK99, zK100, zK199] at q96) | skip
      refine x_al0 rfl dX4_readNumber_99 ?_
      refine x_iconst (v := nI 1) dX4_readNumber_100 rfl ?_
      refine x_cv1Vp mX4_fail_ok lkX4_98 rfl (Nat.le_of_ble_eq_true rfl) (Nat.le_of_ble_eq_true rfl) dX4_readNumber_101 R.get  (c_fail (fa := 1) (by decide) (by decide) R e0 e14) (fun h hq => ?_)
      obtain ⟨r3, R3, U3, E3⟩ := hq
      exact x_vret rfl dX4_readNumber_104 ⟨rfl, r3, R3, (U.up (Or.inr (Or.inr (Or.inr (Or.inl rfl))))).tr U3, by rw [er, if_pos (by omega)]; exact E3⟩
  refine x_al0 rfl dX4_readNumber_5 ?_
  refine x_rg R fdX4_54 (by decide) (by first | assumption | rfl) dX4_readNumber_6 ?_
  refine x_al0 rfl dX4_readNumber_9 ?_
  refine x_rg R fdX4_51 (by decide) (by first | assumption | rfl) dX4_readNumber_10 ?_
  refine x_icmp_ge (tgt := 81) dX4_readNumber_13 rfl (fun q13 => ?_) (fun q13 => ?_)
  · skip
    first | (simp only [cmp_lt, cmp_gt, cmp_eq, zN_cge, zN_cle, Decidable.not_not] at q13) | (simp (disch := omega) only [zN_le, zN_lt, zN_0, zN_1, nI_toInt, zN_eq, zN_eq0, b2_z, b2_nz, Decidable.not_not, Int.not_lt, Int.not_le, zK0, zK1, zK2, zK3, zK5, zK7, zK8, zK9, zK10, zK19, zK20, zK40, zK99, zK100, zK199] at q13) | skip
    exact last (fun z => by omega)
  · skip
    first | (simp only [cmp_lt, cmp_gt, cmp_eq, zN_cge, zN_cle, Decidable.not_not] at q13) | (simp (disch := omega) only [zN_le, zN_lt, zN_0, zN_1, nI_toInt, zN_eq, zN_eq0, b2_z, b2_nz, Decidable.not_not, Int.not_lt, Int.not_le, zK0, zK1, zK2, zK3, zK5, zK7, zK8, zK9, zK10, zK19, zK20, zK40, zK99, zK100, zK199] at q13) | skip
    refine x_al0 rfl dX4_readNumber_16 ?_
    refine x_rg R fdX4_47 (by decide) (by first | assumption | rfl) dX4_readNumber_17 ?_
    refine x_al0 rfl dX4_readNumber_20 ?_
    refine x_rg R fdX4_54 (by decide) (by first | assumption | rfl) dX4_readNumber_21 ?_
    have tb := (tx b (by omega)).2
    refine x_txt R T2 (by omega) dX4_readNumber_24 ?_
    refine x_cs1I mX4_isDigit_ok lkX4_159 (Nat.le_of_ble_eq_true rfl) (Nat.le_of_ble_eq_true rfl) dX4_readNumber_25 (c_digB tb) ?_
    refine x_if_eq (tgt := 81) dX4_readNumber_28 rfl (fun q28 => ?_) (fun q28 => ?_)
    · skip
      first | (simp only [cmp_lt, cmp_gt, cmp_eq, zN_cge, zN_cle, Decidable.not_not] at q28) | (simp (disch := omega) only [zN_le, zN_lt, zN_0, zN_1, nI_toInt, zN_eq, zN_eq0, b2_z, b2_nz, Decidable.not_not, Int.not_lt, Int.not_le, zK0, zK1, zK2, zK3, zK5, zK7, zK8, zK9, zK10, zK19, zK20, zK40, zK99, zK100, zK199] at q28) | skip
      exact last (fun z => q28 z.2)
    · skip
      first | (simp only [cmp_lt, cmp_gt, cmp_eq, zN_cge, zN_cle, Decidable.not_not] at q28) | (simp (disch := omega) only [zN_le, zN_lt, zN_0, zN_1, nI_toInt, zN_eq, zN_eq0, b2_z, b2_nz, Decidable.not_not, Int.not_lt, Int.not_le, zK0, zK1, zK2, zK3, zK5, zK7, zK8, zK9, zK10, zK19, zK20, zK40, zK99, zK100, zK199] at q28) | skip
      have bd := q28
      simp only [isDg, decide_eq_true_eq] at bd
      refine x_al0 rfl dX4_readNumber_31 ?_
      refine x_rg R fdX4_54 (by decide) (by first | assumption | rfl) dX4_readNumber_32 ?_
      refine x_al0 rfl dX4_readNumber_35 ?_
      refine x_rg R fdX4_60 (by decide) (by first | assumption | rfl) dX4_readNumber_36 ?_
      refine x_isub (pk_sub ab) dX4_readNumber_39 ?_
      refine x_iconst (v := nI 3) dX4_readNumber_40 rfl ?_
      refine x_icmp_ge (tgt := 68) dX4_readNumber_41 rfl (fun q41 => ?_) (fun q41 => ?_)
      · skip
        first | (simp only [cmp_lt, cmp_gt, cmp_eq, zN_cge, zN_cle, Decidable.not_not] at q41) | (simp (disch := omega) only [zN_le, zN_lt, zN_0, zN_1, nI_toInt, zN_eq, zN_eq0, b2_z, b2_nz, Decidable.not_not, Int.not_lt, Int.not_le, zK0, zK1, zK2, zK3, zK5, zK7, zK8, zK9, zK10, zK19, zK20, zK40, zK99, zK100, zK199] at q41) | skip
        refine x_al0 rfl dX4_readNumber_68 ?_
        refine x_dup rfl dX4_readNumber_69 ?_
        refine x_rg R fdX4_54 (by decide) (by first | assumption | rfl) dX4_readNumber_70 ?_
        refine x_iconst (v := nI 1) dX4_readNumber_73 rfl ?_
        first | refine x_iadd (nI_add _ _) dX4_readNumber_74 ?_ | refine x_iadd rfl dX4_readNumber_74 ?_
        refine x_rp R fdX4_54 (by decide) (by decide) (by first | exact fun _ => ⟨_, rfl⟩ | exact fun z => absurd z (by decide)) zf_i dX4_readNumber_75 (fun h R => ?_)
        refine x_goto (tgt := 5) dX4_readNumber_78 rfl ?_
        exact ih (b + 1) _ (by omega) ⟨_, R, U.up (Or.inr (Or.inr (Or.inl rfl))), e0, rfl, e14, by rw [show b + 1 - a = (b - a) + 1 by omega, dgV, if_neg (by omega)]; exact e15, by omega, by omega, by rw [hr, rnX_t (by omega) q28]⟩
      · skip
        first | (simp only [cmp_lt, cmp_gt, cmp_eq, zN_cge, zN_cle, Decidable.not_not] at q41) | (simp (disch := omega) only [zN_le, zN_lt, zN_0, zN_1, nI_toInt, zN_eq, zN_eq0, b2_z, b2_nz, Decidable.not_not, Int.not_lt, Int.not_le, zK0, zK1, zK2, zK3, zK5, zK7, zK8, zK9, zK10, zK19, zK20, zK40, zK99, zK100, zK199] at q41) | skip
        refine x_al0 rfl dX4_readNumber_44 ?_
        refine x_al0 rfl dX4_readNumber_45 ?_
        refine x_rg R fdX4_63 (by decide) (by first | assumption | rfl) dX4_readNumber_46 ?_
        refine x_bipush (v := nI 10) dX4_readNumber_49 rfl ?_
        first | refine x_imul (pk_mul _ _) dX4_readNumber_51 ?_ | refine x_imul rfl dX4_readNumber_51 ?_
        refine x_al0 rfl dX4_readNumber_52 ?_
        refine x_rg R fdX4_47 (by decide) (by first | assumption | rfl) dX4_readNumber_53 ?_
        refine x_al0 rfl dX4_readNumber_56 ?_
        refine x_rg R fdX4_54 (by decide) (by first | assumption | rfl) dX4_readNumber_57 ?_
        refine x_txt R T2 (by omega) dX4_readNumber_60 ?_
        rw [(bsg_e tb (c := X.1 b) (by omega)).mpr rfl]
        first | refine x_iadd (nI_add _ _) dX4_readNumber_61 ?_ | refine x_iadd rfl dX4_readNumber_61 ?_
        refine x_bipush (v := nI 48) dX4_readNumber_62 rfl ?_
        refine x_isub (pk_sub (by omega)) dX4_readNumber_64 ?_
        refine x_rp R fdX4_63 (by decide) (by decide) (by first | exact fun _ => ⟨_, rfl⟩ | exact fun z => absurd z (by decide)) zf_i dX4_readNumber_65 (fun h R => ?_)
        refine x_al0 rfl dX4_readNumber_68 ?_
        refine x_dup rfl dX4_readNumber_69 ?_
        refine x_rg R fdX4_54 (by decide) (by first | assumption | rfl) dX4_readNumber_70 ?_
        refine x_iconst (v := nI 1) dX4_readNumber_73 rfl ?_
        first | refine x_iadd (nI_add _ _) dX4_readNumber_74 ?_ | refine x_iadd rfl dX4_readNumber_74 ?_
        refine x_rp R fdX4_54 (by decide) (by decide) (by first | exact fun _ => ⟨_, rfl⟩ | exact fun z => absurd z (by decide)) zf_i dX4_readNumber_75 (fun h R => ?_)
        refine x_goto (tgt := 5) dX4_readNumber_78 rfl ?_
        refine ih (b + 1) _ (by omega) ⟨_, R, (U.up (Or.inr (Or.inr (Or.inr (Or.inr (Or.inr rfl)))))).up (Or.inr (Or.inr (Or.inl rfl))), e0, rfl, e14, ?_, by omega, by omega, by rw [hr, rnX_t (by omega) q28]⟩
        rw [show b + 1 - a = (b - a) + 1 by omega, dgV, if_pos (by omega), show a + (b - a) = b by omega, show dgV X a (b - a) * 10 + (X.1 b - 48) = dgV X a (b - a) * 10 + X.1 b - 48 by omega]
        rfl
end ZAd

