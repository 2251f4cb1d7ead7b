/-! the library's strings over the literals -/
def kb (i k : Nat) : Int32 := (zByt.getD i []).getD k 0
theorem kb_ok : ∀ i, i < 4 → ∀ k, k < (zByt.getD i []).length → ((kb i k &&& nI 255).toUInt32 % 65536).toInt32 = kb i k := by decide +kernel
theorem kb_ok2 : ∀ i, i < 4 → ∀ k, k < (zByt.getD i []).length → (kb i k).toUInt32.toUInt16.toUInt32.toInt32 = kb i k := by decide +kernel
theorem kb_c : ∀ i, i < 4 → ∀ k, k < (zByt.getD i []).length → narrow .char (.int (kb i k)) = .int (kb i k) := fun i hi k hk => congrArg Value.int (kb_ok2 i hi k hk)
theorem kb_len : ∀ i, i < 4 → (zByt.getD i []).length < 100 := by decide
section ZSt
variable {g : zG} {d : Nat} {h : zH} {i : Nat}
theorem c_coder (hi : i < 4) : Zm g d 0 0 mJ0_coder_7d493 [.retAddr (10 + i)] h (rI 0 h) := by
  show Zw g d 0 0 mJ0_coder_7d493 0 [some (.retAddr (10 + i))] [] h _
  refine x_gsC rfl dJ0_coder_7d493_0 ?_
  refine x_if_eq (tgt := 13) dJ0_coder_7d493_3 rfl (fun q3 => ?_) (fun q3 => ?_)
  · skip
    first | (simp only [cmp_lt, cmp_gt, cmp_eq, zN_cge, zN_cle, Decidable.not_not] at q3) | (simp (disch := omega) only [zN_le, zN_lt, zN_0, zN_1, nI_toInt, zN_eq, zN_eq0, b2_z, b2_nz, Decidable.not_not, Int.not_lt, Int.not_le, zK0, zK1, zK2, zK3, zK5, zK7, zK8, zK9, zK10, zK19, zK20, zK40, zK99, zK100, zK199] at q3) | skip
    exact absurd q3 (by decide)
  · skip
    first | (simp only [cmp_lt, cmp_gt, cmp_eq, zN_cge, zN_cle, Decidable.not_not] at q3) | (simp (disch := omega) only [zN_le, zN_lt, zN_0, zN_1, nI_toInt, zN_eq, zN_eq0, b2_z, b2_nz, Decidable.not_not, Int.not_lt, Int.not_le, zK0, zK1, zK2, zK3, zK5, zK7, zK8, zK9, zK10, zK19, zK20, zK40, zK99, zK100, zK199] at q3) | skip
    refine x_al0 rfl dJ0_coder_7d493_6 ?_
    refine x_sco (by omega) rfl dJ0_coder_7d493_7 ?_
    refine x_goto (tgt := 14) dJ0_coder_7d493_10 rfl ?_
    exact x_iret rfl  rfl dJ0_coder_7d493_14 ⟨rfl, rfl⟩
theorem c_latin (hi : i < 4) : Zm g d 0 0 mJ0_isLatin1_aae02 [.retAddr (10 + i)] h (rI 1 h) := by
  show Zw g d 0 0 mJ0_isLatin1_aae02 0 [some (.retAddr (10 + i))] [] h _
  refine x_gsC rfl dJ0_isLatin1_aae02_0 ?_
  refine x_if_eq (tgt := 17) dJ0_isLatin1_aae02_3 rfl (fun q3 => ?_) (fun q3 => ?_)
  · skip
    first | (simp only [cmp_lt, cmp_gt, cmp_eq, zN_cge, zN_cle, Decidable.not_not] at q3) | (simp (disch := omega) only [zN_le, zN_lt, zN_0, zN_1, nI_toInt, zN_eq, zN_eq0, b2_z, b2_nz, Decidable.not_not, Int.not_lt, Int.not_le, zK0, zK1, zK2, zK3, zK5, zK7, zK8, zK9, zK10, zK19, zK20, zK40, zK99, zK100, zK199] at q3) | skip
    exact absurd q3 (by decide)
  · skip
    first | (simp only [cmp_lt, cmp_gt, cmp_eq, zN_cge, zN_cle, Decidable.not_not] at q3) | (simp (disch := omega) only [zN_le, zN_lt, zN_0, zN_1, nI_toInt, zN_eq, zN_eq0, b2_z, b2_nz, Decidable.not_not, Int.not_lt, Int.not_le, zK0, zK1, zK2, zK3, zK5, zK7, zK8, zK9, zK10, zK19, zK20, zK40, zK99, zK100, zK199] at q3) | skip
    refine x_al0 rfl dJ0_isLatin1_aae02_6 ?_
    refine x_sco (by omega) rfl dJ0_isLatin1_aae02_7 ?_
    refine x_if_ne (tgt := 17) dJ0_isLatin1_aae02_10 rfl (fun q10 => ?_) (fun q10 => ?_)
    · skip
      first | (simp only [cmp_lt, cmp_gt, cmp_eq, zN_cge, zN_cle, Decidable.not_not] at q10) | (simp (disch := omega) only [zN_le, zN_lt, zN_0, zN_1, nI_toInt, zN_eq, zN_eq0, b2_z, b2_nz, Decidable.not_not, Int.not_lt, Int.not_le, zK0, zK1, zK2, zK3, zK5, zK7, zK8, zK9, zK10, zK19, zK20, zK40, zK99, zK100, zK199] at q10) | skip
      exact absurd trivial q10
    · skip
      first | (simp only [cmp_lt, cmp_gt, cmp_eq, zN_cge, zN_cle, Decidable.not_not] at q10) | (simp (disch := omega) only [zN_le, zN_lt, zN_0, zN_1, nI_toInt, zN_eq, zN_eq0, b2_z, b2_nz, Decidable.not_not, Int.not_lt, Int.not_le, zK0, zK1, zK2, zK3, zK5, zK7, zK8, zK9, zK10, zK19, zK20, zK40, zK99, zK100, zK199] at q10) | skip
      refine x_iconst (v := nI 1) dJ0_isLatin1_aae02_13 rfl ?_
      refine x_goto (tgt := 18) dJ0_isLatin1_aae02_14 rfl ?_
      exact x_iret rfl  rfl dJ0_isLatin1_aae02_18 ⟨rfl, rfl⟩
theorem c_len (hi : i < 4) : Zm g (d + 1) 0 0 mJ0_length_8abf5 [.retAddr (10 + i)] h (rI (nI (zByt.getD i []).length) h) := by
  show Zw g (d + 1) 0 0 mJ0_length_8abf5 0 [some (.retAddr (10 + i))] [] h _
  refine x_al0 rfl dJ0_length_8abf5_0 ?_
  refine x_sva (by omega) rfl dJ0_length_8abf5_1 ?_
  refine x_sbl  hi rfl dJ0_length_8abf5_4 ?_
  refine x_al0 rfl dJ0_length_8abf5_5 ?_
  refine x_ct0I mJ0_coder_7d493_ok lkJ0_335 rfl (by omega) (Nat.le_of_ble_eq_true rfl) (Nat.le_of_ble_eq_true rfl) dJ0_length_8abf5_6 (c_coder hi) ?_
  refine x_ishr (Int32.shiftRight_zero) dJ0_length_8abf5_9 ?_
  exact x_iret rfl rfl dJ0_length_8abf5_10 ⟨rfl, rfl⟩
theorem c_ckN {k n : Nat} (hn : n < 2 ^ 31) (hk : k < n) : Zm g d 0 0 mJ3_checkIndex_8e157 [.int (nI k), .int (nI n), .null] h (rI (nI k) h) := by
  show Zw g d 0 0 mJ3_checkIndex_8e157 0 [some (.int (nI k)), some (.int (nI n)), some .null] [] h _
  refine x_il0 dJ3_checkIndex_8e157_0 ?_
  refine x_if_lt (tgt := 9) dJ3_checkIndex_8e157_1 rfl (fun q1 => ?_) (fun q1 => ?_)
  · skip
    first | (simp only [cmp_lt, cmp_gt, cmp_eq, zN_cge, zN_cle, Decidable.not_not] at q1) | (simp (disch := omega) only [zN_le, zN_lt, zN_0, zN_1, nI_toInt, zN_eq, zN_eq0, b2_z, b2_nz, Decidable.not_not, Int.not_lt, Int.not_le, zK0, zK1, zK2, zK3, zK5, zK7, zK8, zK9, zK10, zK19, zK20, zK40, zK99, zK100, zK199] at q1) | skip
    omega
  · skip
    first | (simp only [cmp_lt, cmp_gt, cmp_eq, zN_cge, zN_cle, Decidable.not_not] at q1) | (simp (disch := omega) only [zN_le, zN_lt, zN_0, zN_1, nI_toInt, zN_eq, zN_eq0, b2_z, b2_nz, Decidable.not_not, Int.not_lt, Int.not_le, zK0, zK1, zK2, zK3, zK5, zK7, zK8, zK9, zK10, zK19, zK20, zK40, zK99, zK100, zK199] at q1) | skip
    refine x_il0 dJ3_checkIndex_8e157_4 ?_
    refine x_il1 dJ3_checkIndex_8e157_5 ?_
    refine x_icmp_lt (tgt := 16) dJ3_checkIndex_8e157_6 rfl (fun q6 => ?_) (fun q6 => ?_)
    · skip
      first | (simp only [cmp_lt, cmp_gt, cmp_eq, zN_cge, zN_cle, Decidable.not_not] at q6) | (simp (disch := omega) only [zN_le, zN_lt, zN_0, zN_1, nI_toInt, zN_eq, zN_eq0, b2_z, b2_nz, Decidable.not_not, Int.not_lt, Int.not_le, zK0, zK1, zK2, zK3, zK5, zK7, zK8, zK9, zK10, zK19, zK20, zK40, zK99, zK100, zK199] at q6) | skip
      refine x_il0 dJ3_checkIndex_8e157_16 ?_
      exact x_iret rfl rfl dJ3_checkIndex_8e157_17 ⟨rfl, rfl⟩
    · skip
      first | (simp only [cmp_lt, cmp_gt, cmp_eq, zN_cge, zN_cle, Decidable.not_not] at q6) | (simp (disch := omega) only [zN_le, zN_lt, zN_0, zN_1, nI_toInt, zN_eq, zN_eq0, b2_z, b2_nz, Decidable.not_not, Int.not_lt, Int.not_le, zK0, zK1, zK2, zK3, zK5, zK7, zK8, zK9, zK10, zK19, zK20, zK40, zK99, zK100, zK199] at q6) | skip
      omega
theorem c_ckR {k n : Nat} (hn : n < 2 ^ 31) (hk : k < n) : Zm g d 0 0 mJ3_checkIndex_8e157 [.int (nI k), .int (nI n), .retAddr 2] h (rI (nI k) h) := by
  show Zw g d 0 0 mJ3_checkIndex_8e157 0 [some (.int (nI k)), some (.int (nI n)), some (.retAddr 2)] [] h _
  refine x_il0 dJ3_checkIndex_8e157_0 ?_
  refine x_if_lt (tgt := 9) dJ3_checkIndex_8e157_1 rfl (fun q1 => ?_) (fun q1 => ?_)
  · skip
    first | (simp only [cmp_lt, cmp_gt, cmp_eq, zN_cge, zN_cle, Decidable.not_not] at q1) | (simp (disch := omega) only [zN_le, zN_lt, zN_0, zN_1, nI_toInt, zN_eq, zN_eq0, b2_z, b2_nz, Decidable.not_not, Int.not_lt, Int.not_le, zK0, zK1, zK2, zK3, zK5, zK7, zK8, zK9, zK10, zK19, zK20, zK40, zK99, zK100, zK199] at q1) | skip
    omega
  · skip
    first | (simp only [cmp_lt, cmp_gt, cmp_eq, zN_cge, zN_cle, Decidable.not_not] at q1) | (simp (disch := omega) only [zN_le, zN_lt, zN_0, zN_1, nI_toInt, zN_eq, zN_eq0, b2_z, b2_nz, Decidable.not_not, Int.not_lt, Int.not_le, zK0, zK1, zK2, zK3, zK5, zK7, zK8, zK9, zK10, zK19, zK20, zK40, zK99, zK100, zK199] at q1) | skip
    refine x_il0 dJ3_checkIndex_8e157_4 ?_
    refine x_il1 dJ3_checkIndex_8e157_5 ?_
    refine x_icmp_lt (tgt := 16) dJ3_checkIndex_8e157_6 rfl (fun q6 => ?_) (fun q6 => ?_)
    · skip
      first | (simp only [cmp_lt, cmp_gt, cmp_eq, zN_cge, zN_cle, Decidable.not_not] at q6) | (simp (disch := omega) only [zN_le, zN_lt, zN_0, zN_1, nI_toInt, zN_eq, zN_eq0, b2_z, b2_nz, Decidable.not_not, Int.not_lt, Int.not_le, zK0, zK1, zK2, zK3, zK5, zK7, zK8, zK9, zK10, zK19, zK20, zK40, zK99, zK100, zK199] at q6) | skip
      refine x_il0 dJ3_checkIndex_8e157_16 ?_
      exact x_iret rfl rfl dJ3_checkIndex_8e157_17 ⟨rfl, rfl⟩
    · skip
      first | (simp only [cmp_lt, cmp_gt, cmp_eq, zN_cge, zN_cle, Decidable.not_not] at q6) | (simp (disch := omega) only [zN_le, zN_lt, zN_0, zN_1, nI_toInt, zN_eq, zN_eq0, b2_z, b2_nz, Decidable.not_not, Int.not_lt, Int.not_le, zK0, zK1, zK2, zK3, zK5, zK7, zK8, zK9, zK10, zK19, zK20, zK40, zK99, zK100, zK199] at q6) | skip
      omega
theorem c_ckS {k n : Nat} (hn : n < 2 ^ 31) (hk : k < n) : Zm g (d + 1) 0 0 mJ0_checkIndex_df160 [.int (nI k), .int (nI n)] h (rV h) := by
  show Zw g (d + 1) 0 0 mJ0_checkIndex_df160 0 [some (.int (nI k)), some (.int (nI n))] [] h _
  refine x_il0 dJ0_checkIndex_df160_0 ?_
  refine x_il1 dJ0_checkIndex_df160_1 ?_
  refine x_gsP rfl dJ0_checkIndex_df160_2 (fun vP hP => ?_)
  rcases hP with rfl | rfl
  · refine x_cs3I mJ3_checkIndex_8e157_ok lkJ0_1059 (Nat.le_of_ble_eq_true rfl) (Nat.le_of_ble_eq_true rfl) dJ0_checkIndex_df160_5 (c_ckN hn hk) ?_
    refine x_pop rfl dJ0_checkIndex_df160_8 ?_
    exact x_vret rfl dJ0_checkIndex_df160_9 ⟨rfl, rfl⟩
  · refine x_cs3I mJ3_checkIndex_8e157_ok lkJ0_1059 (Nat.le_of_ble_eq_true rfl) (Nat.le_of_ble_eq_true rfl) dJ0_checkIndex_df160_5 (c_ckR hn hk) ?_
    refine x_pop rfl dJ0_checkIndex_df160_8 ?_
    exact x_vret rfl dJ0_checkIndex_df160_9 ⟨rfl, rfl⟩
theorem c_cha1 {k : Nat} (hi : i < 4) (hk : k < (zByt.getD i []).length) : Zm g (d + 2) 0 0 mJ1_charAt_3b067 [.retAddr (20 + i), .int (nI k)] h (rI (kb i k) h) := by
  have hl := kb_len i hi
  show Zw g (d + 2) 0 0 mJ1_charAt_3b067 0 [some (.retAddr (20 + i)), some (.int (nI k))] [] h _
  refine x_il1 dJ1_charAt_3b067_0 ?_
  refine x_al0 rfl dJ1_charAt_3b067_1 ?_
  refine x_sbl  hi rfl dJ1_charAt_3b067_2 ?_
  rw [show Int32.ofNat (zByt.getD i []).length = nI (zByt.getD i []).length from rfl]
  refine x_cs2V mJ0_checkIndex_df160_ok lkJ1_9 (Nat.le_of_ble_eq_true rfl) (Nat.le_of_ble_eq_true rfl) dJ1_charAt_3b067_3 (c_ckS (by omega) hk) ?_
  refine x_al0 rfl dJ1_charAt_3b067_6 ?_
  refine x_il1 dJ1_charAt_3b067_7 ?_
  refine x_sby  hi (vp_in_nI hk (by omega)) (by rw [nI_clamp (by omega)]) dJ1_charAt_3b067_8 ?_
  refine x_sipush (v := nI 255) dJ1_charAt_3b067_9 (by decide) ?_
  refine x_iand (rfl) dJ1_charAt_3b067_12 ?_
  refine x_i2c (kb_ok i hi k hk) dJ1_charAt_3b067_13 ?_
  exact x_iret rfl  (kb_c i hi k hk) dJ1_charAt_3b067_14 ⟨rfl, rfl⟩
theorem c_cha {k : Nat} (hi : i < 4) (hk : k < (zByt.getD i []).length) : Zm g (d + 3) 0 0 mJ0_charAt_5068e [.retAddr (10 + i), .int (nI k)] h (rI (kb i k) h) := by
  show Zw g (d + 3) 0 0 mJ0_charAt_5068e 0 [some (.retAddr (10 + i)), some (.int (nI k))] [] h _
  refine x_al0 rfl dJ0_charAt_5068e_0 ?_
  refine x_ct0I mJ0_isLatin1_aae02_ok lkJ0_492 rfl (by omega) (Nat.le_of_ble_eq_true rfl) (Nat.le_of_ble_eq_true rfl) dJ0_charAt_5068e_1 (c_latin hi) ?_
  refine x_if_eq (tgt := 16) dJ0_charAt_5068e_4 rfl (fun q4 => ?_) (fun q4 => ?_)
  · skip
    first | (simp only [cmp_lt, cmp_gt, cmp_eq, zN_cge, zN_cle, Decidable.not_not] at q4) | (simp (disch := omega) only [zN_le, zN_lt, zN_0, zN_1, nI_toInt, zN_eq, zN_eq0, b2_z, b2_nz, Decidable.not_not, Int.not_lt, Int.not_le, zK0, zK1, zK2, zK3, zK5, zK7, zK8, zK9, zK10, zK19, zK20, zK40, zK99, zK100, zK199] at q4) | skip
    exact absurd q4 (by decide)
  · skip
    first | (simp only [cmp_lt, cmp_gt, cmp_eq, zN_cge, zN_cle, Decidable.not_not] at q4) | (simp (disch := omega) only [zN_le, zN_lt, zN_0, zN_1, nI_toInt, zN_eq, zN_eq0, b2_z, b2_nz, Decidable.not_not, Int.not_lt, Int.not_le, zK0, zK1, zK2, zK3, zK5, zK7, zK8, zK9, zK10, zK19, zK20, zK40, zK99, zK100, zK199] at q4) | skip
    refine x_al0 rfl dJ0_charAt_5068e_7 ?_
    refine x_sva (by omega) rfl dJ0_charAt_5068e_8 ?_
    refine x_il1 dJ0_charAt_5068e_11 ?_
    refine x_cs2I mJ1_charAt_3b067_ok lkJ0_495 (Nat.le_of_ble_eq_true rfl) (Nat.le_of_ble_eq_true rfl) dJ0_charAt_5068e_12 (c_cha1 hi hk) ?_
    exact x_iret rfl  (kb_c i hi k hk) dJ0_charAt_5068e_15 ⟨rfl, rfl⟩
end ZSt

