/-! small methods: model's and class's tests -/
section ZA
variable {g : zG} {d : Nat} {h : zH}
theorem w64 {a b c : Int64} (h1 : ¬ lg_cmp a b < 0) (h2 : ¬ 0 < lg_cmp a c) : b ≤ a ∧ a ≤ c := by
  rw [lg_cmp_lt] at h1
  rw [lg_cmp_gt] at h2
  simp only [Int64.lt_iff_toInt_lt, Int64.le_iff_toInt_le] at *
  omega
theorem c_X12_within {a b c : Int64} : Zm g d 0 0 mX12_within [.long a, .long b, .long c] h (rI (b2 (b ≤ a ∧ a ≤ c)) h) := by
  show Zw g d 0 0 mX12_within 0 [some (.long a), none, some (.long b), none, some (.long c), none] [] h _
  refine x_ll0 dX12_within_0 ?_
  refine x_ll2 dX12_within_1 ?_
  refine x_lcmp (rfl) dX12_within_2 ?_
  refine x_if_lt (tgt := 17) dX12_within_3 rfl (fun q1 => ?_) (fun q1 => ?_)
  · refine x_iconst (v := nI 0) dX12_within_17 rfl ?_
    exact x_iret rfl  rfl dX12_within_18 ⟨by rw [b2_f (fun z => absurd z.1 (by rw [lg_cmp_lt] at q1; simp only [Int64.lt_iff_toInt_lt, Int64.le_iff_toInt_le] at *; omega))]; rfl, rfl⟩
  · refine x_ll0 dX12_within_6 ?_
    refine x_ll4 dX12_within_7 ?_
    refine x_lcmp (rfl) dX12_within_9 ?_
    refine x_if_gt (tgt := 17) dX12_within_10 rfl (fun q2 => ?_) (fun q2 => ?_)
    · refine x_iconst (v := nI 0) dX12_within_17 rfl ?_
      exact x_iret rfl  rfl dX12_within_18 ⟨by rw [b2_f (fun z => absurd z.2 (by rw [lg_cmp_gt] at q2; simp only [Int64.lt_iff_toInt_lt, Int64.le_iff_toInt_le] at *; omega))]; rfl, rfl⟩
    · refine x_iconst (v := nI 1) dX12_within_13 rfl ?_
      refine x_goto (tgt := 18) dX12_within_14 rfl ?_
      exact x_iret rfl  rfl dX12_within_18 ⟨by rw [b2_t (w64 q1 q2)]; rfl, rfl⟩
/-- the number of the six low bits that stand -/
def bits6 (x : Int32) : Nat → Int32
  | 0 => 0
  | k + 1 => bits6 x k + ((x >>> (nI k &&& 31)) &&& 1)
theorem lp_X12_bitsOf {x : Int32} : ∀ (k j : Nat), j + k = 6 → Zw g d 0 0 mX12_bitsOf 4 [some (.int x), some (.int (bits6 x j)), some (.int (nI j))] [] h (rI (bits6 x 6) h) := by
  intro k
  induction k with
  | zero =>
    intro j hj
    obtain rfl : j = 6 := by omega
    refine x_il2 dX12_bitsOf_4 ?_
    refine x_bipush (v := nI 6) dX12_bitsOf_5 rfl ?_
    refine x_icmp_ge (tgt := 24) dX12_bitsOf_7 rfl (fun q1 => ?_) (fun q1 => ?_)
    · refine x_il1 dX12_bitsOf_24 ?_
      exact x_iret rfl rfl dX12_bitsOf_25 ⟨rfl, rfl⟩
    · exact absurd (by decide) q1
  | succ k ih =>
    intro j hj
    refine x_il2 dX12_bitsOf_4 ?_
    refine x_bipush (v := nI 6) dX12_bitsOf_5 rfl ?_
    refine x_icmp_ge (tgt := 24) dX12_bitsOf_7 rfl (fun q1 => ?_) (fun q1 => ?_)
    · exact absurd q1 (nI_ge (by omega) (by omega))
    · refine x_il1 dX12_bitsOf_10 ?_
      refine x_il0 dX12_bitsOf_11 ?_
      refine x_il2 dX12_bitsOf_12 ?_
      refine x_ishr (rfl) dX12_bitsOf_13 ?_
      refine x_iconst (v := nI 1) dX12_bitsOf_14 rfl ?_
      refine x_iand (rfl) dX12_bitsOf_15 ?_
      first | refine x_iadd (nI_add _ _) dX12_bitsOf_16 ?_ | refine x_iadd rfl dX12_bitsOf_16 ?_
      refine x_is1 rfl dX12_bitsOf_17 ?_
      first | refine x_ii2 rfl (nI_1 _) dX12_bitsOf_18 ?_ | refine x_ii2 rfl rfl dX12_bitsOf_18 ?_
      refine x_goto (tgt := 4) dX12_bitsOf_21 rfl ?_
      exact ih (j + 1) (by omega)
theorem c_X12_bitsOf {x : Int32} : Zm g d 0 0 mX12_bitsOf [.int x] h (rI (bits6 x 6) h) := by
  show Zw g d 0 0 mX12_bitsOf 0 [some (.int x), none, none] [] h _
  refine x_iconst (v := nI 0) dX12_bitsOf_0 rfl ?_
  refine x_is1 rfl dX12_bitsOf_1 ?_
  refine x_iconst (v := nI 0) dX12_bitsOf_2 rfl ?_
  refine x_is2 rfl dX12_bitsOf_3 ?_
  exact lp_X12_bitsOf 6 0 rfl
end ZA

