/-! the model's parser: tests of letters -/
section ZLt
variable {g : zG} {d : Nat} {h : zH}
theorem c_isDigit {x : Int32} : Zm g d 0 0 mX12_isDigit [.int x] h (rI (b2 (48 ≤ x.toInt ∧ x.toInt ≤ 57)) h) := by
  show Zw g d 0 0 mX12_isDigit 0 [some (.int x)] [] h _
  refine x_il0 dX12_isDigit_0 ?_
  refine x_bipush (v := nI 48) dX12_isDigit_1 rfl ?_
  refine x_icmp_lt (tgt := 16) dX12_isDigit_3 rfl (fun q3 => ?_) (fun q3 => ?_)
  · skip
    refine x_iconst (v := nI 0) dX12_isDigit_16 rfl ?_
    rw [Int32.lt_iff_toInt_lt, show (nI 48).toInt = 48 from rfl] at q3
    exact x_iret rfl  rfl dX12_isDigit_17 ⟨by rw [b2z (by omega)], rfl⟩
  · skip
    refine x_il0 dX12_isDigit_6 ?_
    refine x_bipush (v := nI 57) dX12_isDigit_7 rfl ?_
    refine x_icmp_gt (tgt := 16) dX12_isDigit_9 rfl (fun q9 => ?_) (fun q9 => ?_)
    · skip
      refine x_iconst (v := nI 0) dX12_isDigit_16 rfl ?_
      rw [Int32.lt_iff_toInt_lt, show (nI 57).toInt = 57 from rfl] at q9
      exact x_iret rfl  rfl dX12_isDigit_17 ⟨by rw [b2z (by omega)], rfl⟩
    · skip
      refine x_iconst (v := nI 1) dX12_isDigit_12 rfl ?_
      refine x_goto (tgt := 17) dX12_isDigit_13 rfl ?_
      rw [Int32.lt_iff_toInt_lt, show (nI 48).toInt = 48 from rfl] at q3
      rw [Int32.lt_iff_toInt_lt, show (nI 57).toInt = 57 from rfl] at q9
      exact x_iret rfl  rfl dX12_isDigit_17 ⟨by rw [b2o (by omega)], rfl⟩
theorem c_isSmall {x : Int32} : Zm g d 0 0 mX12_isSmall [.int x] h (rI (b2 (97 ≤ x.toInt ∧ x.toInt ≤ 122)) h) := by
  show Zw g d 0 0 mX12_isSmall 0 [some (.int x)] [] h _
  refine x_il0 dX12_isSmall_0 ?_
  refine x_bipush (v := nI 97) dX12_isSmall_1 rfl ?_
  refine x_icmp_lt (tgt := 16) dX12_isSmall_3 rfl (fun q3 => ?_) (fun q3 => ?_)
  · skip
    refine x_iconst (v := nI 0) dX12_isSmall_16 rfl ?_
    rw [Int32.lt_iff_toInt_lt, show (nI 97).toInt = 97 from rfl] at q3
    exact x_iret rfl  rfl dX12_isSmall_17 ⟨by rw [b2z (by omega)], rfl⟩
  · skip
    refine x_il0 dX12_isSmall_6 ?_
    refine x_bipush (v := nI 122) dX12_isSmall_7 rfl ?_
    refine x_icmp_gt (tgt := 16) dX12_isSmall_9 rfl (fun q9 => ?_) (fun q9 => ?_)
    · skip
      refine x_iconst (v := nI 0) dX12_isSmall_16 rfl ?_
      rw [Int32.lt_iff_toInt_lt, show (nI 122).toInt = 122 from rfl] at q9
      exact x_iret rfl  rfl dX12_isSmall_17 ⟨by rw [b2z (by omega)], rfl⟩
    · skip
      refine x_iconst (v := nI 1) dX12_isSmall_12 rfl ?_
      refine x_goto (tgt := 17) dX12_isSmall_13 rfl ?_
      rw [Int32.lt_iff_toInt_lt, show (nI 97).toInt = 97 from rfl] at q3
      rw [Int32.lt_iff_toInt_lt, show (nI 122).toInt = 122 from rfl] at q9
      exact x_iret rfl  rfl dX12_isSmall_17 ⟨by rw [b2o (by omega)], rfl⟩
end ZLt

