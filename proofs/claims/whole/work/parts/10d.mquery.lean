/-! what calls answer; the model's drawer, visit, opened, letOff -/
def F_drawer (dk : zDk) (st : zSt) (x y : Int32) : Int32 := if oneOf x dk.1 then (if y = 0 then nI (nm dk.1 st.1 (tn x)) else if y = nI 1 then nI (nm dk.1 dk.2.2.1 (tn x)) else -2) else -2
def visK (dk : zDk) (st : zSt) (p : Nat) : List Nat × Bool := vis dk.1 dk.2.1 dk.2.2.2.2.1 dk.2.2.2.2.2 st.1 p st.2.1
def mskK (dk : zDk) (row c : Nat) : Nat := msk dk.1 dk.2.1 dk.2.2.2.2.1 dk.2.2.2.2.2 row c
def F_visit (dk : zDk) (st : zSt) (x y : Int32) : Int32 := if oneOf x dk.1 ∧ oneOf y 2 then (if y = nI 1 then nI (visK dk st (tn x)).1.length else b2 ((visK dk st (tn x)).2 = true)) else -2
def F_opened (dk : zDk) (st : zSt) (x y : Int32) : Int32 := if oneOf x dk.1 then (if y < 0 then -3 else if oneOf y (visK dk st (tn x)).1.length then nI ((visK dk st (tn x)).1.getD (tn y) 0) else -1) else -2
theorem i64_0 : (0 : Int64).toInt = 0 := rfl
theorem wi64 {x : Int32} {a b : Int64} : (a ≤ x.toInt64 ∧ x.toInt64 ≤ b) ↔ (a.toInt ≤ x.toInt ∧ x.toInt ≤ b.toInt) := by
  rw [Int64.le_iff_toInt_le, Int64.le_iff_toInt_le, i64_n]
theorem vis_len {n op : Nat} {nx sp : Option (List Nat)} {row p c : Nat} : (vis n op nx sp row p c).1.length ≤ op := visL_len _ _ _ _
section ZMq
variable {g : zG} {d : Nat} {h : zH} {s : Nat → Value} {M : Nat → Nat → Int32} {L : Nat → Nat → Int64} {n op ng li : Nat} {nx sp : Option (List Nat)} {dk : zDk} {st : zSt} {un : List zSt} {tp : List Nat} {tr : Nat → zTr} {pi : Nat → zPi} {fl : Nat × Nat}
theorem w_canSwap {h0 : zH} {v u : Int64} (W : MW h0 h s M L) (D : MDk s M n op ng li nx sp) : Zm g (d + 2) 0 0 mX12_canSwap [.ref 59, .long v, .long u] h (rI (b2 (oneL v n ∧ oneL u n ∧ v ≠ u)) h) := by
  show Zw g (d + 2) 0 0 mX12_canSwap 0 [some (.ref 59), some (.long v), none, some (.long u), none] [] h _
  refine x_al0 rfl dX12_canSwap_0 ?_
  refine x_ll1 dX12_canSwap_1 ?_
  refine x_cv1I mX12_isDrawer_ok lkX12_261 rfl (Nat.le_of_ble_eq_true rfl) (Nat.le_of_ble_eq_true rfl) dX12_canSwap_2 W.hM  (w_isDrawer W D) ?_
  refine x_if_eq (tgt := 26) dX12_canSwap_5 rfl (fun q1 => ?_) (fun q1 => ?_)
  · refine x_iconst (v := nI 0) dX12_canSwap_26 rfl ?_
    exact x_iret rfl  rfl dX12_canSwap_27 ⟨by rw [b2z (fun z => b2e q1 z.1)], rfl⟩
  · refine x_al0 rfl dX12_canSwap_8 ?_
    refine x_ll3 dX12_canSwap_9 ?_
    refine x_cv1I mX12_isDrawer_ok lkX12_261 rfl (Nat.le_of_ble_eq_true rfl) (Nat.le_of_ble_eq_true rfl) dX12_canSwap_10 W.hM  (w_isDrawer W D) ?_
    refine x_if_eq (tgt := 26) dX12_canSwap_13 rfl (fun q2 => ?_) (fun q2 => ?_)
    · refine x_iconst (v := nI 0) dX12_canSwap_26 rfl ?_
      exact x_iret rfl  rfl dX12_canSwap_27 ⟨by rw [b2z (fun z => b2e q2 z.2.1)], rfl⟩
    · refine x_ll1 dX12_canSwap_16 ?_
      refine x_ll3 dX12_canSwap_17 ?_
      refine x_lcmp (rfl) dX12_canSwap_18 ?_
      refine x_if_eq (tgt := 26) dX12_canSwap_19 rfl (fun q3 => ?_) (fun q3 => ?_)
      · refine x_iconst (v := nI 0) dX12_canSwap_26 rfl ?_
        exact x_iret rfl  rfl dX12_canSwap_27 ⟨by rw [b2z (fun z => z.2.2 (cmp_eq.mp q3))], rfl⟩
      · refine x_iconst (v := nI 1) dX12_canSwap_22 rfl ?_
        refine x_goto (tgt := 27) dX12_canSwap_23 rfl ?_
        exact x_iret rfl  rfl dX12_canSwap_27 ⟨by rw [b2o ⟨b2n q1, b2n q2, fun z => q3 (cmp_eq.mpr z)⟩], rfl⟩
end ZMq

