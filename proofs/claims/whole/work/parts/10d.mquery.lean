/-! what calls answer; the model's drawer, visit, opened, letOff -/
def F_drawer (dk : zDk) (st : zSt) (x y : Int32) : Int32 := if oneOf x dk.1 then (if y = 0 then nI (nm dk.1 st.1 (tn x)) else if y = 1 then nI (nm dk.1 dk.2.2.1 (tn x)) else -2) else -2
def visK (dk : zDk) (st : zSt) (p : Nat) : List Nat × Bool := vis dk.1 dk.2.1 dk.2.2.2.2.1 dk.2.2.2.2.2 st.1 p st.2.1
def mskK (dk : zDk) (row c : Nat) : Nat := msk dk.1 dk.2.1 dk.2.2.2.2.1 dk.2.2.2.2.2 row c
def F_visit (dk : zDk) (st : zSt) (x y : Int32) : Int32 := if oneOf x dk.1 ∧ oneOf y 2 then (if y = 1 then nI (visK dk st (tn x)).1.length else b2 ((visK dk st (tn x)).2 = true)) else -2
def F_opened (dk : zDk) (st : zSt) (x y : Int32) : Int32 := if oneOf x dk.1 then (if y < 0 then -3 else if oneOf y (visK dk st (tn x)).1.length then nI ((visK dk st (tn x)).1.getD (tn y) 0) else -1) else -2
theorem i64_0 : (0 : Int64).toInt = 0 := rfl
theorem wi64 {x : Int32} {a b : Int64} : (a ≤ x.toInt64 ∧ x.toInt64 ≤ b) ↔ (a.toInt ≤ x.toInt ∧ x.toInt ≤ b.toInt) := by
  rw [Int64.le_iff_toInt_le, Int64.le_iff_toInt_le, i64_n]
theorem vis_len {n op : Nat} {nx sp : Option (List Nat)} {row p c : Nat} : (vis n op nx sp row p c).1.length ≤ op := visL_len _ _ _ _
section ZMq
variable {g : zG} {d : Nat} {h : zH} {s : Nat → Value} {M : Nat → Nat → Int32} {L : Nat → Nat → Int64} {n op ng li : Nat} {nx sp : Option (List Nat)} {dk : zDk} {st : zSt} {un : List zSt} {tp : List Nat} {tr : Nat → zTr} {pi : Nat → zPi} {fl : Nat × Nat}
theorem w_canSwap {h0 : zH} {v u : Int64} (W : MW h0 h s M L) (D : MDk s M n op ng li nx sp) : Zm g (d + 2) 0 0 mX12_canSwap [.ref 59, .long v, .long u] h (rI (b2 (oneL v n ∧ oneL u n ∧ v ≠ u)) h) := by
  show Zw g (d + 2) 0 0 mX12_canSwap 0 [some (.ref 59), some (.long v), none, some (.long u), none] [] h _
  refine x_al0 rfl dX12_canSwap_0 ?_
  refine x_ll1 dX12_canSwap_1 ?_
  refine x_cv1I mX12_isDrawer_ok lkX12_261 rfl (Nat.le_of_ble_eq_true rfl) (Nat.le_of_ble_eq_true rfl) dX12_canSwap_2 W.hM  (w_isDrawer W D) ?_
  refine x_if_eq (tgt := 26) dX12_canSwap_5 rfl (fun q1 => ?_) (fun q1 => ?_)
  · refine x_iconst (v := nI 0) dX12_canSwap_26 rfl ?_
    exact x_iret rfl  rfl dX12_canSwap_27 ⟨by rw [b2z (fun z => b2e q1 z.1)], rfl⟩
  · refine x_al0 rfl dX12_canSwap_8 ?_
    refine x_ll3 dX12_canSwap_9 ?_
    refine x_cv1I mX12_isDrawer_ok lkX12_261 rfl (Nat.le_of_ble_eq_true rfl) (Nat.le_of_ble_eq_true rfl) dX12_canSwap_10 W.hM  (w_isDrawer W D) ?_
    refine x_if_eq (tgt := 26) dX12_canSwap_13 rfl (fun q2 => ?_) (fun q2 => ?_)
    · refine x_iconst (v := nI 0) dX12_canSwap_26 rfl ?_
      exact x_iret rfl  rfl dX12_canSwap_27 ⟨by rw [b2z (fun z => b2e q2 z.2.1)], rfl⟩
    · refine x_ll1 dX12_canSwap_16 ?_
      refine x_ll3 dX12_canSwap_17 ?_
      refine x_lcmp (rfl) dX12_canSwap_18 ?_
      refine x_if_eq (tgt := 26) dX12_canSwap_19 rfl (fun q3 => ?_) (fun q3 => ?_)
      · refine x_iconst (v := nI 0) dX12_canSwap_26 rfl ?_
        exact x_iret rfl  rfl dX12_canSwap_27 ⟨by rw [b2z (fun z => z.2.2 (lg_cmp_eq.mp q3))], rfl⟩
      · refine x_iconst (v := nI 1) dX12_canSwap_22 rfl ?_
        refine x_goto (tgt := 27) dX12_canSwap_23 rfl ?_
        exact x_iret rfl  rfl dX12_canSwap_27 ⟨by rw [b2o ⟨b2n q1, b2n q2, fun z => q3 (lg_cmp_eq.mpr z)⟩], rfl⟩
theorem w_drawer {x y : Int32} (I : MI h h dk st un tp tr pi fl) : Zm g (d + 2) 0 0 mX12_drawer [.ref 59, .int x, .int y] h (rIp (fun r h' => r = F_drawer dk st x y ∧ MI h h' dk st un tp tr pi fl)) := by
  obtain ⟨s, M, L, W, J⟩ := I
  obtain ⟨n, op, ng, li, nx, sp⟩ := dk
  show Zw g (d + 2) 0 0 mX12_drawer 0 [some (.ref 59), some (.int x), some (.int y)] [] h _
  refine x_al0 rfl dX12_drawer_0 ?_
  refine x_iconst (v := nI 0) dX12_drawer_1 rfl ?_
  refine x_mpf W fdX12_1 (by decide) rfl zf_i dX12_drawer_2 (fun h W => ?_)
  replace J := J.scr (Un.rf.fs (k := 0) (v := .int (nI 0)) (ks := [0]) (is := []) (ls := []) (by simp)) (by decide) (by decide) (by decide)
  have D : MDk _ M n op ng li nx sp := J.1
  obtain ⟨m1, m2, m3, m4, m5⟩ := J.2.1
  have fin : ∀ r, r = F_drawer (n, op, ng, li, nx, sp) st x y → ∃ r', some (Value.int r) = some (Value.int r') ∧ r' = F_drawer (n, op, ng, li, nx, sp) st x y ∧ MI _ h (n, op, ng, li, nx, sp) st un tp tr pi fl := fun r hr => ⟨r, rfl, hr, _, M, L, W, J⟩
  refine x_al0 rfl dX12_drawer_5 ?_
  refine x_il1 dX12_drawer_6 ?_
  refine x_i2l (rfl) dX12_drawer_7 ?_
  refine x_cv1I mX12_isDrawer_ok lkX12_261 rfl (Nat.le_of_ble_eq_true rfl) (Nat.le_of_ble_eq_true rfl) dX12_drawer_8 W.hM  (w_isDrawer W D) ?_
  refine x_if_ne (tgt := 17) dX12_drawer_11 rfl (fun q1 => ?_) (fun q1 => ?_)
  · have q1 : oneOf x n := by have := b2n q1; rw [i64_n] at this; exact this
    obtain ⟨o1, o2⟩ := oneOf_n q1
    have e1 : F_drawer (n, op, ng, li, nx, sp) st x y = if y = 0 then nI (nm n st.1 (tn x)) else if y = 1 then nI (nm n ng (tn x)) else -2 := if_pos q1
    refine x_il2 dX12_drawer_17 ?_
    refine x_if_ne (tgt := 36) dX12_drawer_18 rfl (fun q2 => ?_) (fun q2 => ?_)
    · refine x_il2 dX12_drawer_36 ?_
      refine x_iconst (v := nI 1) dX12_drawer_37 rfl ?_
      refine x_icmp_ne (tgt := 53) dX12_drawer_38 rfl (fun q3 => ?_) (fun q3 => ?_)
      · refine x_bipush (v := (-2)) dX12_drawer_53 rfl ?_
        exact x_iret rfl rfl dX12_drawer_55 fin _ (by rw [e1, if_neg q2, if_neg q3]; rfl)
      · refine x_al0 rfl dX12_drawer_41 ?_
        refine x_gm fdX12_13 W.hM (by decide) W.hF.f1 dX12_drawer_42 ?_
        refine x_bipush (v := nI 15) dX12_drawer_45 rfl ?_
        refine x_il1 dX12_drawer_47 ?_
        first | refine x_iadd (nI_add _ _) dX12_drawer_48 ?_ | refine x_iadd rfl dX12_drawer_48 ?_
        rw [o2]
        refine x_mld (len := 2868) W rfl rfl (by decide) (show 15 + tn x < 2868 from Nat.lt_trans (Nat.add_lt_add_left o1 15) (by have := D.1.2.1; omega)) (D.2.2.2.2.2.2.1 _ o1) dX12_drawer_49 ?_
        refine x_goto (tgt := 55) dX12_drawer_50 rfl ?_
        exact x_iret rfl rfl dX12_drawer_55 fin _ ?_
        sorry
    · refine x_al0 rfl dX12_drawer_21 ?_
      refine x_al0 rfl dX12_drawer_22 ?_
      refine x_gm fdX12_13 W.hM (by decide) W.hF.f1 dX12_drawer_23 ?_
      refine x_bipush (v := nI 21) dX12_drawer_26 rfl ?_
      refine x_mld (len := 2868) W rfl rfl (by decide) (by decide) m1 dX12_drawer_28 ?_
      rw [o2]
      refine x_il1 dX12_drawer_29 ?_
      refine x_cv2I mX12_nameIn_ok lkX12_251 rfl (Nat.le_of_ble_eq_true rfl) (Nat.le_of_ble_eq_true rfl) dX12_drawer_30 W.hM  (m_nameIn (W.mt D) m4 o1) ?_
      refine x_goto (tgt := 55) dX12_drawer_33 rfl ?_
      exact x_iret rfl rfl dX12_drawer_55 fin _ (by rw [← o2, e1, if_pos (Decidable.not_not.mp q2)])
  · have q1 : ¬ oneOf x n := fun z => b2e q1 (by rw [i64_n]; exact z)
    refine x_bipush (v := (-2)) dX12_drawer_14 rfl ?_
    exact x_iret rfl rfl dX12_drawer_16 fin _ (by rw [show F_drawer (n, op, ng, li, nx, sp) st x y = -2 from if_neg q1]; rfl)
end ZMq

