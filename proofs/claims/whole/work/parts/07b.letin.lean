/-! the model's letIn, letNow -/
/-- the model as it was, but for what visits use -/
def VMq (h h' : zH) (s : Nat → Value) (al : Nat → Int32) (n op : Nat) (nx sp : Option (List Nat)) : Prop := Fr [59, 66, 67, 68] h h' ∧ ∃ s', (∀ k, k ≠ 21 → k ≠ 22 → s' k = s k) ∧ VM h' s' al n op nx sp
theorem VMq.rf {h : zH} {s : Nat → Value} {al : Nat → Int32} {n op : Nat} {nx sp : Option (List Nat)} (a : VM h s al n op nx sp) : VMq h h s al n op nx sp := ⟨Fr.rf, s, fun _ _ _ => rfl, a⟩
theorem VMq.tr {h h' h'' : zH} {s s' : Nat → Value} {al : Nat → Int32} {n op : Nat} {nx sp : Option (List Nat)} (a : Fr [59, 66, 67, 68] h h') (b : ∀ k, k ≠ 21 → k ≠ 22 → s' k = s k) (c : VMq h' h'' s' al n op nx sp) : VMq h h'' s al n op nx sp := by
  obtain ⟨c1, s2, c2, c3⟩ := c
  exact ⟨a.tr c1, s2, fun k k1 k2 => (c2 k k1 k2).trans (b k k1 k2), c3⟩
section ZW1
variable {g : zG} {d : Nat} {al : Nat → Int32}
theorem lp_letIn {n op row c : Nat} {nx sp : Option (List Nat)} (hr : row < fct n) : ∀ (k p b : Nat) (h : zH) (s : Nat → Value), p + k = n → VM h s al n op nx sp → Zw g (d + 3) 0 0 mX12_letIn 5 [some (.ref 59), some (.int (nI row)), some (.int (nI c)), some (.int (nI b)), some (.int (nI p))] [] h (rIp (fun r h' => r = nI (mskL n op nx sp row c k p b) ∧ VMq h h' s al n op nx sp)) := by
  intro k
  induction k with
  | zero =>
    intro p b h s hp hV
    obtain ⟨⟨hM, hF, hL, h1, h0, hn, -, -⟩, -⟩ := id hV
    obtain rfl : p = n := by omega
    refine x_il4 dX12_letIn_5 ?_
    refine x_al0 rfl dX12_letIn_7 ?_
    refine x_gm fdX12_13 hM (by decide) hF.f1 dX12_letIn_8 ?_
    refine x_iconst (v := nI 1) dX12_letIn_11 rfl ?_
    refine x_iald hL (vp_in_nI (by decide) (by decide)) (ald h1 (by decide)) dX12_letIn_12 ?_
    refine x_icmp_ge (tgt := 48) dX12_letIn_13 rfl (fun q1 => ?_) (fun q1 => ?_)
    · refine x_il3 dX12_letIn_48 ?_
      exact x_iret rfl rfl dX12_letIn_49 ⟨_, rfl, rfl, VMq.rf hV⟩
    · exact absurd (nI_le (Nat.le_refl _) (by omega)) q1
  | succ k ih =>
    intro p b h s hp hV
    obtain ⟨⟨hM, hF, hL, h1, h0, hn, -, -⟩, -⟩ := id hV
    have hpn : p < n := by omega
    have hsh : 1 * 2 ^ p < 2 ^ 32 := by rw [Nat.one_mul]; exact Nat.pow_lt_pow_right (by decide) (by omega)
    refine x_il4 dX12_letIn_5 ?_
    refine x_al0 rfl dX12_letIn_7 ?_
    refine x_gm fdX12_13 hM (by decide) hF.f1 dX12_letIn_8 ?_
    refine x_iconst (v := nI 1) dX12_letIn_11 rfl ?_
    refine x_iald hL (vp_in_nI (by decide) (by decide)) (ald h1 (by decide)) dX12_letIn_12 ?_
    refine x_icmp_ge (tgt := 48) dX12_letIn_13 rfl (fun q1 => ?_) (fun q1 => ?_)
    · exact absurd q1 (nI_ge (by omega) (by omega))
    · refine x_al0 rfl dX12_letIn_16 ?_
      refine x_il1 dX12_letIn_17 ?_
      refine x_il4 dX12_letIn_18 ?_
      refine x_il2 dX12_letIn_20 ?_
      refine x_cv3Vp mX12_goesVisit_ok lkX12_254 rfl (Nat.le_of_ble_eq_true rfl) (Nat.le_of_ble_eq_true rfl) dX12_letIn_21 hM  (m_goesVisit hV hr hpn) (fun h hq => ?_)
      rename_i h0'
      obtain ⟨b1, ⟨s', b2, b3, b4, b5⟩, b6⟩ := hq
      have hM := b5.1.1
      refine x_il3 dX12_letIn_24 ?_
      refine x_al0 rfl dX12_letIn_25 ?_
      refine x_gm fdX12_244 hM (by decide) b4 dX12_letIn_26 ?_
      have nx1 : ∀ z, z = (if (vis n op nx sp row p c).2 then 2 ^ p else 0) → Zw g (d + 3) 0 0 mX12_letIn 40 [some (.ref 59), some (.int (nI row)), some (.int (nI c)), some (.int (nI b)), some (.int (nI p))] [.int (nI z), .int (nI b)] h (rIp (fun r h' => r = nI (mskL n op nx sp row c (k + 1) p b) ∧ VMq h0' h' s al n op nx sp)) := by
        intro z hz
        refine x_ior ((or_n _ _)) dX12_letIn_40 ?_
        refine x_is3 rfl dX12_letIn_41 ?_
        first | refine x_ii4 rfl (nI_1 _) dX12_letIn_42 ?_ | refine x_ii4 rfl rfl dX12_letIn_42 ?_
        refine x_goto (tgt := 5) dX12_letIn_45 rfl ?_
        refine Zw.mono (ih (p + 1) _ _ _ (by omega) b5) (fun v h' hq => ?_)
        obtain ⟨r, rfl, c1, c2⟩ := hq
        exact ⟨r, rfl, by rw [c1, hz, mskL], VMq.tr b1 b2 c2⟩
      refine x_if_eq (tgt := 39) dX12_letIn_29 rfl (fun q2 => ?_) (fun q2 => ?_)
      · rw [b2_z] at q2
        refine x_iconst (v := nI 0) dX12_letIn_39 rfl ?_
        exact nx1 0 (by rw [if_neg q2])
      · rw [b2_nz] at q2
        refine x_iconst (v := nI 1) dX12_letIn_32 rfl ?_
        refine x_il4 dX12_letIn_33 ?_
        refine x_ishl (shl_n (by omega) hsh) dX12_letIn_35 ?_
        refine x_goto (tgt := 40) dX12_letIn_36 rfl ?_
        rw [Nat.one_mul]
        exact nx1 _ (by rw [if_pos q2])
theorem m_letIn {h : zH} {s : Nat → Value} {n op row c : Nat} {nx sp : Option (List Nat)} (hV : VM h s al n op nx sp) (hr : row < fct n) : Zm g (d + 3) 0 0 mX12_letIn [.ref 59, .int (nI row), .int (nI c)] h (rIp (fun r h' => r = nI (msk n op nx sp row c) ∧ VMq h h' s al n op nx sp)) := by
  show Zw g (d + 3) 0 0 mX12_letIn 0 [some (.ref 59), some (.int (nI row)), some (.int (nI c)), none, none] [] h _
  refine x_iconst (v := nI 0) dX12_letIn_0 rfl ?_
  refine x_is3 rfl dX12_letIn_1 ?_
  refine x_iconst (v := nI 0) dX12_letIn_2 rfl ?_
  refine x_is4 rfl dX12_letIn_3 ?_
  exact lp_letIn hr n 0 0 h s (by omega) hV
theorem m_letNow {h : zH} {s : Nat → Value} {n op row c : Nat} {nx sp : Option (List Nat)} (hV : VM h s al n op nx sp) (hr : row < fct n) (ha : al 21 = nI row) (hc : al 22 = nI c) : Zm g (d + 4) 0 0 mX12_letNow [.ref 59] h (rIp (fun r h' => r = nI (msk n op nx sp row c) ∧ VMq h h' s al n op nx sp)) := by
  show Zw g (d + 4) 0 0 mX12_letNow 0 [some (.ref 59)] [] h _
  obtain ⟨⟨hM, hF, hL, h1, h0, hn, -, -⟩, -⟩ := id hV
  refine x_al0 rfl dX12_letNow_0 ?_
  refine x_al0 rfl dX12_letNow_1 ?_
  refine x_gm fdX12_13 hM (by decide) hF.f1 dX12_letNow_2 ?_
  refine x_bipush (v := nI 21) dX12_letNow_5 rfl ?_
  refine x_iald hL (vp_in_nI (by decide) (by decide)) (ald ha (by decide)) dX12_letNow_7 ?_
  refine x_al0 rfl dX12_letNow_8 ?_
  refine x_gm fdX12_13 hM (by decide) hF.f1 dX12_letNow_9 ?_
  refine x_bipush (v := nI 22) dX12_letNow_12 rfl ?_
  refine x_iald hL (vp_in_nI (by decide) (by decide)) (ald hc (by decide)) dX12_letNow_14 ?_
  refine x_cv2Ip mX12_letIn_ok lkX12_258 rfl (Nat.le_of_ble_eq_true rfl) (Nat.le_of_ble_eq_true rfl) dX12_letNow_15 hM  (m_letIn hV hr) (fun r h hq => ?_)
  exact x_iret rfl rfl dX12_letNow_18 ⟨_, rfl, hq⟩
end ZW1
theorem mskL_lt {n op : Nat} {nx sp : Option (List Nat)} {row c : Nat} (hn : n ≤ 6) : ∀ k p b, p + k ≤ n → b < 64 → mskL n op nx sp row c k p b < 64 := by
  intro k
  induction k with
  | zero => intro p b _ hb; exact hb
  | succ k ih =>
    intro p b hp hb
    unfold mskL
    refine ih _ _ (by omega) (Nat.or_lt_two_pow (n := 6) hb ?_)
    split
    · exact Nat.pow_lt_pow_right (by decide) (by omega)
    · decide
theorem msk_lt {n op : Nat} {nx sp : Option (List Nat)} {row c : Nat} (hn : n ≤ 6) : msk n op nx sp row c < 64 := mskL_lt hn n 0 0 (by omega) (by decide)

