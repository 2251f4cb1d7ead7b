/-! the model's atoms and units, by levels -/
def wv (k : Nat) : Int32 := if k = 5 then nI 4 else if 12 ≤ k ∧ k ≤ 15 then nI (k - 12) else -1
def lw (k : Nat) : Nat := if k = 5 then 4 else k - 12
theorem wv_t {k : Nat} (h : k = 5 ∨ (12 ≤ k ∧ k ≤ 15)) : wv k = nI (lw k) := by
  unfold wv lw
  by_cases z : k = 5
  · rw [if_pos z, if_pos z]
  · rw [if_neg z, if_neg z, if_pos (by omega)]
theorem wv_f {k : Nat} (h : ¬ (k = 5 ∨ (12 ≤ k ∧ k ≤ 15))) : wv k = -1 := by
  unfold wv
  rw [if_neg (by omega), if_neg (by omega)]
theorem nI_nmO {k : Nat} (hk : k < 1000) : ¬ nI k = -1 := by
  intro z
  have := congrArg Int32.toInt z
  rw [nI_toInt (by omega), show (-1 : Int32).toInt = -1 from by decide] at this
  omega
section ZLv
variable {g : zG} {d : Nat} {h0 h h' : zH} {s s' s2 : Nat → Value} {M M' M2 : Nat → Nat → Int32} {L : Nat → Nat → Int64} {X : zX} {p p' p1 base dp : Nat} {cs c1 : List Nat} {r S : zR} {e : Nat × Nat} {f u φ ψ : Nat → zR}
theorem o_codesL {c : Nat} (A : PA X h0 h s M L base p cs s' M') (hb : base + cs.length < 900) : Zm g d 0 0 mX12_codes [.ref 59, .int (nI c)] h (rVp (fun h' => ∃ M2, MW h0 h' s' M2 L ∧ PW s s' M M2 ∧ TX X s' M2 ∧ FR (M 63) base (cs ++ [c]) (M2 63))) := by
  obtain ⟨W, U, ⟨T, K, e11, e55, -⟩, F⟩ := id A
  show Zw g d 0 0 mX12_codes 0 [some (.ref 59), some (.int (nI c))] [] h _
  refine x_al0 rfl dX12_codes_0 ?_
  refine x_gm fdX12_141 W.hM (by decide) (by first | assumption | rfl) dX12_codes_1 ?_
  refine x_if_eq (tgt := 8) dX12_codes_4 rfl (fun q4 => ?_) (fun q4 => ?_)
  · skip
    first | (simp only [cmp_lt, cmp_gt, cmp_eq, zN_cge, zN_cle, Decidable.not_not] at q4) | (simp (disch := omega) only [zN_le, zN_lt, zN_0, zN_1, nI_toInt, zN_eq, zN_eq0, b2_z, b2_nz, Decidable.not_not, Int.not_lt, Int.not_le, zK0, zK1, zK2, zK3, zK5, zK7, zK8, zK9, zK10, zK19, zK20, zK40, zK99, zK100, zK199] at q4) | skip
    refine x_al0 rfl dX12_codes_8 ?_
    refine x_gm fdX12_24 W.hM (by decide) W.hF.f4 dX12_codes_9 ?_
    refine x_bipush (v := nI 56) dX12_codes_12 rfl ?_
    refine x_al0 rfl dX12_codes_14 ?_
    refine x_gm fdX12_24 W.hM (by decide) W.hF.f4 dX12_codes_15 ?_
    refine x_bipush (v := nI 55) dX12_codes_18 rfl ?_
    refine x_mld (len := 956) W rfl rfl (by decide) (by omega) e55 dX12_codes_20 ?_
    first | refine x_iadd (nI_add _ _) dX12_codes_21 ?_ | refine x_iadd rfl dX12_codes_21 ?_
    refine x_il1 dX12_codes_22 ?_
    refine x_mst (len := 956) W rfl rfl (by decide) (by omega) dX12_codes_23 (fun h W => ?_)
    refine x_al0 rfl dX12_codes_24 ?_
    refine x_gm fdX12_24 W.hM (by decide) W.hF.f4 dX12_codes_25 ?_
    refine x_bipush (v := nI 55) dX12_codes_28 rfl ?_
    refine x_dup2 rfl rfl dX12_codes_30 ?_
    refine x_mld (len := 956) W rfl rfl (by decide) (by omega) (show upM M' 63 (upd (M' 63) (56 + (base + cs.length)) (nI c)) 63 55 = nI (base + cs.length) by rw [upM_eq, pk_un (by omega)]; exact e55) dX12_codes_31 ?_
    refine x_iconst (v := nI 1) dX12_codes_32 rfl ?_
    first | refine x_iadd (nI_add _ _) dX12_codes_33 ?_ | refine x_iadd rfl dX12_codes_33 ?_
    refine x_mst (len := 956) W rfl rfl (by decide) (by omega) dX12_codes_34 (fun h W => ?_)
    rw [upM_upM, upM_eq] at W
    have F2 : FR (M' 63) (base + cs.length) [c] (upd (upd (M' 63) (56 + (base + cs.length)) (nI c)) 55 (nI (base + cs.length + 1))) := by
      refine ⟨pk_us, fun j x hj => ?_, fun k k1 k2 => by rw [pk_un k1, pk_un (by omega)]⟩
      cases j with
      | zero => obtain rfl := Option.some.inj hj; rw [pk_un (by omega)]; exact pk_us
      | succ j => simp at hj
    have F3 := F.tr F2
    exact x_vret rfl dX12_codes_35 ⟨rfl, _, W, U.tr ⟨fun _ _ _ _ _ _ _ => rfl, fun i hi => upM_ne hi⟩, ⟨T.1, T.2.1, fun i hi => T.2.2 i hi⟩, by rw [upM_eq]; exact F3⟩
  · skip
    first | (simp only [cmp_lt, cmp_gt, cmp_eq, zN_cge, zN_cle, Decidable.not_not] at q4) | (simp (disch := omega) only [zN_le, zN_lt, zN_0, zN_1, nI_toInt, zN_eq, zN_eq0, b2_z, b2_nz, Decidable.not_not, Int.not_lt, Int.not_le, zK0, zK1, zK2, zK3, zK5, zK7, zK8, zK9, zK10, zK19, zK20, zK40, zK99, zK100, zK199] at q4) | skip
    exact absurd trivial q4
/-- a leaf's code stands, and the next token -/
theorem PA.lf {c : Nat} (O : PO X s M p base) (hK : tkK X p ≠ 24) (U : PW s s M M2) (F : FR (M 63) base ([] ++ [c]) (M2 63)) (W : MW h0 h s2 M2 L) (U2 : PU s s2) (T : TX X s M2) (K : TKm X s2 (tkB X p)) : PR X h0 h s M L base (.inr (tkB X p, [c])) := by
  have b := tkA_B O.2.1.1 hK
  have l := O.2.2.2.2
  refine ⟨s2, M2, W, U.tr U2.pw, ⟨T.pu U2, K, by rw [U2 11 (by decide) (by decide) (by decide) (by decide)]; exact O.2.2.1, F.1, ?_⟩, F⟩
  show base + 1 ≤ tkA X (tkB X p)
  omega
theorem o_readIf0 (W : MW h0 h s M L) (O : PO X s M p base) (hK : tkK X p ≠ 25) : Zm g (d + 2) 0 0 mX12_readIf [.ref 59, .int (nI 6)] h (rVp (fun h' => PR X h0 h' s M L base (.inl (4, tkA X p)))) := by
  show Zw g (d + 2) 0 0 mX12_readIf 0 [some (.ref 59), some (.int (nI 6))] [] h _
  refine x_al0 rfl dX12_readIf_0 ?_
  refine x_il1 dX12_readIf_1 ?_
  refine x_cv1Ip mX12_goesIn_ok lkX12_167 rfl (Nat.le_of_ble_eq_true rfl) (Nat.le_of_ble_eq_true rfl) dX12_readIf_2 W.hM  (o_goes0 W O hK) (fun r h hq => ?_)
  obtain ⟨rfl, s2, W2, U2, E2⟩ := hq
  refine x_if_ne (tgt := 9) dX12_readIf_5 rfl (fun q5 => ?_) (fun q5 => ?_)
  · skip
    first | (simp only [cmp_lt, cmp_gt, cmp_eq, zN_cge, zN_cle, Decidable.not_not] at q5) | (simp (disch := omega) only [zN_le, zN_lt, zN_0, zN_1, nI_toInt, zN_eq, zN_eq0, b2_z, b2_nz, Decidable.not_not, Int.not_lt, Int.not_le, zK0, zK1, zK2, zK3, zK5, zK7, zK8, zK9, zK10, zK19, zK20, zK40, zK99, zK100, zK199] at q5) | skip
    exact absurd trivial q5
  · skip
    first | (simp only [cmp_lt, cmp_gt, cmp_eq, zN_cge, zN_cle, Decidable.not_not] at q5) | (simp (disch := omega) only [zN_le, zN_lt, zN_0, zN_1, nI_toInt, zN_eq, zN_eq0, b2_z, b2_nz, Decidable.not_not, Int.not_lt, Int.not_le, zK0, zK1, zK2, zK3, zK5, zK7, zK8, zK9, zK10, zK19, zK20, zK40, zK99, zK100, zK199] at q5) | skip
    exact x_vret rfl dX12_readIf_8 ⟨rfl, s2, M, W2, U2, E2⟩
theorem e_readAtom : CtE g (d + 1) h0 L mX12_readAtom dp := by
  intro h s M e W E
  have e11 := E.1
  show Zw g (d + 1) 0 0 mX12_readAtom 0 [some (.ref 59), some (.int (nI dp))] [] h _
  refine x_al0 rfl dX12_readAtom_0 ?_
  refine x_bipush (v := nI 23) dX12_readAtom_1 rfl ?_
  refine x_cv1I mX12_is_ok lkX12_147 rfl (Nat.le_of_ble_eq_true rfl) (Nat.le_of_ble_eq_true rfl) dX12_readAtom_3 W.hM  (e_is W E (by decide)) ?_
  refine x_if_eq (tgt := 24) dX12_readAtom_6 rfl (fun q6 => ?_) (fun q6 => ?_)
  · skip
    first | (simp only [cmp_lt, cmp_gt, cmp_eq, zN_cge, zN_cle, Decidable.not_not] at q6) | (simp (disch := omega) only [zN_le, zN_lt, zN_0, zN_1, nI_toInt, zN_eq, zN_eq0, b2_z, b2_nz, Decidable.not_not, Int.not_lt, Int.not_le, zK0, zK1, zK2, zK3, zK5, zK7, zK8, zK9, zK10, zK19, zK20, zK40, zK99, zK100, zK199] at q6) | skip
    refine x_al0 rfl dX12_readAtom_24 ?_
    refine x_gm fdX12_141 W.hM (by decide) (by first | assumption | rfl) dX12_readAtom_25 ?_
    refine x_if_ne (tgt := 66) dX12_readAtom_28 rfl (fun q28 => ?_) (fun q28 => ?_)
    · skip
      refine x_al0 rfl dX12_readAtom_66 ?_
      refine x_bipush (v := nI 35) dX12_readAtom_67 rfl ?_
      refine x_cv1I mX12_is_ok lkX12_147 rfl (Nat.le_of_ble_eq_true rfl) (Nat.le_of_ble_eq_true rfl) dX12_readAtom_69 W.hM  (e_is W E (by decide)) ?_
      refine x_if_eq (tgt := 108) dX12_readAtom_72 rfl (fun q72 => ?_) (fun q72 => ?_)
      · skip
        first | (simp only [cmp_lt, cmp_gt, cmp_eq, zN_cge, zN_cle, Decidable.not_not] at q72) | (simp (disch := omega) only [zN_le, zN_lt, zN_0, zN_1, nI_toInt, zN_eq, zN_eq0, b2_z, b2_nz, Decidable.not_not, Int.not_lt, Int.not_le, zK0, zK1, zK2, zK3, zK5, zK7, zK8, zK9, zK10, zK19, zK20, zK40, zK99, zK100, zK199] at q72) | skip
        refine x_al0 rfl dX12_readAtom_108 ?_
        refine x_bipush (v := nI 8) dX12_readAtom_109 rfl ?_
        refine x_cv1I mX12_is_ok lkX12_147 rfl (Nat.le_of_ble_eq_true rfl) (Nat.le_of_ble_eq_true rfl) dX12_readAtom_111 W.hM  (e_is W E (by decide)) ?_
        refine x_if_eq (tgt := 125) dX12_readAtom_114 rfl (fun q114 => ?_) (fun q114 => ?_)
        · skip
          first | (simp only [cmp_lt, cmp_gt, cmp_eq, zN_cge, zN_cle, Decidable.not_not] at q114) | (simp (disch := omega) only [zN_le, zN_lt, zN_0, zN_1, nI_toInt, zN_eq, zN_eq0, b2_z, b2_nz, Decidable.not_not, Int.not_lt, Int.not_le, zK0, zK1, zK2, zK3, zK5, zK7, zK8, zK9, zK10, zK19, zK20, zK40, zK99, zK100, zK199] at q114) | skip
          refine x_al0 rfl dX12_readAtom_125 ?_
          refine x_iconst (v := nI 2) dX12_readAtom_126 rfl ?_
          refine x_cv1V mX12_fails_ok lkX12_153 rfl (Nat.le_of_ble_eq_true rfl) (Nat.le_of_ble_eq_true rfl) dX12_readAtom_127 W.hM  (e_fails W E) ?_
          exact x_vret rfl dX12_readAtom_130 ⟨rfl, rfl⟩
        · skip
          first | (simp only [cmp_lt, cmp_gt, cmp_eq, zN_cge, zN_cle, Decidable.not_not] at q114) | (simp (disch := omega) only [zN_le, zN_lt, zN_0, zN_1, nI_toInt, zN_eq, zN_eq0, b2_z, b2_nz, Decidable.not_not, Int.not_lt, Int.not_le, zK0, zK1, zK2, zK3, zK5, zK7, zK8, zK9, zK10, zK19, zK20, zK40, zK99, zK100, zK199] at q114) | skip
          exact absurd trivial q114
      · skip
        first | (simp only [cmp_lt, cmp_gt, cmp_eq, zN_cge, zN_cle, Decidable.not_not] at q72) | (simp (disch := omega) only [zN_le, zN_lt, zN_0, zN_1, nI_toInt, zN_eq, zN_eq0, b2_z, b2_nz, Decidable.not_not, Int.not_lt, Int.not_le, zK0, zK1, zK2, zK3, zK5, zK7, zK8, zK9, zK10, zK19, zK20, zK40, zK99, zK100, zK199] at q72) | skip
        exact absurd trivial q72
    · skip
      exact absurd q28 (nI_n05 E.2.2.1 E.2.2.2)
  · skip
    first | (simp only [cmp_lt, cmp_gt, cmp_eq, zN_cge, zN_cle, Decidable.not_not] at q6) | (simp (disch := omega) only [zN_le, zN_lt, zN_0, zN_1, nI_toInt, zN_eq, zN_eq0, b2_z, b2_nz, Decidable.not_not, Int.not_lt, Int.not_le, zK0, zK1, zK2, zK3, zK5, zK7, zK8, zK9, zK10, zK19, zK20, zK40, zK99, zK100, zK199] at q6) | skip
    exact absurd trivial q6
theorem o_readAtom0 : CtM g (d + 7) X h0 L mX12_readAtom 6 (fAt0 X) := by
  intro h s M p base W O
  obtain ⟨nu, e10, ev⟩ := O.2.1.2.2.2.2
  have e9 := O.2.1.2.2.2.1
  have e11 := O.2.2.1
  have hK := O.2.1.kr
  have lB := (tk_le O.2.1.1).2.2.1
  have l0 := O.2.2.2.2
  have X9 := O.1.2.1
  have lA := (tk_le O.2.1.1)
  show Zw g (d + 7) 0 0 mX12_readAtom 0 [some (.ref 59), some (.int (nI 6))] [] h _
  refine x_al0 rfl dX12_readAtom_0 ?_
  refine x_bipush (v := nI 23) dX12_readAtom_1 rfl ?_
  refine x_cv1I mX12_is_ok lkX12_147 rfl (Nat.le_of_ble_eq_true rfl) (Nat.le_of_ble_eq_true rfl) dX12_readAtom_3 W.hM  (o_is W O (by decide)) ?_
  refine x_if_eq (tgt := 24) dX12_readAtom_6 rfl (fun q6 => ?_) (fun q6 => ?_)
  · skip
    first | (simp only [cmp_lt, cmp_gt, cmp_eq, zN_cge, zN_cle, Decidable.not_not] at q6) | (simp (disch := omega) only [zN_le, zN_lt, zN_0, zN_1, nI_toInt, zN_eq, zN_eq0, b2_z, b2_nz, Decidable.not_not, Int.not_lt, Int.not_le, zK0, zK1, zK2, zK3, zK5, zK7, zK8, zK9, zK10, zK19, zK20, zK40, zK99, zK100, zK199] at q6) | skip
    refine x_al0 rfl dX12_readAtom_24 ?_
    refine x_gm fdX12_141 W.hM (by decide) (by first | assumption | rfl) dX12_readAtom_25 ?_
    refine x_if_ne (tgt := 66) dX12_readAtom_28 rfl (fun q28 => ?_) (fun q28 => ?_)
    · skip
      first | (simp only [cmp_lt, cmp_gt, cmp_eq, zN_cge, zN_cle, Decidable.not_not] at q28) | (simp (disch := omega) only [zN_le, zN_lt, zN_0, zN_1, nI_toInt, zN_eq, zN_eq0, b2_z, b2_nz, Decidable.not_not, Int.not_lt, Int.not_le, zK0, zK1, zK2, zK3, zK5, zK7, zK8, zK9, zK10, zK19, zK20, zK40, zK99, zK100, zK199] at q28) | skip
      exact absurd trivial q28
    · skip
      first | (simp only [cmp_lt, cmp_gt, cmp_eq, zN_cge, zN_cle, Decidable.not_not] at q28) | (simp (disch := omega) only [zN_le, zN_lt, zN_0, zN_1, nI_toInt, zN_eq, zN_eq0, b2_z, b2_nz, Decidable.not_not, Int.not_lt, Int.not_le, zK0, zK1, zK2, zK3, zK5, zK7, zK8, zK9, zK10, zK19, zK20, zK40, zK99, zK100, zK199] at q28) | skip
      refine x_al0 rfl dX12_readAtom_31 ?_
      refine x_al0 rfl dX12_readAtom_32 ?_
      refine x_gm fdX12_123 W.hM (by decide) (e9) dX12_readAtom_33 ?_
      refine x_cv1I mX12_wordOf_ok lkX12_164 rfl (Nat.le_of_ble_eq_true rfl) (Nat.le_of_ble_eq_true rfl) dX12_readAtom_36 W.hM  (c_wordOf hK) ?_
      refine x_iconst (v := (-1)) dX12_readAtom_39 rfl ?_
      change Zw _ _ _ _ _ _ _ [_, .int (wv (tkK X p))] _ _
      refine x_icmp_eq (tgt := 66) dX12_readAtom_40 rfl (fun q40 => ?_) (fun q40 => ?_)
      · skip
        have nw : ¬ (tkK X p = 5 ∨ (12 ≤ tkK X p ∧ tkK X p ≤ 15)) := fun z => by rw [wv_t z] at q40; exact nI_nmO (by unfold lw; split <;> omega) q40
        refine x_al0 rfl dX12_readAtom_66 ?_
        refine x_bipush (v := nI 35) dX12_readAtom_67 rfl ?_
        refine x_cv1I mX12_is_ok lkX12_147 rfl (Nat.le_of_ble_eq_true rfl) (Nat.le_of_ble_eq_true rfl) dX12_readAtom_69 W.hM  (o_is W O (by decide)) ?_
        refine x_if_eq (tgt := 108) dX12_readAtom_72 rfl (fun q72 => ?_) (fun q72 => ?_)
        · skip
          first | (simp only [cmp_lt, cmp_gt, cmp_eq, zN_cge, zN_cle, Decidable.not_not] at q72) | (simp (disch := omega) only [zN_le, zN_lt, zN_0, zN_1, nI_toInt, zN_eq, zN_eq0, b2_z, b2_nz, Decidable.not_not, Int.not_lt, Int.not_le, zK0, zK1, zK2, zK3, zK5, zK7, zK8, zK9, zK10, zK19, zK20, zK40, zK99, zK100, zK199] at q72) | skip
          refine x_al0 rfl dX12_readAtom_108 ?_
          refine x_bipush (v := nI 8) dX12_readAtom_109 rfl ?_
          refine x_cv1I mX12_is_ok lkX12_147 rfl (Nat.le_of_ble_eq_true rfl) (Nat.le_of_ble_eq_true rfl) dX12_readAtom_111 W.hM  (o_is W O (by decide)) ?_
          refine x_if_eq (tgt := 125) dX12_readAtom_114 rfl (fun q114 => ?_) (fun q114 => ?_)
          · skip
            first | (simp only [cmp_lt, cmp_gt, cmp_eq, zN_cge, zN_cle, Decidable.not_not] at q114) | (simp (disch := omega) only [zN_le, zN_lt, zN_0, zN_1, nI_toInt, zN_eq, zN_eq0, b2_z, b2_nz, Decidable.not_not, Int.not_lt, Int.not_le, zK0, zK1, zK2, zK3, zK5, zK7, zK8, zK9, zK10, zK19, zK20, zK40, zK99, zK100, zK199] at q114) | skip
            refine x_al0 rfl dX12_readAtom_125 ?_
            refine x_iconst (v := nI 2) dX12_readAtom_126 rfl ?_
            refine x_cv1Vp mX12_fails_ok lkX12_153 rfl (Nat.le_of_ble_eq_true rfl) (Nat.le_of_ble_eq_true rfl) dX12_readAtom_127 W.hM  (o_fails (fa := 2) (by decide) (by decide) W O) (fun h hq => ?_)
            obtain ⟨s5, W5, U5, E5⟩ := hq
            exact x_vret rfl dX12_readAtom_130 ⟨rfl, by unfold fAt0; rw [if_neg (by omega), if_neg (by omega)]; exact ⟨s5, M, W5, U5, E5⟩⟩
          · skip
            first | (simp only [cmp_lt, cmp_gt, cmp_eq, zN_cge, zN_cle, Decidable.not_not] at q114) | (simp (disch := omega) only [zN_le, zN_lt, zN_0, zN_1, nI_toInt, zN_eq, zN_eq0, b2_z, b2_nz, Decidable.not_not, Int.not_lt, Int.not_le, zK0, zK1, zK2, zK3, zK5, zK7, zK8, zK9, zK10, zK19, zK20, zK40, zK99, zK100, zK199] at q114) | skip
            refine x_al0 rfl dX12_readAtom_117 ?_
            refine x_il1 dX12_readAtom_118 ?_
            refine x_cv1Vp mX12_readIf_ok lkX12_176 rfl (Nat.le_of_ble_eq_true rfl) (Nat.le_of_ble_eq_true rfl) dX12_readAtom_119 W.hM  (o_readIf0 W O (by omega)) (fun h hq => ?_)
            refine x_goto (tgt := 130) dX12_readAtom_122 rfl ?_
            exact x_vret rfl dX12_readAtom_130 ⟨rfl, by unfold fAt0; rw [if_neg (by omega), if_pos (Or.inr q114)]; exact hq⟩
        · skip
          first | (simp only [cmp_lt, cmp_gt, cmp_eq, zN_cge, zN_cle, Decidable.not_not] at q72) | (simp (disch := omega) only [zN_le, zN_lt, zN_0, zN_1, nI_toInt, zN_eq, zN_eq0, b2_z, b2_nz, Decidable.not_not, Int.not_lt, Int.not_le, zK0, zK1, zK2, zK3, zK5, zK7, zK8, zK9, zK10, zK19, zK20, zK40, zK99, zK100, zK199] at q72) | skip
          refine x_al0 rfl dX12_readAtom_75 ?_
          refine x_il1 dX12_readAtom_76 ?_
          refine x_cv1Ip mX12_goesIn_ok lkX12_167 rfl (Nat.le_of_ble_eq_true rfl) (Nat.le_of_ble_eq_true rfl) dX12_readAtom_77 W.hM  (o_goes0 W O (by omega)) (fun r h hq => ?_)
          obtain ⟨rfl, s2, W2, U2, E2⟩ := hq
          refine x_if_ne (tgt := 84) dX12_readAtom_80 rfl (fun q80 => ?_) (fun q80 => ?_)
          · skip
            first | (simp only [cmp_lt, cmp_gt, cmp_eq, zN_cge, zN_cle, Decidable.not_not] at q80) | (simp (disch := omega) only [zN_le, zN_lt, zN_0, zN_1, nI_toInt, zN_eq, zN_eq0, b2_z, b2_nz, Decidable.not_not, Int.not_lt, Int.not_le, zK0, zK1, zK2, zK3, zK5, zK7, zK8, zK9, zK10, zK19, zK20, zK40, zK99, zK100, zK199] at q80) | skip
            exact absurd trivial q80
          · skip
            first | (simp only [cmp_lt, cmp_gt, cmp_eq, zN_cge, zN_cle, Decidable.not_not] at q80) | (simp (disch := omega) only [zN_le, zN_lt, zN_0, zN_1, nI_toInt, zN_eq, zN_eq0, b2_z, b2_nz, Decidable.not_not, Int.not_lt, Int.not_le, zK0, zK1, zK2, zK3, zK5, zK7, zK8, zK9, zK10, zK19, zK20, zK40, zK99, zK100, zK199] at q80) | skip
            exact x_vret rfl dX12_readAtom_83 ⟨rfl, by unfold fAt0; rw [if_neg (by omega), if_pos (Or.inl q72)]; exact ⟨s2, M, W2, U2, E2⟩⟩
      · skip
        have hw : tkK X p = 5 ∨ (12 ≤ tkK X p ∧ tkK X p ≤ 15) := Decidable.byContradiction (fun z => q40 (wv_f z))
        refine x_al0 rfl dX12_readAtom_43 ?_
        refine x_sipush (v := nI 1000) dX12_readAtom_44 (by decide) ?_
        refine x_al0 rfl dX12_readAtom_47 ?_
        refine x_al0 rfl dX12_readAtom_48 ?_
        refine x_gm fdX12_123 W.hM (by decide) (e9) dX12_readAtom_49 ?_
        refine x_cv1I mX12_wordOf_ok lkX12_164 rfl (Nat.le_of_ble_eq_true rfl) (Nat.le_of_ble_eq_true rfl) dX12_readAtom_52 W.hM  (c_wordOf hK) ?_
        refine x_iadd ((show nI 1000 + wv (tkK X p) = nI (1000 + lw (tkK X p)) by rw [wv_t hw]; exact nI_add _ _)) dX12_readAtom_55 ?_
        refine x_cv1Vp mX12_codes_ok lkX12_161 rfl (Nat.le_of_ble_eq_true rfl) (Nat.le_of_ble_eq_true rfl) dX12_readAtom_56 W.hM  (o_codesL (PA.rf W O) (by simp only [List.length_nil]; omega)) (fun h hq => ?_)
        obtain ⟨M2, W2, U2, T2, F2⟩ := hq
        refine x_al0 rfl dX12_readAtom_59 ?_
        refine x_cv0Vp mX12_next_ok lkX12_150 rfl (Nat.le_of_ble_eq_true rfl) (Nat.le_of_ble_eq_true rfl) dX12_readAtom_60 W2.hM  (j_next W2 T2 lB O.2.1.2.2.1 e10) (fun h hq => ?_)
        obtain ⟨s3, W3, U3, K3⟩ := hq
        refine x_goto (tgt := 130) dX12_readAtom_63 rfl ?_
        exact x_vret rfl dX12_readAtom_130 ⟨rfl, by unfold fAt0; rw [if_pos (Or.inr hw), show leaf X p = 1000 + lw (tkK X p) by unfold leaf lw; rw [if_neg q6]; split <;> rfl]; exact PA.lf O (by omega) U2 F2 W3 U3 T2 K3⟩
  · skip
    first | (simp only [cmp_lt, cmp_gt, cmp_eq, zN_cge, zN_cle, Decidable.not_not] at q6) | (simp (disch := omega) only [zN_le, zN_lt, zN_0, zN_1, nI_toInt, zN_eq, zN_eq0, b2_z, b2_nz, Decidable.not_not, Int.not_lt, Int.not_le, zK0, zK1, zK2, zK3, zK5, zK7, zK8, zK9, zK10, zK19, zK20, zK40, zK99, zK100, zK199] at q6) | skip
    refine x_al0 rfl dX12_readAtom_9 ?_
    refine x_al0 rfl dX12_readAtom_10 ?_
    refine x_gm fdX12_136 W.hM (by decide) ((show s 10 = .int (nI (tkV X p)) by rw [e10, ev q6])) dX12_readAtom_11 ?_
    refine x_cv1Vp mX12_codes_ok lkX12_161 rfl (Nat.le_of_ble_eq_true rfl) (Nat.le_of_ble_eq_true rfl) dX12_readAtom_14 W.hM  (o_codesL (PA.rf W O) (by simp only [List.length_nil]; omega)) (fun h hq => ?_)
    obtain ⟨M2, W2, U2, T2, F2⟩ := hq
    refine x_al0 rfl dX12_readAtom_17 ?_
    refine x_cv0Vp mX12_next_ok lkX12_150 rfl (Nat.le_of_ble_eq_true rfl) (Nat.le_of_ble_eq_true rfl) dX12_readAtom_18 W2.hM  (j_next W2 T2 lB O.2.1.2.2.1 e10) (fun h hq => ?_)
    obtain ⟨s3, W3, U3, K3⟩ := hq
    refine x_goto (tgt := 130) dX12_readAtom_21 rfl ?_
    exact x_vret rfl dX12_readAtom_130 ⟨rfl, by unfold fAt0; rw [if_pos (Or.inl q6), show leaf X p = tkV X p by unfold leaf; rw [if_pos q6]]; exact PA.lf O (by omega) U2 F2 W3 U3 T2 K3⟩
theorem o_readAtom1 (hf : ∀ p, p ≤ X.2 → Gl X p (f p)) (hu : ∀ p, p ≤ X.2 → Gl X p (u p)) (hdp : dp < 6) (CS : CtM g (d + 6) X h0 L mX12_readSum (dp + 1) (fSm X f)) (CT : CtM g (d + 6) X h0 L mX12_readTruth (dp + 1) (fTr X u)) (CE : CtE g (d + 6) h0 L mX12_readSum (dp + 1)) : CtM g (d + 8) X h0 L mX12_readAtom dp (fAt1 X f u) := by
  intro h s M p base W O
  obtain ⟨nu, e10, ev⟩ := O.2.1.2.2.2.2
  have e9 := O.2.1.2.2.2.1
  have e11 := O.2.2.1
  have hK := O.2.1.kr
  have lB := (tk_le O.2.1.1).2.2.1
  have l0 := O.2.2.2.2
  have X9 := O.1.2.1
  have lA := (tk_le O.2.1.1)
  show Zw g (d + 8) 0 0 mX12_readAtom 0 [some (.ref 59), some (.int (nI dp))] [] h _
  refine x_al0 rfl dX12_readAtom_0 ?_
  refine x_bipush (v := nI 23) dX12_readAtom_1 rfl ?_
  refine x_cv1I mX12_is_ok lkX12_147 rfl (Nat.le_of_ble_eq_true rfl) (Nat.le_of_ble_eq_true rfl) dX12_readAtom_3 W.hM  (o_is W O (by decide)) ?_
  refine x_if_eq (tgt := 24) dX12_readAtom_6 rfl (fun q6 => ?_) (fun q6 => ?_)
  · skip
    first | (simp only [cmp_lt, cmp_gt, cmp_eq, zN_cge, zN_cle, Decidable.not_not] at q6) | (simp (disch := omega) only [zN_le, zN_lt, zN_0, zN_1, nI_toInt, zN_eq, zN_eq0, b2_z, b2_nz, Decidable.not_not, Int.not_lt, Int.not_le, zK0, zK1, zK2, zK3, zK5, zK7, zK8, zK9, zK10, zK19, zK20, zK40, zK99, zK100, zK199] at q6) | skip
    refine x_al0 rfl dX12_readAtom_24 ?_
    refine x_gm fdX12_141 W.hM (by decide) (by first | assumption | rfl) dX12_readAtom_25 ?_
    refine x_if_ne (tgt := 66) dX12_readAtom_28 rfl (fun q28 => ?_) (fun q28 => ?_)
    · skip
      first | (simp only [cmp_lt, cmp_gt, cmp_eq, zN_cge, zN_cle, Decidable.not_not] at q28) | (simp (disch := omega) only [zN_le, zN_lt, zN_0, zN_1, nI_toInt, zN_eq, zN_eq0, b2_z, b2_nz, Decidable.not_not, Int.not_lt, Int.not_le, zK0, zK1, zK2, zK3, zK5, zK7, zK8, zK9, zK10, zK19, zK20, zK40, zK99, zK100, zK199] at q28) | skip
      exact absurd trivial q28
    · skip
      first | (simp only [cmp_lt, cmp_gt, cmp_eq, zN_cge, zN_cle, Decidable.not_not] at q28) | (simp (disch := omega) only [zN_le, zN_lt, zN_0, zN_1, nI_toInt, zN_eq, zN_eq0, b2_z, b2_nz, Decidable.not_not, Int.not_lt, Int.not_le, zK0, zK1, zK2, zK3, zK5, zK7, zK8, zK9, zK10, zK19, zK20, zK40, zK99, zK100, zK199] at q28) | skip
      refine x_al0 rfl dX12_readAtom_31 ?_
      refine x_al0 rfl dX12_readAtom_32 ?_
      refine x_gm fdX12_123 W.hM (by decide) (e9) dX12_readAtom_33 ?_
      refine x_cv1I mX12_wordOf_ok lkX12_164 rfl (Nat.le_of_ble_eq_true rfl) (Nat.le_of_ble_eq_true rfl) dX12_readAtom_36 W.hM  (c_wordOf hK) ?_
      refine x_iconst (v := (-1)) dX12_readAtom_39 rfl ?_
      change Zw _ _ _ _ _ _ _ [_, .int (wv (tkK X p))] _ _
      refine x_icmp_eq (tgt := 66) dX12_readAtom_40 rfl (fun q40 => ?_) (fun q40 => ?_)
      · skip
        have nw : ¬ (tkK X p = 5 ∨ (12 ≤ tkK X p ∧ tkK X p ≤ 15)) := fun z => by rw [wv_t z] at q40; exact nI_nmO (by unfold lw; split <;> omega) q40
        refine x_al0 rfl dX12_readAtom_66 ?_
        refine x_bipush (v := nI 35) dX12_readAtom_67 rfl ?_
        refine x_cv1I mX12_is_ok lkX12_147 rfl (Nat.le_of_ble_eq_true rfl) (Nat.le_of_ble_eq_true rfl) dX12_readAtom_69 W.hM  (o_is W O (by decide)) ?_
        refine x_if_eq (tgt := 108) dX12_readAtom_72 rfl (fun q72 => ?_) (fun q72 => ?_)
        · skip
          first | (simp only [cmp_lt, cmp_gt, cmp_eq, zN_cge, zN_cle, Decidable.not_not] at q72) | (simp (disch := omega) only [zN_le, zN_lt, zN_0, zN_1, nI_toInt, zN_eq, zN_eq0, b2_z, b2_nz, Decidable.not_not, Int.not_lt, Int.not_le, zK0, zK1, zK2, zK3, zK5, zK7, zK8, zK9, zK10, zK19, zK20, zK40, zK99, zK100, zK199] at q72) | skip
          refine x_al0 rfl dX12_readAtom_108 ?_
          refine x_bipush (v := nI 8) dX12_readAtom_109 rfl ?_
          refine x_cv1I mX12_is_ok lkX12_147 rfl (Nat.le_of_ble_eq_true rfl) (Nat.le_of_ble_eq_true rfl) dX12_readAtom_111 W.hM  (o_is W O (by decide)) ?_
          refine x_if_eq (tgt := 125) dX12_readAtom_114 rfl (fun q114 => ?_) (fun q114 => ?_)
          · skip
            first | (simp only [cmp_lt, cmp_gt, cmp_eq, zN_cge, zN_cle, Decidable.not_not] at q114) | (simp (disch := omega) only [zN_le, zN_lt, zN_0, zN_1, nI_toInt, zN_eq, zN_eq0, b2_z, b2_nz, Decidable.not_not, Int.not_lt, Int.not_le, zK0, zK1, zK2, zK3, zK5, zK7, zK8, zK9, zK10, zK19, zK20, zK40, zK99, zK100, zK199] at q114) | skip
            refine x_al0 rfl dX12_readAtom_125 ?_
            refine x_iconst (v := nI 2) dX12_readAtom_126 rfl ?_
            refine x_cv1Vp mX12_fails_ok lkX12_153 rfl (Nat.le_of_ble_eq_true rfl) (Nat.le_of_ble_eq_true rfl) dX12_readAtom_127 W.hM  (o_fails (fa := 2) (by decide) (by decide) W O) (fun h hq => ?_)
            obtain ⟨s5, W5, U5, E5⟩ := hq
            exact x_vret rfl dX12_readAtom_130 ⟨rfl, by unfold fAt1; rw [if_neg (by omega), if_neg (by omega), if_neg (by omega)]; exact ⟨s5, M, W5, U5, E5⟩⟩
          · skip
            first | (simp only [cmp_lt, cmp_gt, cmp_eq, zN_cge, zN_cle, Decidable.not_not] at q114) | (simp (disch := omega) only [zN_le, zN_lt, zN_0, zN_1, nI_toInt, zN_eq, zN_eq0, b2_z, b2_nz, Decidable.not_not, Int.not_lt, Int.not_le, zK0, zK1, zK2, zK3, zK5, zK7, zK8, zK9, zK10, zK19, zK20, zK40, zK99, zK100, zK199] at q114) | skip
            refine x_al0 rfl dX12_readAtom_117 ?_
            refine x_il1 dX12_readAtom_118 ?_
            refine x_cv1Vp mX12_readIf_ok lkX12_176 rfl (Nat.le_of_ble_eq_true rfl) (Nat.le_of_ble_eq_true rfl) dX12_readAtom_119 W.hM  (o_readIf (d := d) hf hu hdp CS CT CE W O (by omega)) (fun h hq => ?_)
            refine x_goto (tgt := 130) dX12_readAtom_122 rfl ?_
            exact x_vret rfl dX12_readAtom_130 ⟨rfl, by unfold fAt1; rw [if_neg (by omega), if_neg (by omega), if_pos q114]; exact hq⟩
        · skip
          first | (simp only [cmp_lt, cmp_gt, cmp_eq, zN_cge, zN_cle, Decidable.not_not] at q72) | (simp (disch := omega) only [zN_le, zN_lt, zN_0, zN_1, nI_toInt, zN_eq, zN_eq0, b2_z, b2_nz, Decidable.not_not, Int.not_lt, Int.not_le, zK0, zK1, zK2, zK3, zK5, zK7, zK8, zK9, zK10, zK19, zK20, zK40, zK99, zK100, zK199] at q72) | skip
          refine x_al0 rfl dX12_readAtom_75 ?_
          refine x_il1 dX12_readAtom_76 ?_
          refine x_cv1Ip mX12_goesIn_ok lkX12_167 rfl (Nat.le_of_ble_eq_true rfl) (Nat.le_of_ble_eq_true rfl) dX12_readAtom_77 W.hM  (o_goes1 W O hdp) (fun r h hq => ?_)
          obtain ⟨rfl, s2, W2, U2, K2⟩ := hq
          have b := tkA_B O.2.1.1 (by omega)
          have A := (PA.rf W O).nx W2 U2 K2 (by omega)
          refine x_if_ne (tgt := 84) dX12_readAtom_80 rfl (fun q80 => ?_) (fun q80 => ?_)
          · skip
            first | (simp only [cmp_lt, cmp_gt, cmp_eq, zN_cge, zN_cle, Decidable.not_not] at q80) | (simp (disch := omega) only [zN_le, zN_lt, zN_0, zN_1, nI_toInt, zN_eq, zN_eq0, b2_z, b2_nz, Decidable.not_not, Int.not_lt, Int.not_le, zK0, zK1, zK2, zK3, zK5, zK7, zK8, zK9, zK10, zK19, zK20, zK40, zK99, zK100, zK199] at q80) | skip
            refine x_al0 rfl dX12_readAtom_84 ?_
            refine x_il1 dX12_readAtom_85 ?_
            refine x_iconst (v := nI 1) dX12_readAtom_86 rfl ?_
            first | refine x_iadd (nI_add _ _) dX12_readAtom_87 ?_ | refine x_iadd rfl dX12_readAtom_87 ?_
            refine x_cv1Vp mX12_readSum_ok lkX12_170 rfl (Nat.le_of_ble_eq_true rfl) (Nat.le_of_ble_eq_true rfl) dX12_readAtom_88 W2.hM  ((CS.deep (by omega)) _ _ _ _ _ W2 A.2.2.1) (fun h hq => ?_)
            have hE : fAt1 X f u p = apR [] (sqR (fSm X f (tkB X p)) (waR X 36)) := by unfold fAt1; rw [if_neg (by omega), if_pos q72, apR_nil]
            generalize fAt1 X f u p = S at hE ⊢
            have R := A.tn hq
            cases e1 : fSm X f (tkB X p) with
            | inl e8 =>
              rw [e1] at R
              obtain ⟨s3, M3, W, U, E⟩ := R
              refine x_al0 rfl dX12_readAtom_91 ?_
              refine x_bipush (v := nI 36) dX12_readAtom_92 rfl ?_
              refine x_cv1I mX12_eats_ok lkX12_173 rfl (Nat.le_of_ble_eq_true rfl) (Nat.le_of_ble_eq_true rfl) dX12_readAtom_94 W.hM  (e_eats W E (by decide)) ?_
              refine x_if_ne (tgt := 130) dX12_readAtom_97 rfl (fun q97 => ?_) (fun q97 => ?_)
              · skip
                first | (simp only [cmp_lt, cmp_gt, cmp_eq, zN_cge, zN_cle, Decidable.not_not] at q97) | (simp (disch := omega) only [zN_le, zN_lt, zN_0, zN_1, nI_toInt, zN_eq, zN_eq0, b2_z, b2_nz, Decidable.not_not, Int.not_lt, Int.not_le, zK0, zK1, zK2, zK3, zK5, zK7, zK8, zK9, zK10, zK19, zK20, zK40, zK99, zK100, zK199] at q97) | skip
                exact absurd trivial q97
              · skip
                first | (simp only [cmp_lt, cmp_gt, cmp_eq, zN_cge, zN_cle, Decidable.not_not] at q97) | (simp (disch := omega) only [zN_le, zN_lt, zN_0, zN_1, nI_toInt, zN_eq, zN_eq0, b2_z, b2_nz, Decidable.not_not, Int.not_lt, Int.not_le, zK0, zK1, zK2, zK3, zK5, zK7, zK8, zK9, zK10, zK19, zK20, zK40, zK99, zK100, zK199] at q97) | skip
                refine x_al0 rfl dX12_readAtom_100 ?_
                refine x_iconst (v := nI 2) dX12_readAtom_101 rfl ?_
                refine x_cv1V mX12_fails_ok lkX12_153 rfl (Nat.le_of_ble_eq_true rfl) (Nat.le_of_ble_eq_true rfl) dX12_readAtom_102 W.hM  (e_fails W E) ?_
                refine x_goto (tgt := 130) dX12_readAtom_105 rfl ?_
                exact x_vret rfl dX12_readAtom_130 ⟨rfl, by rw [st_e hE e1]; exact ⟨s3, M3, W, U, E⟩⟩
            | inr q1 =>
              rw [e1] at R
              obtain ⟨s3, M3, A⟩ := R
              change PA _ _ _ _ _ _ _ q1.1 ([] ++ q1.2) _ _ at A
              replace hE := st_o hE e1
              have W := A.1
              have O := A.2.2.1
              refine x_al0 rfl dX12_readAtom_91 ?_
              refine x_bipush (v := nI 36) dX12_readAtom_92 rfl ?_
              refine x_cv1Ip mX12_eats_ok lkX12_173 rfl (Nat.le_of_ble_eq_true rfl) (Nat.le_of_ble_eq_true rfl) dX12_readAtom_94 W.hM  (o_eats W O (by decide)) (fun r h hq => ?_)
              rcases hq with ⟨z, rfl, s4, W4, U4, K4⟩ | ⟨z, rfl, rfl⟩
              · have bz := tkA_B O.2.1.1 (by omega)
                have A := A.nx W4 U4 K4 (by omega)
                refine x_if_ne (tgt := 130) dX12_readAtom_97 rfl (fun q97 => ?_) (fun q97 => ?_)
                · skip
                  first | (simp only [cmp_lt, cmp_gt, cmp_eq, zN_cge, zN_cle, Decidable.not_not] at q97) | (simp (disch := omega) only [zN_le, zN_lt, zN_0, zN_1, nI_toInt, zN_eq, zN_eq0, b2_z, b2_nz, Decidable.not_not, Int.not_lt, Int.not_le, zK0, zK1, zK2, zK3, zK5, zK7, zK8, zK9, zK10, zK19, zK20, zK40, zK99, zK100, zK199] at q97) | skip
                  exact x_vret rfl dX12_readAtom_130 ⟨rfl, by rw [sw_w hE z]; exact ⟨_, _, A⟩⟩
                · skip
                  first | (simp only [cmp_lt, cmp_gt, cmp_eq, zN_cge, zN_cle, Decidable.not_not] at q97) | (simp (disch := omega) only [zN_le, zN_lt, zN_0, zN_1, nI_toInt, zN_eq, zN_eq0, b2_z, b2_nz, Decidable.not_not, Int.not_lt, Int.not_le, zK0, zK1, zK2, zK3, zK5, zK7, zK8, zK9, zK10, zK19, zK20, zK40, zK99, zK100, zK199] at q97) | skip
                  exact absurd q97 (by decide)
              · refine x_if_ne (tgt := 130) dX12_readAtom_97 rfl (fun q97 => ?_) (fun q97 => ?_)
                · skip
                  first | (simp only [cmp_lt, cmp_gt, cmp_eq, zN_cge, zN_cle, Decidable.not_not] at q97) | (simp (disch := omega) only [zN_le, zN_lt, zN_0, zN_1, nI_toInt, zN_eq, zN_eq0, b2_z, b2_nz, Decidable.not_not, Int.not_lt, Int.not_le, zK0, zK1, zK2, zK3, zK5, zK7, zK8, zK9, zK10, zK19, zK20, zK40, zK99, zK100, zK199] at q97) | skip
                  exact absurd trivial q97
                · skip
                  first | (simp only [cmp_lt, cmp_gt, cmp_eq, zN_cge, zN_cle, Decidable.not_not] at q97) | (simp (disch := omega) only [zN_le, zN_lt, zN_0, zN_1, nI_toInt, zN_eq, zN_eq0, b2_z, b2_nz, Decidable.not_not, Int.not_lt, Int.not_le, zK0, zK1, zK2, zK3, zK5, zK7, zK8, zK9, zK10, zK19, zK20, zK40, zK99, zK100, zK199] at q97) | skip
                  refine x_al0 rfl dX12_readAtom_100 ?_
                  refine x_iconst (v := nI 2) dX12_readAtom_101 rfl ?_
                  refine x_cv1Vp mX12_fails_ok lkX12_153 rfl (Nat.le_of_ble_eq_true rfl) (Nat.le_of_ble_eq_true rfl) dX12_readAtom_102 W.hM  (o_fails (fa := 2) (by decide) (by decide) W O) (fun h hq => ?_)
                  refine x_goto (tgt := 130) dX12_readAtom_105 rfl ?_
                  obtain ⟨s6, W6, U6, E6⟩ := hq
                  exact x_vret rfl dX12_readAtom_130 ⟨rfl, by rw [sw_x hE z]; exact ⟨s6, _, W6, A.2.1.tr U6, E6⟩⟩
          · skip
            first | (simp only [cmp_lt, cmp_gt, cmp_eq, zN_cge, zN_cle, Decidable.not_not] at q80) | (simp (disch := omega) only [zN_le, zN_lt, zN_0, zN_1, nI_toInt, zN_eq, zN_eq0, b2_z, b2_nz, Decidable.not_not, Int.not_lt, Int.not_le, zK0, zK1, zK2, zK3, zK5, zK7, zK8, zK9, zK10, zK19, zK20, zK40, zK99, zK100, zK199] at q80) | skip
            exact absurd q80 (by decide)
      · skip
        have hw : tkK X p = 5 ∨ (12 ≤ tkK X p ∧ tkK X p ≤ 15) := Decidable.byContradiction (fun z => q40 (wv_f z))
        refine x_al0 rfl dX12_readAtom_43 ?_
        refine x_sipush (v := nI 1000) dX12_readAtom_44 (by decide) ?_
        refine x_al0 rfl dX12_readAtom_47 ?_
        refine x_al0 rfl dX12_readAtom_48 ?_
        refine x_gm fdX12_123 W.hM (by decide) (e9) dX12_readAtom_49 ?_
        refine x_cv1I mX12_wordOf_ok lkX12_164 rfl (Nat.le_of_ble_eq_true rfl) (Nat.le_of_ble_eq_true rfl) dX12_readAtom_52 W.hM  (c_wordOf hK) ?_
        refine x_iadd ((show nI 1000 + wv (tkK X p) = nI (1000 + lw (tkK X p)) by rw [wv_t hw]; exact nI_add _ _)) dX12_readAtom_55 ?_
        refine x_cv1Vp mX12_codes_ok lkX12_161 rfl (Nat.le_of_ble_eq_true rfl) (Nat.le_of_ble_eq_true rfl) dX12_readAtom_56 W.hM  (o_codesL (PA.rf W O) (by simp only [List.length_nil]; omega)) (fun h hq => ?_)
        obtain ⟨M2, W2, U2, T2, F2⟩ := hq
        refine x_al0 rfl dX12_readAtom_59 ?_
        refine x_cv0Vp mX12_next_ok lkX12_150 rfl (Nat.le_of_ble_eq_true rfl) (Nat.le_of_ble_eq_true rfl) dX12_readAtom_60 W2.hM  (j_next W2 T2 lB O.2.1.2.2.1 e10) (fun h hq => ?_)
        obtain ⟨s3, W3, U3, K3⟩ := hq
        refine x_goto (tgt := 130) dX12_readAtom_63 rfl ?_
        exact x_vret rfl dX12_readAtom_130 ⟨rfl, by unfold fAt1; rw [if_pos (Or.inr hw), show leaf X p = 1000 + lw (tkK X p) by unfold leaf lw; rw [if_neg q6]; split <;> rfl]; exact PA.lf O (by omega) U2 F2 W3 U3 T2 K3⟩
  · skip
    first | (simp only [cmp_lt, cmp_gt, cmp_eq, zN_cge, zN_cle, Decidable.not_not] at q6) | (simp (disch := omega) only [zN_le, zN_lt, zN_0, zN_1, nI_toInt, zN_eq, zN_eq0, b2_z, b2_nz, Decidable.not_not, Int.not_lt, Int.not_le, zK0, zK1, zK2, zK3, zK5, zK7, zK8, zK9, zK10, zK19, zK20, zK40, zK99, zK100, zK199] at q6) | skip
    refine x_al0 rfl dX12_readAtom_9 ?_
    refine x_al0 rfl dX12_readAtom_10 ?_
    refine x_gm fdX12_136 W.hM (by decide) ((show s 10 = .int (nI (tkV X p)) by rw [e10, ev q6])) dX12_readAtom_11 ?_
    refine x_cv1Vp mX12_codes_ok lkX12_161 rfl (Nat.le_of_ble_eq_true rfl) (Nat.le_of_ble_eq_true rfl) dX12_readAtom_14 W.hM  (o_codesL (PA.rf W O) (by simp only [List.length_nil]; omega)) (fun h hq => ?_)
    obtain ⟨M2, W2, U2, T2, F2⟩ := hq
    refine x_al0 rfl dX12_readAtom_17 ?_
    refine x_cv0Vp mX12_next_ok lkX12_150 rfl (Nat.le_of_ble_eq_true rfl) (Nat.le_of_ble_eq_true rfl) dX12_readAtom_18 W2.hM  (j_next W2 T2 lB O.2.1.2.2.1 e10) (fun h hq => ?_)
    obtain ⟨s3, W3, U3, K3⟩ := hq
    refine x_goto (tgt := 130) dX12_readAtom_21 rfl ?_
    exact x_vret rfl dX12_readAtom_130 ⟨rfl, by unfold fAt1; rw [if_pos (Or.inl q6), show leaf X p = tkV X p by unfold leaf; rw [if_pos q6]]; exact PA.lf O (by omega) U2 F2 W3 U3 T2 K3⟩
/-- a comparison's end, after a fault -/
theorem eu78 {Q : Option Value → zH → Prop} {x : Option Value} (W : MW h0 h s M L) (E : PE s e) (C : CtE g (d + 1) h0 L mX12_readSum dp) (hQ : Q none h) : Zw g (d + 2) 0 0 mX12_readUnit 78 [some (.ref 59), some (.int (nI dp)), none] [] h Q := by
  refine x_al0 rfl dX12_readUnit_78 ?_
  refine x_bipush (v := nI 39) dX12_readUnit_79 rfl ?_
  refine x_cv1I mX12_is_ok lkX12_147 rfl (Nat.le_of_ble_eq_true rfl) (Nat.le_of_ble_eq_true rfl) dX12_readUnit_81 W.hM  (e_is W E (by decide)) ?_
  refine x_if_eq (tgt := 93) dX12_readUnit_84 rfl (fun q84 => ?_) (fun q84 => ?_)
  · skip
    first | (simp only [cmp_lt, cmp_gt, cmp_eq, zN_cge, zN_cle, Decidable.not_not] at q84) | (simp (disch := omega) only [zN_le, zN_lt, zN_0, zN_1, nI_toInt, zN_eq, zN_eq0, b2_z, b2_nz, Decidable.not_not, Int.not_lt, Int.not_le, zK0, zK1, zK2, zK3, zK5, zK7, zK8, zK9, zK10, zK19, zK20, zK40, zK99, zK100, zK199] at q84) | skip
    refine x_al0 rfl dX12_readUnit_93 ?_
    refine x_bipush (v := nI 40) dX12_readUnit_94 rfl ?_
    refine x_cv1I mX12_is_ok lkX12_147 rfl (Nat.le_of_ble_eq_true rfl) (Nat.le_of_ble_eq_true rfl) dX12_readUnit_96 W.hM  (e_is W E (by decide)) ?_
    refine x_if_eq (tgt := 108) dX12_readUnit_99 rfl (fun q99 => ?_) (fun q99 => ?_)
    · skip
      first | (simp only [cmp_lt, cmp_gt, cmp_eq, zN_cge, zN_cle, Decidable.not_not] at q99) | (simp (disch := omega) only [zN_le, zN_lt, zN_0, zN_1, nI_toInt, zN_eq, zN_eq0, b2_z, b2_nz, Decidable.not_not, Int.not_lt, Int.not_le, zK0, zK1, zK2, zK3, zK5, zK7, zK8, zK9, zK10, zK19, zK20, zK40, zK99, zK100, zK199] at q99) | skip
      refine x_sipush (v := nI 3005) dX12_readUnit_108 (by decide) ?_
      refine x_is2 rfl dX12_readUnit_111 ?_
      refine x_al0 rfl dX12_readUnit_112 ?_
      refine x_bipush (v := nI 39) dX12_readUnit_113 rfl ?_
      refine x_cv1I mX12_is_ok lkX12_147 rfl (Nat.le_of_ble_eq_true rfl) (Nat.le_of_ble_eq_true rfl) dX12_readUnit_115 W.hM  (e_is W E (by decide)) ?_
      refine x_if_ne (tgt := 139) dX12_readUnit_118 rfl (fun q118 => ?_) (fun q118 => ?_)
      · skip
        first | (simp only [cmp_lt, cmp_gt, cmp_eq, zN_cge, zN_cle, Decidable.not_not] at q118) | (simp (disch := omega) only [zN_le, zN_lt, zN_0, zN_1, nI_toInt, zN_eq, zN_eq0, b2_z, b2_nz, Decidable.not_not, Int.not_lt, Int.not_le, zK0, zK1, zK2, zK3, zK5, zK7, zK8, zK9, zK10, zK19, zK20, zK40, zK99, zK100, zK199] at q118) | skip
        exact absurd trivial q118
      · skip
        first | (simp only [cmp_lt, cmp_gt, cmp_eq, zN_cge, zN_cle, Decidable.not_not] at q118) | (simp (disch := omega) only [zN_le, zN_lt, zN_0, zN_1, nI_toInt, zN_eq, zN_eq0, b2_z, b2_nz, Decidable.not_not, Int.not_lt, Int.not_le, zK0, zK1, zK2, zK3, zK5, zK7, zK8, zK9, zK10, zK19, zK20, zK40, zK99, zK100, zK199] at q118) | skip
        refine x_al0 rfl dX12_readUnit_121 ?_
        refine x_bipush (v := nI 40) dX12_readUnit_122 rfl ?_
        refine x_cv1I mX12_is_ok lkX12_147 rfl (Nat.le_of_ble_eq_true rfl) (Nat.le_of_ble_eq_true rfl) dX12_readUnit_124 W.hM  (e_is W E (by decide)) ?_
        refine x_if_ne (tgt := 139) dX12_readUnit_127 rfl (fun q127 => ?_) (fun q127 => ?_)
        · skip
          first | (simp only [cmp_lt, cmp_gt, cmp_eq, zN_cge, zN_cle, Decidable.not_not] at q127) | (simp (disch := omega) only [zN_le, zN_lt, zN_0, zN_1, nI_toInt, zN_eq, zN_eq0, b2_z, b2_nz, Decidable.not_not, Int.not_lt, Int.not_le, zK0, zK1, zK2, zK3, zK5, zK7, zK8, zK9, zK10, zK19, zK20, zK40, zK99, zK100, zK199] at q127) | skip
          exact absurd trivial q127
        · skip
          first | (simp only [cmp_lt, cmp_gt, cmp_eq, zN_cge, zN_cle, Decidable.not_not] at q127) | (simp (disch := omega) only [zN_le, zN_lt, zN_0, zN_1, nI_toInt, zN_eq, zN_eq0, b2_z, b2_nz, Decidable.not_not, Int.not_lt, Int.not_le, zK0, zK1, zK2, zK3, zK5, zK7, zK8, zK9, zK10, zK19, zK20, zK40, zK99, zK100, zK199] at q127) | skip
          refine x_al0 rfl dX12_readUnit_130 ?_
          refine x_bipush (v := nI 41) dX12_readUnit_131 rfl ?_
          refine x_cv1I mX12_is_ok lkX12_147 rfl (Nat.le_of_ble_eq_true rfl) (Nat.le_of_ble_eq_true rfl) dX12_readUnit_133 W.hM  (e_is W E (by decide)) ?_
          refine x_if_eq (tgt := 146) dX12_readUnit_136 rfl (fun q136 => ?_) (fun q136 => ?_)
          · skip
            first | (simp only [cmp_lt, cmp_gt, cmp_eq, zN_cge, zN_cle, Decidable.not_not] at q136) | (simp (disch := omega) only [zN_le, zN_lt, zN_0, zN_1, nI_toInt, zN_eq, zN_eq0, b2_z, b2_nz, Decidable.not_not, Int.not_lt, Int.not_le, zK0, zK1, zK2, zK3, zK5, zK7, zK8, zK9, zK10, zK19, zK20, zK40, zK99, zK100, zK199] at q136) | skip
            refine x_al0 rfl dX12_readUnit_146 ?_
            refine x_iconst (v := nI 2) dX12_readUnit_147 rfl ?_
            refine x_cv1V mX12_fails_ok lkX12_153 rfl (Nat.le_of_ble_eq_true rfl) (Nat.le_of_ble_eq_true rfl) dX12_readUnit_148 W.hM  (e_fails W E) ?_
            refine x_al0 rfl dX12_readUnit_151 ?_
            refine x_il1 dX12_readUnit_152 ?_
            refine x_cv1V mX12_readSum_ok lkX12_170 rfl (Nat.le_of_ble_eq_true rfl) (Nat.le_of_ble_eq_true rfl) dX12_readUnit_153 W.hM  (C _ _ _ _ W E) ?_
            refine x_al0 rfl dX12_readUnit_156 ?_
            refine x_il2 dX12_readUnit_157 ?_
            refine x_cv1V mX12_codes_ok lkX12_161 rfl (Nat.le_of_ble_eq_true rfl) (Nat.le_of_ble_eq_true rfl) dX12_readUnit_158 W.hM  (e_codes W E) ?_
            exact x_vret rfl dX12_readUnit_161 hQ
          · skip
            first | (simp only [cmp_lt, cmp_gt, cmp_eq, zN_cge, zN_cle, Decidable.not_not] at q136) | (simp (disch := omega) only [zN_le, zN_lt, zN_0, zN_1, nI_toInt, zN_eq, zN_eq0, b2_z, b2_nz, Decidable.not_not, Int.not_lt, Int.not_le, zK0, zK1, zK2, zK3, zK5, zK7, zK8, zK9, zK10, zK19, zK20, zK40, zK99, zK100, zK199] at q136) | skip
            exact absurd trivial q136
    · skip
      first | (simp only [cmp_lt, cmp_gt, cmp_eq, zN_cge, zN_cle, Decidable.not_not] at q99) | (simp (disch := omega) only [zN_le, zN_lt, zN_0, zN_1, nI_toInt, zN_eq, zN_eq0, b2_z, b2_nz, Decidable.not_not, Int.not_lt, Int.not_le, zK0, zK1, zK2, zK3, zK5, zK7, zK8, zK9, zK10, zK19, zK20, zK40, zK99, zK100, zK199] at q99) | skip
      exact absurd trivial q99
  · skip
    first | (simp only [cmp_lt, cmp_gt, cmp_eq, zN_cge, zN_cle, Decidable.not_not] at q84) | (simp (disch := omega) only [zN_le, zN_lt, zN_0, zN_1, nI_toInt, zN_eq, zN_eq0, b2_z, b2_nz, Decidable.not_not, Int.not_lt, Int.not_le, zK0, zK1, zK2, zK3, zK5, zK7, zK8, zK9, zK10, zK19, zK20, zK40, zK99, zK100, zK199] at q84) | skip
    exact absurd trivial q84
theorem eu151 {Q : Option Value → zH → Prop} {x : Int32} (W : MW h0 h s M L) (E : PE s e) (C : CtE g (d + 1) h0 L mX12_readSum dp) (hQ : Q none h) : Zw g (d + 2) 0 0 mX12_readUnit 151 [some (.ref 59), some (.int (nI dp)), some (.int x)] [] h Q := by
  refine x_al0 rfl dX12_readUnit_151 ?_
  refine x_il1 dX12_readUnit_152 ?_
  refine x_cv1V mX12_readSum_ok lkX12_170 rfl (Nat.le_of_ble_eq_true rfl) (Nat.le_of_ble_eq_true rfl) dX12_readUnit_153 W.hM  (C _ _ _ _ W E) ?_
  refine x_al0 rfl dX12_readUnit_156 ?_
  refine x_il2 dX12_readUnit_157 ?_
  refine x_cv1V mX12_codes_ok lkX12_161 rfl (Nat.le_of_ble_eq_true rfl) (Nat.le_of_ble_eq_true rfl) dX12_readUnit_158 W.hM  (e_codes W E) ?_
  exact x_vret rfl dX12_readUnit_161 hQ
theorem eu156 {Q : Option Value → zH → Prop} {x : Int32} (W : MW h0 h s M L) (E : PE s e) (hQ : Q none h) : Zw g (d + 2) 0 0 mX12_readUnit 156 [some (.ref 59), some (.int (nI dp)), some (.int x)] [] h Q := by
  refine x_al0 rfl dX12_readUnit_156 ?_
  refine x_il2 dX12_readUnit_157 ?_
  refine x_cv1V mX12_codes_ok lkX12_161 rfl (Nat.le_of_ble_eq_true rfl) (Nat.le_of_ble_eq_true rfl) dX12_readUnit_158 W.hM  (e_codes W E) ?_
  exact x_vret rfl dX12_readUnit_161 hQ
theorem o_cmp (hf : ∀ p, p ≤ X.2 → Gl X p (f p)) (C : CtM g (d + 6) X h0 L mX12_readSum dp (fSm X f)) (CE : CtE g (d + 6) h0 L mX12_readSum dp) (W : MW h0 h s M L) (O : PO X s M p base) : Zw g (d + 7) 0 0 mX12_readUnit 73 [some (.ref 59), some (.int (nI dp)), none] [] h (rVp (fun h' => PR X h0 h' s M L base (fCm X f p))) := by
  have hE : fCm X f p = apR [] (sqR (fSm X f p) (fun p1 => if opC (tkK X p1) = 0 then erR X p1 else sqR (fSm X f (tkB X p1)) (emR (opC (tkK X p1))))) := by rw [apR_nil]; rfl
  have hG := Gl.cm hf O.2.1.1
  have l0 := O.2.2.2.2
  generalize fCm X f p = S at hE hG ⊢
  refine x_al0 rfl dX12_readUnit_73 ?_
  refine x_il1 dX12_readUnit_74 ?_
  refine x_cv1Vp mX12_readSum_ok lkX12_170 rfl (Nat.le_of_ble_eq_true rfl) (Nat.le_of_ble_eq_true rfl) dX12_readUnit_75 W.hM  (C _ _ _ _ _ W O) (fun h hq => ?_)
  have R := (PA.rf W O).tn hq
  rw [apR_nil] at R
  cases e1 : fSm X f p with
  | inl e9 =>
    rw [e1] at R
    obtain ⟨s3, M3, W, U, E⟩ := R
    exact eu78 (x := none) W E CE ⟨rfl, by rw [st_e hE e1]; exact ⟨s3, M3, W, U, E⟩⟩
  | inr q1 =>
    rw [e1] at R
    obtain ⟨s3, M3, A⟩ := R
    replace hE := st_o hE e1
    rw [List.nil_append] at hE
    have W := A.1
    have O := A.2.2.1
    have step : ∀ c : Nat, c ≠ 0 → opC (tkK X q1.1) = c → Zw g (d + 7) 0 0 mX12_readUnit 139 [some (.ref 59), some (.int (nI dp)), some (.int (nI c))] [] h (rVp (fun h' => PR X h0 h' s M L base S)) := by
      intro c hc op1
      rw [if_neg (by rw [op1]; exact hc), op1] at hE
      have b := tkA_B O.2.1.1 (fun z => hc (by rw [← op1, z]; rfl))
      obtain ⟨nu, e10, -⟩ := O.2.1.2.2.2.2
      refine x_al0 rfl dX12_readUnit_139 ?_
      refine x_cv0Vp mX12_next_ok lkX12_150 rfl (Nat.le_of_ble_eq_true rfl) (Nat.le_of_ble_eq_true rfl) dX12_readUnit_140 W.hM  (j_next W O.1 b.2 O.2.1.2.2.1 e10) (fun h hq => ?_)
      obtain ⟨s4, W4, U4, K4⟩ := hq
      have A := A.nx W4 U4 K4 (by omega)
      refine x_goto (tgt := 151) dX12_readUnit_143 rfl ?_
      refine x_al0 rfl dX12_readUnit_151 ?_
      refine x_il1 dX12_readUnit_152 ?_
      refine x_cv1Vp mX12_readSum_ok lkX12_170 rfl (Nat.le_of_ble_eq_true rfl) (Nat.le_of_ble_eq_true rfl) dX12_readUnit_153 W4.hM  (C _ _ _ _ _ W4 A.2.2.1) (fun h hq => ?_)
      have R := A.tn hq
      cases e2 : fSm X f (tkB X q1.1) with
      | inl e9 =>
        rw [e2] at R
        obtain ⟨s5, M5, W, U, E⟩ := R
        exact eu156 W E ⟨rfl, by rw [st_e hE e2]; exact ⟨s5, M5, W, U, E⟩⟩
      | inr q2 =>
        rw [e2] at R
        obtain ⟨s5, M5, A⟩ := R
        change PA _ _ _ _ _ _ _ q2.1 (q1.2 ++ q2.2) _ _ at A
        replace hE := st_o hE e2
        have W := A.1
        have eS : S = .inr (q2.1, q1.2 ++ q2.2 ++ [c]) := hE
        rw [eS] at hG
        have hl := hG.2
        simp only [List.length_append, List.length_cons, List.length_nil] at hl
        refine x_al0 rfl dX12_readUnit_156 ?_
        refine x_il2 dX12_readUnit_157 ?_
        refine x_cv1Vp mX12_codes_ok lkX12_161 rfl (Nat.le_of_ble_eq_true rfl) (Nat.le_of_ble_eq_true rfl) dX12_readUnit_158 W.hM  (o_codes A (by simp only [List.length_append]; omega)) (fun h hq => ?_)
        obtain ⟨M6, A6⟩ := hq
        exact x_vret rfl dX12_readUnit_161 ⟨rfl, by rw [eS]; exact ⟨_, M6, A6⟩⟩
    refine x_al0 rfl dX12_readUnit_78 ?_
    refine x_bipush (v := nI 39) dX12_readUnit_79 rfl ?_
    refine x_cv1I mX12_is_ok lkX12_147 rfl (Nat.le_of_ble_eq_true rfl) (Nat.le_of_ble_eq_true rfl) dX12_readUnit_81 W.hM  (o_is W O (by decide)) ?_
    refine x_if_eq (tgt := 93) dX12_readUnit_84 rfl (fun q84 => ?_) (fun q84 => ?_)
    · skip
      first | (simp only [cmp_lt, cmp_gt, cmp_eq, zN_cge, zN_cle, Decidable.not_not] at q84) | (simp (disch := omega) only [zN_le, zN_lt, zN_0, zN_1, nI_toInt, zN_eq, zN_eq0, b2_z, b2_nz, Decidable.not_not, Int.not_lt, Int.not_le, zK0, zK1, zK2, zK3, zK5, zK7, zK8, zK9, zK10, zK19, zK20, zK40, zK99, zK100, zK199] at q84) | skip
      refine x_al0 rfl dX12_readUnit_93 ?_
      refine x_bipush (v := nI 40) dX12_readUnit_94 rfl ?_
      refine x_cv1I mX12_is_ok lkX12_147 rfl (Nat.le_of_ble_eq_true rfl) (Nat.le_of_ble_eq_true rfl) dX12_readUnit_96 W.hM  (o_is W O (by decide)) ?_
      refine x_if_eq (tgt := 108) dX12_readUnit_99 rfl (fun q99 => ?_) (fun q99 => ?_)
      · skip
        first | (simp only [cmp_lt, cmp_gt, cmp_eq, zN_cge, zN_cle, Decidable.not_not] at q99) | (simp (disch := omega) only [zN_le, zN_lt, zN_0, zN_1, nI_toInt, zN_eq, zN_eq0, b2_z, b2_nz, Decidable.not_not, Int.not_lt, Int.not_le, zK0, zK1, zK2, zK3, zK5, zK7, zK8, zK9, zK10, zK19, zK20, zK40, zK99, zK100, zK199] at q99) | skip
        refine x_sipush (v := nI 3005) dX12_readUnit_108 (by decide) ?_
        refine x_is2 rfl dX12_readUnit_111 ?_
        refine x_al0 rfl dX12_readUnit_112 ?_
        refine x_bipush (v := nI 39) dX12_readUnit_113 rfl ?_
        refine x_cv1I mX12_is_ok lkX12_147 rfl (Nat.le_of_ble_eq_true rfl) (Nat.le_of_ble_eq_true rfl) dX12_readUnit_115 W.hM  (o_is W O (by decide)) ?_
        refine x_if_ne (tgt := 139) dX12_readUnit_118 rfl (fun q118 => ?_) (fun q118 => ?_)
        · skip
          first | (simp only [cmp_lt, cmp_gt, cmp_eq, zN_cge, zN_cle, Decidable.not_not] at q118) | (simp (disch := omega) only [zN_le, zN_lt, zN_0, zN_1, nI_toInt, zN_eq, zN_eq0, b2_z, b2_nz, Decidable.not_not, Int.not_lt, Int.not_le, zK0, zK1, zK2, zK3, zK5, zK7, zK8, zK9, zK10, zK19, zK20, zK40, zK99, zK100, zK199] at q118) | skip
          exact absurd q118 q84
        · skip
          first | (simp only [cmp_lt, cmp_gt, cmp_eq, zN_cge, zN_cle, Decidable.not_not] at q118) | (simp (disch := omega) only [zN_le, zN_lt, zN_0, zN_1, nI_toInt, zN_eq, zN_eq0, b2_z, b2_nz, Decidable.not_not, Int.not_lt, Int.not_le, zK0, zK1, zK2, zK3, zK5, zK7, zK8, zK9, zK10, zK19, zK20, zK40, zK99, zK100, zK199] at q118) | skip
          refine x_al0 rfl dX12_readUnit_121 ?_
          refine x_bipush (v := nI 40) dX12_readUnit_122 rfl ?_
          refine x_cv1I mX12_is_ok lkX12_147 rfl (Nat.le_of_ble_eq_true rfl) (Nat.le_of_ble_eq_true rfl) dX12_readUnit_124 W.hM  (o_is W O (by decide)) ?_
          refine x_if_ne (tgt := 139) dX12_readUnit_127 rfl (fun q127 => ?_) (fun q127 => ?_)
          · skip
            first | (simp only [cmp_lt, cmp_gt, cmp_eq, zN_cge, zN_cle, Decidable.not_not] at q127) | (simp (disch := omega) only [zN_le, zN_lt, zN_0, zN_1, nI_toInt, zN_eq, zN_eq0, b2_z, b2_nz, Decidable.not_not, Int.not_lt, Int.not_le, zK0, zK1, zK2, zK3, zK5, zK7, zK8, zK9, zK10, zK19, zK20, zK40, zK99, zK100, zK199] at q127) | skip
            exact absurd q127 q99
          · skip
            first | (simp only [cmp_lt, cmp_gt, cmp_eq, zN_cge, zN_cle, Decidable.not_not] at q127) | (simp (disch := omega) only [zN_le, zN_lt, zN_0, zN_1, nI_toInt, zN_eq, zN_eq0, b2_z, b2_nz, Decidable.not_not, Int.not_lt, Int.not_le, zK0, zK1, zK2, zK3, zK5, zK7, zK8, zK9, zK10, zK19, zK20, zK40, zK99, zK100, zK199] at q127) | skip
            refine x_al0 rfl dX12_readUnit_130 ?_
            refine x_bipush (v := nI 41) dX12_readUnit_131 rfl ?_
            refine x_cv1I mX12_is_ok lkX12_147 rfl (Nat.le_of_ble_eq_true rfl) (Nat.le_of_ble_eq_true rfl) dX12_readUnit_133 W.hM  (o_is W O (by decide)) ?_
            refine x_if_eq (tgt := 146) dX12_readUnit_136 rfl (fun q136 => ?_) (fun q136 => ?_)
            · skip
              first | (simp only [cmp_lt, cmp_gt, cmp_eq, zN_cge, zN_cle, Decidable.not_not] at q136) | (simp (disch := omega) only [zN_le, zN_lt, zN_0, zN_1, nI_toInt, zN_eq, zN_eq0, b2_z, b2_nz, Decidable.not_not, Int.not_lt, Int.not_le, zK0, zK1, zK2, zK3, zK5, zK7, zK8, zK9, zK10, zK19, zK20, zK40, zK99, zK100, zK199] at q136) | skip
              have op0 : opC (tkK X q1.1) = 0 := by unfold opC; rw [if_neg q84, if_neg q99, if_neg q136]
              refine x_al0 rfl dX12_readUnit_146 ?_
              refine x_iconst (v := nI 2) dX12_readUnit_147 rfl ?_
              refine x_cv1Vp mX12_fails_ok lkX12_153 rfl (Nat.le_of_ble_eq_true rfl) (Nat.le_of_ble_eq_true rfl) dX12_readUnit_148 W.hM  (o_fails (fa := 2) (by decide) (by decide) W O) (fun h hq => ?_)
              obtain ⟨s5, W5, U5, E5⟩ := hq
              rw [if_pos op0] at hE
              exact eu151 W5 E5 CE ⟨rfl, by rw [hE]; exact ⟨s5, _, W5, A.2.1.tr U5, E5⟩⟩
            · skip
              first | (simp only [cmp_lt, cmp_gt, cmp_eq, zN_cge, zN_cle, Decidable.not_not] at q136) | (simp (disch := omega) only [zN_le, zN_lt, zN_0, zN_1, nI_toInt, zN_eq, zN_eq0, b2_z, b2_nz, Decidable.not_not, Int.not_lt, Int.not_le, zK0, zK1, zK2, zK3, zK5, zK7, zK8, zK9, zK10, zK19, zK20, zK40, zK99, zK100, zK199] at q136) | skip
              exact step 3005 (by decide) (by rw [q136]; rfl)
      · skip
        first | (simp only [cmp_lt, cmp_gt, cmp_eq, zN_cge, zN_cle, Decidable.not_not] at q99) | (simp (disch := omega) only [zN_le, zN_lt, zN_0, zN_1, nI_toInt, zN_eq, zN_eq0, b2_z, b2_nz, Decidable.not_not, Int.not_lt, Int.not_le, zK0, zK1, zK2, zK3, zK5, zK7, zK8, zK9, zK10, zK19, zK20, zK40, zK99, zK100, zK199] at q99) | skip
        refine x_sipush (v := nI 3004) dX12_readUnit_102 (by decide) ?_
        refine x_goto (tgt := 111) dX12_readUnit_105 rfl ?_
        refine x_is2 rfl dX12_readUnit_111 ?_
        refine x_al0 rfl dX12_readUnit_112 ?_
        refine x_bipush (v := nI 39) dX12_readUnit_113 rfl ?_
        refine x_cv1I mX12_is_ok lkX12_147 rfl (Nat.le_of_ble_eq_true rfl) (Nat.le_of_ble_eq_true rfl) dX12_readUnit_115 W.hM  (o_is W O (by decide)) ?_
        refine x_if_ne (tgt := 139) dX12_readUnit_118 rfl (fun q118 => ?_) (fun q118 => ?_)
        · skip
          first | (simp only [cmp_lt, cmp_gt, cmp_eq, zN_cge, zN_cle, Decidable.not_not] at q118) | (simp (disch := omega) only [zN_le, zN_lt, zN_0, zN_1, nI_toInt, zN_eq, zN_eq0, b2_z, b2_nz, Decidable.not_not, Int.not_lt, Int.not_le, zK0, zK1, zK2, zK3, zK5, zK7, zK8, zK9, zK10, zK19, zK20, zK40, zK99, zK100, zK199] at q118) | skip
          exact absurd q118 q84
        · skip
          first | (simp only [cmp_lt, cmp_gt, cmp_eq, zN_cge, zN_cle, Decidable.not_not] at q118) | (simp (disch := omega) only [zN_le, zN_lt, zN_0, zN_1, nI_toInt, zN_eq, zN_eq0, b2_z, b2_nz, Decidable.not_not, Int.not_lt, Int.not_le, zK0, zK1, zK2, zK3, zK5, zK7, zK8, zK9, zK10, zK19, zK20, zK40, zK99, zK100, zK199] at q118) | skip
          refine x_al0 rfl dX12_readUnit_121 ?_
          refine x_bipush (v := nI 40) dX12_readUnit_122 rfl ?_
          refine x_cv1I mX12_is_ok lkX12_147 rfl (Nat.le_of_ble_eq_true rfl) (Nat.le_of_ble_eq_true rfl) dX12_readUnit_124 W.hM  (o_is W O (by decide)) ?_
          refine x_if_ne (tgt := 139) dX12_readUnit_127 rfl (fun q127 => ?_) (fun q127 => ?_)
          · skip
            first | (simp only [cmp_lt, cmp_gt, cmp_eq, zN_cge, zN_cle, Decidable.not_not] at q127) | (simp (disch := omega) only [zN_le, zN_lt, zN_0, zN_1, nI_toInt, zN_eq, zN_eq0, b2_z, b2_nz, Decidable.not_not, Int.not_lt, Int.not_le, zK0, zK1, zK2, zK3, zK5, zK7, zK8, zK9, zK10, zK19, zK20, zK40, zK99, zK100, zK199] at q127) | skip
            exact step 3004 (by decide) (by rw [q99]; rfl)
          · skip
            first | (simp only [cmp_lt, cmp_gt, cmp_eq, zN_cge, zN_cle, Decidable.not_not] at q127) | (simp (disch := omega) only [zN_le, zN_lt, zN_0, zN_1, nI_toInt, zN_eq, zN_eq0, b2_z, b2_nz, Decidable.not_not, Int.not_lt, Int.not_le, zK0, zK1, zK2, zK3, zK5, zK7, zK8, zK9, zK10, zK19, zK20, zK40, zK99, zK100, zK199] at q127) | skip
            exact absurd q99 q127
    · skip
      first | (simp only [cmp_lt, cmp_gt, cmp_eq, zN_cge, zN_cle, Decidable.not_not] at q84) | (simp (disch := omega) only [zN_le, zN_lt, zN_0, zN_1, nI_toInt, zN_eq, zN_eq0, b2_z, b2_nz, Decidable.not_not, Int.not_lt, Int.not_le, zK0, zK1, zK2, zK3, zK5, zK7, zK8, zK9, zK10, zK19, zK20, zK40, zK99, zK100, zK199] at q84) | skip
      refine x_sipush (v := nI 3003) dX12_readUnit_87 (by decide) ?_
      refine x_goto (tgt := 111) dX12_readUnit_90 rfl ?_
      refine x_is2 rfl dX12_readUnit_111 ?_
      refine x_al0 rfl dX12_readUnit_112 ?_
      refine x_bipush (v := nI 39) dX12_readUnit_113 rfl ?_
      refine x_cv1I mX12_is_ok lkX12_147 rfl (Nat.le_of_ble_eq_true rfl) (Nat.le_of_ble_eq_true rfl) dX12_readUnit_115 W.hM  (o_is W O (by decide)) ?_
      refine x_if_ne (tgt := 139) dX12_readUnit_118 rfl (fun q118 => ?_) (fun q118 => ?_)
      · skip
        first | (simp only [cmp_lt, cmp_gt, cmp_eq, zN_cge, zN_cle, Decidable.not_not] at q118) | (simp (disch := omega) only [zN_le, zN_lt, zN_0, zN_1, nI_toInt, zN_eq, zN_eq0, b2_z, b2_nz, Decidable.not_not, Int.not_lt, Int.not_le, zK0, zK1, zK2, zK3, zK5, zK7, zK8, zK9, zK10, zK19, zK20, zK40, zK99, zK100, zK199] at q118) | skip
        exact step 3003 (by decide) (by rw [q84]; rfl)
      · skip
        first | (simp only [cmp_lt, cmp_gt, cmp_eq, zN_cge, zN_cle, Decidable.not_not] at q118) | (simp (disch := omega) only [zN_le, zN_lt, zN_0, zN_1, nI_toInt, zN_eq, zN_eq0, b2_z, b2_nz, Decidable.not_not, Int.not_lt, Int.not_le, zK0, zK1, zK2, zK3, zK5, zK7, zK8, zK9, zK10, zK19, zK20, zK40, zK99, zK100, zK199] at q118) | skip
        exact absurd q84 q118
theorem o_readUnit0 (C : CtM g (d + 6) X h0 L mX12_readSum 6 (fSm X (fAt0 X))) (CE : CtE g (d + 6) h0 L mX12_readSum 6) : CtM g (d + 7) X h0 L mX12_readUnit 6 (fUn0 X) := by
  intro h s M p base W O
  have hf : ∀ p, p ≤ X.2 → Gl X p (fAt0 X p) := fun p hp => Gl.a1 (k := 0) hp
  show Zw g (d + 7) 0 0 mX12_readUnit 0 [some (.ref 59), some (.int (nI 6)), none] [] h _
  refine x_al0 rfl dX12_readUnit_0 ?_
  refine x_bipush (v := nI 18) dX12_readUnit_1 rfl ?_
  refine x_cv1I mX12_is_ok lkX12_147 rfl (Nat.le_of_ble_eq_true rfl) (Nat.le_of_ble_eq_true rfl) dX12_readUnit_3 W.hM  (o_is W O (by decide)) ?_
  refine x_if_eq (tgt := 33) dX12_readUnit_6 rfl (fun q6 => ?_) (fun q6 => ?_)
  · skip
    first | (simp only [cmp_lt, cmp_gt, cmp_eq, zN_cge, zN_cle, Decidable.not_not] at q6) | (simp (disch := omega) only [zN_le, zN_lt, zN_0, zN_1, nI_toInt, zN_eq, zN_eq0, b2_z, b2_nz, Decidable.not_not, Int.not_lt, Int.not_le, zK0, zK1, zK2, zK3, zK5, zK7, zK8, zK9, zK10, zK19, zK20, zK40, zK99, zK100, zK199] at q6) | skip
    refine x_al0 rfl dX12_readUnit_33 ?_
    refine x_bipush (v := nI 37) dX12_readUnit_34 rfl ?_
    refine x_cv1I mX12_is_ok lkX12_147 rfl (Nat.le_of_ble_eq_true rfl) (Nat.le_of_ble_eq_true rfl) dX12_readUnit_36 W.hM  (o_is W O (by decide)) ?_
    refine x_if_eq (tgt := 73) dX12_readUnit_39 rfl (fun q39 => ?_) (fun q39 => ?_)
    · skip
      first | (simp only [cmp_lt, cmp_gt, cmp_eq, zN_cge, zN_cle, Decidable.not_not] at q39) | (simp (disch := omega) only [zN_le, zN_lt, zN_0, zN_1, nI_toInt, zN_eq, zN_eq0, b2_z, b2_nz, Decidable.not_not, Int.not_lt, Int.not_le, zK0, zK1, zK2, zK3, zK5, zK7, zK8, zK9, zK10, zK19, zK20, zK40, zK99, zK100, zK199] at q39) | skip
      have eS : fUn0 X p = fCm X (fAt0 X) p := by unfold fUn0; rw [if_neg (by omega)]
      rw [eS]
      exact o_cmp hf C CE W O
    · skip
      first | (simp only [cmp_lt, cmp_gt, cmp_eq, zN_cge, zN_cle, Decidable.not_not] at q39) | (simp (disch := omega) only [zN_le, zN_lt, zN_0, zN_1, nI_toInt, zN_eq, zN_eq0, b2_z, b2_nz, Decidable.not_not, Int.not_lt, Int.not_le, zK0, zK1, zK2, zK3, zK5, zK7, zK8, zK9, zK10, zK19, zK20, zK40, zK99, zK100, zK199] at q39) | skip
      refine x_al0 rfl dX12_readUnit_42 ?_
      refine x_il1 dX12_readUnit_43 ?_
      refine x_cv1Ip mX12_goesIn_ok lkX12_167 rfl (Nat.le_of_ble_eq_true rfl) (Nat.le_of_ble_eq_true rfl) dX12_readUnit_44 W.hM  (o_goes0 W O (by omega)) (fun r h hq => ?_)
      obtain ⟨rfl, s2, W2, U2, E2⟩ := hq
      refine x_if_ne (tgt := 51) dX12_readUnit_47 rfl (fun q47 => ?_) (fun q47 => ?_)
      · skip
        first | (simp only [cmp_lt, cmp_gt, cmp_eq, zN_cge, zN_cle, Decidable.not_not] at q47) | (simp (disch := omega) only [zN_le, zN_lt, zN_0, zN_1, nI_toInt, zN_eq, zN_eq0, b2_z, b2_nz, Decidable.not_not, Int.not_lt, Int.not_le, zK0, zK1, zK2, zK3, zK5, zK7, zK8, zK9, zK10, zK19, zK20, zK40, zK99, zK100, zK199] at q47) | skip
        exact absurd trivial q47
      · skip
        first | (simp only [cmp_lt, cmp_gt, cmp_eq, zN_cge, zN_cle, Decidable.not_not] at q47) | (simp (disch := omega) only [zN_le, zN_lt, zN_0, zN_1, nI_toInt, zN_eq, zN_eq0, b2_z, b2_nz, Decidable.not_not, Int.not_lt, Int.not_le, zK0, zK1, zK2, zK3, zK5, zK7, zK8, zK9, zK10, zK19, zK20, zK40, zK99, zK100, zK199] at q47) | skip
        exact x_vret rfl dX12_readUnit_50 ⟨rfl, by unfold fUn0; rw [if_pos (Or.inr q39)]; exact ⟨s2, M, W2, U2, E2⟩⟩
  · skip
    first | (simp only [cmp_lt, cmp_gt, cmp_eq, zN_cge, zN_cle, Decidable.not_not] at q6) | (simp (disch := omega) only [zN_le, zN_lt, zN_0, zN_1, nI_toInt, zN_eq, zN_eq0, b2_z, b2_nz, Decidable.not_not, Int.not_lt, Int.not_le, zK0, zK1, zK2, zK3, zK5, zK7, zK8, zK9, zK10, zK19, zK20, zK40, zK99, zK100, zK199] at q6) | skip
    refine x_al0 rfl dX12_readUnit_9 ?_
    refine x_il1 dX12_readUnit_10 ?_
    refine x_cv1Ip mX12_goesIn_ok lkX12_167 rfl (Nat.le_of_ble_eq_true rfl) (Nat.le_of_ble_eq_true rfl) dX12_readUnit_11 W.hM  (o_goes0 W O (by omega)) (fun r h hq => ?_)
    obtain ⟨rfl, s2, W2, U2, E2⟩ := hq
    refine x_if_ne (tgt := 18) dX12_readUnit_14 rfl (fun q14 => ?_) (fun q14 => ?_)
    · skip
      first | (simp only [cmp_lt, cmp_gt, cmp_eq, zN_cge, zN_cle, Decidable.not_not] at q14) | (simp (disch := omega) only [zN_le, zN_lt, zN_0, zN_1, nI_toInt, zN_eq, zN_eq0, b2_z, b2_nz, Decidable.not_not, Int.not_lt, Int.not_le, zK0, zK1, zK2, zK3, zK5, zK7, zK8, zK9, zK10, zK19, zK20, zK40, zK99, zK100, zK199] at q14) | skip
      exact absurd trivial q14
    · skip
      first | (simp only [cmp_lt, cmp_gt, cmp_eq, zN_cge, zN_cle, Decidable.not_not] at q14) | (simp (disch := omega) only [zN_le, zN_lt, zN_0, zN_1, nI_toInt, zN_eq, zN_eq0, b2_z, b2_nz, Decidable.not_not, Int.not_lt, Int.not_le, zK0, zK1, zK2, zK3, zK5, zK7, zK8, zK9, zK10, zK19, zK20, zK40, zK99, zK100, zK199] at q14) | skip
      exact x_vret rfl dX12_readUnit_17 ⟨rfl, by unfold fUn0; rw [if_pos (Or.inl q6)]; exact ⟨s2, M, W2, U2, E2⟩⟩
theorem o_readUnit1 (hf : ∀ p, p ≤ X.2 → Gl X p (f p)) (hu : ∀ p, p ≤ X.2 → Gl X p (u p)) (hfu : ∀ p, p ≤ X.2 → Gl X p (fAt1 X f u p)) (hdp : dp < 6) (C : CtM g (d + 6) X h0 L mX12_readSum dp (fSm X (fAt1 X f u))) (CE : CtE g (d + 6) h0 L mX12_readSum dp) (CT : CtM g (d + 6) X h0 L mX12_readTruth (dp + 1) (fTr X u)) (CU : CtM g (d + 6) X h0 L mX12_readUnit (dp + 1) u) : CtM g (d + 7) X h0 L mX12_readUnit dp (fUn1 X f u) := by
  intro h s M p base W O
  have l0 := O.2.2.2.2
  show Zw g (d + 7) 0 0 mX12_readUnit 0 [some (.ref 59), some (.int (nI dp)), none] [] h _
  refine x_al0 rfl dX12_readUnit_0 ?_
  refine x_bipush (v := nI 18) dX12_readUnit_1 rfl ?_
  refine x_cv1I mX12_is_ok lkX12_147 rfl (Nat.le_of_ble_eq_true rfl) (Nat.le_of_ble_eq_true rfl) dX12_readUnit_3 W.hM  (o_is W O (by decide)) ?_
  refine x_if_eq (tgt := 33) dX12_readUnit_6 rfl (fun q6 => ?_) (fun q6 => ?_)
  · skip
    first | (simp only [cmp_lt, cmp_gt, cmp_eq, zN_cge, zN_cle, Decidable.not_not] at q6) | (simp (disch := omega) only [zN_le, zN_lt, zN_0, zN_1, nI_toInt, zN_eq, zN_eq0, b2_z, b2_nz, Decidable.not_not, Int.not_lt, Int.not_le, zK0, zK1, zK2, zK3, zK5, zK7, zK8, zK9, zK10, zK19, zK20, zK40, zK99, zK100, zK199] at q6) | skip
    refine x_al0 rfl dX12_readUnit_33 ?_
    refine x_bipush (v := nI 37) dX12_readUnit_34 rfl ?_
    refine x_cv1I mX12_is_ok lkX12_147 rfl (Nat.le_of_ble_eq_true rfl) (Nat.le_of_ble_eq_true rfl) dX12_readUnit_36 W.hM  (o_is W O (by decide)) ?_
    refine x_if_eq (tgt := 73) dX12_readUnit_39 rfl (fun q39 => ?_) (fun q39 => ?_)
    · skip
      first | (simp only [cmp_lt, cmp_gt, cmp_eq, zN_cge, zN_cle, Decidable.not_not] at q39) | (simp (disch := omega) only [zN_le, zN_lt, zN_0, zN_1, nI_toInt, zN_eq, zN_eq0, b2_z, b2_nz, Decidable.not_not, Int.not_lt, Int.not_le, zK0, zK1, zK2, zK3, zK5, zK7, zK8, zK9, zK10, zK19, zK20, zK40, zK99, zK100, zK199] at q39) | skip
      have eS : fUn1 X f u p = fCm X (fAt1 X f u) p := by unfold fUn1; rw [if_neg (by omega), if_neg (by omega)]
      rw [eS]
      exact o_cmp hfu C CE W O
    · skip
      first | (simp only [cmp_lt, cmp_gt, cmp_eq, zN_cge, zN_cle, Decidable.not_not] at q39) | (simp (disch := omega) only [zN_le, zN_lt, zN_0, zN_1, nI_toInt, zN_eq, zN_eq0, b2_z, b2_nz, Decidable.not_not, Int.not_lt, Int.not_le, zK0, zK1, zK2, zK3, zK5, zK7, zK8, zK9, zK10, zK19, zK20, zK40, zK99, zK100, zK199] at q39) | skip
      refine x_al0 rfl dX12_readUnit_42 ?_
      refine x_il1 dX12_readUnit_43 ?_
      refine x_cv1Ip mX12_goesIn_ok lkX12_167 rfl (Nat.le_of_ble_eq_true rfl) (Nat.le_of_ble_eq_true rfl) dX12_readUnit_44 W.hM  (o_goes1 W O hdp) (fun r h hq => ?_)
      obtain ⟨rfl, s2, W2, U2, K2⟩ := hq
      have b := tkA_B O.2.1.1 (by omega)
      have A := (PA.rf W O).nx W2 U2 K2 (by omega)
      refine x_if_ne (tgt := 51) dX12_readUnit_47 rfl (fun q47 => ?_) (fun q47 => ?_)
      · skip
        first | (simp only [cmp_lt, cmp_gt, cmp_eq, zN_cge, zN_cle, Decidable.not_not] at q47) | (simp (disch := omega) only [zN_le, zN_lt, zN_0, zN_1, nI_toInt, zN_eq, zN_eq0, b2_z, b2_nz, Decidable.not_not, Int.not_lt, Int.not_le, zK0, zK1, zK2, zK3, zK5, zK7, zK8, zK9, zK10, zK19, zK20, zK40, zK99, zK100, zK199] at q47) | skip
        refine x_al0 rfl dX12_readUnit_51 ?_
        refine x_il1 dX12_readUnit_52 ?_
        refine x_iconst (v := nI 1) dX12_readUnit_53 rfl ?_
        first | refine x_iadd (nI_add _ _) dX12_readUnit_54 ?_ | refine x_iadd rfl dX12_readUnit_54 ?_
        refine x_cv1Vp mX12_readTruth_ok lkX12_179 rfl (Nat.le_of_ble_eq_true rfl) (Nat.le_of_ble_eq_true rfl) dX12_readUnit_55 W2.hM  (CT _ _ _ _ _ W2 A.2.2.1) (fun h hq => ?_)
        have hE : fUn1 X f u p = apR [] (sqR (fTr X u (tkB X p)) (waR X 38)) := by unfold fUn1; rw [if_neg (by omega), if_pos q39, apR_nil]
        generalize fUn1 X f u p = S at hE ⊢
        have R := A.tn hq
        cases e1 : fTr X u (tkB X p) with
        | inl e9 =>
          rw [e1] at R
          obtain ⟨s3, M3, W, U, E⟩ := R
          refine x_al0 rfl dX12_readUnit_58 ?_
          refine x_bipush (v := nI 38) dX12_readUnit_59 rfl ?_
          refine x_cv1I mX12_eats_ok lkX12_173 rfl (Nat.le_of_ble_eq_true rfl) (Nat.le_of_ble_eq_true rfl) dX12_readUnit_61 W.hM  (e_eats W E (by decide)) ?_
          refine x_if_ne (tgt := 72) dX12_readUnit_64 rfl (fun q64 => ?_) (fun q64 => ?_)
          · skip
            first | (simp only [cmp_lt, cmp_gt, cmp_eq, zN_cge, zN_cle, Decidable.not_not] at q64) | (simp (disch := omega) only [zN_le, zN_lt, zN_0, zN_1, nI_toInt, zN_eq, zN_eq0, b2_z, b2_nz, Decidable.not_not, Int.not_lt, Int.not_le, zK0, zK1, zK2, zK3, zK5, zK7, zK8, zK9, zK10, zK19, zK20, zK40, zK99, zK100, zK199] at q64) | skip
            exact absurd trivial q64
          · skip
            first | (simp only [cmp_lt, cmp_gt, cmp_eq, zN_cge, zN_cle, Decidable.not_not] at q64) | (simp (disch := omega) only [zN_le, zN_lt, zN_0, zN_1, nI_toInt, zN_eq, zN_eq0, b2_z, b2_nz, Decidable.not_not, Int.not_lt, Int.not_le, zK0, zK1, zK2, zK3, zK5, zK7, zK8, zK9, zK10, zK19, zK20, zK40, zK99, zK100, zK199] at q64) | skip
            refine x_al0 rfl dX12_readUnit_67 ?_
            refine x_iconst (v := nI 2) dX12_readUnit_68 rfl ?_
            refine x_cv1V mX12_fails_ok lkX12_153 rfl (Nat.le_of_ble_eq_true rfl) (Nat.le_of_ble_eq_true rfl) dX12_readUnit_69 W.hM  (e_fails W E) ?_
            exact x_vret rfl dX12_readUnit_72 ⟨rfl, by rw [st_e hE e1]; exact ⟨s3, M3, W, U, E⟩⟩
        | inr q1 =>
          rw [e1] at R
          obtain ⟨s3, M3, A⟩ := R
          change PA _ _ _ _ _ _ _ q1.1 ([] ++ q1.2) _ _ at A
          replace hE := st_o hE e1
          have W := A.1
          have O := A.2.2.1
          refine x_al0 rfl dX12_readUnit_58 ?_
          refine x_bipush (v := nI 38) dX12_readUnit_59 rfl ?_
          refine x_cv1Ip mX12_eats_ok lkX12_173 rfl (Nat.le_of_ble_eq_true rfl) (Nat.le_of_ble_eq_true rfl) dX12_readUnit_61 W.hM  (o_eats W O (by decide)) (fun r h hq => ?_)
          rcases hq with ⟨z, rfl, s4, W4, U4, K4⟩ | ⟨z, rfl, rfl⟩
          · have bz := tkA_B O.2.1.1 (by omega)
            have A := A.nx W4 U4 K4 (by omega)
            refine x_if_ne (tgt := 72) dX12_readUnit_64 rfl (fun q64 => ?_) (fun q64 => ?_)
            · skip
              first | (simp only [cmp_lt, cmp_gt, cmp_eq, zN_cge, zN_cle, Decidable.not_not] at q64) | (simp (disch := omega) only [zN_le, zN_lt, zN_0, zN_1, nI_toInt, zN_eq, zN_eq0, b2_z, b2_nz, Decidable.not_not, Int.not_lt, Int.not_le, zK0, zK1, zK2, zK3, zK5, zK7, zK8, zK9, zK10, zK19, zK20, zK40, zK99, zK100, zK199] at q64) | skip
              exact x_vret rfl dX12_readUnit_72 ⟨rfl, by rw [sw_w hE z]; exact ⟨_, _, A⟩⟩
            · skip
              first | (simp only [cmp_lt, cmp_gt, cmp_eq, zN_cge, zN_cle, Decidable.not_not] at q64) | (simp (disch := omega) only [zN_le, zN_lt, zN_0, zN_1, nI_toInt, zN_eq, zN_eq0, b2_z, b2_nz, Decidable.not_not, Int.not_lt, Int.not_le, zK0, zK1, zK2, zK3, zK5, zK7, zK8, zK9, zK10, zK19, zK20, zK40, zK99, zK100, zK199] at q64) | skip
              exact absurd q64 (by decide)
          · refine x_if_ne (tgt := 72) dX12_readUnit_64 rfl (fun q64 => ?_) (fun q64 => ?_)
            · skip
              first | (simp only [cmp_lt, cmp_gt, cmp_eq, zN_cge, zN_cle, Decidable.not_not] at q64) | (simp (disch := omega) only [zN_le, zN_lt, zN_0, zN_1, nI_toInt, zN_eq, zN_eq0, b2_z, b2_nz, Decidable.not_not, Int.not_lt, Int.not_le, zK0, zK1, zK2, zK3, zK5, zK7, zK8, zK9, zK10, zK19, zK20, zK40, zK99, zK100, zK199] at q64) | skip
              exact absurd trivial q64
            · skip
              first | (simp only [cmp_lt, cmp_gt, cmp_eq, zN_cge, zN_cle, Decidable.not_not] at q64) | (simp (disch := omega) only [zN_le, zN_lt, zN_0, zN_1, nI_toInt, zN_eq, zN_eq0, b2_z, b2_nz, Decidable.not_not, Int.not_lt, Int.not_le, zK0, zK1, zK2, zK3, zK5, zK7, zK8, zK9, zK10, zK19, zK20, zK40, zK99, zK100, zK199] at q64) | skip
              refine x_al0 rfl dX12_readUnit_67 ?_
              refine x_iconst (v := nI 2) dX12_readUnit_68 rfl ?_
              refine x_cv1Vp mX12_fails_ok lkX12_153 rfl (Nat.le_of_ble_eq_true rfl) (Nat.le_of_ble_eq_true rfl) dX12_readUnit_69 W.hM  (o_fails (fa := 2) (by decide) (by decide) W O) (fun h hq => ?_)
              obtain ⟨s5, W5, U5, E5⟩ := hq
              exact x_vret rfl dX12_readUnit_72 ⟨rfl, by rw [sw_x hE z]; exact ⟨s5, _, W5, A.2.1.tr U5, E5⟩⟩
      · skip
        first | (simp only [cmp_lt, cmp_gt, cmp_eq, zN_cge, zN_cle, Decidable.not_not] at q47) | (simp (disch := omega) only [zN_le, zN_lt, zN_0, zN_1, nI_toInt, zN_eq, zN_eq0, b2_z, b2_nz, Decidable.not_not, Int.not_lt, Int.not_le, zK0, zK1, zK2, zK3, zK5, zK7, zK8, zK9, zK10, zK19, zK20, zK40, zK99, zK100, zK199] at q47) | skip
        exact absurd q47 (by decide)
  · skip
    first | (simp only [cmp_lt, cmp_gt, cmp_eq, zN_cge, zN_cle, Decidable.not_not] at q6) | (simp (disch := omega) only [zN_le, zN_lt, zN_0, zN_1, nI_toInt, zN_eq, zN_eq0, b2_z, b2_nz, Decidable.not_not, Int.not_lt, Int.not_le, zK0, zK1, zK2, zK3, zK5, zK7, zK8, zK9, zK10, zK19, zK20, zK40, zK99, zK100, zK199] at q6) | skip
    refine x_al0 rfl dX12_readUnit_9 ?_
    refine x_il1 dX12_readUnit_10 ?_
    refine x_cv1Ip mX12_goesIn_ok lkX12_167 rfl (Nat.le_of_ble_eq_true rfl) (Nat.le_of_ble_eq_true rfl) dX12_readUnit_11 W.hM  (o_goes1 W O hdp) (fun r h hq => ?_)
    obtain ⟨rfl, s2, W2, U2, K2⟩ := hq
    have b := tkA_B O.2.1.1 (by omega)
    have A := (PA.rf W O).nx W2 U2 K2 (by omega)
    refine x_if_ne (tgt := 18) dX12_readUnit_14 rfl (fun q14 => ?_) (fun q14 => ?_)
    · skip
      first | (simp only [cmp_lt, cmp_gt, cmp_eq, zN_cge, zN_cle, Decidable.not_not] at q14) | (simp (disch := omega) only [zN_le, zN_lt, zN_0, zN_1, nI_toInt, zN_eq, zN_eq0, b2_z, b2_nz, Decidable.not_not, Int.not_lt, Int.not_le, zK0, zK1, zK2, zK3, zK5, zK7, zK8, zK9, zK10, zK19, zK20, zK40, zK99, zK100, zK199] at q14) | skip
      refine x_al0 rfl dX12_readUnit_18 ?_
      refine x_il1 dX12_readUnit_19 ?_
      refine x_iconst (v := nI 1) dX12_readUnit_20 rfl ?_
      first | refine x_iadd (nI_add _ _) dX12_readUnit_21 ?_ | refine x_iadd rfl dX12_readUnit_21 ?_
      refine x_cv1Vp mX12_readUnit_ok lkX12_188 rfl (Nat.le_of_ble_eq_true rfl) (Nat.le_of_ble_eq_true rfl) dX12_readUnit_22 W2.hM  (CU _ _ _ _ _ W2 A.2.2.1) (fun h hq => ?_)
      have hE : fUn1 X f u p = apR [] (sqR (u (tkB X p)) (emR 3006)) := by unfold fUn1; rw [if_pos q6, apR_nil]
      have hG : Gl X p (fUn1 X f u p) := by unfold fUn1; rw [if_pos q6]; exact (hu _ b.2).bump b.1
      generalize fUn1 X f u p = S at hE hG ⊢
      have R := A.tn hq
      cases e1 : u (tkB X p) with
      | inl e9 =>
        rw [e1] at R
        obtain ⟨s3, M3, W, U, E⟩ := R
        refine x_al0 rfl dX12_readUnit_25 ?_
        refine x_sipush (v := nI 3006) dX12_readUnit_26 (by decide) ?_
        refine x_cv1V mX12_codes_ok lkX12_161 rfl (Nat.le_of_ble_eq_true rfl) (Nat.le_of_ble_eq_true rfl) dX12_readUnit_29 W.hM  (e_codes W E) ?_
        exact x_vret rfl dX12_readUnit_32 ⟨rfl, by rw [st_e hE e1]; exact ⟨s3, M3, W, U, E⟩⟩
      | inr q1 =>
        rw [e1] at R
        obtain ⟨s3, M3, A⟩ := R
        change PA _ _ _ _ _ _ _ q1.1 ([] ++ q1.2) _ _ at A
        replace hE := st_o hE e1
        have W := A.1
        have eS : S = .inr (q1.1, [] ++ q1.2 ++ [3006]) := hE
        rw [eS] at hG
        have hl := hG.2
        simp only [List.length_append, List.length_cons, List.length_nil] at hl
        refine x_al0 rfl dX12_readUnit_25 ?_
        refine x_sipush (v := nI 3006) dX12_readUnit_26 (by decide) ?_
        refine x_cv1Vp mX12_codes_ok lkX12_161 rfl (Nat.le_of_ble_eq_true rfl) (Nat.le_of_ble_eq_true rfl) dX12_readUnit_29 W.hM  (o_codes A (by simp only [List.length_append, List.length_nil]; omega)) (fun h hq => ?_)
        obtain ⟨M6, A6⟩ := hq
        exact x_vret rfl dX12_readUnit_32 ⟨rfl, by rw [eS]; exact ⟨_, M6, A6⟩⟩
    · skip
      first | (simp only [cmp_lt, cmp_gt, cmp_eq, zN_cge, zN_cle, Decidable.not_not] at q14) | (simp (disch := omega) only [zN_le, zN_lt, zN_0, zN_1, nI_toInt, zN_eq, zN_eq0, b2_z, b2_nz, Decidable.not_not, Int.not_lt, Int.not_le, zK0, zK1, zK2, zK3, zK5, zK7, zK8, zK9, zK10, zK19, zK20, zK40, zK99, zK100, zK199] at q14) | skip
      exact absurd q14 (by decide)
/-- all levels -/
theorem lvM : ∀ k, k ≤ 6 → CtM g (d + 9 + 7 * k) X h0 L mX12_readSum (6 - k) (fSm X (fLv X k).1) ∧ CtM g (d + 12 + 7 * k) X h0 L mX12_readTruth (6 - k) (fTr X (fLv X k).2) ∧ CtM g (d + 10 + 7 * k) X h0 L mX12_readUnit (6 - k) (fLv X k).2 := by
  have ce : ∀ D dp, CtE g (D + 3) h0 L mX12_readSum dp := fun D dp => e_readSum (e_readTerm e_readAtom)
  intro k
  induction k with
  | zero =>
    intro _
    have hf : ∀ p, p ≤ X.2 → Gl X p (fAt0 X p) := fun p hp => Gl.a1 (k := 0) hp
    have hu : ∀ p, p ≤ X.2 → Gl X p (fUn0 X p) := fun p hp => Gl.u1 (k := 0) hp
    have c1 : CtM g (d + 9) X h0 L mX12_readSum 6 (fSm X (fAt0 X)) := o_readSum (d := d + 2) hf (o_readTerm (d := d + 1) hf o_readAtom0)
    have c2 : CtM g (d + 10) X h0 L mX12_readUnit 6 (fUn0 X) := o_readUnit0 (d := d + 3) c1 (ce (d + 6) 6)
    exact ⟨c1, o_readTruth (d := d + 5) hu (o_readBoth (d := d + 4) hu c2), c2⟩
  | succ k ih =>
    intro hk
    obtain ⟨i1, i2, i3⟩ := ih (by omega)
    have hf : ∀ p, p ≤ X.2 → Gl X p ((fLv X k).1 p) := fun p hp => Gl.a1 hp
    have hu : ∀ p, p ≤ X.2 → Gl X p ((fLv X k).2 p) := fun p hp => Gl.u1 hp
    have hf1 : ∀ p, p ≤ X.2 → Gl X p ((fLv X (k + 1)).1 p) := fun p hp => Gl.a1 hp
    have hu1 : ∀ p, p ≤ X.2 → Gl X p ((fLv X (k + 1)).2 p) := fun p hp => Gl.u1 hp
    have e6 : 6 - (k + 1) + 1 = 6 - k := by omega
    rw [← e6] at i1 i2 i3
    generalize 6 - (k + 1) = dp at i1 i2 i3 e6 ⊢
    have hdp : dp < 6 := by omega
    have a1 : CtM g (d + 7 * k + 14) X h0 L mX12_readAtom dp (fLv X (k + 1)).1 := o_readAtom1 (d := d + 7 * k + 6) hf hu hdp (i1.deep (by omega)) (i2.deep (by omega)) ((ce 0 _).deep (by omega))
    have c1 : CtM g (d + 7 * k + 16) X h0 L mX12_readSum dp (fSm X (fLv X (k + 1)).1) := o_readSum (d := d + 7 * k + 9) hf1 (o_readTerm (d := d + 7 * k + 8) hf1 a1)
    have c2 : CtM g (d + 7 * k + 17) X h0 L mX12_readUnit dp (fLv X (k + 1)).2 := o_readUnit1 (d := d + 7 * k + 10) hf hu hf1 hdp c1 ((ce 0 _).deep (by omega)) (i2.deep (by omega)) (i3.deep (by omega))
    have c3 : CtM g (d + 7 * k + 19) X h0 L mX12_readTruth dp (fTr X (fLv X (k + 1)).2) := o_readTruth (d := d + 7 * k + 12) hu1 (o_readBoth (d := d + 7 * k + 11) hu1 c2)
    exact ⟨c1.deep (by omega), c3.deep (by omega), c2.deep (by omega)⟩
end ZLv

