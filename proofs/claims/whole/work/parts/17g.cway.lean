/-! the class's fewest, way -/
theorem fst_l {P : Nat → Prop} : ∀ N k, k ≤ N → P k → ∃ j, j ≤ k ∧ P j ∧ ∀ j', j' < j → ¬ P j' := by
  intro N
  induction N with
  | zero => intro k hk p; exact ⟨k, Nat.le_refl _, p, fun j' hj' => by omega⟩
  | succ N ih =>
    intro k hk p
    by_cases c : ∃ j, j < k ∧ P j
    · obtain ⟨j, j1, j2⟩ := c
      obtain ⟨j0, a1, a2, a3⟩ := ih j (by omega) j2
      exact ⟨j0, by omega, a2, a3⟩
    · exact ⟨k, Nat.le_refl _, p, fun j' hj' z => c ⟨j', hj', z⟩⟩
theorem fstK_ex {n : Nat} {B : Nat → Bool} {s m : Nat} (h0 : 0 < n) (hn : n ≤ 6) (hs : s < fct n) (h : isD n B s (m + 1)) : ∃ k, k < np n ∧ fstK n B s k ∧ isD n B (swp n s k) m := by
  obtain ⟨k1, a1, a2⟩ := isD_step h0 hn hs h
  obtain ⟨k, b1, b2, b3⟩ := fst_l (P := fun k => isD n B (swp n s k) m) k1 k1 (Nat.le_refl _) a2
  exact ⟨k, by omega, ⟨m, h, by omega, b2, b3⟩, b2⟩
theorem wy_far {n : Nat} {B : Nat → Bool} (h0 : 0 < n) (hn : n ≤ 6) : ∀ m i s, s < fct n → isD n B s m → m ≤ i → wy n B i s (-1) := by
  intro m
  induction m with
  | zero => intro i s hs h _; exact wy_end (Or.inl h)
  | succ m ih =>
    intro i s hs h hi
    obtain ⟨k, kl, a, b⟩ := fstK_ex h0 hn hs h
    obtain ⟨i', rfl⟩ : ∃ i', i = i' + 1 := ⟨i - 1, by omega⟩
    exact Or.inl ⟨k, a, ih i' _ (swp_lt h0 hn hs kl) b (by omega)⟩
section ZCw
variable {g : zG} {d : Nat} {h0 h h' : zH} {dk : zDk} {st : zSt} {un : List zSt} {tp : List Nat} {tr : Nat → zTr} {pi : Nat → zPi} {fl : Nat × Nat} {ln : zLn} {sb sj : zS3} {dr : Int32}
theorem MsP.ci {B : Nat → Bool} {f : Nat → Option Nat} (P : MsP h0 h dk st un tp tr pi fl ln sb sj dr B f) : CI h0 h dk st un tp tr pi fl ln sb sj dr := by
  obtain ⟨wst, wqu, wwe, wla, qd, fs, fq, fw, fa, G, -⟩ := P
  exact G.ci
theorem k_fewest {x : Int32} (I : CI h0 h dk st un tp tr pi fl ln sb sj dr) : Zm g (d + 7) 3 (sS dk.1 ln + sW dk.1 ln) mX11_fewest [.ref 0, .int x] h (rIp (fun r h' => A_fewest dk st x r ∧ (CI h0 h' dk st un tp tr pi fl ln sb sj dr ∨ CI h0 h' dk st un tp tr pi fl (pW dk.1 (pS dk.1 ln)) sb sj dr))) := by
  obtain ⟨rt, rn, rs, sw, rmv, rmk, moc, len, fre, fc, fr, vn, vs, qd, wst, wqu, wwe, wla, hx, hn, hd, hR, hv, hw, hs⟩ := I.o
  obtain ⟨d1, d2, d3, d4, d5, d6, d7, d8⟩ := I.dkB
  show Zw g (d + 7) 3 (sS dk.1 ln + sW dk.1 ln) mX11_fewest 0 [some (.ref 0), some (.int x)] [] h _
  refine x_il1 dX11_fewest_0 ?_
  refine x_cs1I mX11_isAim_ok lkX11_294 (Nat.le_of_ble_eq_true rfl) (Nat.le_of_ble_eq_true rfl) dX11_fewest_1 c_isAim ?_
  refine x_if_ne (tgt := 10) dX11_fewest_4 rfl (fun q4 => ?_) (fun q4 => ?_)
  · skip
    first | (simp only [cmp_lt, cmp_gt, cmp_eq, zN_cge, zN_cle, Decidable.not_not] at q4) | (simp (disch := omega) only [zN_le, zN_lt, zN_0, zN_1, nI_toInt, zN_eq, zN_eq0, b2_z, b2_nz, Decidable.not_not, Int.not_lt, Int.not_le, zK0, zK1, zK2, zK3, zK5, zK7, zK8, zK9, zK10, zK19, zK20, zK40, zK99, zK100, zK199] at q4) | skip
    obtain ⟨k, hk, rfl⟩ := oneOf_ex q4
    refine x_al0 rfl dX11_fewest_10 ?_
    refine x_get fdX11_80 hx rfl dX11_fewest_11 ?_
    refine x_il1 dX11_fewest_14 ?_
    refine x_al0 rfl dX11_fewest_15 ?_
    refine x_get fdX11_27 hx rfl dX11_fewest_16 ?_
    refine x_get fdX11_134 hn rfl dX11_fewest_19 ?_
    refine x_cv2Vr (κ2 := 0) (σ2 := 0) mX10_measure_ok lkX11_297 rfl (Nat.le_of_ble_eq_true rfl) (Nat.le_of_ble_eq_true rfl) dX11_fewest_22 hw (Nat.le_refl _) (Nat.le_refl _) (k_measure I hk d8) (fun h hq => ?_)
    obtain ⟨f, P⟩ := hq
    have I := P.ci
    clear hx hn hd hR hv hw hs
    obtain ⟨rt, rn, rs, sw, rmv, rmk, moc, len, fre, fc, fr, vn, vs, qd, wst, wqu, wwe, wla, hx, hn, hd, hR, hv, hw, hs⟩ := I.o
    obtain ⟨wst, wqu, wwe, wla, qd, fs, fq, fw, fa, G, hS, hl, hst, hD, hb⟩ := P
    refine x_al0 rfl dX11_fewest_25 ?_
    refine x_get fdX11_80 hx rfl dX11_fewest_26 ?_
    refine x_al0 rfl dX11_fewest_29 ?_
    refine x_get fdX11_27 hx rfl dX11_fewest_30 ?_
    refine x_get fdX11_128 hn rfl dX11_fewest_33 ?_
    refine x_cv1I mX10_stepsFrom_ok lkX11_301 rfl (Nat.le_of_ble_eq_true rfl) (Nat.le_of_ble_eq_true rfl) dX11_fewest_36 hw  (g_stepsFrom G (Nat.lt_of_lt_of_le d7 hl)) ?_
    refine x_iret rfl rfl dX11_fewest_39 ⟨_, rfl, Or.inl ⟨q4, ?_⟩, Or.inr I⟩
    rw [show tn (nI k) = k from nI_clamp (by omega), hst _ d7]
    cases e : f st.1 with
    | none => exact Or.inr ⟨(hD _ d7).2 e, rfl⟩
    | some m => exact Or.inl ⟨m, (hD _ d7).1 m e, rfl⟩
  · skip
    first | (simp only [cmp_lt, cmp_gt, cmp_eq, zN_cge, zN_cle, Decidable.not_not] at q4) | (simp (disch := omega) only [zN_le, zN_lt, zN_0, zN_1, nI_toInt, zN_eq, zN_eq0, b2_z, b2_nz, Decidable.not_not, Int.not_lt, Int.not_le, zK0, zK1, zK2, zK3, zK5, zK7, zK8, zK9, zK10, zK19, zK20, zK40, zK99, zK100, zK199] at q4) | skip
    refine x_bipush (v := (-2)) dX11_fewest_7 rfl ?_
    exact x_iret rfl rfl dX11_fewest_9 ⟨_, rfl, Or.inr ⟨q4, rfl⟩, Or.inl I⟩
theorem k_way {x y : Int32} (I : CI h0 h dk st un tp tr pi fl ln sb sj dr) : Zm g (d + 7) 3 (sS dk.1 ln + sW dk.1 ln) mX11_way [.ref 0, .int x, .int y] h (rIp (fun r h' => A_way dk st x y r ∧ (CI h0 h' dk st un tp tr pi fl ln sb sj dr ∨ CI h0 h' dk st un tp tr pi fl (pW dk.1 (pS dk.1 ln)) sb sj dr))) := by
  obtain ⟨rt, rn, rs, sw, rmv, rmk, moc, len, fre, fc, fr, vn, vs, qd, wst, wqu, wwe, wla, hx, hn, hd, hR, hv, hw, hs⟩ := I.o
  obtain ⟨d1, d2, d3, d4, d5, d6, d7, d8⟩ := I.dkB
  have fl6 := fct_le d2
  have npl := np_le d2
  show Zw g (d + 7) 3 (sS dk.1 ln + sW dk.1 ln) mX11_way 0 [some (.ref 0), some (.int x), some (.int y), none, none] [] h _
  refine x_il1 dX11_way_0 ?_
  refine x_cs1I mX11_isAim_ok lkX11_294 (Nat.le_of_ble_eq_true rfl) (Nat.le_of_ble_eq_true rfl) dX11_way_1 c_isAim ?_
  refine x_if_ne (tgt := 10) dX11_way_4 rfl (fun q4 => ?_) (fun q4 => ?_)
  · skip
    first | (simp only [cmp_lt, cmp_gt, cmp_eq, zN_cge, zN_cle, Decidable.not_not] at q4) | (simp (disch := omega) only [zN_le, zN_lt, zN_0, zN_1, nI_toInt, zN_eq, zN_eq0, b2_z, b2_nz, Decidable.not_not, Int.not_lt, Int.not_le, zK0, zK1, zK2, zK3, zK5, zK7, zK8, zK9, zK10, zK19, zK20, zK40, zK99, zK100, zK199] at q4) | skip
    refine x_il2 dX11_way_10 ?_
    refine x_if_ge (tgt := 17) dX11_way_11 rfl (fun q11 => ?_) (fun q11 => ?_)
    · skip
      obtain ⟨k, hk, rfl⟩ := oneOf_ex q4
      have y0 : ¬ y < 0 := fun z => absurd q11 (Int32.not_le.mpr z)
      obtain ⟨i, hi, rfl⟩ := nI_of y0
      have fin : ∀ r, wy dk.1 (soB dk st.2.1 k) i st.1 r → A_way dk st (nI k) (nI i) r := fun r z => Or.inl ⟨q4, Or.inr ⟨y0, by rw [show tn (nI k) = k from nI_clamp (by omega), show tn (nI i) = i from nI_clamp hi]; exact z⟩⟩
      refine x_al0 rfl dX11_way_17 ?_
      refine x_get fdX11_80 hx rfl dX11_way_18 ?_
      refine x_il1 dX11_way_21 ?_
      refine x_al0 rfl dX11_way_22 ?_
      refine x_get fdX11_27 hx rfl dX11_way_23 ?_
      refine x_get fdX11_134 hn rfl dX11_way_26 ?_
      refine x_cv2Vr (κ2 := 0) (σ2 := 0) mX10_measure_ok lkX11_297 rfl (Nat.le_of_ble_eq_true rfl) (Nat.le_of_ble_eq_true rfl) dX11_way_29 hw (Nat.le_refl _) (Nat.le_refl _) (k_measure I hk d8) (fun h hq => ?_)
      obtain ⟨f, P⟩ := hq
      have I := P.ci
      clear hx hn hd hR hv hw hs
      obtain ⟨rt, rn, rs, sw, rmv, rmk, moc, len, fre, fc, fr, vn, vs, qd, wst, wqu, wwe, wla, hx, hn, hd, hR, hv, hw, hs⟩ := I.o
      obtain ⟨wst, wqu, wwe, wla, qd, fs, fq, fw, fa, G, hS, hl, hst, hD, hb⟩ := P
      have lw := Nat.lt_of_lt_of_le d7 hl
      refine x_il2 dX11_way_32 ?_
      refine x_al0 rfl dX11_way_33 ?_
      refine x_get fdX11_80 hx rfl dX11_way_34 ?_
      refine x_al0 rfl dX11_way_37 ?_
      refine x_get fdX11_27 hx rfl dX11_way_38 ?_
      refine x_get fdX11_128 hn rfl dX11_way_41 ?_
      refine x_cv1I mX10_stepsFrom_ok lkX11_301 rfl (Nat.le_of_ble_eq_true rfl) (Nat.le_of_ble_eq_true rfl) dX11_way_44 hw  (g_stepsFrom G lw) ?_
      rw [hst _ d7]
      refine x_icmp_lt (tgt := 52) dX11_way_47 rfl (fun q47 => ?_) (fun q47 => ?_)
      · skip
        refine x_al0 rfl dX11_way_52 ?_
        refine x_get fdX11_27 hx rfl dX11_way_53 ?_
        refine x_get fdX11_128 hn rfl dX11_way_56 ?_
        refine x_is3 rfl dX11_way_59 ?_
        refine x_iconst (v := nI 0) dX11_way_60 rfl ?_
        refine x_is4 rfl dX11_way_61 ?_
        obtain ⟨m, em⟩ : ∃ m, f st.1 = some m := by
          cases e : f st.1 with
          | none =>
            rw [e, show stp none = -1 from rfl, Int32.lt_iff_toInt_lt, nI_toInt hi, show (-1 : Int32).toInt = -1 from rfl] at q47
            omega
          | some m => exact ⟨m, rfl⟩
        have m7 := hb _ d7 m em
        rw [em, show stp (some m) = nI m from rfl, Int32.lt_iff_toInt_lt, nI_toInt hi, nI_toInt (by omega)] at q47
        refine x_wh (fun (a : Nat × Nat) => [some (.ref 0), some (.int (nI k)), some (.int (nI i)), some (.int (nI a.2)), some (.int (nI a.1))]) (fun a h' => h' = h ∧ a.2 < fct dk.1 ∧ a.1 ≤ i ∧ f a.2 = some (m - a.1) ∧ ∀ r, wy dk.1 (soB dk st.2.1 k) (i - a.1) a.2 r → wy dk.1 (soB dk st.2.1 k) i st.1 r) (fun a => i - a.1) (0, st.1) ⟨rfl, d7, Nat.zero_le _, em, fun r z => z⟩ (fun a h' hI ih => ?_)
        obtain ⟨a, q⟩ := a
        obtain ⟨rfl, hq, ha, eq, hw9⟩ := hI
        simp only at hq ha eq hw9
        dsimp only
        rw [show m - a = m - a - 1 + 1 by omega] at eq
        refine x_il4 dX11_way_63 ?_
        refine x_il2 dX11_way_65 ?_
        refine x_icmp_ge (tgt := 92) dX11_way_66 rfl (fun q66 => ?_) (fun q66 => ?_)
        · skip
          first | (simp only [cmp_lt, cmp_gt, cmp_eq, zN_cge, zN_cle, Decidable.not_not] at q66) | (simp (disch := omega) only [zN_le, zN_lt, zN_0, zN_1, nI_toInt, zN_eq, zN_eq0, b2_z, b2_nz, Decidable.not_not, Int.not_lt, Int.not_le, zK0, zK1, zK2, zK3, zK5, zK7, zK8, zK9, zK10, zK19, zK20, zK40, zK99, zK100, zK199] at q66) | skip
          refine x_al0 rfl dX11_way_92 ?_
          refine x_get fdX11_62 hx rfl dX11_way_93 ?_
          refine x_al0 rfl dX11_way_96 ?_
          refine x_get fdX11_80 hx rfl dX11_way_97 ?_
          refine x_il3 dX11_way_100 ?_
          refine x_cv1Ip mX10_pairFrom_ok lkX11_304 rfl (Nat.le_of_ble_eq_true rfl) (Nat.le_of_ble_eq_true rfl) dX11_way_101 hw  (g_pairFrom G hS hl hst hD hb hq eq) (fun r h hq => ?_)
          obtain ⟨rfl, k2, kl2, rfl, fk, ek⟩ := hq
          refine x_cv1I mX5_codeOf_ok lkX11_310 rfl (Nat.le_of_ble_eq_true rfl) (Nat.le_of_ble_eq_true rfl) dX11_way_104 hR  (k_codeOf I hS kl2) ?_
          exact x_iret rfl rfl dX11_way_107 ⟨_, rfl, fin _ (hw9 _ (by rw [show i - a = 0 by omega]; exact Or.inl ⟨k2, fk, rfl⟩)), Or.inr I⟩
        · skip
          first | (simp only [cmp_lt, cmp_gt, cmp_eq, zN_cge, zN_cle, Decidable.not_not] at q66) | (simp (disch := omega) only [zN_le, zN_lt, zN_0, zN_1, nI_toInt, zN_eq, zN_eq0, b2_z, b2_nz, Decidable.not_not, Int.not_lt, Int.not_le, zK0, zK1, zK2, zK3, zK5, zK7, zK8, zK9, zK10, zK19, zK20, zK40, zK99, zK100, zK199] at q66) | skip
          refine x_al0 rfl dX11_way_69 ?_
          refine x_get fdX11_62 hx rfl dX11_way_70 ?_
          refine x_il3 dX11_way_73 ?_
          refine x_al0 rfl dX11_way_74 ?_
          refine x_get fdX11_80 hx rfl dX11_way_75 ?_
          refine x_il3 dX11_way_78 ?_
          refine x_cv1Ip mX10_pairFrom_ok lkX11_304 rfl (Nat.le_of_ble_eq_true rfl) (Nat.le_of_ble_eq_true rfl) dX11_way_79 hw  (g_pairFrom G hS hl hst hD hb hq eq) (fun r h hq => ?_)
          have hq9 := hq
          obtain ⟨rfl, k2, kl2, rfl, fk, ek⟩ := hq9
          refine x_cv2I mX5_bySwap_ok lkX11_307 rfl (Nat.le_of_ble_eq_true rfl) (Nat.le_of_ble_eq_true rfl) dX11_way_82 hR  (k_bySwap I hS (by assumption) kl2) ?_
          refine x_is3 rfl dX11_way_85 ?_
          first | refine x_ii4 rfl (nI_1 _) dX11_way_86 ?_ | refine x_ii4 rfl rfl dX11_way_86 ?_
          refine x_goto (tgt := 63) dX11_way_89 rfl ?_
          refine ih (a + 1, swp dk.1 q k2) _ (by simp only; omega) ⟨rfl, swp_lt d1 d2 (by assumption) kl2, by simp only; omega, by simp only; rw [show m - (a + 1) = m - a - 1 by omega]; exact ek, fun r z => hw9 r ?_⟩
          rw [show i - a = i - (a + 1) + 1 by omega]
          exact Or.inl ⟨k2, fk, z⟩
      · skip
        refine x_iconst (v := (-1)) dX11_way_50 rfl ?_
        refine x_iret rfl rfl dX11_way_51 ⟨_, rfl, fin _ ?_, Or.inr I⟩
        cases e : f st.1 with
        | none => exact wy_end (Or.inr ((hD _ d7).2 e))
        | some m =>
          refine wy_far d1 d2 m i _ d7 ((hD _ d7).1 m e) ?_
          have m7 := hb _ d7 m e
          rw [e, show stp (some m) = nI m from rfl, Int32.lt_iff_toInt_lt, nI_toInt hi, nI_toInt (by omega)] at q47
          omega
    · skip
      refine x_bipush (v := (-3)) dX11_way_14 rfl ?_
      exact x_iret rfl rfl dX11_way_16 ⟨_, rfl, Or.inl ⟨q4, Or.inl ⟨Int32.not_le.mp q11, rfl⟩⟩, Or.inl I⟩
  · skip
    first | (simp only [cmp_lt, cmp_gt, cmp_eq, zN_cge, zN_cle, Decidable.not_not] at q4) | (simp (disch := omega) only [zN_le, zN_lt, zN_0, zN_1, nI_toInt, zN_eq, zN_eq0, b2_z, b2_nz, Decidable.not_not, Int.not_lt, Int.not_le, zK0, zK1, zK2, zK3, zK5, zK7, zK8, zK9, zK10, zK19, zK20, zK40, zK99, zK100, zK199] at q4) | skip
    refine x_bipush (v := (-2)) dX11_way_7 rfl ?_
    exact x_iret rfl rfl dX11_way_9 ⟨_, rfl, Or.inr ⟨q4, rfl⟩, Or.inl I⟩
end ZCw

