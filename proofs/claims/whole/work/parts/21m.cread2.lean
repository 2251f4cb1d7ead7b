/-! the class's clear, read -/
def QR (X : zX) (h0 h : zH) (S : Sum (Nat × Nat) (Nat × zDd)) : Prop := match S with
  | .inl e => ∃ r A Q, LE X h0 h r A Q e
  | .inr q => ∃ r A Q p, LC X h0 h r A Q p q.2 q.1
section ZCq
variable {g : zG} {d : Nat} {h0 h h' : zH} {r r' : Nat → Value} {A A' : Nat → Nat → Int32} {Q Q' : Nat → zS3} {X : zX} {k p p' q i j li : Nat} {e : Nat × Nat} {cs : List Nat} {S : zR} {D : zDd}
theorem c_clear (R : RW h0 h r A Q) : Zm g (d + 1) 0 0 mX4_clear [.ref 2] h (rVp (fun h' => ∃ r' A' Q', RW h0 h' r' A' Q' ∧ (r' 0 = .int 0 ∧ r' 4 = .int (nI 0) ∧ r' 5 = .int (nI 0) ∧ r' 12 = .int (nI 0) ∧ r' 16 = .int (nI 0)) ∧ (∀ k, k ≠ 0 → k ≠ 4 → k ≠ 5 → k ≠ 12 → k ≠ 16 → r' k = r k) ∧ (∀ i, i < 6 → A' 3 i = nI i ∧ A' 4 i = nI i) ∧ Q' 5 = (0, 0, 0) ∧ Q' 7 = (0, 0, 0))) := by
  show Zw g (d + 1) 0 0 mX4_clear 0 [some (.ref 2), none] [] h _
  refine x_al0 rfl dX4_clear_0 ?_
  refine x_iconst (v := nI 0) dX4_clear_1 rfl ?_
  refine x_rp R fdX4_9 (by decide) (by decide) (by first | exact fun _ => ⟨_, rfl⟩ | exact fun z => absurd z (by decide)) zf_i dX4_clear_2 (fun h R => ?_)
  refine x_al0 rfl dX4_clear_5 ?_
  refine x_iconst (v := nI 0) dX4_clear_6 rfl ?_
  refine x_rp R fdX4_24 (by decide) (by decide) (by first | exact fun _ => ⟨_, rfl⟩ | exact fun z => absurd z (by decide)) zf_i dX4_clear_7 (fun h R => ?_)
  refine x_al0 rfl dX4_clear_10 ?_
  refine x_iconst (v := nI 0) dX4_clear_11 rfl ?_
  refine x_rp R fdX4_27 (by decide) (by decide) (by first | exact fun _ => ⟨_, rfl⟩ | exact fun z => absurd z (by decide)) zf_i dX4_clear_12 (fun h R => ?_)
  refine x_al0 rfl dX4_clear_15 ?_
  refine x_iconst (v := nI 0) dX4_clear_16 rfl ?_
  refine x_rp R fdX4_54 (by decide) (by decide) (by first | exact fun _ => ⟨_, rfl⟩ | exact fun z => absurd z (by decide)) zf_i dX4_clear_17 (fun h R => ?_)
  refine x_al0 rfl dX4_clear_20 ?_
  refine x_iconst (v := nI 0) dX4_clear_21 rfl ?_
  refine x_rp R fdX4_66 (by decide) (by decide) (by first | exact fun _ => ⟨_, rfl⟩ | exact fun z => absurd z (by decide)) zf_i dX4_clear_22 (fun h R => ?_)
  obtain ⟨r1, R, c0, cs⟩ : ∃ r1, RW h0 h r1 A Q ∧ (r1 0 = .int 0 ∧ r1 4 = .int (nI 0) ∧ r1 5 = .int (nI 0) ∧ r1 12 = .int (nI 0) ∧ r1 16 = .int (nI 0)) ∧ ∀ k, k ≠ 0 → k ≠ 4 → k ≠ 5 → k ≠ 12 → k ≠ 16 → r1 k = r k := ⟨_, R, ⟨rfl, rfl, rfl, rfl, rfl⟩, fun k k0 k1 k2 k3 k4 => (va_up_ne _ _ k4).trans ((va_up_ne _ _ k3).trans ((va_up_ne _ _ k2).trans ((va_up_ne _ _ k1).trans (va_up_ne _ _ k0))))⟩
  refine x_iconst (v := nI 0) dX4_clear_25 rfl ?_
  refine x_is1 rfl dX4_clear_26 ?_
  refine x_for (e := 6) (fun i => [some (.ref 2), some (.int (nI i))]) (fun i h => ∃ A', RW h0 h r1 A' Q ∧ ∀ t, t < i → A' 3 t = nI t ∧ A' 4 t = nI t) 0 (by decide) ⟨A, R, fun t ht => absurd ht (Nat.not_lt_zero _)⟩ (fun h hI => ?_) (fun i h hi hI ih => ?_)
  · obtain ⟨A', R, a1⟩ := hI
    refine x_il1 dX4_clear_27 ?_
    refine x_bipush (v := nI 6) dX4_clear_28 rfl ?_
    refine x_icmp_ge (tgt := 53) dX4_clear_30 rfl (fun q30 => ?_) (fun q30 => ?_)
    · skip
      first | (simp only [cmp_lt, cmp_gt, cmp_eq, zN_cge, zN_cle, Decidable.not_not] at q30) | (simp (disch := omega) only [zN_le, zN_lt, zN_0, zN_1, nI_toInt, zN_eq, zN_eq0, b2_z, b2_nz, Decidable.not_not, Int.not_lt, Int.not_le, zK0, zK1, zK2, zK3, zK5, zK7, zK8, zK9, zK10, zK19, zK20, zK40, zK99, zK100, zK199] at q30) | skip
      refine x_al0 rfl dX4_clear_53 ?_
      refine x_rg R fdX4_40 (by decide) (R.f8) dX4_clear_54 ?_
      refine x_cv0Vp mX1_clear_ok lkX4_101 rfl (Nat.le_of_ble_eq_true rfl) (Nat.le_of_ble_eq_true rfl) dX4_clear_57 (R.dq  (Or.inl rfl)).1 (c_dclear R (Or.inl rfl)) (fun h hq => ?_)
      have R := hq
      refine x_al0 rfl dX4_clear_60 ?_
      refine x_rg R fdX4_44 (by decide) (R.f9) dX4_clear_61 ?_
      refine x_cv0Vp mX1_clear_ok lkX4_101 rfl (Nat.le_of_ble_eq_true rfl) (Nat.le_of_ble_eq_true rfl) dX4_clear_64 (R.dq  (Or.inr rfl)).1 (c_dclear R (Or.inr rfl)) (fun h hq => ?_)
      exact x_vret rfl dX4_clear_67 ⟨rfl, r1, A', _, hq, c0, cs, a1, rfl, rfl⟩
    · skip
      first | (simp only [cmp_lt, cmp_gt, cmp_eq, zN_cge, zN_cle, Decidable.not_not] at q30) | (simp (disch := omega) only [zN_le, zN_lt, zN_0, zN_1, nI_toInt, zN_eq, zN_eq0, b2_z, b2_nz, Decidable.not_not, Int.not_lt, Int.not_le, zK0, zK1, zK2, zK3, zK5, zK7, zK8, zK9, zK10, zK19, zK20, zK40, zK99, zK100, zK199] at q30) | skip
      omega
  · obtain ⟨A', R, a1⟩ := hI
    refine x_il1 dX4_clear_27 ?_
    refine x_bipush (v := nI 6) dX4_clear_28 rfl ?_
    refine x_icmp_ge (tgt := 53) dX4_clear_30 rfl (fun q30 => ?_) (fun q30 => ?_)
    · skip
      first | (simp only [cmp_lt, cmp_gt, cmp_eq, zN_cge, zN_cle, Decidable.not_not] at q30) | (simp (disch := omega) only [zN_le, zN_lt, zN_0, zN_1, nI_toInt, zN_eq, zN_eq0, b2_z, b2_nz, Decidable.not_not, Int.not_lt, Int.not_le, zK0, zK1, zK2, zK3, zK5, zK7, zK8, zK9, zK10, zK19, zK20, zK40, zK99, zK100, zK199] at q30) | skip
      omega
    · skip
      first | (simp only [cmp_lt, cmp_gt, cmp_eq, zN_cge, zN_cle, Decidable.not_not] at q30) | (simp (disch := omega) only [zN_le, zN_lt, zN_0, zN_1, nI_toInt, zN_eq, zN_eq0, b2_z, b2_nz, Decidable.not_not, Int.not_lt, Int.not_le, zK0, zK1, zK2, zK3, zK5, zK7, zK8, zK9, zK10, zK19, zK20, zK40, zK99, zK100, zK199] at q30) | skip
      refine x_al0 rfl dX4_clear_33 ?_
      refine x_rg R fdX4_30 (by decide) (R.f6) dX4_clear_34 ?_
      refine x_il1 dX4_clear_37 ?_
      refine x_il1 dX4_clear_38 ?_
      refine x_iast R.2.2.1 (vp_in_nI hi (by decide)) dX4_clear_39 ?_
      have R := R.s3 (f := upd (A' 3) (nI i).toNatClampNeg (nI i))
      refine x_al0 rfl dX4_clear_40 ?_
      refine x_rg R fdX4_34 (by decide) (R.f7) dX4_clear_41 ?_
      refine x_il1 dX4_clear_44 ?_
      refine x_il1 dX4_clear_45 ?_
      refine x_iast R.2.2.2.1 (vp_in_nI hi (by decide)) dX4_clear_46 ?_
      have R := R.s4 (f := upd (upM A' 3 (upd (A' 3) (nI i).toNatClampNeg (nI i)) 4) (nI i).toNatClampNeg (nI i))
      first | refine x_ii1 rfl (nI_1 _) dX4_clear_47 ?_ | refine x_ii1 rfl rfl dX4_clear_47 ?_
      refine x_goto (tgt := 27) dX4_clear_50 rfl ?_
      refine ih _ ⟨_, R, fun t ht => ?_⟩
      rw [nI_clamp (by omega), upM_eq, upM_ne (by decide), upM_eq, upM_ne (by decide)]
      by_cases z : t = i
      · rw [z, pk_us, pk_us]; exact ⟨rfl, rfl⟩
      · rw [pk_un z, pk_un z]; exact a1 t (by omega)
theorem rd77e {x : Int32} {n : Nat} (a : LE X h0 h r A Q e) (S : Sum (Nat × Nat) (Nat × zDd)) (hS : S = .inl e) : Zw g (d + 1) 0 0 mX4_read 77 [some (.ref 2), some (.ref 1), some (.int x), some (.int (nI n))] [] h (rVp (fun h' => QR X h0 h' S)) := by
  have R := a.1
  subst hS
  refine x_al0 rfl dX4_read_77 ?_
  refine x_al0 rfl dX4_read_78 ?_
  refine x_rg R fdX4_30 (by decide) (R.f6) dX4_read_79 ?_
  refine x_cv1Ip mX4_isWhole_ok lkX4_94 rfl (Nat.le_of_ble_eq_true rfl) (Nat.le_of_ble_eq_true rfl) dX4_read_82 R.get  (LE.whole (Or.inl rfl) a) (fun r h hq => ?_)
  obtain rfl := hq
  refine x_if_eq (tgt := 99) dX4_read_85 rfl (fun q85 => ?_) (fun q85 => ?_)
  · skip
    refine x_al0 rfl dX4_read_99 ?_
    refine x_iconst (v := nI 3) dX4_read_100 rfl ?_
    refine x_cv1V mX4_fail_ok lkX4_98 rfl (Nat.le_of_ble_eq_true rfl) (Nat.le_of_ble_eq_true rfl) dX4_read_101 R.get  (e_fail R a.2.1) ?_
    exact x_vret rfl dX4_read_104 ⟨rfl, _, A, Q, a⟩
  · skip
    refine x_al0 rfl dX4_read_88 ?_
    refine x_al0 rfl dX4_read_89 ?_
    refine x_rg R fdX4_34 (by decide) (R.f7) dX4_read_90 ?_
    refine x_cv1Ip mX4_isWhole_ok lkX4_94 rfl (Nat.le_of_ble_eq_true rfl) (Nat.le_of_ble_eq_true rfl) dX4_read_93 R.get  (LE.whole (Or.inr rfl) a) (fun r h hq => ?_)
    obtain rfl := hq
    refine x_if_ne (tgt := 104) dX4_read_96 rfl (fun q96 => ?_) (fun q96 => ?_)
    · skip
      exact x_vret rfl dX4_read_104 ⟨rfl, _, A, Q, a⟩
    · skip
      refine x_al0 rfl dX4_read_99 ?_
      refine x_iconst (v := nI 3) dX4_read_100 rfl ?_
      refine x_cv1V mX4_fail_ok lkX4_98 rfl (Nat.le_of_ble_eq_true rfl) (Nat.le_of_ble_eq_true rfl) dX4_read_101 R.get  (e_fail R a.2.1) ?_
      exact x_vret rfl dX4_read_104 ⟨rfl, _, A, Q, a⟩
theorem rd29e {x : Int32} {n : Nat} (hX : X.2 ≤ 900) (hn : n ≤ 1000) (a : LE X h0 h r A Q e) (S : Sum (Nat × Nat) (Nat × zDd)) (hS : S = .inl e) : Zw g (d + 1) 0 0 mX4_read 29 [some (.ref 2), some (.ref 1), some (.int x), some (.int (nI n))] [] h (rVp (fun h' => QR X h0 h' S)) := by
  have R := a.1
  have e11 := a.2.2.2.1
  have e0 := a.2.1.1
  refine x_il3 dX4_read_29 ?_
  refine x_al0 rfl dX4_read_30 ?_
  refine x_rg R fdX4_51 (by decide) (by first | assumption | rfl) dX4_read_31 ?_
  refine x_icmp_ge (tgt := 77) dX4_read_34 rfl (fun q34 => ?_) (fun q34 => ?_)
  · skip
    first | (simp only [cmp_lt, cmp_gt, cmp_eq, zN_cge, zN_cle, Decidable.not_not] at q34) | (simp (disch := omega) only [zN_le, zN_lt, zN_0, zN_1, nI_toInt, zN_eq, zN_eq0, b2_z, b2_nz, Decidable.not_not, Int.not_lt, Int.not_le, zK0, zK1, zK2, zK3, zK5, zK7, zK8, zK9, zK10, zK19, zK20, zK40, zK99, zK100, zK199] at q34) | skip
    exact rd77e a S hS
  · skip
    first | (simp only [cmp_lt, cmp_gt, cmp_eq, zN_cge, zN_cle, Decidable.not_not] at q34) | (simp (disch := omega) only [zN_le, zN_lt, zN_0, zN_1, nI_toInt, zN_eq, zN_eq0, b2_z, b2_nz, Decidable.not_not, Int.not_lt, Int.not_le, zK0, zK1, zK2, zK3, zK5, zK7, zK8, zK9, zK10, zK19, zK20, zK40, zK99, zK100, zK199] at q34) | skip
    refine x_al0 rfl dX4_read_37 ?_
    refine x_rg R fdX4_9 (by decide) (by first | assumption | rfl) dX4_read_38 ?_
    refine x_if_ne (tgt := 77) dX4_read_41 rfl (fun q41 => ?_) (fun q41 => ?_)
    · skip
      exact rd77e a S hS
    · skip
      exact absurd q41 (nI_n05 a.2.1.2.2.2.1 a.2.1.2.2.2.2)
theorem rd59e {x : Int32} {n : Nat} (hX : X.2 ≤ 900) (hn : n < 1000) (a : LE X h0 h r A Q e) (S : Sum (Nat × Nat) (Nat × zDd)) (hS : S = .inl e) : Zw g (d + 1) 0 0 mX4_read 61 [some (.ref 2), some (.ref 1), some (.int x), some (.int (nI n))] [] h (rVp (fun h' => QR X h0 h' S)) := by
  have R := a.1
  obtain ⟨v, e5⟩ := R.ri 5 rfl
  refine x_al0 rfl dX4_read_61 ?_
  refine x_dup rfl dX4_read_62 ?_
  refine x_rg R fdX4_27 (by decide) (by first | assumption | rfl) dX4_read_63 ?_
  refine x_iconst (v := nI 1) dX4_read_66 rfl ?_
  first | refine x_iadd (nI_add _ _) dX4_read_67 ?_ | refine x_iadd rfl dX4_read_67 ?_
  refine x_rp R fdX4_27 (by decide) (by decide) (by first | exact fun _ => ⟨_, rfl⟩ | exact fun z => absurd z (by decide)) zf_i dX4_read_68 (fun h R => ?_)
  refine x_ii3 rfl (nI_1 _) dX4_read_71 ?_
  refine x_goto (tgt := 29) dX4_read_74 rfl ?_
  exact rd29e hX (by omega) (a.up R (Or.inr (Or.inr (Or.inr rfl)))) S hS
theorem rd77o {x : Int32} {n : Nat} (a : LC X h0 h r A Q p D li) (hD : zDok D) (hK : tkK X p = 24) (S : Sum (Nat × Nat) (Nat × zDd)) (hS : S = if whl D.1 D.2.2.1 ∧ whl D.1 D.2.2.2.1 then .inr (li, D) else .inl (3, tkA X p)) : Zw g (d + 1) 0 0 mX4_read 77 [some (.ref 2), some (.ref 1), some (.int x), some (.int (nI n))] [] h (rVp (fun h' => QR X h0 h' S)) := by
  have R := a.1
  obtain ⟨c1, c2, c3, c4, c5, c6, c7, c8, c9, c10⟩ := id a
  obtain ⟨d1, d2, d3, d4, d5, d6, d7, d8, d9⟩ := id hD
  refine x_al0 rfl dX4_read_77 ?_
  refine x_al0 rfl dX4_read_78 ?_
  refine x_rg R fdX4_30 (by decide) (R.f6) dX4_read_79 ?_
  refine x_cv1I mX4_isWhole_ok lkX4_94 rfl (Nat.le_of_ble_eq_true rfl) (Nat.le_of_ble_eq_true rfl) dX4_read_82 R.get  (l_whole (Or.inl rfl) d1 d2 R c8.1 c9 d5) ?_
  refine x_if_eq (tgt := 99) dX4_read_85 rfl (fun q85 => ?_) (fun q85 => ?_)
  · skip
    first | (simp only [cmp_lt, cmp_gt, cmp_eq, zN_cge, zN_cle, Decidable.not_not] at q85) | (simp (disch := omega) only [zN_le, zN_lt, zN_0, zN_1, nI_toInt, zN_eq, zN_eq0, b2_z, b2_nz, Decidable.not_not, Int.not_lt, Int.not_le, zK0, zK1, zK2, zK3, zK5, zK7, zK8, zK9, zK10, zK19, zK20, zK40, zK99, zK100, zK199] at q85) | skip
    refine x_al0 rfl dX4_read_99 ?_
    refine x_iconst (v := nI 3) dX4_read_100 rfl ?_
    refine x_cv1Vp mX4_fail_ok lkX4_98 rfl (Nat.le_of_ble_eq_true rfl) (Nat.le_of_ble_eq_true rfl) dX4_read_101 R.get  (l_fail (fa := 3) (by decide) (by decide) a) (fun h hq => ?_)
    exact x_vret rfl dX4_read_104 ⟨rfl, by rw [hS, if_neg (fun z => q85 z.1)]; exact hq⟩
  · skip
    first | (simp only [cmp_lt, cmp_gt, cmp_eq, zN_cge, zN_cle, Decidable.not_not] at q85) | (simp (disch := omega) only [zN_le, zN_lt, zN_0, zN_1, nI_toInt, zN_eq, zN_eq0, b2_z, b2_nz, Decidable.not_not, Int.not_lt, Int.not_le, zK0, zK1, zK2, zK3, zK5, zK7, zK8, zK9, zK10, zK19, zK20, zK40, zK99, zK100, zK199] at q85) | skip
    refine x_al0 rfl dX4_read_88 ?_
    refine x_al0 rfl dX4_read_89 ?_
    refine x_rg R fdX4_34 (by decide) (R.f7) dX4_read_90 ?_
    refine x_cv1I mX4_isWhole_ok lkX4_94 rfl (Nat.le_of_ble_eq_true rfl) (Nat.le_of_ble_eq_true rfl) dX4_read_93 R.get  (l_whole (Or.inr rfl) d1 d2 R c8.1 c10 d6) ?_
    refine x_if_ne (tgt := 104) dX4_read_96 rfl (fun q96 => ?_) (fun q96 => ?_)
    · skip
      first | (simp only [cmp_lt, cmp_gt, cmp_eq, zN_cge, zN_cle, Decidable.not_not] at q96) | (simp (disch := omega) only [zN_le, zN_lt, zN_0, zN_1, nI_toInt, zN_eq, zN_eq0, b2_z, b2_nz, Decidable.not_not, Int.not_lt, Int.not_le, zK0, zK1, zK2, zK3, zK5, zK7, zK8, zK9, zK10, zK19, zK20, zK40, zK99, zK100, zK199] at q96) | skip
      exact x_vret rfl dX4_read_104 ⟨rfl, by rw [hS, if_pos ⟨q85, q96⟩]; exact ⟨r, A, Q, p, a⟩⟩
    · skip
      first | (simp only [cmp_lt, cmp_gt, cmp_eq, zN_cge, zN_cle, Decidable.not_not] at q96) | (simp (disch := omega) only [zN_le, zN_lt, zN_0, zN_1, nI_toInt, zN_eq, zN_eq0, b2_z, b2_nz, Decidable.not_not, Int.not_lt, Int.not_le, zK0, zK1, zK2, zK3, zK5, zK7, zK8, zK9, zK10, zK19, zK20, zK40, zK99, zK100, zK199] at q96) | skip
      refine x_al0 rfl dX4_read_99 ?_
      refine x_iconst (v := nI 3) dX4_read_100 rfl ?_
      refine x_cv1Vp mX4_fail_ok lkX4_98 rfl (Nat.le_of_ble_eq_true rfl) (Nat.le_of_ble_eq_true rfl) dX4_read_101 R.get  (l_fail (fa := 3) (by decide) (by decide) a) (fun h hq => ?_)
      exact x_vret rfl dX4_read_104 ⟨rfl, by rw [hS, if_neg (fun z => q96 z.2)]; exact hq⟩
theorem fLn_25 (h : tkK X p = 25) : fLn X D p = .inl (1, tkA X p) := by
  unfold fLn
  rw [if_neg (by omega), if_neg (by omega), if_neg (by omega), if_neg (by omega), if_neg (by omega), erK_25 h]
set_option maxRecDepth 4000 in
theorem rd29 {x : Int32} (a : LC X h0 h r A Q p D li) (hD : zDok D) (hli : li ≤ tkA X p) (S : Sum (Nat × Nat) (Nat × zDd)) (hS : S = fFin X (fLns X 901 D li p)) : Zw g (d + 67) 0 0 mX4_read 29 [some (.ref 2), some (.ref 1), some (.int x), some (.int (nI 0))] [] h (rVp (fun h' => QR X h0 h' S)) := by
  have X9 := a.2.1.2.2.1
  refine x_wh (fun (fu : Nat) => [some (.ref 2), some (.ref 1), some (.int x), some (.int (nI (901 - fu)))]) (fun fu h => fu ≤ 901 ∧ ∃ p D li r A Q, LC X h0 h r A Q p D li ∧ zDok D ∧ li ≤ tkA X p ∧ S = fFin X (fLns X fu D li p) ∧ X.2 < fu + tkA X p ∧ 901 - fu ≤ tkA X p) (fun fu => fu) 901 ⟨Nat.le_refl _, p, D, li, r, A, Q, a, hD, hli, hS, by omega, by omega⟩ (fun fu h hI ih => ?_)
  obtain ⟨h901, p, D, li, r, A, Q, a, hD, hli, hS, hfu, hia⟩ := hI
  have R := a.1
  have e11 := a.2.1.2.1
  have e0 := a.2.2.1.1
  have e13 := a.2.2.1.2.2.2.1
  have hp := a.2.2.1.2.1
  have ha := tkA_le hp
  have lK := tk_le hp
  have tl := tok_lt _ (tkK_dom (X := X) (p := p)).2
  have te : tok (tkK X p) = 0 ↔ tkK X p = 24 := tok_e (k := 24) (by decide) (by decide)
  have fin : tkK X p = 24 → S = if whl D.1 D.2.2.1 ∧ whl D.1 D.2.2.2.1 then .inr (li, D) else .inl (3, tkA X p) := fun z => by
    rw [hS, show fLns X fu D li p = .inr (p, li, D) by cases fu with | zero => rfl | succ k => rw [fLns, if_pos z]]
    rfl
  refine x_il3 dX4_read_29 ?_
  refine x_al0 rfl dX4_read_30 ?_
  refine x_rg R fdX4_51 (by decide) (by first | assumption | rfl) dX4_read_31 ?_
  refine x_icmp_ge (tgt := 77) dX4_read_34 rfl (fun q34 => ?_) (fun q34 => ?_)
  · skip
    first | (simp only [cmp_lt, cmp_gt, cmp_eq, zN_cge, zN_cle, Decidable.not_not] at q34) | (simp (disch := omega) only [zN_le, zN_lt, zN_0, zN_1, nI_toInt, zN_eq, zN_eq0, b2_z, b2_nz, Decidable.not_not, Int.not_lt, Int.not_le, zK0, zK1, zK2, zK3, zK5, zK7, zK8, zK9, zK10, zK19, zK20, zK40, zK99, zK100, zK199] at q34) | skip
    exact rd77o (d := d + 66) a hD (lK.2.2.2.2.mpr (by omega)) S (fin (lK.2.2.2.2.mpr (by omega)))
  · skip
    first | (simp only [cmp_lt, cmp_gt, cmp_eq, zN_cge, zN_cle, Decidable.not_not] at q34) | (simp (disch := omega) only [zN_le, zN_lt, zN_0, zN_1, nI_toInt, zN_eq, zN_eq0, b2_z, b2_nz, Decidable.not_not, Int.not_lt, Int.not_le, zK0, zK1, zK2, zK3, zK5, zK7, zK8, zK9, zK10, zK19, zK20, zK40, zK99, zK100, zK199] at q34) | skip
    refine x_al0 rfl dX4_read_37 ?_
    refine x_rg R fdX4_9 (by decide) (by first | assumption | rfl) dX4_read_38 ?_
    refine x_if_ne (tgt := 77) dX4_read_41 rfl (fun q41 => ?_) (fun q41 => ?_)
    · skip
      first | (simp only [cmp_lt, cmp_gt, cmp_eq, zN_cge, zN_cle, Decidable.not_not] at q41) | (simp (disch := omega) only [zN_le, zN_lt, zN_0, zN_1, nI_toInt, zN_eq, zN_eq0, b2_z, b2_nz, Decidable.not_not, Int.not_lt, Int.not_le, zK0, zK1, zK2, zK3, zK5, zK7, zK8, zK9, zK10, zK19, zK20, zK40, zK99, zK100, zK199] at q41) | skip
      exact absurd trivial q41
    · skip
      first | (simp only [cmp_lt, cmp_gt, cmp_eq, zN_cge, zN_cle, Decidable.not_not] at q41) | (simp (disch := omega) only [zN_le, zN_lt, zN_0, zN_1, nI_toInt, zN_eq, zN_eq0, b2_z, b2_nz, Decidable.not_not, Int.not_lt, Int.not_le, zK0, zK1, zK2, zK3, zK5, zK7, zK8, zK9, zK10, zK19, zK20, zK40, zK99, zK100, zK199] at q41) | skip
      refine x_al0 rfl dX4_read_44 ?_
      refine x_rg R fdX4_57 (by decide) (by first | assumption | rfl) dX4_read_45 ?_
      refine x_if_eq (tgt := 77) dX4_read_48 rfl (fun q48 => ?_) (fun q48 => ?_)
      · skip
        first | (simp only [cmp_lt, cmp_gt, cmp_eq, zN_cge, zN_cle, Decidable.not_not] at q48) | (simp (disch := omega) only [zN_le, zN_lt, zN_0, zN_1, nI_toInt, zN_eq, zN_eq0, b2_z, b2_nz, Decidable.not_not, Int.not_lt, Int.not_le, zK0, zK1, zK2, zK3, zK5, zK7, zK8, zK9, zK10, zK19, zK20, zK40, zK99, zK100, zK199] at q48) | skip
        exact rd77o (d := d + 66) a hD (te.mp q48) S (fin (te.mp q48))
      · skip
        first | (simp only [cmp_lt, cmp_gt, cmp_eq, zN_cge, zN_cle, Decidable.not_not] at q48) | (simp (disch := omega) only [zN_le, zN_lt, zN_0, zN_1, nI_toInt, zN_eq, zN_eq0, b2_z, b2_nz, Decidable.not_not, Int.not_lt, Int.not_le, zK0, zK1, zK2, zK3, zK5, zK7, zK8, zK9, zK10, zK19, zK20, zK40, zK99, zK100, zK199] at q48) | skip
        have k24 : tkK X p ≠ 24 := fun z => q48 (te.mpr z)
        obtain ⟨k, rfl⟩ : ∃ k, fu = k + 1 := ⟨fu - 1, by omega⟩
        rw [fLns, if_neg k24] at hS
        refine x_al0 rfl dX4_read_51 ?_
        refine x_cv0Vp mX4_line_ok lkX4_87 rfl (Nat.le_of_ble_eq_true rfl) (Nat.le_of_ble_eq_true rfl) dX4_read_52 R.get  (l_line hD a k24) (fun h hq => ?_)
        cases z1 : fLn X D p with
        | inl e9 =>
          rw [z1] at hq hS
          obtain ⟨r2, A2, Q2, c⟩ := hq
          have R := c.1
          refine x_al0 rfl dX4_read_55 ?_
          refine x_bipush (v := nI 59) dX4_read_56 rfl ?_
          refine x_cv1V mX4_expect_ok lkX4_90 rfl (Nat.le_of_ble_eq_true rfl) (Nat.le_of_ble_eq_true rfl) dX4_read_58 R.get  (LE.exp (k := 30) (by decide) (by decide) (by decide) c) ?_
          exact rd59e (d := d + 66) X9 (by omega) c S hS
        | inr q =>
          have o := fLn_o X9 hp k24 hD z1
          rw [z1] at hq hS
          simp only at hS
          by_cases kb : tkK X q.1 = 25
          · rw [nS_b kb] at hq
            rw [if_neg (by omega), erK_25 kb] at hS
            obtain ⟨r2, A2, Q2, c⟩ := hq
            have R := c.1
            refine x_al0 rfl dX4_read_55 ?_
            refine x_bipush (v := nI 59) dX4_read_56 rfl ?_
            refine x_cv1V mX4_expect_ok lkX4_90 rfl (Nat.le_of_ble_eq_true rfl) (Nat.le_of_ble_eq_true rfl) dX4_read_58 R.get  (LE.exp (k := 30) (by decide) (by decide) (by decide) c) ?_
            exact rd59e (d := d + 66) X9 (by omega) c S hS
          · rw [nS_r kb] at hq
            obtain ⟨r2, A2, Q2, c⟩ := hq
            have R := c.1
            refine x_al0 rfl dX4_read_55 ?_
            refine x_bipush (v := nI 59) dX4_read_56 rfl ?_
            refine x_cv1Vp mX4_expect_ok lkX4_90 rfl (Nat.le_of_ble_eq_true rfl) (Nat.le_of_ble_eq_true rfl) dX4_read_58 R.get  (l_exp (k := 30) (by decide) (by decide) (by decide) c) (fun h hq => ?_)
            cases e5 : nR X (waR X 30 q.1) with
            | inl e9 =>
              rw [e5] at hq
              obtain ⟨r3, A3, Q3, c3⟩ := hq
              have eS : S = .inl e9 := by
                rcases waR_k e5 with ⟨z, rfl⟩ | ⟨z, kb2, rfl⟩
                · rw [if_neg z] at hS; exact hS
                · rw [if_pos z] at hS
                  have b2 := tkA_B o.1 (by omega)
                  have nle : ¬ X.2 ≤ tkA X (tkB X q.1) := fun w => by have := (tk_le b2.2).2.2.2.2.mpr w; omega
                  obtain ⟨m, rfl⟩ : ∃ m, k = m + 1 := ⟨k - 1, by omega⟩
                  rw [fLns, if_neg (by omega), fLn_25 kb2] at hS
                  exact hS
              exact rd59e (d := d + 66) X9 (by omega) c3 S eS
            | inr q5 =>
              rw [e5] at hq
              obtain ⟨k5, rfl, kn5⟩ := waR_o e5
              obtain ⟨r3, A3, Q3, c3⟩ := hq
              have R := c3.1
              have ff := c3.2.2.2.2.2.2.2.1
              have b2 := tkA_B o.1 (by omega)
              rw [if_pos k5] at hS
              refine x_al0 rfl dX4_read_61 ?_
              refine x_dup rfl dX4_read_62 ?_
              refine x_rg R fdX4_27 (by decide) (ff.2.2.2) dX4_read_63 ?_
              refine x_iconst (v := nI 1) dX4_read_66 rfl ?_
              first | refine x_iadd (nI_add _ _) dX4_read_67 ?_ | refine x_iadd rfl dX4_read_67 ?_
              refine x_rp R fdX4_27 (by decide) (by decide) (by first | exact fun _ => ⟨_, rfl⟩ | exact fun z => absurd z (by decide)) zf_i dX4_read_68 (fun h R => ?_)
              have c3 := c3.up (D' := q.2) (li' := li + 1) R (Or.inr (Or.inr (Or.inr rfl))) ⟨rfl, rfl, rfl⟩ ⟨ff.1, ff.2.1, ff.2.2.1, rfl⟩
              refine x_ii3 rfl (nI_1 _) dX4_read_71 ?_
              refine x_goto (tgt := 29) dX4_read_74 rfl ?_
              rw [show 901 - (k + 1) + 1 = 901 - k by omega]
              exact ih k _ (by omega) ⟨by omega, tkB X q.1, q.2, li + 1, _, A3, Q3, c3, o.2.2, by omega, hS, by omega, by omega⟩
theorem c_read {n : Nat} {F : Nat → Int32} (R : RW h0 h r A Q) (e17 : r 17 = .ref 5 ∨ r 17 = .ref 7) (hX : X.2 = n) (hn : n ≤ 900) (hT : h0[1]? = some (.inl (1, 900, .inl F))) (hF : ∀ i, i < n → F i = bsg (X.1 i) ∧ X.1 i < 256) : Zm g (d + 67) 0 0 mX4_read [.ref 2, .ref 1, .int (nI n)] h (rVp (fun h' => QR X h0 h' (fDk X))) := by
  subst hX
  show Zw g (d + 67) 0 0 mX4_read 0 [some (.ref 2), some (.ref 1), some (.int (nI X.2)), none] [] h _
  refine x_al0 rfl dX4_read_0 ?_
  refine x_cv0Vp mX4_clear_ok lkX4_72 rfl (Nat.le_of_ble_eq_true rfl) (Nat.le_of_ble_eq_true rfl) dX4_read_1 R.get  (c_clear R) (fun h hq => ?_)
  obtain ⟨r1, A1, Q1, R, ⟨c0, c4, c5, c12, c16⟩, cs, ca, cq5, cq7⟩ := hq
  have hT1 : h[1]? = some (.inl (1, 900, .inl F)) := (R.2.2.2.2.2.2.2 1 (Or.inl (by decide))).trans hT
  refine x_al0 rfl dX4_read_4 ?_
  refine x_al1 rfl dX4_read_5 ?_
  refine x_rp R fdX4_47 (by decide) (by decide) (by first | exact fun _ => ⟨_, rfl⟩ | exact fun z => absurd z (by decide)) (by first | exact zf_a | exact zf_o) dX4_read_6 (fun h R => ?_)
  refine x_al0 rfl dX4_read_9 ?_
  refine x_il2 dX4_read_10 ?_
  refine x_al1 rfl dX4_read_11 ?_
  refine x_alen rfl (show _ = _ from (R.2.2.2.2.2.2.2 1 (Or.inl (by decide))).trans hT) rfl dX4_read_12 ?_
  refine x_mmin kjX4_75 (Nat.le_of_ble_eq_true rfl) (show (if Int32.ofNat 900 < nI X.2 then Int32.ofNat 900 else nI X.2) = nI X.2 from if_neg (by rw [Int32.lt_iff_toInt_lt, nI_toInt (by omega), show (Int32.ofNat 900).toInt = 900 from rfl]; omega)) dX4_read_13 ?_
  refine x_rp R fdX4_51 (by decide) (by decide) (by first | exact fun _ => ⟨_, rfl⟩ | exact fun z => absurd z (by decide)) zf_i dX4_read_16 (fun h R => ?_)
  obtain ⟨r2, R, b0, b4, b5, b12, b16, b10, b11, b2, b3, b17⟩ : ∃ r2, RW h0 h r2 A1 Q1 ∧ r2 0 = .int 0 ∧ r2 4 = .int (nI 0) ∧ r2 5 = .int (nI 0) ∧ r2 12 = .int (nI 0) ∧ r2 16 = .int (nI 0) ∧ r2 10 = .ref 1 ∧ r2 11 = .int (nI X.2) ∧ r2 2 = r 2 ∧ r2 3 = r 3 ∧ r2 17 = r 17 := ⟨_, R, c0, c4, c5, c12, c16, rfl, rfl, cs 2 (by decide) (by decide) (by decide) (by decide) (by decide), cs 3 (by decide) (by decide) (by decide) (by decide) (by decide), cs 17 (by decide) (by decide) (by decide) (by decide) (by decide)⟩
  have T : CX X h0 r2 := ⟨b10, b11, hn, F, hT, hF⟩
  obtain ⟨v2, w2⟩ := R.ri 2 rfl
  obtain ⟨v3, w3⟩ := R.ri 3 rfl
  refine x_al0 rfl dX4_read_19 ?_
  refine x_cv0Vp mX4_advance_ok lkX4_81 rfl (Nat.le_of_ble_eq_true rfl) (Nat.le_of_ble_eq_true rfl) dX4_read_20 R.get  (c_adv R T b0 b12 (Nat.zero_le _)) (fun h hq => ?_)
  obtain ⟨r3, R, U, z3⟩ := hq
  have T := T.cu U
  have u : ∀ k, k ≠ 0 → k ≠ 1 → k ≠ 12 → k ≠ 13 → k ≠ 14 → k ≠ 15 → r3 k = r2 k := U
  have e17' : r3 17 = .ref 5 ∨ r3 17 = .ref 7 := by rw [u 17 (by decide) (by decide) (by decide) (by decide) (by decide) (by decide), b17]; exact e17
  by_cases kb : tkK X 0 = 25
  · rw [if_pos kb] at z3
    have c : LE X h0 h r3 A1 Q1 (1, tkA X 0) := ⟨R, z3, T.1, T.2.1, e17'⟩
    have eS : fDk X = .inl (1, tkA X 0) := fDk_x (by unfold fHd; rw [if_neg (by omega), erK_25 kb])
    refine x_al0 rfl dX4_read_23 ?_
    refine x_cv0Vp mX4_header_ok lkX4_84 rfl (Nat.le_of_ble_eq_true rfl) (Nat.le_of_ble_eq_true rfl) dX4_read_24 R.get  (LE.header (d := d + 64) c) (fun h hq => ?_)
    obtain ⟨r4, A4, Q4, c4⟩ := hq
    refine x_iconst (v := nI 0) dX4_read_27 rfl ?_
    refine x_is3 rfl dX4_read_28 ?_
    exact rd29e (d := d + 66) hn (by decide) c4 _ eS
  · rw [if_neg kb] at z3
    have a : LC X h0 h r3 A1 Q1 0 (v2.toBitVec.toNat, v3.toBitVec.toNat, id, id, 0, none, none) 0 := by
      refine ⟨R, T, z3, by rw [u 16 (by decide) (by decide) (by decide) (by decide) (by decide) (by decide)]; exact b16, e17', ⟨DR.nil cq5, Nat.zero_le _⟩, ⟨DR.nil cq7, Nat.zero_le _⟩, ⟨?_, ?_, ?_, ?_⟩, fun i hi => (ca i hi).1, fun i hi => (ca i hi).2⟩
      · rw [u 2 (by decide) (by decide) (by decide) (by decide) (by decide) (by decide), w2]; exact congrArg Value.int (nI_bv v2).symm
      · rw [u 3 (by decide) (by decide) (by decide) (by decide) (by decide) (by decide), w3]; exact congrArg Value.int (nI_bv v3).symm
      · rw [u 4 (by decide) (by decide) (by decide) (by decide) (by decide) (by decide)]; exact b4
      · rw [u 5 (by decide) (by decide) (by decide) (by decide) (by decide) (by decide)]; exact b5
    have o := fHd_o (X := X)
    refine x_al0 rfl dX4_read_23 ?_
    refine x_cv0Vp mX4_header_ok lkX4_84 rfl (Nat.le_of_ble_eq_true rfl) (Nat.le_of_ble_eq_true rfl) dX4_read_24 R.get  (l_header (d := d + 59) a) (fun h hq => ?_)
    cases e6 : fHd X with
    | inl e9 =>
      rw [e6] at hq
      obtain ⟨r4, A4, Q4, c4⟩ := hq
      refine x_iconst (v := nI 0) dX4_read_27 rfl ?_
      refine x_is3 rfl dX4_read_28 ?_
      exact rd29e (d := d + 66) hn (by decide) c4 _ (fDk_x e6)
    | inr q =>
      rw [e6] at hq o
      by_cases k6 : tkK X q.1 = 25
      · rw [nS_b k6] at hq
        obtain ⟨r4, A4, Q4, c4⟩ := hq
        have eS : fDk X = .inl (1, tkA X q.1) := by rw [fDk_h e6, fLns, if_neg (by omega), fLn_25 k6]; rfl
        refine x_iconst (v := nI 0) dX4_read_27 rfl ?_
        refine x_is3 rfl dX4_read_28 ?_
        exact rd29e (d := d + 66) hn (by decide) c4 _ eS
      · rw [nS_r k6] at hq
        obtain ⟨r4, A4, Q4, a4⟩ := hq
        refine x_iconst (v := nI 0) dX4_read_27 rfl ?_
        refine x_is3 rfl dX4_read_28 ?_
        exact rd29 a4 o.2.1 o.2.2 _ (fDk_h e6)
end ZCq

