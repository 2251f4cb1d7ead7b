/-! the model's goesAll, laysAll -/
theorem ga_f {n d r : Nat} (hn : n ≤ 6) (hd : d < n) (hr : r * fct (n - d) < fct n) : cun (usd n (r * fct (n - d)) d) n = n - d ∧ usd n (r * fct (n - d)) d < 64 ∧ ∀ j, j < n → ¬ usd n (r * fct (n - d)) d / 2 ^ j % 2 = 1 → (r * (n - d) + cun (usd n (r * fct (n - d)) d) j) * fct (n - d - 1) < fct n ∧ nm n ((r * (n - d) + cun (usd n (r * fct (n - d)) d) j) * fct (n - d - 1)) d = j ∧ ∀ i, i < d → nm n ((r * (n - d) + cun (usd n (r * fct (n - d)) d) j) * fct (n - d - 1)) i = nm n (r * fct (n - d)) i := by
  have dv : ∀ n, n < 7 → ∀ d, d < n → fct n / fct (n - d) * fct (n - d) = fct n := by decide
  have hr2 : r < fct n / fct (n - d) := by
    rcases Nat.lt_or_ge r (fct n / fct (n - d)) with z | z
    · exact z
    · have := Nat.mul_le_mul_right (fct (n - d)) z
      rw [dv n (by omega) d hd] at this
      omega
  have a := List.all_eq_true.mp (ga_all n (by omega) d hd) r (List.mem_range.mpr hr2)
  unfold gaB at a
  simp only [Bool.and_eq_true, decide_eq_true_eq] at a
  refine ⟨a.1.1, a.1.2, fun j hj hu => ?_⟩
  have b := List.all_eq_true.mp a.2 j (List.mem_range.mpr hj)
  unfold gaJ at b
  rw [if_neg hu] at b
  simp only [Bool.and_eq_true, decide_eq_true_eq] at b
  exact ⟨b.1.1, b.1.2, fun i hi => of_decide_eq_true (List.all_eq_true.mp b.2 i (List.mem_range.mpr hi))⟩
theorem usd_c {n R R' : Nat} : ∀ d, (∀ i, i < d → nm n R' i = nm n R i) → usd n R' d = usd n R d := by
  intro d
  induction d with
  | zero => intro _; rfl
  | succ d ih => intro h; rw [usd, usd, ih (fun i hi => h i (by omega)), h d (by omega)]
theorem fct_s {k : Nat} (hk : k < 6) : fct (k + 1) = (k + 1) * fct k := by
  have : ∀ k, k < 6 → fct (k + 1) = (k + 1) * fct k := by decide
  exact this k hk
/-- rows from R to R' stand, those before and all else as they were -/
def GaP (s s' : Nat → Value) (M M' : Nat → Nat → Int32) (n d R R' : Nat) : Prop := s' 17 = .int (nI R') ∧ (∀ i, i ≠ 17 → s' i = s i) ∧ (∀ i, i ≠ 64 → i ≠ 65 → M' i = M i) ∧ (∀ q, R ≤ q → q < R' → ∀ dd, dd < n → M' 64 (6 * q + dd) = nI (nm n q dd)) ∧ (∀ t, t < 6 * R → M' 64 t = M 64 t) ∧ ∀ i, i < d → M' 65 i = M 65 i
theorem GaP.tr {s s1 s2 : Nat → Value} {M M1 M2 : Nat → Nat → Int32} {n d d' R R1 R2 : Nat} (a : GaP s s1 M M1 n d R R1) (b : GaP s1 s2 M1 M2 n d' R1 R2) (h1 : R ≤ R1) (hd : d ≤ d') (hn : n ≤ 6) : GaP s s2 M M2 n d R R2 := by
  obtain ⟨a1, a2, a3, a4, a5, a6⟩ := a
  obtain ⟨b1, b2, b3, b4, b5, b6⟩ := b
  refine ⟨b1, fun i hi => (b2 i hi).trans (a2 i hi), fun i x y => (b3 i x y).trans (a3 i x y), fun q q1 q2 dd hdd => ?_, fun t ht => (b5 t (by omega)).trans (a5 t ht), fun i hi => (b6 i (by omega)).trans (a6 i hi)⟩
  rcases Nat.lt_or_ge q R1 with z | z
  · rw [b5 _ (by omega)]; exact a4 q q1 z dd hdd
  · exact b4 q z q2 dd hdd
section ZGo
variable {g : zG} {D : Nat} {h0 : zH} {L : Nat → Nat → Int64}
theorem j_goesAll {n : Nat} (hn0 : 0 < n) (hn : n ≤ 6) : ∀ (k d r : Nat) (h : zH) (s : Nat → Value) (M : Nat → Nat → Int32), d + k = n → r * fct k < fct n → MW h0 h s M L → M 60 1 = nI n → s 17 = .int (nI (r * fct k)) → (∀ i, i < d → M 65 i = nI (nm n (r * fct k) i)) → Zm g (D + k) 0 0 mX12_goesAll [.ref 59, .int (nI d), .int (nI (usd n (r * fct k) d))] h (rVp (fun h' => ∃ s' M', MW h0 h' s' M' L ∧ GaP s s' M M' n d (r * fct k) (r * fct k + fct k))) := by
  have hf := fct_le hn
  intro k
  induction k with
  | zero =>
    intro d r h s M hd hr W e1 h17 hly
    rw [show fct 0 = 1 from rfl, Nat.mul_one] at *
    obtain rfl : d = n := by omega
    show Zw g (D + 0) 0 0 mX12_goesAll 0 [some (.ref 59), some (.int (nI d)), some (.int (nI (usd d r d))), none] [] h _
    refine x_il1 dX12_goesAll_0 ?_
    refine x_al0 rfl dX12_goesAll_1 ?_
    refine x_gm fdX12_13 W.hM (by decide) W.hF.f1 dX12_goesAll_2 ?_
    refine x_iconst (v := nI 1) dX12_goesAll_5 rfl ?_
    refine x_mld (len := 2868) W rfl rfl (by decide) (by omega) e1 dX12_goesAll_6 ?_
    refine x_icmp_ne (tgt := 54) dX12_goesAll_7 rfl (fun q7 => ?_) (fun q7 => ?_)
    · skip
      first | (simp only [cmp_lt, cmp_gt, cmp_eq, zN_cge, zN_cle, Decidable.not_not] at q7) | (simp (disch := omega) only [zN_le, zN_lt, zN_0, zN_1, nI_toInt, zN_eq, zN_eq0, b2_z, b2_nz, Decidable.not_not, Int.not_lt, Int.not_le, zK0, zK1, zK2, zK3, zK5, zK7, zK8, zK9, zK10, zK19, zK20, zK40, zK99, zK100, zK199] at q7) | skip
      exact (q7 trivial).elim
    · skip
      first | (simp only [cmp_lt, cmp_gt, cmp_eq, zN_cge, zN_cle, Decidable.not_not] at q7) | (simp (disch := omega) only [zN_le, zN_lt, zN_0, zN_1, nI_toInt, zN_eq, zN_eq0, b2_z, b2_nz, Decidable.not_not, Int.not_lt, Int.not_le, zK0, zK1, zK2, zK3, zK5, zK7, zK8, zK9, zK10, zK19, zK20, zK40, zK99, zK100, zK199] at q7) | skip
      refine x_iconst (v := nI 0) dX12_goesAll_10 rfl ?_
      refine x_is3 rfl dX12_goesAll_11 ?_
      refine x_for (e := d) (fun i => [some (.ref 59), some (.int (nI d)), some (.int (nI (usd d r d))), some (.int (nI i))]) (fun i h => ∃ M', MW h0 h s M' L ∧ (∀ i, i ≠ 64 → M' i = M i) ∧ (∀ t, t < 6 * r → M' 64 t = M 64 t) ∧ ∀ dd, dd < i → M' 64 (6 * r + dd) = nI (nm d r dd)) 0 (by omega) ⟨M, W, fun _ _ => rfl, fun _ _ => rfl, fun dd hdd => absurd hdd (Nat.not_lt_zero _)⟩ (fun h hI => ?_) (fun i h hi hI ih => ?_)
      · obtain ⟨M', W, u1, u2, u3⟩ := hI
        refine x_il3 dX12_goesAll_12 ?_
        refine x_il1 dX12_goesAll_13 ?_
        refine x_icmp_ge (tgt := 43) dX12_goesAll_14 rfl (fun q14 => ?_) (fun q14 => ?_)
        · skip
          first | (simp only [cmp_lt, cmp_gt, cmp_eq, zN_cge, zN_cle, Decidable.not_not] at q14) | (simp (disch := omega) only [zN_le, zN_lt, zN_0, zN_1, nI_toInt, zN_eq, zN_eq0, b2_z, b2_nz, Decidable.not_not, Int.not_lt, Int.not_le, zK0, zK1, zK2, zK3, zK5, zK7, zK8, zK9, zK10, zK19, zK20, zK40, zK99, zK100, zK199] at q14) | skip
          refine x_al0 rfl dX12_goesAll_43 ?_
          refine x_dup rfl dX12_goesAll_44 ?_
          refine x_gm fdX12_223 W.hM (by decide) (h17) dX12_goesAll_45 ?_
          refine x_iconst (v := nI 1) dX12_goesAll_48 rfl ?_
          first | refine x_iadd (nI_add _ _) dX12_goesAll_49 ?_ | refine x_iadd rfl dX12_goesAll_49 ?_
          refine x_mpf W fdX12_223 (by decide) rfl zf_i dX12_goesAll_50 (fun h W => ?_)
          refine x_vret rfl dX12_goesAll_53 ⟨rfl, _, M', W, rfl, fun i hi => if_neg hi, fun i x _ => u1 i x, fun q q1 q2 dd hdd => ?_, u2, fun i _ => by rw [u1 65 (by decide)]⟩
          have e : q = r := by omega
          rw [e]
          exact u3 dd hdd
        · skip
          first | (simp only [cmp_lt, cmp_gt, cmp_eq, zN_cge, zN_cle, Decidable.not_not] at q14) | (simp (disch := omega) only [zN_le, zN_lt, zN_0, zN_1, nI_toInt, zN_eq, zN_eq0, b2_z, b2_nz, Decidable.not_not, Int.not_lt, Int.not_le, zK0, zK1, zK2, zK3, zK5, zK7, zK8, zK9, zK10, zK19, zK20, zK40, zK99, zK100, zK199] at q14) | skip
          omega
      · obtain ⟨M', W, u1, u2, u3⟩ := hI
        refine x_il3 dX12_goesAll_12 ?_
        refine x_il1 dX12_goesAll_13 ?_
        refine x_icmp_ge (tgt := 43) dX12_goesAll_14 rfl (fun q14 => ?_) (fun q14 => ?_)
        · skip
          first | (simp only [cmp_lt, cmp_gt, cmp_eq, zN_cge, zN_cle, Decidable.not_not] at q14) | (simp (disch := omega) only [zN_le, zN_lt, zN_0, zN_1, nI_toInt, zN_eq, zN_eq0, b2_z, b2_nz, Decidable.not_not, Int.not_lt, Int.not_le, zK0, zK1, zK2, zK3, zK5, zK7, zK8, zK9, zK10, zK19, zK20, zK40, zK99, zK100, zK199] at q14) | skip
          omega
        · skip
          first | (simp only [cmp_lt, cmp_gt, cmp_eq, zN_cge, zN_cle, Decidable.not_not] at q14) | (simp (disch := omega) only [zN_le, zN_lt, zN_0, zN_1, nI_toInt, zN_eq, zN_eq0, b2_z, b2_nz, Decidable.not_not, Int.not_lt, Int.not_le, zK0, zK1, zK2, zK3, zK5, zK7, zK8, zK9, zK10, zK19, zK20, zK40, zK99, zK100, zK199] at q14) | skip
          refine x_al0 rfl dX12_goesAll_17 ?_
          refine x_gm fdX12_30 W.hM (by decide) W.hF.f15 dX12_goesAll_18 ?_
          refine x_bipush (v := nI 6) dX12_goesAll_21 rfl ?_
          refine x_al0 rfl dX12_goesAll_23 ?_
          refine x_gm fdX12_223 W.hM (by decide) (h17) dX12_goesAll_24 ?_
          first | refine x_imul (pk_mul _ _) dX12_goesAll_27 ?_ | refine x_imul rfl dX12_goesAll_27 ?_
          refine x_il3 dX12_goesAll_28 ?_
          first | refine x_iadd (nI_add _ _) dX12_goesAll_29 ?_ | refine x_iadd rfl dX12_goesAll_29 ?_
          refine x_al0 rfl dX12_goesAll_30 ?_
          refine x_gm fdX12_33 W.hM (by decide) W.hF.f16 dX12_goesAll_31 ?_
          refine x_il3 dX12_goesAll_34 ?_
          refine x_mld (len := 6) W rfl rfl (by decide) (by omega) (show M' 65 i = nI (nm d r i) by rw [u1 65 (by decide)]; exact hly i hi) dX12_goesAll_35 ?_
          refine x_mst (len := 4320) W rfl rfl (by decide) (by omega) dX12_goesAll_36 (fun h W => ?_)
          first | refine x_ii3 rfl (nI_1 _) dX12_goesAll_37 ?_ | refine x_ii3 rfl rfl dX12_goesAll_37 ?_
          refine x_goto (tgt := 12) dX12_goesAll_40 rfl ?_
          refine ih _ ⟨_, W, fun j hj => (upM_ne hj).trans (u1 j hj), fun t ht => ?_, fun dd hdd => ?_⟩
          · rw [upM_eq, pk_un (by omega)]; exact u2 t ht
          · rw [upM_eq]
            by_cases z : dd = i
            · rw [z, pk_us]
            · rw [pk_un (by omega)]; exact u3 dd (by omega)
  | succ k ih0 =>
    intro d r h s M hd hr W e1 h17 hly
    have hk5 : k < 6 := by omega
    have dn : d < n := by omega
    have G := ga_f (r := r) hn dn (by rw [show n - d = k + 1 by omega]; exact hr)
    rw [show n - d = k + 1 by omega, show k + 1 - 1 = k by omega] at G
    obtain ⟨g1, g2, g3⟩ := G
    have fk := fct_s hk5
    show Zw g (D + (k + 1)) 0 0 mX12_goesAll 0 [some (.ref 59), some (.int (nI d)), some (.int (nI (usd n (r * fct (k + 1)) d))), none] [] h _
    generalize hu : usd n (r * fct (k + 1)) d = u at g1 g2 g3 ⊢
    refine x_il1 dX12_goesAll_0 ?_
    refine x_al0 rfl dX12_goesAll_1 ?_
    refine x_gm fdX12_13 W.hM (by decide) W.hF.f1 dX12_goesAll_2 ?_
    refine x_iconst (v := nI 1) dX12_goesAll_5 rfl ?_
    refine x_mld (len := 2868) W rfl rfl (by decide) (by omega) e1 dX12_goesAll_6 ?_
    refine x_icmp_ne (tgt := 54) dX12_goesAll_7 rfl (fun q7 => ?_) (fun q7 => ?_)
    · skip
      first | (simp only [cmp_lt, cmp_gt, cmp_eq, zN_cge, zN_cle, Decidable.not_not] at q7) | (simp (disch := omega) only [zN_le, zN_lt, zN_0, zN_1, nI_toInt, zN_eq, zN_eq0, b2_z, b2_nz, Decidable.not_not, Int.not_lt, Int.not_le, zK0, zK1, zK2, zK3, zK5, zK7, zK8, zK9, zK10, zK19, zK20, zK40, zK99, zK100, zK199] at q7) | skip
      refine x_iconst (v := nI 0) dX12_goesAll_54 rfl ?_
      refine x_is3 rfl dX12_goesAll_55 ?_
      refine x_wh (fun (j : Nat) => [some (.ref 59), some (.int (nI d)), some (.int (nI u)), some (.int (nI j))]) (fun j h => j ≤ n ∧ ∃ s' M', MW h0 h s' M' L ∧ GaP s s' M M' n d (r * fct (k + 1)) ((r * (k + 1) + cun u j) * fct k)) (fun j => n - j) 0 ⟨Nat.zero_le _, s, M, W, ?_⟩ (fun j h hI ih => ?_)
      · rw [show (r * (k + 1) + cun u 0) * fct k = r * fct (k + 1) by show (r * (k + 1) + 0) * fct k = _; rw [Nat.add_zero (r * (k + 1)), Nat.mul_assoc, ← fk]]
        exact ⟨h17, fun _ _ => rfl, fun _ _ _ => rfl, fun q q1 q2 => by omega, fun _ _ => rfl, fun _ _ => rfl⟩
      · obtain ⟨hj, s', M', W, P⟩ := hI
        have e1' : M' 60 1 = nI n := by rw [P.2.2.1 60 (by decide) (by decide)]; exact e1
        refine x_il3 dX12_goesAll_56 ?_
        refine x_al0 rfl dX12_goesAll_57 ?_
        refine x_gm fdX12_13 W.hM (by decide) W.hF.f1 dX12_goesAll_58 ?_
        refine x_iconst (v := nI 1) dX12_goesAll_61 rfl ?_
        refine x_mld (len := 2868) W rfl rfl (by decide) (by omega) e1' dX12_goesAll_62 ?_
        refine x_icmp_ge (tgt := 103) dX12_goesAll_63 rfl (fun q63 => ?_) (fun q63 => ?_)
        · skip
          first | (simp only [cmp_lt, cmp_gt, cmp_eq, zN_cge, zN_cle, Decidable.not_not] at q63) | (simp (disch := omega) only [zN_le, zN_lt, zN_0, zN_1, nI_toInt, zN_eq, zN_eq0, b2_z, b2_nz, Decidable.not_not, Int.not_lt, Int.not_le, zK0, zK1, zK2, zK3, zK5, zK7, zK8, zK9, zK10, zK19, zK20, zK40, zK99, zK100, zK199] at q63) | skip
          have j9 : j = n := by omega
          subst j9
          rw [g1, ← Nat.succ_mul, Nat.mul_assoc, ← fk, Nat.succ_mul] at P
          exact x_vret rfl dX12_goesAll_103 ⟨rfl, s', M', W, P⟩
        · skip
          first | (simp only [cmp_lt, cmp_gt, cmp_eq, zN_cge, zN_cle, Decidable.not_not] at q63) | (simp (disch := omega) only [zN_le, zN_lt, zN_0, zN_1, nI_toInt, zN_eq, zN_eq0, b2_z, b2_nz, Decidable.not_not, Int.not_lt, Int.not_le, zK0, zK1, zK2, zK3, zK5, zK7, zK8, zK9, zK10, zK19, zK20, zK40, zK99, zK100, zK199] at q63) | skip
          have jl : j < n := by omega
          refine x_il2 dX12_goesAll_66 ?_
          refine x_i2l (nI_l (by omega)) dX12_goesAll_67 ?_
          refine x_il3 dX12_goesAll_68 ?_
          refine x_cs2I mX12_isIn_ok lkX12_230 (Nat.le_of_ble_eq_true rfl) (Nat.le_of_ble_eq_true rfl) dX12_goesAll_69 (m_isIn g2 (by omega)) ?_
          refine x_if_eq (tgt := 78) dX12_goesAll_72 rfl (fun q72 => ?_) (fun q72 => ?_)
          · skip
            first | (simp only [cmp_lt, cmp_gt, cmp_eq, zN_cge, zN_cle, Decidable.not_not] at q72) | (simp (disch := omega) only [zN_le, zN_lt, zN_0, zN_1, nI_toInt, zN_eq, zN_eq0, b2_z, b2_nz, Decidable.not_not, Int.not_lt, Int.not_le, zK0, zK1, zK2, zK3, zK5, zK7, zK8, zK9, zK10, zK19, zK20, zK40, zK99, zK100, zK199] at q72) | skip
            obtain ⟨b1, b2, b3⟩ := g3 j jl q72
            refine x_al0 rfl dX12_goesAll_78 ?_
            refine x_gm fdX12_33 W.hM (by decide) W.hF.f16 dX12_goesAll_79 ?_
            refine x_il1 dX12_goesAll_82 ?_
            refine x_il3 dX12_goesAll_83 ?_
            refine x_mst (len := 6) W rfl rfl (by decide) (by omega) dX12_goesAll_84 (fun h W => ?_)
            refine x_al0 rfl dX12_goesAll_85 ?_
            refine x_il1 dX12_goesAll_86 ?_
            refine x_iconst (v := nI 1) dX12_goesAll_87 rfl ?_
            first | refine x_iadd (nI_add _ _) dX12_goesAll_88 ?_ | refine x_iadd rfl dX12_goesAll_88 ?_
            refine x_il2 dX12_goesAll_89 ?_
            refine x_iconst (v := nI 1) dX12_goesAll_90 rfl ?_
            refine x_il3 dX12_goesAll_91 ?_
            refine x_ishl (shl1 (by omega)) dX12_goesAll_92 ?_
            refine x_ior (or_n _ _) dX12_goesAll_93 ?_
            have hl : ∀ i, i < d + 1 → upM M' 65 (upd (M' 65) d (nI j)) 65 i = nI (nm n ((r * (k + 1) + cun u j) * fct k) i) := fun i hi => by
              rw [upM_eq]
              by_cases z : i = d
              · rw [z, pk_us, b2]
              · rw [pk_un z, P.2.2.2.2.2 i (by omega), hly i (by omega), b3 i (by omega)]
            have c := ih0 (d + 1) (r * (k + 1) + cun u j) _ s' _ (by omega) b1 W (by rw [upM_ne (by decide)]; exact e1') P.1 hl
            rw [usd, usd_c d b3, hu, b2] at c
            refine x_cv2Vp mX12_goesAll_ok lkX12_226 rfl (Nat.le_of_ble_eq_true rfl) (Nat.le_of_ble_eq_true rfl) dX12_goesAll_94 W.hM c (fun h hq => ?_)
            obtain ⟨s2, M2, W, P2⟩ := hq
            first | refine x_ii3 rfl (nI_1 _) dX12_goesAll_97 ?_ | refine x_ii3 rfl rfl dX12_goesAll_97 ?_
            refine x_goto (tgt := 56) dX12_goesAll_100 rfl ?_
            have P1 : GaP s s' M (upM M' 65 (upd (M' 65) d (nI j))) n d (r * fct (k + 1)) ((r * (k + 1) + cun u j) * fct k) := ⟨P.1, P.2.1, fun i x y => (upM_ne y).trans (P.2.2.1 i x y), P.2.2.2.1, P.2.2.2.2.1, fun i hi => by rw [upM_eq, pk_un (by omega)]; exact P.2.2.2.2.2 i hi⟩
            have le : r * fct (k + 1) ≤ (r * (k + 1) + cun u j) * fct k := by rw [Nat.add_mul, Nat.mul_assoc, ← fk]; omega
            have P3 := P1.tr P2 le (by omega) hn
            refine ih (j + 1) _ (by omega) ⟨jl, s2, M2, W, ?_⟩
            rw [show cun u (j + 1) = cun u j + 1 by rw [cun, if_neg q72], ← Nat.add_assoc, Nat.succ_mul]
            exact P3
          · skip
            first | (simp only [cmp_lt, cmp_gt, cmp_eq, zN_cge, zN_cle, Decidable.not_not] at q72) | (simp (disch := omega) only [zN_le, zN_lt, zN_0, zN_1, nI_toInt, zN_eq, zN_eq0, b2_z, b2_nz, Decidable.not_not, Int.not_lt, Int.not_le, zK0, zK1, zK2, zK3, zK5, zK7, zK8, zK9, zK10, zK19, zK20, zK40, zK99, zK100, zK199] at q72) | skip
            refine x_goto (tgt := 97) dX12_goesAll_75 rfl ?_
            first | refine x_ii3 rfl (nI_1 _) dX12_goesAll_97 ?_ | refine x_ii3 rfl rfl dX12_goesAll_97 ?_
            refine x_goto (tgt := 56) dX12_goesAll_100 rfl ?_
            refine ih (j + 1) _ (by omega) ⟨jl, s', M', W, ?_⟩
            rw [show cun u (j + 1) = cun u j by rw [cun, if_pos q72, Nat.add_zero]]
            exact P
    · skip
      first | (simp only [cmp_lt, cmp_gt, cmp_eq, zN_cge, zN_cle, Decidable.not_not] at q7) | (simp (disch := omega) only [zN_le, zN_lt, zN_0, zN_1, nI_toInt, zN_eq, zN_eq0, b2_z, b2_nz, Decidable.not_not, Int.not_lt, Int.not_le, zK0, zK1, zK2, zK3, zK5, zK7, zK8, zK9, zK10, zK19, zK20, zK40, zK99, zK100, zK199] at q7) | skip
      omega
section ZLa
variable {g : zG} {d : Nat} {h0 h : zH} {s : Nat → Value} {M : Nat → Nat → Int32} {L : Nat → Nat → Int64}
theorem j_laysAll {n : Nat} (hn0 : 0 < n) (hn : n ≤ 6) (W : MW h0 h s M L) (e1 : M 60 1 = nI n) : Zm g (d + 7) 0 0 mX12_laysAll [.ref 59] h (rVp (fun h' => ∃ s' M', MW h0 h' s' M' L ∧ s' 17 = .int (nI (fct n)) ∧ (∀ i, i ≠ 17 → s' i = s i) ∧ (∀ i, i ≠ 64 → i ≠ 65 → M' i = M i) ∧ MTb M' n)) := by
  show Zw g (d + 7) 0 0 mX12_laysAll 0 [some (.ref 59)] [] h _
  refine x_al0 rfl dX12_laysAll_0 ?_
  refine x_iconst (v := nI 0) dX12_laysAll_1 rfl ?_
  refine x_mpf W fdX12_223 (by decide) rfl zf_i dX12_laysAll_2 (fun h W => ?_)
  refine x_al0 rfl dX12_laysAll_5 ?_
  refine x_iconst (v := nI 0) dX12_laysAll_6 rfl ?_
  refine x_iconst (v := nI 0) dX12_laysAll_7 rfl ?_
  have c := (j_goesAll (g := g) (D := 0) hn0 hn n 0 0 _ _ M (by omega) (by rw [Nat.zero_mul]; exact fct_pos n) W e1 (by rw [Nat.zero_mul]; rfl) (fun i hi => absurd hi (Nat.not_lt_zero _))).deep (show 0 + n ≤ d + 6 by omega)
  refine x_cv2Vp mX12_goesAll_ok lkX12_226 rfl (Nat.le_of_ble_eq_true rfl) (Nat.le_of_ble_eq_true rfl) dX12_laysAll_8 W.hM c (fun h hq => ?_)
  obtain ⟨s2, M2, W, P⟩ := hq
  rw [Nat.zero_mul, Nat.zero_add] at P
  exact x_vret rfl dX12_laysAll_11 ⟨rfl, s2, M2, W, P.1, fun i hi => (P.2.1 i hi).trans (if_neg hi), P.2.2.1, fun q hq dd hdd => P.2.2.2.1 q (Nat.zero_le _) hq dd hdd⟩
end ZLa
end ZGo

