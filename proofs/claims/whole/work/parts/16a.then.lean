/-! the model's laysThen -/
def pq (n d e : Nat) : Nat := d * n - d * (d + 1) / 2 + (e - (d + 1))
theorem pq_A' : ∀ n, n < 7 → ∀ d, d < n → ∀ e, e < n → (!(decide (d < e)) || decide (pr1 n (pq n d e) = d ∧ pr2 n (pq n d e) = e ∧ pq n d e < np n ∧ pq n d (e + 1) = pq n d e + 1)) = true := by decide +kernel
theorem pq_A (n : Nat) (hn : n < 7) (d : Nat) (hd : d < n) (e : Nat) (he : e < n) (h : d < e) : pr1 n (pq n d e) = d ∧ pr2 n (pq n d e) = e ∧ pq n d e < np n ∧ pq n d (e + 1) = pq n d e + 1 := by
  have z := pq_A' n hn d hd e he
  rw [decide_eq_true h] at z
  exact of_decide_eq_true z
theorem pq_B : ∀ n, n < 7 → ∀ d, d < n → pq n (d + 1) (d + 2) = pq n d n := by decide +kernel
theorem pq_D : ∀ n, n < 7 → 0 < n → pq n n (n + 1) = np n ∧ pq n 0 1 = 0 := by decide +kernel
theorem swp_lt {n s k : Nat} (h0 : 0 < n) (hn : n ≤ 6) (hs : s < fct n) (hk : k < np n) : swp n s k < fct n := by
  have p := pr_lt hn hk
  exact (sw1_row h0 hn hs (by omega) p.2).1
theorem swk_comm {d e i : Nat} : swk d e (swk d e i) = i := swk_swk
theorem swp_swp {n s k : Nat} (h0 : 0 < n) (hn : n ≤ 6) (hs : s < fct n) (hk : k < np n) : swp n (swp n s k) k = s := by
  have p := pr_lt hn hk
  have a := sw1_row h0 hn hs (show pr1 n k < n by omega) p.2
  have b := sw1_row h0 hn a.1 (show pr1 n k < n by omega) p.2
  refine row_ext hn b.1 hs (fun i hi => ?_)
  show nm n (sw1 n (sw1 n s (pr1 n k) (pr2 n k)) (pr1 n k) (pr2 n k)) i = _
  rw [b.2 i hi, a.2 _ (swk_lt (by omega) p.2 hi), swk_swk]
section ZTh
variable {g : zG} {d : Nat} {h0 h : zH} {s : Nat → Value} {M : Nat → Nat → Int32} {L : Nat → Nat → Int64} {dk : zDk} {st : zSt} {un : List zSt} {tp : List Nat} {tr : Nat → zTr} {pi : Nat → zPi} {fl : Nat × Nat}
/-- the table of swaps stands -/
def ThP (s : Nat → Value) (M : Nat → Nat → Int32) (dk : zDk) (st : zSt) : Prop := (∀ q, q < fct dk.1 → M 72 q = nI (mskK dk q st.2.1)) ∧ s 32 = .int (nI (np dk.1)) ∧ (∀ k, k < np dk.1 → M 71 k = nI (10 * pr1 dk.1 k + pr2 dk.1 k)) ∧ ∀ q, q < fct dk.1 → ∀ k, k < np dk.1 → M 73 (15 * q + k) = nI (swp dk.1 q k)
theorem j_laysThen (W : MW h0 h s M L) (J : MJ s M L dk st un tp tr pi fl) : Zm g (d + 5) 0 0 mX12_laysThen [.ref 59] h (rVp (fun h' => ∃ s' M' L', MW h0 h' s' M' L' ∧ MJ s' M' L' dk st un tp tr pi fl ∧ Un [21, 22, 32] [65, 66, 67, 68, 71, 72, 73] [] s s' M M' L L' ∧ ThP s' M' dk st)) := by
  obtain ⟨D, hn0, hn6, ho0, ho9, hng, hli, e0, e1, e2, m1, m2, m3, m4, m5, u1, u2, t1, t2, r1, hf⟩ := MJ.o J
  have n7 : dk.1 < 7 := by omega
  have npl := np_le hn6
  show Zw g (d + 5) 0 0 mX12_laysThen 0 [some (.ref 59), none, none] [] h _
  refine x_al0 rfl dX12_laysThen_0 ?_
  refine x_cv0Vp mX12_laysLet_ok lkX12_355 rfl (Nat.le_of_ble_eq_true rfl) (Nat.le_of_ble_eq_true rfl) dX12_laysThen_1 W.hM  (j_laysLet W J) (fun h hq => ?_)
  obtain ⟨s1, M1, L1, W, J, U, hlet⟩ := hq
  obtain ⟨D, hn0, hn6, ho0, ho9, hng, hli, e0, e1, e2, m1, m2, m3, m4, m5, u1, u2, t1, t2, r1, hf⟩ := MJ.o J
  refine x_al0 rfl dX12_laysThen_4 ?_
  refine x_iconst (v := nI 0) dX12_laysThen_5 rfl ?_
  refine x_mpfJ W J fdX12_358 (by decide) rfl rfl zf_i dX12_laysThen_6 (fun h W J => ?_)
  refine x_iconst (v := nI 0) dX12_laysThen_9 rfl ?_
  refine x_is1 rfl dX12_laysThen_10 ?_
  refine x_wh (fun (a : Nat × Option Value) => [some (.ref 59), some (.int (nI a.1)), a.2]) (fun a h => a.1 ≤ dk.1 ∧ ∃ s' M', MW h0 h s' M' L1 ∧ MJ s' M' L1 dk st un tp tr pi fl ∧ Un [21, 22, 32] [65, 66, 67, 68, 71, 72, 73] [] s s' M M' L L1 ∧ (∀ q, q < fct dk.1 → M' 72 q = nI (mskK dk q st.2.1)) ∧ s' 32 = .int (nI (pq dk.1 a.1 (a.1 + 1))) ∧ ∀ k, k < pq dk.1 a.1 (a.1 + 1) → M' 71 k = nI (10 * pr1 dk.1 k + pr2 dk.1 k)) (fun a => dk.1 - a.1) (0, none) ⟨Nat.zero_le _, _, _, W, J, (U.mono (by simp) (by simp) (by simp)).fs (by simp), hlet, by rw [(pq_D _ n7 hn0).2]; rfl, fun k hk => by rw [(pq_D _ n7 hn0).2] at hk; exact absurd hk (Nat.not_lt_zero _)⟩ (fun a h hI ih => ?_)
  obtain ⟨i, lv⟩ := a
  obtain ⟨hi, s2, M2, W, J, U, hlet, hsm, hso⟩ := hI
  simp only at hi hsm hso
  dsimp only
  obtain ⟨D, hn0, hn6, ho0, ho9, hng, hli, e0, e1, e2, m1, m2, m3, m4, m5, u1, u2, t1, t2, r1, hf⟩ := MJ.o J
  refine x_il1 dX12_laysThen_11 ?_
  refine x_al0 rfl dX12_laysThen_12 ?_
  refine x_gm fdX12_13 W.hM (by decide) W.hF.f1 dX12_laysThen_13 ?_
  refine x_iconst (v := nI 1) dX12_laysThen_16 rfl ?_
  refine x_mld (len := 2868) W rfl rfl (by decide) (by omega) (by first | assumption | rfl) dX12_laysThen_17 ?_
  refine x_icmp_ge (tgt := 72) dX12_laysThen_18 rfl (fun q18 => ?_) (fun q18 => ?_)
  · skip
    first | (simp only [cmp_lt, cmp_gt, cmp_eq, zN_cge, zN_cle, Decidable.not_not] at q18) | (simp (disch := omega) only [zN_le, zN_lt, zN_0, zN_1, nI_toInt, zN_eq, zN_eq0, b2_z, b2_nz, Decidable.not_not, Int.not_lt, Int.not_le, zK0, zK1, zK2, zK3, zK5, zK7, zK8, zK9, zK10, zK19, zK20, zK40, zK99, zK100, zK199] at q18) | skip
    refine x_iconst (v := nI 0) dX12_laysThen_72 rfl ?_
    refine x_is1 rfl dX12_laysThen_73 ?_
    have i9 : i = dk.1 := by omega
    subst i9
    rw [(pq_D _ n7 hn0).1] at hsm hso
    refine x_wh (fun (a : Nat × Option Value) => [some (.ref 59), some (.int (nI a.1)), a.2]) (fun a h => a.1 ≤ fct dk.1 ∧ ∃ s' M' L', MW h0 h s' M' L' ∧ MJ s' M' L' dk st un tp tr pi fl ∧ Un [21, 22, 32] [65, 66, 67, 68, 71, 72, 73] [] s s' M M' L L' ∧ (∀ q, q < fct dk.1 → M' 72 q = nI (mskK dk q st.2.1)) ∧ s' 32 = .int (nI (np dk.1)) ∧ (∀ k, k < np dk.1 → M' 71 k = nI (10 * pr1 dk.1 k + pr2 dk.1 k)) ∧ ∀ q, q < a.1 → ∀ k, k < np dk.1 → M' 73 (15 * q + k) = nI (swp dk.1 q k)) (fun a => fct dk.1 - a.1) (0, lv) ⟨Nat.zero_le _, _, _, _, W, J, U, hlet, hsm, hso, fun q hq => absurd hq (Nat.not_lt_zero _)⟩ (fun a h hI ih3 => ?_)
    obtain ⟨q0, lv2⟩ := a
    obtain ⟨hq0, s2, M2, L2, W, J, U, hlet, hsm, hso, hth⟩ := hI
    simp only at hq0 hth
    dsimp only
    obtain ⟨D, hn0, hn6, ho0, ho9, hng, hli, e0, e1, e2, m1, m2, m3, m4, m5, u1, u2, t1, t2, r1, hf⟩ := MJ.o J
    refine x_il1 dX12_laysThen_74 ?_
    refine x_al0 rfl dX12_laysThen_75 ?_
    refine x_gm fdX12_223 W.hM (by decide) (by first | assumption | rfl) dX12_laysThen_76 ?_
    refine x_icmp_ge (tgt := 138) dX12_laysThen_79 rfl (fun q79 => ?_) (fun q79 => ?_)
    · skip
      first | (simp only [cmp_lt, cmp_gt, cmp_eq, zN_cge, zN_cle, Decidable.not_not] at q79) | (simp (disch := omega) only [zN_le, zN_lt, zN_0, zN_1, nI_toInt, zN_eq, zN_eq0, b2_z, b2_nz, Decidable.not_not, Int.not_lt, Int.not_le, zK0, zK1, zK2, zK3, zK5, zK7, zK8, zK9, zK10, zK19, zK20, zK40, zK99, zK100, zK199] at q79) | skip
      have q9 : q0 = fct dk.1 := by omega
      subst q9
      exact x_vret rfl dX12_laysThen_138 ⟨rfl, _, _, _, W, J, U, hlet, hsm, hso, hth⟩
    · skip
      first | (simp only [cmp_lt, cmp_gt, cmp_eq, zN_cge, zN_cle, Decidable.not_not] at q79) | (simp (disch := omega) only [zN_le, zN_lt, zN_0, zN_1, nI_toInt, zN_eq, zN_eq0, b2_z, b2_nz, Decidable.not_not, Int.not_lt, Int.not_le, zK0, zK1, zK2, zK3, zK5, zK7, zK8, zK9, zK10, zK19, zK20, zK40, zK99, zK100, zK199] at q79) | skip
      refine x_iconst (v := nI 0) dX12_laysThen_82 rfl ?_
      refine x_is2 rfl dX12_laysThen_83 ?_
      have ql : q0 < fct dk.1 := by omega
      refine x_for (e := np dk.1) (fun k => [some (.ref 59), some (.int (nI q0)), some (.int (nI k))]) (fun k h => ∃ s' M' L', MW h0 h s' M' L' ∧ MJ s' M' L' dk st un tp tr pi fl ∧ Un [21, 22, 32] [65, 66, 67, 68, 71, 72, 73] [] s s' M M' L L' ∧ (∀ q, q < fct dk.1 → M' 72 q = nI (mskK dk q st.2.1)) ∧ s' 32 = .int (nI (np dk.1)) ∧ (∀ k, k < np dk.1 → M' 71 k = nI (10 * pr1 dk.1 k + pr2 dk.1 k)) ∧ (∀ q, q < q0 → ∀ k, k < np dk.1 → M' 73 (15 * q + k) = nI (swp dk.1 q k)) ∧ ∀ j, j < k → M' 73 (15 * q0 + j) = nI (swp dk.1 q0 j)) 0 (by omega) ⟨_, _, _, W, J, U, hlet, hsm, hso, hth, fun j hj => absurd hj (Nat.not_lt_zero _)⟩ (fun h hI => ?_) (fun k h hk hI ih4 => ?_)
      · obtain ⟨s2, M2, L2, W, J, U, hlet, hsm, hso, hth, hj⟩ := hI
        obtain ⟨D, hn0, hn6, ho0, ho9, hng, hli, e0, e1, e2, m1, m2, m3, m4, m5, u1, u2, t1, t2, r1, hf⟩ := MJ.o J
        refine x_il2 dX12_laysThen_84 ?_
        refine x_al0 rfl dX12_laysThen_85 ?_
        refine x_gm fdX12_358 W.hM (by decide) (hsm) dX12_laysThen_86 ?_
        refine x_icmp_ge (tgt := 132) dX12_laysThen_89 rfl (fun q89 => ?_) (fun q89 => ?_)
        · skip
          first | (simp only [cmp_lt, cmp_gt, cmp_eq, zN_cge, zN_cle, Decidable.not_not] at q89) | (simp (disch := omega) only [zN_le, zN_lt, zN_0, zN_1, nI_toInt, zN_eq, zN_eq0, b2_z, b2_nz, Decidable.not_not, Int.not_lt, Int.not_le, zK0, zK1, zK2, zK3, zK5, zK7, zK8, zK9, zK10, zK19, zK20, zK40, zK99, zK100, zK199] at q89) | skip
          first | refine x_ii1 rfl (nI_1 _) dX12_laysThen_132 ?_ | refine x_ii1 rfl rfl dX12_laysThen_132 ?_
          refine x_goto (tgt := 74) dX12_laysThen_135 rfl ?_
          refine ih3 (q0 + 1, _) _ (by simp only; omega) ⟨ql, _, _, _, W, J, U, hlet, hsm, hso, fun q hq k hk => ?_⟩
          by_cases z : q = q0
          · rw [z]; exact hj k hk
          · exact hth q (by simp only at hq; omega) k hk
        · skip
          first | (simp only [cmp_lt, cmp_gt, cmp_eq, zN_cge, zN_cle, Decidable.not_not] at q89) | (simp (disch := omega) only [zN_le, zN_lt, zN_0, zN_1, nI_toInt, zN_eq, zN_eq0, b2_z, b2_nz, Decidable.not_not, Int.not_lt, Int.not_le, zK0, zK1, zK2, zK3, zK5, zK7, zK8, zK9, zK10, zK19, zK20, zK40, zK99, zK100, zK199] at q89) | skip
          omega
      · obtain ⟨s2, M2, L2, W, J, U, hlet, hsm, hso, hth, hj⟩ := hI
        obtain ⟨D, hn0, hn6, ho0, ho9, hng, hli, e0, e1, e2, m1, m2, m3, m4, m5, u1, u2, t1, t2, r1, hf⟩ := MJ.o J
        have p := pr_lt hn6 hk
        refine x_il2 dX12_laysThen_84 ?_
        refine x_al0 rfl dX12_laysThen_85 ?_
        refine x_gm fdX12_358 W.hM (by decide) (hsm) dX12_laysThen_86 ?_
        refine x_icmp_ge (tgt := 132) dX12_laysThen_89 rfl (fun q89 => ?_) (fun q89 => ?_)
        · skip
          first | (simp only [cmp_lt, cmp_gt, cmp_eq, zN_cge, zN_cle, Decidable.not_not] at q89) | (simp (disch := omega) only [zN_le, zN_lt, zN_0, zN_1, nI_toInt, zN_eq, zN_eq0, b2_z, b2_nz, Decidable.not_not, Int.not_lt, Int.not_le, zK0, zK1, zK2, zK3, zK5, zK7, zK8, zK9, zK10, zK19, zK20, zK40, zK99, zK100, zK199] at q89) | skip
          omega
        · skip
          first | (simp only [cmp_lt, cmp_gt, cmp_eq, zN_cge, zN_cle, Decidable.not_not] at q89) | (simp (disch := omega) only [zN_le, zN_lt, zN_0, zN_1, nI_toInt, zN_eq, zN_eq0, b2_z, b2_nz, Decidable.not_not, Int.not_lt, Int.not_le, zK0, zK1, zK2, zK3, zK5, zK7, zK8, zK9, zK10, zK19, zK20, zK40, zK99, zK100, zK199] at q89) | skip
          refine x_al0 rfl dX12_laysThen_92 ?_
          refine x_gm fdX12_58 W.hM (by decide) W.hF.f29 dX12_laysThen_93 ?_
          refine x_bipush (v := nI 15) dX12_laysThen_96 rfl ?_
          refine x_il1 dX12_laysThen_98 ?_
          first | refine x_imul (pk_mul _ _) dX12_laysThen_99 ?_ | refine x_imul rfl dX12_laysThen_99 ?_
          refine x_il2 dX12_laysThen_100 ?_
          first | refine x_iadd (nI_add _ _) dX12_laysThen_101 ?_ | refine x_iadd rfl dX12_laysThen_101 ?_
          refine x_al0 rfl dX12_laysThen_102 ?_
          refine x_il1 dX12_laysThen_103 ?_
          refine x_al0 rfl dX12_laysThen_104 ?_
          refine x_gm fdX12_52 W.hM (by decide) W.hF.f27 dX12_laysThen_105 ?_
          refine x_il2 dX12_laysThen_108 ?_
          refine x_mld (len := 15) W rfl rfl (by decide) (by omega) (hso k hk) dX12_laysThen_109 ?_
          refine x_bipush (v := nI 10) dX12_laysThen_110 rfl ?_
          refine x_idiv (by decide) (pk_div (by omega) (by decide) (by decide)) dX12_laysThen_112 ?_
          refine x_al0 rfl dX12_laysThen_113 ?_
          refine x_gm fdX12_52 W.hM (by decide) W.hF.f27 dX12_laysThen_114 ?_
          refine x_il2 dX12_laysThen_117 ?_
          refine x_mld (len := 15) W rfl rfl (by decide) (by omega) (hso k hk) dX12_laysThen_118 ?_
          refine x_bipush (v := nI 10) dX12_laysThen_119 rfl ?_
          refine x_irem (by decide) (pk_rem (by omega) (by decide) (by decide)) dX12_laysThen_121 ?_
          rw [show (10 * pr1 dk.1 k + pr2 dk.1 k) / 10 = pr1 dk.1 k by omega, show (10 * pr1 dk.1 k + pr2 dk.1 k) % 10 = pr2 dk.1 k by omega]
          refine x_cv3Ip mX12_swapTo_ok lkX12_278 rfl (Nat.le_of_ble_eq_true rfl) (Nat.le_of_ble_eq_true rfl) dX12_laysThen_122 W.hM  (j_swapTo W J ql (by omega) p.2) (fun r h hq => ?_)
          obtain ⟨rfl, s3, M3', L3, W, J, U3⟩ := hq
          have e73 := U3.2.1 73 (by simp)
          refine x_mstJ (len := 10800) W J rfl rfl (by decide) rfl (by omega) dX12_laysThen_125 (fun h W J => ?_)
          first | refine x_ii2 rfl (nI_1 _) dX12_laysThen_126 ?_ | refine x_ii2 rfl rfl dX12_laysThen_126 ?_
          refine x_goto (tgt := 84) dX12_laysThen_129 rfl ?_
          refine ih4 _ ⟨_, _, _, W, J, (U.tr (U3.mono (by simp) (by simp) (by simp))).m (by simp), by rw [upM_ne (by decide), U3.2.1 72 (by simp)]; exact hlet, by rw [U3.1 32 (by simp)]; exact hsm, by rw [upM_ne (by decide), U3.2.1 71 (by simp)]; exact hso, fun q hq j hj' => ?_, fun j hj' => ?_⟩
          · rw [upM_eq, pk_un (by omega), e73]; exact hth q hq j hj'
          · rw [upM_eq]
            by_cases z : j = k
            · rw [z]; exact pk_us
            · rw [pk_un (by omega), e73]; exact hj j (by omega)
  · skip
    first | (simp only [cmp_lt, cmp_gt, cmp_eq, zN_cge, zN_cle, Decidable.not_not] at q18) | (simp (disch := omega) only [zN_le, zN_lt, zN_0, zN_1, nI_toInt, zN_eq, zN_eq0, b2_z, b2_nz, Decidable.not_not, Int.not_lt, Int.not_le, zK0, zK1, zK2, zK3, zK5, zK7, zK8, zK9, zK10, zK19, zK20, zK40, zK99, zK100, zK199] at q18) | skip
    refine x_il1 dX12_laysThen_21 ?_
    refine x_iconst (v := nI 1) dX12_laysThen_22 rfl ?_
    first | refine x_iadd (nI_add _ _) dX12_laysThen_23 ?_ | refine x_iadd rfl dX12_laysThen_23 ?_
    refine x_is2 rfl dX12_laysThen_24 ?_
    have il : i < dk.1 := by omega
    refine x_wh (fun (e : Nat) => [some (.ref 59), some (.int (nI i)), some (.int (nI e))]) (fun e h => i < e ∧ e ≤ dk.1 ∧ ∃ s' M', MW h0 h s' M' L1 ∧ MJ s' M' L1 dk st un tp tr pi fl ∧ Un [21, 22, 32] [65, 66, 67, 68, 71, 72, 73] [] s s' M M' L L1 ∧ (∀ q, q < fct dk.1 → M' 72 q = nI (mskK dk q st.2.1)) ∧ s' 32 = .int (nI (pq dk.1 i e)) ∧ ∀ k, k < pq dk.1 i e → M' 71 k = nI (10 * pr1 dk.1 k + pr2 dk.1 k)) (fun e => dk.1 - e) (i + 1) ⟨by omega, by omega, _, _, W, J, U, hlet, hsm, hso⟩ (fun e h hI ih2 => ?_)
    obtain ⟨hie, he, s2, M2, W, J, U, hlet, hsm, hso⟩ := hI
    obtain ⟨D, hn0, hn6, ho0, ho9, hng, hli, e0, e1, e2, m1, m2, m3, m4, m5, u1, u2, t1, t2, r1, hf⟩ := MJ.o J
    refine x_il2 dX12_laysThen_25 ?_
    refine x_al0 rfl dX12_laysThen_26 ?_
    refine x_gm fdX12_13 W.hM (by decide) W.hF.f1 dX12_laysThen_27 ?_
    refine x_iconst (v := nI 1) dX12_laysThen_30 rfl ?_
    refine x_mld (len := 2868) W rfl rfl (by decide) (by omega) (by first | assumption | rfl) dX12_laysThen_31 ?_
    refine x_icmp_ge (tgt := 66) dX12_laysThen_32 rfl (fun q32 => ?_) (fun q32 => ?_)
    · skip
      first | (simp only [cmp_lt, cmp_gt, cmp_eq, zN_cge, zN_cle, Decidable.not_not] at q32) | (simp (disch := omega) only [zN_le, zN_lt, zN_0, zN_1, nI_toInt, zN_eq, zN_eq0, b2_z, b2_nz, Decidable.not_not, Int.not_lt, Int.not_le, zK0, zK1, zK2, zK3, zK5, zK7, zK8, zK9, zK10, zK19, zK20, zK40, zK99, zK100, zK199] at q32) | skip
      have e9 : e = dk.1 := by omega
      subst e9
      rw [← pq_B _ n7 _ il] at hsm hso
      first | refine x_ii1 rfl (nI_1 _) dX12_laysThen_66 ?_ | refine x_ii1 rfl rfl dX12_laysThen_66 ?_
      refine x_goto (tgt := 11) dX12_laysThen_69 rfl ?_
      exact ih (i + 1, _) _ (by simp only; omega) ⟨il, _, _, W, J, U, hlet, hsm, hso⟩
    · skip
      first | (simp only [cmp_lt, cmp_gt, cmp_eq, zN_cge, zN_cle, Decidable.not_not] at q32) | (simp (disch := omega) only [zN_le, zN_lt, zN_0, zN_1, nI_toInt, zN_eq, zN_eq0, b2_z, b2_nz, Decidable.not_not, Int.not_lt, Int.not_le, zK0, zK1, zK2, zK3, zK5, zK7, zK8, zK9, zK10, zK19, zK20, zK40, zK99, zK100, zK199] at q32) | skip
      have A := pq_A _ n7 _ il _ (show e < dk.1 by omega) hie
      refine x_al0 rfl dX12_laysThen_35 ?_
      refine x_gm fdX12_52 W.hM (by decide) W.hF.f27 dX12_laysThen_36 ?_
      refine x_al0 rfl dX12_laysThen_39 ?_
      refine x_gm fdX12_358 W.hM (by decide) (hsm) dX12_laysThen_40 ?_
      refine x_bipush (v := nI 10) dX12_laysThen_43 rfl ?_
      refine x_il1 dX12_laysThen_45 ?_
      first | refine x_imul (pk_mul _ _) dX12_laysThen_46 ?_ | refine x_imul rfl dX12_laysThen_46 ?_
      refine x_il2 dX12_laysThen_47 ?_
      first | refine x_iadd (nI_add _ _) dX12_laysThen_48 ?_ | refine x_iadd rfl dX12_laysThen_48 ?_
      refine x_mstJ (len := 15) W J rfl rfl (by decide) rfl (by omega) dX12_laysThen_49 (fun h W J => ?_)
      refine x_al0 rfl dX12_laysThen_50 ?_
      refine x_dup rfl dX12_laysThen_51 ?_
      refine x_gm fdX12_358 W.hM (by decide) (hsm) dX12_laysThen_52 ?_
      refine x_iconst (v := nI 1) dX12_laysThen_55 rfl ?_
      first | refine x_iadd (nI_add _ _) dX12_laysThen_56 ?_ | refine x_iadd rfl dX12_laysThen_56 ?_
      refine x_mpfJ W J fdX12_358 (by decide) rfl rfl zf_i dX12_laysThen_57 (fun h W J => ?_)
      first | refine x_ii2 rfl (nI_1 _) dX12_laysThen_60 ?_ | refine x_ii2 rfl rfl dX12_laysThen_60 ?_
      refine x_goto (tgt := 25) dX12_laysThen_63 rfl ?_
      rw [← A.2.2.2] at W
      refine ih2 (e + 1) _ (by omega) ⟨by omega, by omega, _, _, W, ?_, (U.m (by simp)).fs (by simp), hlet, by rw [A.2.2.2]; rfl, fun k hk => ?_⟩
      · rw [A.2.2.2]; exact J
      · rw [A.2.2.2] at hk
        rw [upM_eq]
        by_cases z : k = pq dk.1 i e
        · rw [z, pk_us, A.1, A.2.1]
        · rw [pk_un z]; exact hso k (by omega)
end ZTh

