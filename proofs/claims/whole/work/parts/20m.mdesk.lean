/-! the model's readLine, plain, isWhole -/
def FD (F : Nat → Int32) (D : zDd) (li base : Nat) : Prop := F 0 = nI li ∧ F 1 = nI D.1 ∧ F 2 = nI D.2.1 ∧ MLb F 0 base D.2.2.2.2.2.1 ∧ MLb F 1 base D.2.2.2.2.2.2 ∧ (∀ i, i < 6 → F (9 + i) = nI (D.2.2.1 i)) ∧ (∀ i, i < 6 → F (15 + i) = nI (D.2.2.2.1 i)) ∧ F 22 = nI D.2.2.2.2.1 ∧ F 21 = nI 0 ∧ F 23 = nI 0 ∧ F 24 = nI 0
def QLn (X : zX) (h0 h : zH) (s : Nat → Value) (M : Nat → Nat → Int32) (L : Nat → Nat → Int64) (li : Nat) (S : Sum (Nat × Nat) (Nat × zDd)) : Prop := match S with
  | .inl e => ∃ s' M', MW h0 h s' M' L ∧ PW s s' M M' ∧ PE s' e
  | .inr q => ∃ s' M' base', MW h0 h s' M' L ∧ PW s s' M M' ∧ PO X s' M' q.1 base' ∧ FD (M' 63) q.2 li base'
def plF (k : Nat) : Int32 := if 9 ≤ k ∧ k < 15 then nI (k - 9) else if 15 ≤ k ∧ k < 21 then nI (k - 15) else nI 0
section ZMd
variable {g : zG} {d : Nat} {h0 h h' : zH} {s s' s2 : Nat → Value} {M M' M2 : Nat → Nat → Int32} {L : Nat → Nat → Int64} {X : zX} {p p' base li : Nat} {e : Nat × Nat} {D : zDd}
theorem upM_63 {f : Nat → Int32} : PW s s M (upM M 63 f) := ⟨fun _ _ _ _ _ _ _ => rfl, fun i hi => upM_ne hi⟩
theorem PO.fr {f : Nat → Int32} (O : PO X s M p base) (hf : f 55 = M 63 55) : PO X s (upM M 63 f) p base := by
  obtain ⟨T, K, e11, eb, hb⟩ := O
  exact ⟨⟨T.1, T.2.1, fun i hi => T.2.2 i hi⟩, K, e11, by rw [upM_eq, hf]; exact eb, hb⟩
theorem o_readLine (hD : zDok D) (W : MW h0 h s M L) (O : PO X s M p base) (hK : tkK X p ≠ 24) (F : FD (M 63) D li base) : Zm g (d + 56) 0 0 mX12_readLine [.ref 59] h (rVp (fun h' => QLn X h0 h' s M L li (fLn X D p))) := by
  obtain ⟨f0, f1, f2, f3, f4, f5, f6, f7, f8, f9, f10⟩ := id F
  obtain ⟨a1, a2, a3, a4, a5, a6, a7, a8, a9⟩ := id hD
  have e11 := O.2.2.1
  have e9 := O.2.1.2.2.2.1
  have b := tkA_B O.2.1.1 hK
  have l0 := O.2.2.2.2
  show Zw g (d + 56) 0 0 mX12_readLine 0 [some (.ref 59)] [] h _
  refine x_al0 rfl dX12_readLine_0 ?_
  refine x_gm fdX12_141 W.hM (by decide) (by first | assumption | rfl) dX12_readLine_1 ?_
  refine x_if_eq (tgt := 8) dX12_readLine_4 rfl (fun q4 => ?_) (fun q4 => ?_)
  · skip
    first | (simp only [cmp_lt, cmp_gt, cmp_eq, zN_cge, zN_cle, Decidable.not_not] at q4) | (simp (disch := omega) only [zN_le, zN_lt, zN_0, zN_1, nI_toInt, zN_eq, zN_eq0, b2_z, b2_nz, Decidable.not_not, Int.not_lt, Int.not_le, zK0, zK1, zK2, zK3, zK5, zK7, zK8, zK9, zK10, zK19, zK20, zK40, zK99, zK100, zK199] at q4) | skip
    refine x_al0 rfl dX12_readLine_8 ?_
    refine x_iconst (v := nI 3) dX12_readLine_9 rfl ?_
    refine x_cv1I mX12_is_ok lkX12_147 rfl (Nat.le_of_ble_eq_true rfl) (Nat.le_of_ble_eq_true rfl) dX12_readLine_10 W.hM  (o_is W O (by decide)) ?_
    refine x_if_eq (tgt := 25) dX12_readLine_13 rfl (fun q13 => ?_) (fun q13 => ?_)
    · skip
      first | (simp only [cmp_lt, cmp_gt, cmp_eq, zN_cge, zN_cle, Decidable.not_not] at q13) | (simp (disch := omega) only [zN_le, zN_lt, zN_0, zN_1, nI_toInt, zN_eq, zN_eq0, b2_z, b2_nz, Decidable.not_not, Int.not_lt, Int.not_le, zK0, zK1, zK2, zK3, zK5, zK7, zK8, zK9, zK10, zK19, zK20, zK40, zK99, zK100, zK199] at q13) | skip
      refine x_al0 rfl dX12_readLine_25 ?_
      refine x_iconst (v := nI 4) dX12_readLine_26 rfl ?_
      refine x_cv1I mX12_is_ok lkX12_147 rfl (Nat.le_of_ble_eq_true rfl) (Nat.le_of_ble_eq_true rfl) dX12_readLine_27 W.hM  (o_is W O (by decide)) ?_
      refine x_if_eq (tgt := 42) dX12_readLine_30 rfl (fun q30 => ?_) (fun q30 => ?_)
      · skip
        first | (simp only [cmp_lt, cmp_gt, cmp_eq, zN_cge, zN_cle, Decidable.not_not] at q30) | (simp (disch := omega) only [zN_le, zN_lt, zN_0, zN_1, nI_toInt, zN_eq, zN_eq0, b2_z, b2_nz, Decidable.not_not, Int.not_lt, Int.not_le, zK0, zK1, zK2, zK3, zK5, zK7, zK8, zK9, zK10, zK19, zK20, zK40, zK99, zK100, zK199] at q30) | skip
        refine x_al0 rfl dX12_readLine_42 ?_
        refine x_iconst (v := nI 5) dX12_readLine_43 rfl ?_
        refine x_cv1Ip mX12_eats_ok lkX12_173 rfl (Nat.le_of_ble_eq_true rfl) (Nat.le_of_ble_eq_true rfl) dX12_readLine_44 W.hM  (o_eats W O (by decide)) (fun r h hq => ?_)
        rcases hq with ⟨z, rfl, s2, W2, U2, K2⟩ | ⟨z, rfl, rfl⟩
        · have O2 := O.nx U2 K2 (by omega)
          unfold fLn
          rw [if_neg q13, if_neg q30, if_pos z]
          refine x_if_eq (tgt := 67) dX12_readLine_47 rfl (fun q47 => ?_) (fun q47 => ?_)
          · skip
            first | (simp only [cmp_lt, cmp_gt, cmp_eq, zN_cge, zN_cle, Decidable.not_not] at q47) | (simp (disch := omega) only [zN_le, zN_lt, zN_0, zN_1, nI_toInt, zN_eq, zN_eq0, b2_z, b2_nz, Decidable.not_not, Int.not_lt, Int.not_le, zK0, zK1, zK2, zK3, zK5, zK7, zK8, zK9, zK10, zK19, zK20, zK40, zK99, zK100, zK199] at q47) | skip
            exact absurd q47 (by decide)
          · skip
            first | (simp only [cmp_lt, cmp_gt, cmp_eq, zN_cge, zN_cle, Decidable.not_not] at q47) | (simp (disch := omega) only [zN_le, zN_lt, zN_0, zN_1, nI_toInt, zN_eq, zN_eq0, b2_z, b2_nz, Decidable.not_not, Int.not_lt, Int.not_le, zK0, zK1, zK2, zK3, zK5, zK7, zK8, zK9, zK10, zK19, zK20, zK40, zK99, zK100, zK199] at q47) | skip
            refine x_al0 rfl dX12_readLine_50 ?_
            refine x_gm fdX12_24 W2.hM (by decide) W2.hF.f4 dX12_readLine_51 ?_
            refine x_bipush (v := nI 22) dX12_readLine_54 rfl ?_
            refine x_al0 rfl dX12_readLine_56 ?_
            refine x_iconst (v := nI 0) dX12_readLine_57 rfl ?_
            refine x_bipush (v := nI 9) dX12_readLine_58 rfl ?_
            refine x_cv2Ip mX12_takes_ok lkX12_194 rfl (Nat.le_of_ble_eq_true rfl) (Nat.le_of_ble_eq_true rfl) dX12_readLine_60 W2.hM  (o_takes (lo := 0) (hi := 9) (by omega) (by omega) W2 O2) (fun r h hq => ?_)
            cases z1 : fNm X 0 9 (tkB X p) with
            | inl e9 =>
              rw [z1] at hq
              obtain ⟨s3, W, U3, E3⟩ := hq
              refine x_mst (len := 956) W rfl rfl (by decide) (by omega) dX12_readLine_63 (fun h W => ?_)
              refine x_goto (tgt := 104) dX12_readLine_64 rfl ?_
              exact x_vret rfl dX12_readLine_104 ⟨rfl, s3, _, W, (U2.pw.tr U3).tr upM_63, E3⟩
            | inr q =>
              rw [z1] at hq
              obtain ⟨rfl, s3, W, U3, K3⟩ := hq
              have o := fNm_o b.2 z1
              have u : ∀ k, k ≠ 22 → upM M 63 (upd (M 63) 22 (nI q.2)) 63 k = M 63 k := fun k hk => by rw [upM_eq, pk_un hk]
              refine x_mst (len := 956) W rfl rfl (by decide) (by omega) dX12_readLine_63 (fun h W => ?_)
              refine x_goto (tgt := 104) dX12_readLine_64 rfl ?_
              refine x_vret rfl dX12_readLine_104 ⟨rfl, s3, _, base, W, (U2.tr U3).pw.tr upM_63, (O2.nx U3 K3 (by omega)).fr (pk_un (by omega)), ?_⟩
              exact ⟨by rw [u _ (by omega)]; exact f0, by rw [u _ (by omega)]; exact f1, by rw [u _ (by omega)]; exact f2, f3.up (by omega) (Nat.le_refl _) (fun k hk => u k (by omega)), f4.up (by omega) (Nat.le_refl _) (fun k hk => u k (by omega)), fun i hi => by rw [u _ (by omega)]; exact f5 i hi, fun i hi => by rw [u _ (by omega)]; exact f6 i hi, by rw [upM_eq]; exact pk_us, by rw [u _ (by omega)]; exact f8, by rw [u _ (by omega)]; exact f9, by rw [u _ (by omega)]; exact f10⟩
        · refine x_if_eq (tgt := 67) dX12_readLine_47 rfl (fun q47 => ?_) (fun q47 => ?_)
          · skip
            first | (simp only [cmp_lt, cmp_gt, cmp_eq, zN_cge, zN_cle, Decidable.not_not] at q47) | (simp (disch := omega) only [zN_le, zN_lt, zN_0, zN_1, nI_toInt, zN_eq, zN_eq0, b2_z, b2_nz, Decidable.not_not, Int.not_lt, Int.not_le, zK0, zK1, zK2, zK3, zK5, zK7, zK8, zK9, zK10, zK19, zK20, zK40, zK99, zK100, zK199] at q47) | skip
            refine x_al0 rfl dX12_readLine_67 ?_
            refine x_bipush (v := nI 6) dX12_readLine_68 rfl ?_
            refine x_cv1I mX12_is_ok lkX12_147 rfl (Nat.le_of_ble_eq_true rfl) (Nat.le_of_ble_eq_true rfl) dX12_readLine_70 W.hM  (o_is W O (by decide)) ?_
            refine x_if_ne (tgt := 85) dX12_readLine_73 rfl (fun q73 => ?_) (fun q73 => ?_)
            · skip
              first | (simp only [cmp_lt, cmp_gt, cmp_eq, zN_cge, zN_cle, Decidable.not_not] at q73) | (simp (disch := omega) only [zN_le, zN_lt, zN_0, zN_1, nI_toInt, zN_eq, zN_eq0, b2_z, b2_nz, Decidable.not_not, Int.not_lt, Int.not_le, zK0, zK1, zK2, zK3, zK5, zK7, zK8, zK9, zK10, zK19, zK20, zK40, zK99, zK100, zK199] at q73) | skip
              refine x_al0 rfl dX12_readLine_85 ?_
              refine x_al0 rfl dX12_readLine_86 ?_
              refine x_gm fdX12_123 W.hM (by decide) (e9) dX12_readLine_87 ?_
              refine x_bipush (v := nI 6) dX12_readLine_90 rfl ?_
              refine x_isub ((show nI (tkK X p) - nI 6 = nI 0 by rw [q73]; rfl)) dX12_readLine_92 ?_
              refine x_cv1Vp mX12_readLaw_ok lkX12_201 rfl (Nat.le_of_ble_eq_true rfl) (Nat.le_of_ble_eq_true rfl) dX12_readLine_93 W.hM  ((o_readLaw (lw := 0) (by decide) W O hK)) (fun h hq => ?_)
              refine x_goto (tgt := 104) dX12_readLine_96 rfl ?_
              unfold fLn
              rw [if_neg q13, if_neg q30, if_neg z, if_pos q73]
              rw [show decide (0 = 1) = false from rfl] at hq
              cases z1 : fLw X false p with
              | inl e9 =>
                rw [z1] at hq
                obtain ⟨s3, M3, W3, U3, E3⟩ := hq
                exact x_vret rfl dX12_readLine_104 ⟨rfl, s3, M3, W3, U3, E3⟩
              | inr q =>
                rw [z1] at hq
                obtain ⟨s3, M3, W3, U3, O3, G3, u⟩ := hq
                refine x_vret rfl dX12_readLine_104 ⟨rfl, s3, M3, _, W3, U3, O3, ?_⟩
                exact ⟨by rw [u _ (by omega) (by omega) (by omega) (by omega) (by omega)]; exact f0, by rw [u _ (by omega) (by omega) (by omega) (by omega) (by omega)]; exact f1, by rw [u _ (by omega) (by omega) (by omega) (by omega) (by omega)]; exact f2, G3, f4.up (by omega) (by omega) (fun k hk => u k (by omega) (by omega) (by omega) (by omega) (by omega)), fun i hi => by rw [u _ (by omega) (by omega) (by omega) (by omega) (by omega)]; exact f5 i hi, fun i hi => by rw [u _ (by omega) (by omega) (by omega) (by omega) (by omega)]; exact f6 i hi, by rw [u _ (by omega) (by omega) (by omega) (by omega) (by omega)]; exact f7, by rw [u _ (by omega) (by omega) (by omega) (by omega) (by omega)]; exact f8, by rw [u _ (by omega) (by omega) (by omega) (by omega) (by omega)]; exact f9, by rw [u _ (by omega) (by omega) (by omega) (by omega) (by omega)]; exact f10⟩
            · skip
              first | (simp only [cmp_lt, cmp_gt, cmp_eq, zN_cge, zN_cle, Decidable.not_not] at q73) | (simp (disch := omega) only [zN_le, zN_lt, zN_0, zN_1, nI_toInt, zN_eq, zN_eq0, b2_z, b2_nz, Decidable.not_not, Int.not_lt, Int.not_le, zK0, zK1, zK2, zK3, zK5, zK7, zK8, zK9, zK10, zK19, zK20, zK40, zK99, zK100, zK199] at q73) | skip
              refine x_al0 rfl dX12_readLine_76 ?_
              refine x_bipush (v := nI 7) dX12_readLine_77 rfl ?_
              refine x_cv1I mX12_is_ok lkX12_147 rfl (Nat.le_of_ble_eq_true rfl) (Nat.le_of_ble_eq_true rfl) dX12_readLine_79 W.hM  (o_is W O (by decide)) ?_
              refine x_if_eq (tgt := 99) dX12_readLine_82 rfl (fun q82 => ?_) (fun q82 => ?_)
              · skip
                first | (simp only [cmp_lt, cmp_gt, cmp_eq, zN_cge, zN_cle, Decidable.not_not] at q82) | (simp (disch := omega) only [zN_le, zN_lt, zN_0, zN_1, nI_toInt, zN_eq, zN_eq0, b2_z, b2_nz, Decidable.not_not, Int.not_lt, Int.not_le, zK0, zK1, zK2, zK3, zK5, zK7, zK8, zK9, zK10, zK19, zK20, zK40, zK99, zK100, zK199] at q82) | skip
                refine x_al0 rfl dX12_readLine_99 ?_
                refine x_iconst (v := nI 2) dX12_readLine_100 rfl ?_
                refine x_cv1Vp mX12_fails_ok lkX12_153 rfl (Nat.le_of_ble_eq_true rfl) (Nat.le_of_ble_eq_true rfl) dX12_readLine_101 W.hM  (o_fails (fa := 2) (by decide) (by decide) W O) (fun h hq => ?_)
                obtain ⟨s3, W3, U3, E3⟩ := hq
                exact x_vret rfl dX12_readLine_104 ⟨rfl, by unfold fLn; rw [if_neg q13, if_neg q30, if_neg z, if_neg q73, if_neg q82]; exact ⟨s3, M, W3, U3, E3⟩⟩
              · skip
                first | (simp only [cmp_lt, cmp_gt, cmp_eq, zN_cge, zN_cle, Decidable.not_not] at q82) | (simp (disch := omega) only [zN_le, zN_lt, zN_0, zN_1, nI_toInt, zN_eq, zN_eq0, b2_z, b2_nz, Decidable.not_not, Int.not_lt, Int.not_le, zK0, zK1, zK2, zK3, zK5, zK7, zK8, zK9, zK10, zK19, zK20, zK40, zK99, zK100, zK199] at q82) | skip
                refine x_al0 rfl dX12_readLine_85 ?_
                refine x_al0 rfl dX12_readLine_86 ?_
                refine x_gm fdX12_123 W.hM (by decide) (e9) dX12_readLine_87 ?_
                refine x_bipush (v := nI 6) dX12_readLine_90 rfl ?_
                refine x_isub ((show nI (tkK X p) - nI 6 = nI 1 by rw [q82]; rfl)) dX12_readLine_92 ?_
                refine x_cv1Vp mX12_readLaw_ok lkX12_201 rfl (Nat.le_of_ble_eq_true rfl) (Nat.le_of_ble_eq_true rfl) dX12_readLine_93 W.hM  (o_readLaw (lw := 1) (by decide) W O hK) (fun h hq => ?_)
                refine x_goto (tgt := 104) dX12_readLine_96 rfl ?_
                unfold fLn
                rw [if_neg q13, if_neg q30, if_neg z, if_neg q73, if_pos q82]
                rw [show decide (1 = 1) = true from rfl] at hq
                cases z1 : fLw X true p with
                | inl e9 =>
                  rw [z1] at hq
                  obtain ⟨s3, M3, W3, U3, E3⟩ := hq
                  exact x_vret rfl dX12_readLine_104 ⟨rfl, s3, M3, W3, U3, E3⟩
                | inr q =>
                  rw [z1] at hq
                  obtain ⟨s3, M3, W3, U3, O3, G3, u⟩ := hq
                  refine x_vret rfl dX12_readLine_104 ⟨rfl, s3, M3, _, W3, U3, O3, ?_⟩
                  exact ⟨by rw [u _ (by omega) (by omega) (by omega) (by omega) (by omega)]; exact f0, by rw [u _ (by omega) (by omega) (by omega) (by omega) (by omega)]; exact f1, by rw [u _ (by omega) (by omega) (by omega) (by omega) (by omega)]; exact f2, f3.up (by omega) (by omega) (fun k hk => u k (by omega) (by omega) (by omega) (by omega) (by omega)), G3, fun i hi => by rw [u _ (by omega) (by omega) (by omega) (by omega) (by omega)]; exact f5 i hi, fun i hi => by rw [u _ (by omega) (by omega) (by omega) (by omega) (by omega)]; exact f6 i hi, by rw [u _ (by omega) (by omega) (by omega) (by omega) (by omega)]; exact f7, by rw [u _ (by omega) (by omega) (by omega) (by omega) (by omega)]; exact f8, by rw [u _ (by omega) (by omega) (by omega) (by omega) (by omega)]; exact f9, by rw [u _ (by omega) (by omega) (by omega) (by omega) (by omega)]; exact f10⟩
          · skip
            first | (simp only [cmp_lt, cmp_gt, cmp_eq, zN_cge, zN_cle, Decidable.not_not] at q47) | (simp (disch := omega) only [zN_le, zN_lt, zN_0, zN_1, nI_toInt, zN_eq, zN_eq0, b2_z, b2_nz, Decidable.not_not, Int.not_lt, Int.not_le, zK0, zK1, zK2, zK3, zK5, zK7, zK8, zK9, zK10, zK19, zK20, zK40, zK99, zK100, zK199] at q47) | skip
            exact absurd trivial q47
      · skip
        first | (simp only [cmp_lt, cmp_gt, cmp_eq, zN_cge, zN_cle, Decidable.not_not] at q30) | (simp (disch := omega) only [zN_le, zN_lt, zN_0, zN_1, nI_toInt, zN_eq, zN_eq0, b2_z, b2_nz, Decidable.not_not, Int.not_lt, Int.not_le, zK0, zK1, zK2, zK3, zK5, zK7, zK8, zK9, zK10, zK19, zK20, zK40, zK99, zK100, zK199] at q30) | skip
        refine x_al0 rfl dX12_readLine_33 ?_
        refine x_bipush (v := nI 15) dX12_readLine_34 rfl ?_
        refine x_cv1Vp mX12_readDrawer_ok lkX12_198 rfl (Nat.le_of_ble_eq_true rfl) (Nat.le_of_ble_eq_true rfl) dX12_readLine_36 W.hM  (o_readDrawer (fm := 15) (Or.inr rfl) a1 a2 W O hK f1) (fun h hq => ?_)
        refine x_goto (tgt := 104) dX12_readLine_39 rfl ?_
        unfold fLn
        rw [if_neg q13, if_pos q30]
        cases z1 : fDr X D.1 p with
        | inl e9 =>
          rw [z1] at hq
          obtain ⟨s3, W3, U3, E3⟩ := hq
          exact x_vret rfl dX12_readLine_104 ⟨rfl, s3, M, W3, U3, E3⟩
        | inr q =>
          rw [z1] at hq
          obtain ⟨s3, W3, U3, K3⟩ := hq
          have o := fDr_o O.2.1.1 hK a1 z1
          have u : ∀ k, k ≠ 15 + q.2.1 → upM M 63 (upd (M 63) (15 + q.2.1) (nI q.2.2)) 63 k = M 63 k := fun k hk => by rw [upM_eq, pk_un hk]
          refine x_vret rfl dX12_readLine_104 ⟨rfl, s3, _, base, W3, U3.pw.tr upM_63, (O.nx U3 K3 o.2.1).fr (pk_un (by omega)), ?_⟩
          refine ⟨by rw [u _ (by omega)]; exact f0, by rw [u _ (by omega)]; exact f1, by rw [u _ (by omega)]; exact f2, f3.up (by omega) (Nat.le_refl _) (fun k hk => u k (by omega)), f4.up (by omega) (Nat.le_refl _) (fun k hk => u k (by omega)), fun i hi => by rw [u _ (by omega)]; exact f5 i hi, fun i hi => ?_, by rw [u _ (by omega)]; exact f7, by rw [u _ (by omega)]; exact f8, by rw [u _ (by omega)]; exact f9, by rw [u _ (by omega)]; exact f10⟩
          show _ = nI (upn D.2.2.2.1 q.2.1 q.2.2 i)
          unfold upn
          by_cases y : i = q.2.1
          · rw [if_pos y, upM_eq, y, pk_us]
          · rw [if_neg y, u _ (by omega)]; exact f6 i hi
    · skip
      first | (simp only [cmp_lt, cmp_gt, cmp_eq, zN_cge, zN_cle, Decidable.not_not] at q13) | (simp (disch := omega) only [zN_le, zN_lt, zN_0, zN_1, nI_toInt, zN_eq, zN_eq0, b2_z, b2_nz, Decidable.not_not, Int.not_lt, Int.not_le, zK0, zK1, zK2, zK3, zK5, zK7, zK8, zK9, zK10, zK19, zK20, zK40, zK99, zK100, zK199] at q13) | skip
      refine x_al0 rfl dX12_readLine_16 ?_
      refine x_bipush (v := nI 9) dX12_readLine_17 rfl ?_
      refine x_cv1Vp mX12_readDrawer_ok lkX12_198 rfl (Nat.le_of_ble_eq_true rfl) (Nat.le_of_ble_eq_true rfl) dX12_readLine_19 W.hM  (o_readDrawer (fm := 9) (Or.inl rfl) a1 a2 W O hK f1) (fun h hq => ?_)
      refine x_goto (tgt := 104) dX12_readLine_22 rfl ?_
      unfold fLn
      rw [if_pos q13]
      cases z1 : fDr X D.1 p with
      | inl e9 =>
        rw [z1] at hq
        obtain ⟨s3, W3, U3, E3⟩ := hq
        exact x_vret rfl dX12_readLine_104 ⟨rfl, s3, M, W3, U3, E3⟩
      | inr q =>
        rw [z1] at hq
        obtain ⟨s3, W3, U3, K3⟩ := hq
        have o := fDr_o O.2.1.1 hK a1 z1
        have u : ∀ k, k ≠ 9 + q.2.1 → upM M 63 (upd (M 63) (9 + q.2.1) (nI q.2.2)) 63 k = M 63 k := fun k hk => by rw [upM_eq, pk_un hk]
        refine x_vret rfl dX12_readLine_104 ⟨rfl, s3, _, base, W3, U3.pw.tr upM_63, (O.nx U3 K3 o.2.1).fr (pk_un (by omega)), ?_⟩
        refine ⟨by rw [u _ (by omega)]; exact f0, by rw [u _ (by omega)]; exact f1, by rw [u _ (by omega)]; exact f2, f3.up (by omega) (Nat.le_refl _) (fun k hk => u k (by omega)), f4.up (by omega) (Nat.le_refl _) (fun k hk => u k (by omega)), fun i hi => ?_, fun i hi => by rw [u _ (by omega)]; exact f6 i hi, by rw [u _ (by omega)]; exact f7, by rw [u _ (by omega)]; exact f8, by rw [u _ (by omega)]; exact f9, by rw [u _ (by omega)]; exact f10⟩
        show _ = nI (upn D.2.2.1 q.2.1 q.2.2 i)
        unfold upn
        by_cases y : i = q.2.1
        · rw [if_pos y, upM_eq, y, pk_us]
        · rw [if_neg y, u _ (by omega)]; exact f5 i hi
  · skip
    first | (simp only [cmp_lt, cmp_gt, cmp_eq, zN_cge, zN_cle, Decidable.not_not] at q4) | (simp (disch := omega) only [zN_le, zN_lt, zN_0, zN_1, nI_toInt, zN_eq, zN_eq0, b2_z, b2_nz, Decidable.not_not, Int.not_lt, Int.not_le, zK0, zK1, zK2, zK3, zK5, zK7, zK8, zK9, zK10, zK19, zK20, zK40, zK99, zK100, zK199] at q4) | skip
    exact absurd trivial q4
theorem bts_lt {f : Nat → Nat} : ∀ n, (∀ i, i < n → f i < 6) → bts f n < 64 := by
  intro n
  induction n with
  | zero => intro _; show 0 < 64; decide
  | succ n ih =>
    intro h
    have h1 := ih (fun i hi => h i (by omega))
    have h2 : 2 ^ f n < 2 ^ 6 := Nat.pow_lt_pow_right (by decide) (h n (by omega))
    exact Nat.or_lt_two_pow (n := 6) h1 h2
theorem o_isWhole {fm n : Nat} {f : Nat → Nat} (hfm : fm = 9 ∨ fm = 15) (n0 : 0 < n) (n6 : n ≤ 6) (W : MW h0 h s M L) (e1 : M 63 1 = nI n) (hf : ∀ i, i < 6 → M 63 (fm + i) = nI (f i)) (hl : ∀ i, i < n → f i < n) : Zm g d 0 0 mX12_isWhole [.ref 59, .int (nI fm)] h (rI (b2 (whl n f)) h) := by
  have p6 : 2 ^ n < 2 ^ 7 := Nat.pow_lt_pow_right (by decide) (by omega)
  have p0 : 0 < 2 ^ n := Nat.pow_pos (by decide)
  show Zw g d 0 0 mX12_isWhole 0 [some (.ref 59), some (.int (nI fm)), none, none] [] h _
  refine x_iconst (v := nI 0) dX12_isWhole_0 rfl ?_
  refine x_is2 rfl dX12_isWhole_1 ?_
  refine x_iconst (v := nI 0) dX12_isWhole_2 rfl ?_
  refine x_is3 rfl dX12_isWhole_3 ?_
  refine x_for (e := n) (fun i => [some (.ref 59), some (.int (nI fm)), some (.int (nI (bts f i))), some (.int (nI i))]) (fun i h' => h' = h) 0 (by omega) rfl (fun h' hI => ?_) (fun i h' hi hI ih => ?_)
  · subst hI
    have bl := bts_lt (f := f) n (fun i hi => by have := hl i hi; omega)
    refine x_il3 dX12_isWhole_4 ?_
    refine x_al0 rfl dX12_isWhole_5 ?_
    refine x_gm fdX12_24 W.hM (by decide) W.hF.f4 dX12_isWhole_6 ?_
    refine x_iconst (v := nI 1) dX12_isWhole_9 rfl ?_
    refine x_mld (len := 956) W rfl rfl (by decide) (by omega) e1 dX12_isWhole_10 ?_
    refine x_icmp_ge (tgt := 33) dX12_isWhole_11 rfl (fun q11 => ?_) (fun q11 => ?_)
    · skip
      first | (simp only [cmp_lt, cmp_gt, cmp_eq, zN_cge, zN_cle, Decidable.not_not] at q11) | (simp (disch := omega) only [zN_le, zN_lt, zN_0, zN_1, nI_toInt, zN_eq, zN_eq0, b2_z, b2_nz, Decidable.not_not, Int.not_lt, Int.not_le, zK0, zK1, zK2, zK3, zK5, zK7, zK8, zK9, zK10, zK19, zK20, zK40, zK99, zK100, zK199] at q11) | skip
      refine x_il2 dX12_isWhole_33 ?_
      refine x_iconst (v := nI 1) dX12_isWhole_34 rfl ?_
      refine x_al0 rfl dX12_isWhole_35 ?_
      refine x_gm fdX12_24 W.hM (by decide) W.hF.f4 dX12_isWhole_36 ?_
      refine x_iconst (v := nI 1) dX12_isWhole_39 rfl ?_
      refine x_mld (len := 956) W rfl rfl (by decide) (by omega) e1 dX12_isWhole_40 ?_
      refine x_ishl (shl1 (by omega)) dX12_isWhole_41 ?_
      refine x_iconst (v := nI 1) dX12_isWhole_42 rfl ?_
      refine x_isub (pk_sub (by omega)) dX12_isWhole_43 ?_
      refine x_icmp_ne (tgt := 51) dX12_isWhole_44 rfl (fun q44 => ?_) (fun q44 => ?_)
      · skip
        first | (simp only [cmp_lt, cmp_gt, cmp_eq, zN_cge, zN_cle, Decidable.not_not] at q44) | (simp (disch := omega) only [zN_le, zN_lt, zN_0, zN_1, nI_toInt, zN_eq, zN_eq0, b2_z, b2_nz, Decidable.not_not, Int.not_lt, Int.not_le, zK0, zK1, zK2, zK3, zK5, zK7, zK8, zK9, zK10, zK19, zK20, zK40, zK99, zK100, zK199] at q44) | skip
        refine x_iconst (v := nI 0) dX12_isWhole_51 rfl ?_
        exact x_iret rfl  rfl dX12_isWhole_52 ⟨by rw [b2z q44], rfl⟩
      · skip
        first | (simp only [cmp_lt, cmp_gt, cmp_eq, zN_cge, zN_cle, Decidable.not_not] at q44) | (simp (disch := omega) only [zN_le, zN_lt, zN_0, zN_1, nI_toInt, zN_eq, zN_eq0, b2_z, b2_nz, Decidable.not_not, Int.not_lt, Int.not_le, zK0, zK1, zK2, zK3, zK5, zK7, zK8, zK9, zK10, zK19, zK20, zK40, zK99, zK100, zK199] at q44) | skip
        refine x_iconst (v := nI 1) dX12_isWhole_47 rfl ?_
        refine x_goto (tgt := 52) dX12_isWhole_48 rfl ?_
        exact x_iret rfl  rfl dX12_isWhole_52 ⟨by rw [b2o q44], rfl⟩
    · skip
      first | (simp only [cmp_lt, cmp_gt, cmp_eq, zN_cge, zN_cle, Decidable.not_not] at q11) | (simp (disch := omega) only [zN_le, zN_lt, zN_0, zN_1, nI_toInt, zN_eq, zN_eq0, b2_z, b2_nz, Decidable.not_not, Int.not_lt, Int.not_le, zK0, zK1, zK2, zK3, zK5, zK7, zK8, zK9, zK10, zK19, zK20, zK40, zK99, zK100, zK199] at q11) | skip
      omega
  · subst hI
    have := hl i hi
    refine x_il3 dX12_isWhole_4 ?_
    refine x_al0 rfl dX12_isWhole_5 ?_
    refine x_gm fdX12_24 W.hM (by decide) W.hF.f4 dX12_isWhole_6 ?_
    refine x_iconst (v := nI 1) dX12_isWhole_9 rfl ?_
    refine x_mld (len := 956) W rfl rfl (by decide) (by omega) e1 dX12_isWhole_10 ?_
    refine x_icmp_ge (tgt := 33) dX12_isWhole_11 rfl (fun q11 => ?_) (fun q11 => ?_)
    · skip
      first | (simp only [cmp_lt, cmp_gt, cmp_eq, zN_cge, zN_cle, Decidable.not_not] at q11) | (simp (disch := omega) only [zN_le, zN_lt, zN_0, zN_1, nI_toInt, zN_eq, zN_eq0, b2_z, b2_nz, Decidable.not_not, Int.not_lt, Int.not_le, zK0, zK1, zK2, zK3, zK5, zK7, zK8, zK9, zK10, zK19, zK20, zK40, zK99, zK100, zK199] at q11) | skip
      omega
    · skip
      first | (simp only [cmp_lt, cmp_gt, cmp_eq, zN_cge, zN_cle, Decidable.not_not] at q11) | (simp (disch := omega) only [zN_le, zN_lt, zN_0, zN_1, nI_toInt, zN_eq, zN_eq0, b2_z, b2_nz, Decidable.not_not, Int.not_lt, Int.not_le, zK0, zK1, zK2, zK3, zK5, zK7, zK8, zK9, zK10, zK19, zK20, zK40, zK99, zK100, zK199] at q11) | skip
      refine x_il2 dX12_isWhole_14 ?_
      refine x_iconst (v := nI 1) dX12_isWhole_15 rfl ?_
      refine x_al0 rfl dX12_isWhole_16 ?_
      refine x_gm fdX12_24 W.hM (by decide) W.hF.f4 dX12_isWhole_17 ?_
      refine x_il1 dX12_isWhole_20 ?_
      refine x_il3 dX12_isWhole_21 ?_
      first | refine x_iadd (nI_add _ _) dX12_isWhole_22 ?_ | refine x_iadd rfl dX12_isWhole_22 ?_
      refine x_mld (len := 956) W rfl rfl (by decide) (by omega) (hf i (by omega)) dX12_isWhole_23 ?_
      refine x_ishl (shl1 (by omega)) dX12_isWhole_24 ?_
      refine x_ior (or_n _ _) dX12_isWhole_25 ?_
      refine x_is2 rfl dX12_isWhole_26 ?_
      first | refine x_ii3 rfl (nI_1 _) dX12_isWhole_27 ?_ | refine x_ii3 rfl rfl dX12_isWhole_27 ?_
      refine x_goto (tgt := 4) dX12_isWhole_30 rfl ?_
      exact ih _ rfl
theorem o_plain63 (W : MW h0 h s M L) : Zm g d 0 0 mX12_plain [.ref 63] h (rVp (fun h' => ∃ f, MW h0 h' s (upM M 63 f) L ∧ (∀ k, k < 956 → f k = plF k) ∧ ∀ k, 956 ≤ k → f k = M 63 k)) := by
  show Zw g d 0 0 mX12_plain 0 [some (.ref 63), none] [] h _
  refine x_iconst (v := nI 0) dX12_plain_0 rfl ?_
  refine x_is1 rfl dX12_plain_1 ?_
  refine x_for (e := 956) (fun i => [some (.ref 63), some (.int (nI i))]) (fun i h' => ∃ f, MW h0 h' s (upM M 63 f) L ∧ (∀ k, k < i → f k = nI 0) ∧ ∀ k, 956 ≤ k → f k = M 63 k) 0 (by omega) ⟨M 63, by rw [show upM M 63 (M 63) = M from funext (fun j => by unfold upM; split <;> simp_all)]; exact W, fun k hk => absurd hk (Nat.not_lt_zero _), fun _ _ => rfl⟩ (fun h' hI => ?_) (fun i h' hi hI ih => ?_)
  · obtain ⟨f, W, f1, f2⟩ := hI
    refine x_il1 dX12_plain_2 ?_
    refine x_sipush (v := nI 956) dX12_plain_3 (by decide) ?_
    refine x_icmp_ge (tgt := 19) dX12_plain_6 rfl (fun q6 => ?_) (fun q6 => ?_)
    · skip
      first | (simp only [cmp_lt, cmp_gt, cmp_eq, zN_cge, zN_cle, Decidable.not_not] at q6) | (simp (disch := omega) only [zN_le, zN_lt, zN_0, zN_1, nI_toInt, zN_eq, zN_eq0, b2_z, b2_nz, Decidable.not_not, Int.not_lt, Int.not_le, zK0, zK1, zK2, zK3, zK5, zK7, zK8, zK9, zK10, zK19, zK20, zK40, zK99, zK100, zK199] at q6) | skip
      refine x_iconst (v := nI 0) dX12_plain_19 rfl ?_
      refine x_is1 rfl dX12_plain_20 ?_
      refine x_for (e := 6) (fun i => [some (.ref 63), some (.int (nI i))]) (fun i h' => ∃ f, MW h0 h' s (upM M 63 f) L ∧ (∀ k, k < 956 → f k = if (9 ≤ k ∧ k < 9 + i) then nI (k - 9) else if (15 ≤ k ∧ k < 15 + i) then nI (k - 15) else nI 0) ∧ ∀ k, 956 ≤ k → f k = M 63 k) 0 (by omega) ⟨f, W, fun k hk => by rw [if_neg (by omega), if_neg (by omega)]; exact f1 k hk, f2⟩ (fun h' hI => ?_) (fun i h' hi hI ih => ?_)
      · obtain ⟨f, W, f1, f2⟩ := hI
        refine x_il1 dX12_plain_21 ?_
        refine x_bipush (v := nI 6) dX12_plain_22 rfl ?_
        refine x_icmp_ge (tgt := 47) dX12_plain_24 rfl (fun q24 => ?_) (fun q24 => ?_)
        · skip
          first | (simp only [cmp_lt, cmp_gt, cmp_eq, zN_cge, zN_cle, Decidable.not_not] at q24) | (simp (disch := omega) only [zN_le, zN_lt, zN_0, zN_1, nI_toInt, zN_eq, zN_eq0, b2_z, b2_nz, Decidable.not_not, Int.not_lt, Int.not_le, zK0, zK1, zK2, zK3, zK5, zK7, zK8, zK9, zK10, zK19, zK20, zK40, zK99, zK100, zK199] at q24) | skip
          exact x_vret rfl dX12_plain_47 ⟨rfl, f, W, fun k hk => by rw [f1 k hk]; rfl, f2⟩
        · skip
          first | (simp only [cmp_lt, cmp_gt, cmp_eq, zN_cge, zN_cle, Decidable.not_not] at q24) | (simp (disch := omega) only [zN_le, zN_lt, zN_0, zN_1, nI_toInt, zN_eq, zN_eq0, b2_z, b2_nz, Decidable.not_not, Int.not_lt, Int.not_le, zK0, zK1, zK2, zK3, zK5, zK7, zK8, zK9, zK10, zK19, zK20, zK40, zK99, zK100, zK199] at q24) | skip
          omega
      · obtain ⟨f, W, f1, f2⟩ := hI
        refine x_il1 dX12_plain_21 ?_
        refine x_bipush (v := nI 6) dX12_plain_22 rfl ?_
        refine x_icmp_ge (tgt := 47) dX12_plain_24 rfl (fun q24 => ?_) (fun q24 => ?_)
        · skip
          first | (simp only [cmp_lt, cmp_gt, cmp_eq, zN_cge, zN_cle, Decidable.not_not] at q24) | (simp (disch := omega) only [zN_le, zN_lt, zN_0, zN_1, nI_toInt, zN_eq, zN_eq0, b2_z, b2_nz, Decidable.not_not, Int.not_lt, Int.not_le, zK0, zK1, zK2, zK3, zK5, zK7, zK8, zK9, zK10, zK19, zK20, zK40, zK99, zK100, zK199] at q24) | skip
          omega
        · skip
          first | (simp only [cmp_lt, cmp_gt, cmp_eq, zN_cge, zN_cle, Decidable.not_not] at q24) | (simp (disch := omega) only [zN_le, zN_lt, zN_0, zN_1, nI_toInt, zN_eq, zN_eq0, b2_z, b2_nz, Decidable.not_not, Int.not_lt, Int.not_le, zK0, zK1, zK2, zK3, zK5, zK7, zK8, zK9, zK10, zK19, zK20, zK40, zK99, zK100, zK199] at q24) | skip
          refine x_al0 rfl dX12_plain_27 ?_
          refine x_bipush (v := nI 9) dX12_plain_28 rfl ?_
          refine x_il1 dX12_plain_30 ?_
          first | refine x_iadd (nI_add _ _) dX12_plain_31 ?_ | refine x_iadd rfl dX12_plain_31 ?_
          refine x_il1 dX12_plain_32 ?_
          refine x_mst (len := 956) W rfl rfl (by decide) (by omega) dX12_plain_33 (fun h W => ?_)
          rw [upM_upM, upM_eq] at W
          refine x_al0 rfl dX12_plain_34 ?_
          refine x_bipush (v := nI 15) dX12_plain_35 rfl ?_
          refine x_il1 dX12_plain_37 ?_
          first | refine x_iadd (nI_add _ _) dX12_plain_38 ?_ | refine x_iadd rfl dX12_plain_38 ?_
          refine x_il1 dX12_plain_39 ?_
          refine x_mst (len := 956) W rfl rfl (by decide) (by omega) dX12_plain_40 (fun h W => ?_)
          rw [upM_upM, upM_eq] at W
          first | refine x_ii1 rfl (nI_1 _) dX12_plain_41 ?_ | refine x_ii1 rfl rfl dX12_plain_41 ?_
          refine x_goto (tgt := 21) dX12_plain_44 rfl ?_
          refine ih _ ⟨_, W, fun k hk => ?_, fun k hk => by rw [pk_un (by omega), pk_un (by omega)]; exact f2 k hk⟩
          by_cases z : k = 15 + i
          · rw [z, pk_us, if_neg (by omega), if_pos (by omega), Nat.add_sub_cancel_left]
          · rw [pk_un z]
            by_cases y : k = 9 + i
            · rw [y, pk_us, if_pos (by omega), Nat.add_sub_cancel_left]
            · rw [pk_un y, f1 k hk]
              (repeat' split) <;> first | rfl | (exfalso; omega)
    · skip
      first | (simp only [cmp_lt, cmp_gt, cmp_eq, zN_cge, zN_cle, Decidable.not_not] at q6) | (simp (disch := omega) only [zN_le, zN_lt, zN_0, zN_1, nI_toInt, zN_eq, zN_eq0, b2_z, b2_nz, Decidable.not_not, Int.not_lt, Int.not_le, zK0, zK1, zK2, zK3, zK5, zK7, zK8, zK9, zK10, zK19, zK20, zK40, zK99, zK100, zK199] at q6) | skip
      omega
  · obtain ⟨f, W, f1, f2⟩ := hI
    refine x_il1 dX12_plain_2 ?_
    refine x_sipush (v := nI 956) dX12_plain_3 (by decide) ?_
    refine x_icmp_ge (tgt := 19) dX12_plain_6 rfl (fun q6 => ?_) (fun q6 => ?_)
    · skip
      first | (simp only [cmp_lt, cmp_gt, cmp_eq, zN_cge, zN_cle, Decidable.not_not] at q6) | (simp (disch := omega) only [zN_le, zN_lt, zN_0, zN_1, nI_toInt, zN_eq, zN_eq0, b2_z, b2_nz, Decidable.not_not, Int.not_lt, Int.not_le, zK0, zK1, zK2, zK3, zK5, zK7, zK8, zK9, zK10, zK19, zK20, zK40, zK99, zK100, zK199] at q6) | skip
      omega
    · skip
      first | (simp only [cmp_lt, cmp_gt, cmp_eq, zN_cge, zN_cle, Decidable.not_not] at q6) | (simp (disch := omega) only [zN_le, zN_lt, zN_0, zN_1, nI_toInt, zN_eq, zN_eq0, b2_z, b2_nz, Decidable.not_not, Int.not_lt, Int.not_le, zK0, zK1, zK2, zK3, zK5, zK7, zK8, zK9, zK10, zK19, zK20, zK40, zK99, zK100, zK199] at q6) | skip
      refine x_al0 rfl dX12_plain_9 ?_
      refine x_il1 dX12_plain_10 ?_
      refine x_iconst (v := nI 0) dX12_plain_11 rfl ?_
      refine x_mst (len := 956) W rfl rfl (by decide) (by omega) dX12_plain_12 (fun h W => ?_)
      first | refine x_ii1 rfl (nI_1 _) dX12_plain_13 ?_ | refine x_ii1 rfl rfl dX12_plain_13 ?_
      refine x_goto (tgt := 2) dX12_plain_16 rfl ?_
      rw [upM_upM, upM_eq] at W
      refine ih _ ⟨_, W, fun k hk => ?_, fun k hk => by rw [pk_un (by omega)]; exact f2 k hk⟩
      by_cases z : k = i
      · rw [z, pk_us]
      · rw [pk_un z]; exact f1 k (by omega)
theorem o_plain60 (W : MW h0 h s M L) : Zm g d 0 0 mX12_plain [.ref 60] h (rVp (fun h' => ∃ f, MW h0 h' s (upM M 60 f) L ∧ (∀ k, k < 956 → f k = plF k) ∧ ∀ k, 956 ≤ k → f k = M 60 k)) := by
  show Zw g d 0 0 mX12_plain 0 [some (.ref 60), none] [] h _
  refine x_iconst (v := nI 0) dX12_plain_0 rfl ?_
  refine x_is1 rfl dX12_plain_1 ?_
  refine x_for (e := 956) (fun i => [some (.ref 60), some (.int (nI i))]) (fun i h' => ∃ f, MW h0 h' s (upM M 60 f) L ∧ (∀ k, k < i → f k = nI 0) ∧ ∀ k, 956 ≤ k → f k = M 60 k) 0 (by omega) ⟨M 60, by rw [show upM M 60 (M 60) = M from funext (fun j => by unfold upM; split <;> simp_all)]; exact W, fun k hk => absurd hk (Nat.not_lt_zero _), fun _ _ => rfl⟩ (fun h' hI => ?_) (fun i h' hi hI ih => ?_)
  · obtain ⟨f, W, f1, f2⟩ := hI
    refine x_il1 dX12_plain_2 ?_
    refine x_sipush (v := nI 956) dX12_plain_3 (by decide) ?_
    refine x_icmp_ge (tgt := 19) dX12_plain_6 rfl (fun q6 => ?_) (fun q6 => ?_)
    · skip
      first | (simp only [cmp_lt, cmp_gt, cmp_eq, zN_cge, zN_cle, Decidable.not_not] at q6) | (simp (disch := omega) only [zN_le, zN_lt, zN_0, zN_1, nI_toInt, zN_eq, zN_eq0, b2_z, b2_nz, Decidable.not_not, Int.not_lt, Int.not_le, zK0, zK1, zK2, zK3, zK5, zK7, zK8, zK9, zK10, zK19, zK20, zK40, zK99, zK100, zK199] at q6) | skip
      refine x_iconst (v := nI 0) dX12_plain_19 rfl ?_
      refine x_is1 rfl dX12_plain_20 ?_
      refine x_for (e := 6) (fun i => [some (.ref 60), some (.int (nI i))]) (fun i h' => ∃ f, MW h0 h' s (upM M 60 f) L ∧ (∀ k, k < 956 → f k = if (9 ≤ k ∧ k < 9 + i) then nI (k - 9) else if (15 ≤ k ∧ k < 15 + i) then nI (k - 15) else nI 0) ∧ ∀ k, 956 ≤ k → f k = M 60 k) 0 (by omega) ⟨f, W, fun k hk => by rw [if_neg (by omega), if_neg (by omega)]; exact f1 k hk, f2⟩ (fun h' hI => ?_) (fun i h' hi hI ih => ?_)
      · obtain ⟨f, W, f1, f2⟩ := hI
        refine x_il1 dX12_plain_21 ?_
        refine x_bipush (v := nI 6) dX12_plain_22 rfl ?_
        refine x_icmp_ge (tgt := 47) dX12_plain_24 rfl (fun q24 => ?_) (fun q24 => ?_)
        · skip
          first | (simp only [cmp_lt, cmp_gt, cmp_eq, zN_cge, zN_cle, Decidable.not_not] at q24) | (simp (disch := omega) only [zN_le, zN_lt, zN_0, zN_1, nI_toInt, zN_eq, zN_eq0, b2_z, b2_nz, Decidable.not_not, Int.not_lt, Int.not_le, zK0, zK1, zK2, zK3, zK5, zK7, zK8, zK9, zK10, zK19, zK20, zK40, zK99, zK100, zK199] at q24) | skip
          exact x_vret rfl dX12_plain_47 ⟨rfl, f, W, fun k hk => by rw [f1 k hk]; rfl, f2⟩
        · skip
          first | (simp only [cmp_lt, cmp_gt, cmp_eq, zN_cge, zN_cle, Decidable.not_not] at q24) | (simp (disch := omega) only [zN_le, zN_lt, zN_0, zN_1, nI_toInt, zN_eq, zN_eq0, b2_z, b2_nz, Decidable.not_not, Int.not_lt, Int.not_le, zK0, zK1, zK2, zK3, zK5, zK7, zK8, zK9, zK10, zK19, zK20, zK40, zK99, zK100, zK199] at q24) | skip
          omega
      · obtain ⟨f, W, f1, f2⟩ := hI
        refine x_il1 dX12_plain_21 ?_
        refine x_bipush (v := nI 6) dX12_plain_22 rfl ?_
        refine x_icmp_ge (tgt := 47) dX12_plain_24 rfl (fun q24 => ?_) (fun q24 => ?_)
        · skip
          first | (simp only [cmp_lt, cmp_gt, cmp_eq, zN_cge, zN_cle, Decidable.not_not] at q24) | (simp (disch := omega) only [zN_le, zN_lt, zN_0, zN_1, nI_toInt, zN_eq, zN_eq0, b2_z, b2_nz, Decidable.not_not, Int.not_lt, Int.not_le, zK0, zK1, zK2, zK3, zK5, zK7, zK8, zK9, zK10, zK19, zK20, zK40, zK99, zK100, zK199] at q24) | skip
          omega
        · skip
          first | (simp only [cmp_lt, cmp_gt, cmp_eq, zN_cge, zN_cle, Decidable.not_not] at q24) | (simp (disch := omega) only [zN_le, zN_lt, zN_0, zN_1, nI_toInt, zN_eq, zN_eq0, b2_z, b2_nz, Decidable.not_not, Int.not_lt, Int.not_le, zK0, zK1, zK2, zK3, zK5, zK7, zK8, zK9, zK10, zK19, zK20, zK40, zK99, zK100, zK199] at q24) | skip
          refine x_al0 rfl dX12_plain_27 ?_
          refine x_bipush (v := nI 9) dX12_plain_28 rfl ?_
          refine x_il1 dX12_plain_30 ?_
          first | refine x_iadd (nI_add _ _) dX12_plain_31 ?_ | refine x_iadd rfl dX12_plain_31 ?_
          refine x_il1 dX12_plain_32 ?_
          refine x_mst (len := 2868) W rfl rfl (by decide) (by omega) dX12_plain_33 (fun h W => ?_)
          rw [upM_upM, upM_eq] at W
          refine x_al0 rfl dX12_plain_34 ?_
          refine x_bipush (v := nI 15) dX12_plain_35 rfl ?_
          refine x_il1 dX12_plain_37 ?_
          first | refine x_iadd (nI_add _ _) dX12_plain_38 ?_ | refine x_iadd rfl dX12_plain_38 ?_
          refine x_il1 dX12_plain_39 ?_
          refine x_mst (len := 2868) W rfl rfl (by decide) (by omega) dX12_plain_40 (fun h W => ?_)
          rw [upM_upM, upM_eq] at W
          first | refine x_ii1 rfl (nI_1 _) dX12_plain_41 ?_ | refine x_ii1 rfl rfl dX12_plain_41 ?_
          refine x_goto (tgt := 21) dX12_plain_44 rfl ?_
          refine ih _ ⟨_, W, fun k hk => ?_, fun k hk => by rw [pk_un (by omega), pk_un (by omega)]; exact f2 k hk⟩
          by_cases z : k = 15 + i
          · rw [z, pk_us, if_neg (by omega), if_pos (by omega), Nat.add_sub_cancel_left]
          · rw [pk_un z]
            by_cases y : k = 9 + i
            · rw [y, pk_us, if_pos (by omega), Nat.add_sub_cancel_left]
            · rw [pk_un y, f1 k hk]
              (repeat' split) <;> first | rfl | (exfalso; omega)
    · skip
      first | (simp only [cmp_lt, cmp_gt, cmp_eq, zN_cge, zN_cle, Decidable.not_not] at q6) | (simp (disch := omega) only [zN_le, zN_lt, zN_0, zN_1, nI_toInt, zN_eq, zN_eq0, b2_z, b2_nz, Decidable.not_not, Int.not_lt, Int.not_le, zK0, zK1, zK2, zK3, zK5, zK7, zK8, zK9, zK10, zK19, zK20, zK40, zK99, zK100, zK199] at q6) | skip
      omega
  · obtain ⟨f, W, f1, f2⟩ := hI
    refine x_il1 dX12_plain_2 ?_
    refine x_sipush (v := nI 956) dX12_plain_3 (by decide) ?_
    refine x_icmp_ge (tgt := 19) dX12_plain_6 rfl (fun q6 => ?_) (fun q6 => ?_)
    · skip
      first | (simp only [cmp_lt, cmp_gt, cmp_eq, zN_cge, zN_cle, Decidable.not_not] at q6) | (simp (disch := omega) only [zN_le, zN_lt, zN_0, zN_1, nI_toInt, zN_eq, zN_eq0, b2_z, b2_nz, Decidable.not_not, Int.not_lt, Int.not_le, zK0, zK1, zK2, zK3, zK5, zK7, zK8, zK9, zK10, zK19, zK20, zK40, zK99, zK100, zK199] at q6) | skip
      omega
    · skip
      first | (simp only [cmp_lt, cmp_gt, cmp_eq, zN_cge, zN_cle, Decidable.not_not] at q6) | (simp (disch := omega) only [zN_le, zN_lt, zN_0, zN_1, nI_toInt, zN_eq, zN_eq0, b2_z, b2_nz, Decidable.not_not, Int.not_lt, Int.not_le, zK0, zK1, zK2, zK3, zK5, zK7, zK8, zK9, zK10, zK19, zK20, zK40, zK99, zK100, zK199] at q6) | skip
      refine x_al0 rfl dX12_plain_9 ?_
      refine x_il1 dX12_plain_10 ?_
      refine x_iconst (v := nI 0) dX12_plain_11 rfl ?_
      refine x_mst (len := 2868) W rfl rfl (by decide) (by omega) dX12_plain_12 (fun h W => ?_)
      first | refine x_ii1 rfl (nI_1 _) dX12_plain_13 ?_ | refine x_ii1 rfl rfl dX12_plain_13 ?_
      refine x_goto (tgt := 2) dX12_plain_16 rfl ?_
      rw [upM_upM, upM_eq] at W
      refine ih _ ⟨_, W, fun k hk => ?_, fun k hk => by rw [pk_un (by omega)]; exact f2 k hk⟩
      by_cases z : k = i
      · rw [z, pk_us]
      · rw [pk_un z]; exact f1 k (by omega)

end ZMd

