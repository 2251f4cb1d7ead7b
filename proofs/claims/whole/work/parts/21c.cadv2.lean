/-! the class's advance; its drafts -/
section ZAe
variable {g : zG} {d : Nat} {h0 h : zH} {r r' : Nat → Value} {A : Nat → Nat → Int32} {Q : Nat → zS3} {X : zX} {a b k p q i : Nat} {e : Nat × Nat}
theorem AD.bad (hK : tkK X q = 25) (R : RW h0 h r' A Q) (U : CU r r') (E : CKe r' (1, tkA X q)) : AD X h0 h r A Q q := ⟨r', R, U, by rw [if_pos hK]; exact E⟩
theorem AD.good (hK : tkK X q ≠ 25) (R : RW h0 h r' A Q) (U : CU r r') (E : CKo X r' q) : AD X h0 h r A Q q := ⟨r', R, U, by rw [if_neg hK]; exact E⟩
theorem i2c_n {c : Nat} (hc : c < 256) : ((nI c).toUInt32 % 65536).toInt32 = nI c := by
  have : ∀ c, c < 256 → ((nI c).toUInt32 % 65536).toInt32 = nI c := by decide +kernel
  exact this c hc
theorem c_adv (R : RW h0 h r A Q) (T : CX X h0 r) (e0 : r 0 = .int 0) (e12 : r 12 = .int (nI q)) (hq : q ≤ X.2) : Zm g (d + 5) 0 0 mX4_advance [.ref 2] h (rVp (fun h' => AD X h0 h' r A Q q)) := by
  obtain ⟨t10, t11, t9, F, tF, tx⟩ := id T
  have hq0 := hq
  show Zw g (d + 5) 0 0 mX4_advance 0 [some (.ref 2), none] [] h _
  refine x_al0 rfl dX4_advance_0 ?_
  refine x_rg R fdX4_9 (by decide) (by first | assumption | rfl) dX4_advance_1 ?_
  refine x_if_ne (tgt := 14) dX4_advance_4 rfl (fun q4 => ?_) (fun q4 => ?_)
  · skip
    first | (simp only [cmp_lt, cmp_gt, cmp_eq, zN_cge, zN_cle, Decidable.not_not] at q4) | (simp (disch := omega) only [zN_le, zN_lt, zN_0, zN_1, nI_toInt, zN_eq, zN_eq0, b2_z, b2_nz, Decidable.not_not, Int.not_lt, Int.not_le, zK0, zK1, zK2, zK3, zK5, zK7, zK8, zK9, zK10, zK19, zK20, zK40, zK99, zK100, zK199] at q4) | skip
    exact absurd trivial q4
  · skip
    first | (simp only [cmp_lt, cmp_gt, cmp_eq, zN_cge, zN_cle, Decidable.not_not] at q4) | (simp (disch := omega) only [zN_le, zN_lt, zN_0, zN_1, nI_toInt, zN_eq, zN_eq0, b2_z, b2_nz, Decidable.not_not, Int.not_lt, Int.not_le, zK0, zK1, zK2, zK3, zK5, zK7, zK8, zK9, zK10, zK19, zK20, zK40, zK99, zK100, zK199] at q4) | skip
    refine x_al0 rfl dX4_advance_7 ?_
    refine x_rg R fdX4_47 (by decide) (by first | assumption | rfl) dX4_advance_8 ?_
    refine x_ifnonnull (tgt := 15) dX4_advance_11 rfl ?_
    refine x_wh (fun (a : Nat) => [some (.ref 2), none]) (fun a h => ∃ r', RW h0 h r' A Q ∧ CU r r' ∧ r' 0 = .int 0 ∧ r' 12 = .int (nI a) ∧ q ≤ a ∧ a ≤ X.2 ∧ rnX X isWs q = rnX X isWs a) (fun a => X.2 - a) q ⟨r, R, CU.rf, e0, e12, Nat.le_refl _, hq, rfl⟩ (fun a h hI ih => ?_)
    obtain ⟨r2, R, U, e0, e12, qa, aX, hr⟩ := hI
    have T2 := T.cu U
    have t10 := T2.1
    have t11 := T2.2.1
    have stepW : isWs (X.1 a) = true → a < X.2 → Zw g (d + 5) 0 0 mX4_advance 54 [some (.ref 2), none] [] h (rVp (fun h' => AD X h0 h' r A Q q)) := by
      intro z1 z2
      refine x_al0 rfl dX4_advance_54 ?_
      refine x_dup rfl dX4_advance_55 ?_
      refine x_rg R fdX4_54 (by decide) (by first | assumption | rfl) dX4_advance_56 ?_
      refine x_iconst (v := nI 1) dX4_advance_59 rfl ?_
      first | refine x_iadd (nI_add _ _) dX4_advance_60 ?_ | refine x_iadd rfl dX4_advance_60 ?_
      refine x_rp R fdX4_54 (by decide) (by decide) (by first | exact fun _ => ⟨_, rfl⟩ | exact fun z => absurd z (by decide)) zf_i dX4_advance_61 (fun h R => ?_)
      refine x_goto (tgt := 15) dX4_advance_64 rfl ?_
      exact ih (a + 1) _ (by omega) ⟨_, R, U.up (Or.inr (Or.inr (Or.inl rfl))), e0, rfl, by omega, by omega, by rw [hr, rnX_t z2 z1]⟩
    have last : ¬ (a < X.2 ∧ isWs (X.1 a) = true) → Zw g (d + 5) 0 0 mX4_advance 67 [some (.ref 2), none] [] h (rVp (fun h' => AD X h0 h' r A Q q)) := by
      intro hn
      have ea : tkA X q = a := by
        unfold tkA
        rw [hr]
        exact rnX_f hn
      refine x_al0 rfl dX4_advance_67 ?_
      refine x_al0 rfl dX4_advance_68 ?_
      refine x_rg R fdX4_54 (by decide) (by first | assumption | rfl) dX4_advance_69 ?_
      refine x_rp R fdX4_60 (by decide) (by decide) (by first | exact fun _ => ⟨_, rfl⟩ | exact fun z => absurd z (by decide)) zf_i dX4_advance_72 (fun h R => ?_)
      refine x_al0 rfl dX4_advance_75 ?_
      refine x_rg R fdX4_54 (by decide) (by first | assumption | rfl) dX4_advance_76 ?_
      refine x_al0 rfl dX4_advance_79 ?_
      refine x_rg R fdX4_51 (by decide) (by first | assumption | rfl) dX4_advance_80 ?_
      refine x_icmp_lt (tgt := 92) dX4_advance_83 rfl (fun q83 => ?_) (fun q83 => ?_)
      · skip
        first | (simp only [cmp_lt, cmp_gt, cmp_eq, zN_cge, zN_cle, Decidable.not_not] at q83) | (simp (disch := omega) only [zN_le, zN_lt, zN_0, zN_1, nI_toInt, zN_eq, zN_eq0, b2_z, b2_nz, Decidable.not_not, Int.not_lt, Int.not_le, zK0, zK1, zK2, zK3, zK5, zK7, zK8, zK9, zK10, zK19, zK20, zK40, zK99, zK100, zK199] at q83) | skip
        refine x_al0 rfl dX4_advance_92 ?_
        refine x_rg R fdX4_47 (by decide) (by first | assumption | rfl) dX4_advance_93 ?_
        refine x_al0 rfl dX4_advance_96 ?_
        refine x_rg R fdX4_54 (by decide) (by first | assumption | rfl) dX4_advance_97 ?_
        have U := U.up (k := 14) (v := .int (nI a)) (Or.inr (Or.inr (Or.inr (Or.inr (Or.inl rfl)))))
        have T2 := T.cu U
        have tb := (tx a (by omega)).2
        have hK : tkK X q = if isLo (X.1 a) = true then keyX X a (rnX X isLo a) else if isDg (X.1 a) = true then (if 3 < rnX X isDg a - a then 25 else 23) else sgK (X.1 a) := by rw [tkK, ea, if_neg (by omega)]
        have hB : tkB X q = if isLo (X.1 a) = true then rnX X isLo a else if isDg (X.1 a) = true then rnX X isDg a else a + 1 := by rw [tkB, ea, if_neg (by omega)]
        refine x_txt R T2 (by omega) dX4_advance_100 ?_
        have e14 : va_up r2 14 (.int (nI a)) 14 = .int (nI a) := rfl
        refine x_sipush (v := nI 255) dX4_advance_101 (by decide) ?_
        refine x_iand ((bsg_v (X.1 a) tb).2) dX4_advance_104 ?_
        refine x_is1 rfl dX4_advance_105 ?_
        refine x_il1 dX4_advance_106 ?_
        refine x_cs1I mX4_isLetter_ok lkX4_152 (Nat.le_of_ble_eq_true rfl) (Nat.le_of_ble_eq_true rfl) dX4_advance_107 (c_letN tb) ?_
        refine x_if_eq (tgt := 171) dX4_advance_110 rfl (fun q110 => ?_) (fun q110 => ?_)
        · skip
          first | (simp only [cmp_lt, cmp_gt, cmp_eq, zN_cge, zN_cle, Decidable.not_not] at q110) | (simp (disch := omega) only [zN_le, zN_lt, zN_0, zN_1, nI_toInt, zN_eq, zN_eq0, b2_z, b2_nz, Decidable.not_not, Int.not_lt, Int.not_le, zK0, zK1, zK2, zK3, zK5, zK7, zK8, zK9, zK10, zK19, zK20, zK40, zK99, zK100, zK199] at q110) | skip
          refine x_il1 dX4_advance_171 ?_
          refine x_cs1I mX4_isDigit_ok lkX4_159 (Nat.le_of_ble_eq_true rfl) (Nat.le_of_ble_eq_true rfl) dX4_advance_172 (c_digN tb) ?_
          refine x_if_eq (tgt := 185) dX4_advance_175 rfl (fun q175 => ?_) (fun q175 => ?_)
          · skip
            first | (simp only [cmp_lt, cmp_gt, cmp_eq, zN_cge, zN_cle, Decidable.not_not] at q175) | (simp (disch := omega) only [zN_le, zN_lt, zN_0, zN_1, nI_toInt, zN_eq, zN_eq0, b2_z, b2_nz, Decidable.not_not, Int.not_lt, Int.not_le, zK0, zK1, zK2, zK3, zK5, zK7, zK8, zK9, zK10, zK19, zK20, zK40, zK99, zK100, zK199] at q175) | skip
            refine x_lit1 rfl dX4_advance_185 ?_
            refine x_il1 dX4_advance_187 ?_
            refine x_i2c (i2c_n tb) dX4_advance_188 ?_
            refine x_ct1 (j := 1) mJ0_indexOf_0f7a4_ok lkX4_167 rfl (by omega) (Nat.le_of_ble_eq_true rfl) (Nat.le_of_ble_eq_true rfl) dX4_advance_189 (c_ixO tb) (fun v h' hq => ?_)
            obtain ⟨x, rfl, rfl, hx⟩ := hq
            rw [if_neg q110, if_neg q175] at hK hB
            refine x_if_lt (tgt := 213) dX4_advance_192 rfl (fun q192 => ?_) (fun q192 => ?_)
            · skip
              have k25 : sgK (X.1 a) = 25 := Decidable.byContradiction (fun z => by rw [if_neg z] at hx; exact hx q192)
              refine x_al0 rfl dX4_advance_213 ?_
              refine x_iconst (v := nI 1) dX4_advance_214 rfl ?_
              refine x_cv1Vp mX4_fail_ok lkX4_98 rfl (Nat.le_of_ble_eq_true rfl) (Nat.le_of_ble_eq_true rfl) dX4_advance_215 R.get  (c_fail (fa := 1) (by decide) (by decide) R e0 e14) (fun h hq => ?_)
              obtain ⟨r3, R3, U3, E3⟩ := hq
              exact x_vret rfl dX4_advance_218 ⟨rfl, AD.bad (by rw [hK]; exact k25) R3 (U.tr U3) (by rw [ea]; exact E3)⟩
            · skip
              refine x_al0 rfl dX4_advance_195 ?_
              refine x_il1 dX4_advance_196 ?_
              refine x_rp R fdX4_57 (by decide) (by decide) (by first | exact fun _ => ⟨_, rfl⟩ | exact fun z => absurd z (by decide)) zf_i dX4_advance_197 (fun h R => ?_)
              refine x_al0 rfl dX4_advance_200 ?_
              refine x_dup rfl dX4_advance_201 ?_
              refine x_rg R fdX4_54 (by decide) (by first | assumption | rfl) dX4_advance_202 ?_
              refine x_iconst (v := nI 1) dX4_advance_205 rfl ?_
              first | refine x_iadd (nI_add _ _) dX4_advance_206 ?_ | refine x_iadd rfl dX4_advance_206 ?_
              refine x_rp R fdX4_54 (by decide) (by decide) (by first | exact fun _ => ⟨_, rfl⟩ | exact fun z => absurd z (by decide)) zf_i dX4_advance_207 (fun h R => ?_)
              refine x_goto (tgt := 218) dX4_advance_210 rfl ?_
              have k25 : sgK (X.1 a) ≠ 25 := fun z => by rw [if_pos z] at hx; exact q192 hx
              have kt := (tokS _ tb).resolve_left k25
              exact x_vret rfl dX4_advance_218 ⟨rfl, AD.good (by rw [hK]; exact k25) R ((U.up (Or.inr (Or.inr (Or.inr (Or.inl rfl))))).up (Or.inr (Or.inr (Or.inl rfl)))) ⟨e0, hq0, by rw [hB]; rfl, by rw [hK, kt]; rfl, by rw [ea]; rfl, fun z => by rw [hK] at z; rcases sgK_r (c := X.1 a) with y | y <;> omega, by rw [hK]; exact k25⟩⟩
          · skip
            first | (simp only [cmp_lt, cmp_gt, cmp_eq, zN_cge, zN_cle, Decidable.not_not] at q175) | (simp (disch := omega) only [zN_le, zN_lt, zN_0, zN_1, nI_toInt, zN_eq, zN_eq0, b2_z, b2_nz, Decidable.not_not, Int.not_lt, Int.not_le, zK0, zK1, zK2, zK3, zK5, zK7, zK8, zK9, zK10, zK19, zK20, zK40, zK99, zK100, zK199] at q175) | skip
            refine x_al0 rfl dX4_advance_178 ?_
            refine x_cv0Vp mX4_readNumber_ok lkX4_162 rfl (Nat.le_of_ble_eq_true rfl) (Nat.le_of_ble_eq_true rfl) dX4_advance_179 R.get  (c_readN R T2 e0 e12 e14 aX) (fun h hq => ?_)
            obtain ⟨r3, R3, U3, E3⟩ := hq
            rw [if_neg q110, if_pos q175] at hK hB
            refine x_goto (tgt := 218) dX4_advance_182 rfl ?_
            by_cases z : 3 < rnX X isDg a - a
            · rw [if_pos z] at hK E3
              exact x_vret rfl dX4_advance_218 ⟨rfl, AD.bad hK R3 (U.tr U3) (by rw [ea]; exact E3)⟩
            · rw [if_neg z] at hK E3
              exact x_vret rfl dX4_advance_218 ⟨rfl, AD.good (by omega) R3 (U.tr U3) ⟨E3.1, hq0, by rw [hB]; exact E3.2.1, by rw [hK]; exact E3.2.2.1, by rw [ea]; exact E3.2.2.2.1, fun _ => by rw [tkV, ea]; exact E3.2.2.2.2, by omega⟩⟩
        · skip
          first | (simp only [cmp_lt, cmp_gt, cmp_eq, zN_cge, zN_cle, Decidable.not_not] at q110) | (simp (disch := omega) only [zN_le, zN_lt, zN_0, zN_1, nI_toInt, zN_eq, zN_eq0, b2_z, b2_nz, Decidable.not_not, Int.not_lt, Int.not_le, zK0, zK1, zK2, zK3, zK5, zK7, zK8, zK9, zK10, zK19, zK20, zK40, zK99, zK100, zK199] at q110) | skip
          rw [if_pos q110] at hK hB
          refine x_wh (fun (b : Nat) => [some (.ref 2), some (.int (nI (X.1 a)))]) (fun b h => ∃ r', RW h0 h r' A Q ∧ CU r r' ∧ r' 0 = .int 0 ∧ r' 12 = .int (nI b) ∧ r' 14 = .int (nI a) ∧ a ≤ b ∧ b ≤ X.2 ∧ rnX X isLo a = rnX X isLo b) (fun b => X.2 - b) a ⟨_, R, U, e0, e12, rfl, Nat.le_refl _, aX, rfl⟩ (fun b h hI ih => ?_)
          obtain ⟨r3, R, U, e0, e12, e14, ab, bX, hr2⟩ := hI
          have T2 := T.cu U
          have t10 := T2.1
          have t11 := T2.2.1
          have lastW : ¬ (b < X.2 ∧ isLo (X.1 b) = true) → Zw g (d + 5) 0 0 mX4_advance 152 [some (.ref 2), some (.int (nI (X.1 a)))] [] h (rVp (fun h' => AD X h0 h' r A Q q)) := by
            intro hn
            have er : rnX X isLo a = b := by rw [hr2]; exact rnX_f hn
            have nk : keyX X a b ≠ 25 ∧ keyX X a b ≠ 23 := by rcases keyX_r (X := X) (a := a) (b := b) with y | y <;> omega
            rw [er] at hK hB
            refine x_al0 rfl dX4_advance_152 ?_
            refine x_al0 rfl dX4_advance_153 ?_
            refine x_al0 rfl dX4_advance_154 ?_
            refine x_rg R fdX4_60 (by decide) (by first | assumption | rfl) dX4_advance_155 ?_
            refine x_al0 rfl dX4_advance_158 ?_
            refine x_rg R fdX4_54 (by decide) (by first | assumption | rfl) dX4_advance_159 ?_
            refine x_cv2I mX4_wordBetween_ok lkX4_156 rfl (Nat.le_of_ble_eq_true rfl) (Nat.le_of_ble_eq_true rfl) dX4_advance_162 R.get  (c_word R T2 ab bX) ?_
            refine x_rp R fdX4_57 (by decide) (by decide) (by first | exact fun _ => ⟨_, rfl⟩ | exact fun z => absurd z (by decide)) zf_i dX4_advance_165 (fun h R => ?_)
            refine x_goto (tgt := 218) dX4_advance_168 rfl ?_
            exact x_vret rfl dX4_advance_218 ⟨rfl, AD.good (by omega) R (U.up (Or.inr (Or.inr (Or.inr (Or.inl rfl))))) ⟨e0, hq0, by rw [hB]; exact e12, by rw [hK]; rfl, by rw [ea]; exact e14, fun z => by omega, by omega⟩⟩
          refine x_al0 rfl dX4_advance_113 ?_
          refine x_rg R fdX4_54 (by decide) (by first | assumption | rfl) dX4_advance_114 ?_
          refine x_al0 rfl dX4_advance_117 ?_
          refine x_rg R fdX4_51 (by decide) (by first | assumption | rfl) dX4_advance_118 ?_
          refine x_icmp_ge (tgt := 152) dX4_advance_121 rfl (fun q121 => ?_) (fun q121 => ?_)
          · skip
            first | (simp only [cmp_lt, cmp_gt, cmp_eq, zN_cge, zN_cle, Decidable.not_not] at q121) | (simp (disch := omega) only [zN_le, zN_lt, zN_0, zN_1, nI_toInt, zN_eq, zN_eq0, b2_z, b2_nz, Decidable.not_not, Int.not_lt, Int.not_le, zK0, zK1, zK2, zK3, zK5, zK7, zK8, zK9, zK10, zK19, zK20, zK40, zK99, zK100, zK199] at q121) | skip
            exact lastW (fun z => by omega)
          · skip
            first | (simp only [cmp_lt, cmp_gt, cmp_eq, zN_cge, zN_cle, Decidable.not_not] at q121) | (simp (disch := omega) only [zN_le, zN_lt, zN_0, zN_1, nI_toInt, zN_eq, zN_eq0, b2_z, b2_nz, Decidable.not_not, Int.not_lt, Int.not_le, zK0, zK1, zK2, zK3, zK5, zK7, zK8, zK9, zK10, zK19, zK20, zK40, zK99, zK100, zK199] at q121) | skip
            refine x_al0 rfl dX4_advance_124 ?_
            refine x_rg R fdX4_47 (by decide) (by first | assumption | rfl) dX4_advance_125 ?_
            refine x_al0 rfl dX4_advance_128 ?_
            refine x_rg R fdX4_54 (by decide) (by first | assumption | rfl) dX4_advance_129 ?_
            have tb2 := (tx b (by omega)).2
            refine x_txt R T2 (by omega) dX4_advance_132 ?_
            refine x_cs1I mX4_isLetter_ok lkX4_152 (Nat.le_of_ble_eq_true rfl) (Nat.le_of_ble_eq_true rfl) dX4_advance_133 (c_letB tb2) ?_
            refine x_if_eq (tgt := 152) dX4_advance_136 rfl (fun q136 => ?_) (fun q136 => ?_)
            · skip
              first | (simp only [cmp_lt, cmp_gt, cmp_eq, zN_cge, zN_cle, Decidable.not_not] at q136) | (simp (disch := omega) only [zN_le, zN_lt, zN_0, zN_1, nI_toInt, zN_eq, zN_eq0, b2_z, b2_nz, Decidable.not_not, Int.not_lt, Int.not_le, zK0, zK1, zK2, zK3, zK5, zK7, zK8, zK9, zK10, zK19, zK20, zK40, zK99, zK100, zK199] at q136) | skip
              exact lastW (fun z => q136 z.2)
            · skip
              first | (simp only [cmp_lt, cmp_gt, cmp_eq, zN_cge, zN_cle, Decidable.not_not] at q136) | (simp (disch := omega) only [zN_le, zN_lt, zN_0, zN_1, nI_toInt, zN_eq, zN_eq0, b2_z, b2_nz, Decidable.not_not, Int.not_lt, Int.not_le, zK0, zK1, zK2, zK3, zK5, zK7, zK8, zK9, zK10, zK19, zK20, zK40, zK99, zK100, zK199] at q136) | skip
              refine x_al0 rfl dX4_advance_139 ?_
              refine x_dup rfl dX4_advance_140 ?_
              refine x_rg R fdX4_54 (by decide) (by first | assumption | rfl) dX4_advance_141 ?_
              refine x_iconst (v := nI 1) dX4_advance_144 rfl ?_
              first | refine x_iadd (nI_add _ _) dX4_advance_145 ?_ | refine x_iadd rfl dX4_advance_145 ?_
              refine x_rp R fdX4_54 (by decide) (by decide) (by first | exact fun _ => ⟨_, rfl⟩ | exact fun z => absurd z (by decide)) zf_i dX4_advance_146 (fun h R => ?_)
              refine x_goto (tgt := 113) dX4_advance_149 rfl ?_
              exact ih (b + 1) _ (by omega) ⟨_, R, U.up (Or.inr (Or.inr (Or.inl rfl))), e0, rfl, e14, by omega, by omega, by rw [hr2, rnX_t (by omega) q136]⟩
      · skip
        first | (simp only [cmp_lt, cmp_gt, cmp_eq, zN_cge, zN_cle, Decidable.not_not] at q83) | (simp (disch := omega) only [zN_le, zN_lt, zN_0, zN_1, nI_toInt, zN_eq, zN_eq0, b2_z, b2_nz, Decidable.not_not, Int.not_lt, Int.not_le, zK0, zK1, zK2, zK3, zK5, zK7, zK8, zK9, zK10, zK19, zK20, zK40, zK99, zK100, zK199] at q83) | skip
        refine x_al0 rfl dX4_advance_86 ?_
        refine x_iconst (v := nI 0) dX4_advance_87 rfl ?_
        refine x_rp R fdX4_57 (by decide) (by decide) (by first | exact fun _ => ⟨_, rfl⟩ | exact fun z => absurd z (by decide)) zf_i dX4_advance_88 (fun h R => ?_)
        have hK : tkK X q = 24 := by rw [tkK, if_pos (by omega)]
        exact x_vret rfl dX4_advance_91 ⟨rfl, AD.good (by omega) R ((U.up (Or.inr (Or.inr (Or.inr (Or.inr (Or.inl rfl)))))).up (Or.inr (Or.inr (Or.inr (Or.inl rfl))))) ⟨e0, hq, by rw [tkB, if_pos (by omega), ea]; exact e12, by rw [hK]; rfl, by rw [ea]; rfl, fun z => by omega, by omega⟩⟩
    refine x_al0 rfl dX4_advance_15 ?_
    refine x_rg R fdX4_54 (by decide) (by first | assumption | rfl) dX4_advance_16 ?_
    refine x_al0 rfl dX4_advance_19 ?_
    refine x_rg R fdX4_51 (by decide) (by first | assumption | rfl) dX4_advance_20 ?_
    refine x_icmp_ge (tgt := 67) dX4_advance_23 rfl (fun q23 => ?_) (fun q23 => ?_)
    · skip
      first | (simp only [cmp_lt, cmp_gt, cmp_eq, zN_cge, zN_cle, Decidable.not_not] at q23) | (simp (disch := omega) only [zN_le, zN_lt, zN_0, zN_1, nI_toInt, zN_eq, zN_eq0, b2_z, b2_nz, Decidable.not_not, Int.not_lt, Int.not_le, zK0, zK1, zK2, zK3, zK5, zK7, zK8, zK9, zK10, zK19, zK20, zK40, zK99, zK100, zK199] at q23) | skip
      exact last (fun z => by omega)
    · skip
      first | (simp only [cmp_lt, cmp_gt, cmp_eq, zN_cge, zN_cle, Decidable.not_not] at q23) | (simp (disch := omega) only [zN_le, zN_lt, zN_0, zN_1, nI_toInt, zN_eq, zN_eq0, b2_z, b2_nz, Decidable.not_not, Int.not_lt, Int.not_le, zK0, zK1, zK2, zK3, zK5, zK7, zK8, zK9, zK10, zK19, zK20, zK40, zK99, zK100, zK199] at q23) | skip
      refine x_al0 rfl dX4_advance_26 ?_
      refine x_rg R fdX4_47 (by decide) (by first | assumption | rfl) dX4_advance_27 ?_
      refine x_al0 rfl dX4_advance_30 ?_
      refine x_rg R fdX4_54 (by decide) (by first | assumption | rfl) dX4_advance_31 ?_
      have tb := (tx a (by omega)).2
      refine x_txt R T2 (by omega) dX4_advance_34 ?_
      refine x_bipush (v := nI 32) dX4_advance_35 rfl ?_
      refine x_icmp_eq (tgt := 54) dX4_advance_37 rfl (fun q37 => ?_) (fun q37 => ?_)
      · skip
        exact stepW (by rw [(bsg_e tb (by decide)).mp q37]; rfl) (by omega)
      · skip
        refine x_al0 rfl dX4_advance_40 ?_
        refine x_rg R fdX4_47 (by decide) (by first | assumption | rfl) dX4_advance_41 ?_
        refine x_al0 rfl dX4_advance_44 ?_
        refine x_rg R fdX4_54 (by decide) (by first | assumption | rfl) dX4_advance_45 ?_
        refine x_txt R T2 (by omega) dX4_advance_48 ?_
        refine x_bipush (v := nI 10) dX4_advance_49 rfl ?_
        refine x_icmp_ne (tgt := 67) dX4_advance_51 rfl (fun q51 => ?_) (fun q51 => ?_)
        · skip
          refine last (fun z => ?_)
          have z2 := z.2
          simp only [isWs, decide_eq_true_eq] at z2
          rcases z2 with y | y
          · exact q51 ((bsg_e tb (by decide)).mpr y)
          · exact q37 ((bsg_e tb (by decide)).mpr y)
        · skip
          exact stepW (by rw [(bsg_e tb (by decide)).mp q51]; rfl) (by omega)
theorem e_adv (R : RW h0 h r A Q) (E : CKe r e) : Zm g d 0 0 mX4_advance [.ref 2] h (rV h) := by
  have e0 := E.1
  show Zw g d 0 0 mX4_advance 0 [some (.ref 2), none] [] h _
  refine x_al0 rfl dX4_advance_0 ?_
  refine x_rg R fdX4_9 (by decide) (by first | assumption | rfl) dX4_advance_1 ?_
  refine x_if_ne (tgt := 14) dX4_advance_4 rfl (fun q4 => ?_) (fun q4 => ?_)
  · skip
    exact x_vret rfl dX4_advance_14 ⟨rfl, rfl⟩
  · skip
    exact absurd q4 (nI_n05 E.2.2.2.1 E.2.2.2.2)
end ZAe

