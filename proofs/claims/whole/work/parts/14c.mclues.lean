/-! the model's clues -/
section ZMcl
variable {g : zG} {d : Nat} {h0 h : zH} {s : Nat → Value} {M : Nat → Nat → Int32} {L : Nat → Nat → Int64} {dk : zDk} {st : zSt} {un : List zSt} {tp : List Nat} {tr : Nat → zTr} {pi : Nat → zPi} {fl : Nat × Nat}
/-- the values so far were so -/
def clP (dk : zDk) (st : zSt) (vs : List Int64) (c i : Nat) : Bool := decide (lN (mskK dk (ngk dk.1 dk.2.2.1 (i + 1) st.1) c) = vs.getD i 0)
def andB (P : Nat → Bool) : Nat → Bool
  | 0 => true
  | k + 1 => andB P k && P k
theorem andB_all {P : Nat → Bool} : ∀ k j, (andB P j && allL P k j) = andB P (j + k) := by
  intro k
  induction k with
  | zero => intro j; rw [allL, Bool.and_true]; rfl
  | succ k ih =>
    intro j
    rw [show j + (k + 1) = (j + 1) + k by omega, ← ih (j + 1), allL, andB, Bool.and_assoc]
theorem clB_and {dk : zDk} {st : zSt} {vs : List Int64} {c : Nat} : clB dk st vs c = andB (clP dk st vs c) vs.length := by
  have := andB_all (P := clP dk st vs c) vs.length 0
  rw [Nat.zero_add] at this
  rw [← this]
  rfl
theorem b2_and {P Q : Prop} [Decidable P] [Decidable Q] : b2 P &&& b2 Q = b2 (P ∧ Q) := by
  unfold b2
  by_cases p : P
  · by_cases q : Q
    · rw [if_pos p, if_pos q, if_pos ⟨p, q⟩]; rfl
    · rw [if_pos p, if_neg q, if_neg (fun z => q z.2)]; rfl
  · by_cases q : Q
    · rw [if_neg p, if_pos q, if_neg (fun z => p z.1)]; rfl
    · rw [if_neg p, if_neg q, if_neg (fun z => p z.1)]; rfl
theorem w_clues {x : Int32} (I : MI h0 h dk st un tp tr pi fl) : Zm g (d + 5) 0 0 mX12_clues [.ref 59, .int x] h (rIp (fun r h' => r = F_clues dk st tr x ∧ MI h0 h' dk st un tp tr pi fl)) := by
  obtain ⟨s, M, L, W, J⟩ := I
  obtain ⟨D, hn0, hn6, ho0, ho9, hng, hli, e0, e1, e2, m1, m2, m3, m4, m5, u1, u2, t1, t2, r1, hf⟩ := MJ.o J
  show Zw g (d + 5) 0 0 mX12_clues 0 [some (.ref 59), some (.int x), none, none, none, none, none, none] [] h _
  refine x_al0 rfl dX12_clues_0 ?_
  refine x_iconst (v := nI 0) dX12_clues_1 rfl ?_
  refine x_mpfJ W J fdX12_1 (by decide) rfl rfl zf_i dX12_clues_2 (fun h W J => ?_)
  refine x_al0 rfl dX12_clues_5 ?_
  refine x_il1 dX12_clues_6 ?_
  refine x_cv1I mX12_noTray_ok lkX12_314 rfl (Nat.le_of_ble_eq_true rfl) (Nat.le_of_ble_eq_true rfl) dX12_clues_7 W.hM  (j_noTray W J) ?_
  refine x_is2 rfl dX12_clues_10 ?_
  refine x_il2 dX12_clues_11 ?_
  refine x_if_eq (tgt := 17) dX12_clues_12 rfl (fun q12 => ?_) (fun q12 => ?_)
  · skip
    obtain ⟨x4, q, hq0⟩ := noT_0 q12
    obtain ⟨k, hk, rfl⟩ := oneOf_ex x4
    rw [show tn (nI k) = k from nI_clamp (by omega)] at hq0
    have e0 : noTl tr 0 (((2 ^ dk.1 - 1 : Nat) : Int)) (nI k) = rfs 0 (((2 ^ dk.1 - 1 : Nat) : Int)) q.2 := by rw [noTl, if_pos x4, show tn (nI k) = k from nI_clamp (by omega), hq0]
    have etv : tv tr (nI k) = q.2 := by unfold tv; rw [show tn (nI k) = k from nI_clamp (by omega), hq0]
    unfold F_clues
    rw [e0, etv]
    obtain ⟨b1, b2', b3, b4, b5⟩ := J.tray hk hq0
    refine x_al0 rfl dX12_clues_17 ?_
    refine x_gm fdX12_82 W.hM (by decide) W.hF.f39 dX12_clues_18 ?_
    refine x_il1 dX12_clues_21 ?_
    refine x_mld (len := 4) W rfl rfl (by decide) (by omega) (by first | assumption | rfl) dX12_clues_22 ?_
    refine x_i2l (rfl) dX12_clues_23 ?_
    refine x_lconst (v := 1) dX12_clues_24 rfl ?_
    refine x_ldc2 kcX12_394 dX12_clues_25 ?_
    refine x_cs3I mX12_within_ok lkX12_157 (Nat.le_of_ble_eq_true rfl) (Nat.le_of_ble_eq_true rfl) dX12_clues_28 j_within ?_
    refine x_if_ne (tgt := 37) dX12_clues_31 rfl (fun q31 => ?_) (fun q31 => ?_)
    · skip
      first | (simp only [cmp_lt, cmp_gt, cmp_eq, zN_cge, zN_cle, Decidable.not_not] at q31) | (simp (disch := omega) only [zN_le, zN_lt, zN_0, zN_1, nI_toInt, zN_eq, zN_eq0, b2_z, b2_nz, Decidable.not_not, Int.not_lt, Int.not_le, zK0, zK1, zK2, zK3, zK5, zK7, zK8, zK9, zK10, zK19, zK20, zK40, zK99, zK100, zK199] at q31) | skip
      have e1 : rfs 0 (((2 ^ dk.1 - 1 : Nat) : Int)) q.2 = if allL (rngB 0 (((2 ^ dk.1 - 1 : Nat) : Int)) q.2) q.2.length 0 then 0 else -3 := if_pos (by omega)
      rw [e1]
      have p6 := pow6 hn6
      refine x_iconst (v := nI 0) dX12_clues_37 rfl ?_
      refine x_is3 rfl dX12_clues_38 ?_
      refine x_wh (fun (i : Nat) => [some (.ref 59), some (.int (nI k)), some (.int (noT tr (nI k))), some (.int (nI i)), none, none, none, none]) (fun i h' => i ≤ q.2.length ∧ h' = h ∧ allL (rngB 0 (((2 ^ dk.1 - 1 : Nat) : Int)) q.2) q.2.length 0 = allL (rngB 0 (((2 ^ dk.1 - 1 : Nat) : Int)) q.2) (q.2.length - i) i) (fun i => 50 - i) 0 ⟨Nat.zero_le _, rfl, rfl⟩ (fun i h' hI ih => ?_)
      obtain ⟨hi, rfl, hE⟩ := hI
      refine x_il3 dX12_clues_39 ?_
      refine x_al0 rfl dX12_clues_40 ?_
      refine x_gm fdX12_82 W.hM (by decide) W.hF.f39 dX12_clues_41 ?_
      refine x_il1 dX12_clues_44 ?_
      refine x_mld (len := 4) W rfl rfl (by decide) (by omega) (by first | assumption | rfl) dX12_clues_45 ?_
      refine x_icmp_ge (tgt := 87) dX12_clues_46 rfl (fun q46 => ?_) (fun q46 => ?_)
      · skip
        first | (simp only [cmp_lt, cmp_gt, cmp_eq, zN_cge, zN_cle, Decidable.not_not] at q46) | (simp (disch := omega) only [zN_le, zN_lt, zN_0, zN_1, nI_toInt, zN_eq, zN_eq0, b2_z, b2_nz, Decidable.not_not, Int.not_lt, Int.not_le, zK0, zK1, zK2, zK3, zK5, zK7, zK8, zK9, zK10, zK19, zK20, zK40, zK99, zK100, zK199] at q46) | skip
        rw [show i = q.2.length by omega, Nat.sub_self] at hE
        rw [show allL (rngB 0 (((2 ^ dk.1 - 1 : Nat) : Int)) q.2) 0 q.2.length = true from rfl] at hE
        rw [if_pos hE, if_pos rfl]
        refine x_iconst (v := nI 0) dX12_clues_87 rfl ?_
        refine x_is3 rfl dX12_clues_88 ?_
        refine x_iconst (v := nI 0) dX12_clues_89 rfl ?_
        refine x_is4 rfl dX12_clues_90 ?_
        refine x_wh (fun (a : Nat × Option Value × Option Value × Option Value) => [some (.ref 59), some (.int (nI k)), some (.int (noT tr (nI k))), some (.int (nI (brs (clB dk st q.2) a.1))), some (.int (nI a.1)), a.2.1, a.2.2.1, a.2.2.2]) (fun a h => a.1 ≤ 10 ∧ ∃ s M L, MW h0 h s M L ∧ MJ s M L dk st un tp tr pi fl) (fun a => 10 - a.1) (0, none, none, none) ⟨Nat.zero_le _, _, _, _, W, J⟩ (fun a h hI ih => ?_)
        obtain ⟨c, v1, v2, v3⟩ := a
        obtain ⟨hc, s, M, L, W, J⟩ := hI
        simp only at hc
        dsimp only
        obtain ⟨D, hn0, hn6, ho0, ho9, hng, hli, e0, e1, e2, m1, m2, m3, m4, m5, u1, u2, t1, t2, r1, hf⟩ := MJ.o J
        obtain ⟨b1, b2', b3, b4, b5⟩ := J.tray hk hq0
        refine x_il4 dX12_clues_92 ?_
        refine x_bipush (v := nI 10) dX12_clues_94 rfl ?_
        refine x_icmp_ge (tgt := 196) dX12_clues_96 rfl (fun q96 => ?_) (fun q96 => ?_)
        · skip
          first | (simp only [cmp_lt, cmp_gt, cmp_eq, zN_cge, zN_cle, Decidable.not_not] at q96) | (simp (disch := omega) only [zN_le, zN_lt, zN_0, zN_1, nI_toInt, zN_eq, zN_eq0, b2_z, b2_nz, Decidable.not_not, Int.not_lt, Int.not_le, zK0, zK1, zK2, zK3, zK5, zK7, zK8, zK9, zK10, zK19, zK20, zK40, zK99, zK100, zK199] at q96) | skip
          have c9 : c = 10 := by omega
          subst c9
          refine x_il3 dX12_clues_196 ?_
          exact x_iret rfl rfl dX12_clues_197 ⟨_, rfl, rfl, _, _, _, W, J⟩
        · skip
          first | (simp only [cmp_lt, cmp_gt, cmp_eq, zN_cge, zN_cle, Decidable.not_not] at q96) | (simp (disch := omega) only [zN_le, zN_lt, zN_0, zN_1, nI_toInt, zN_eq, zN_eq0, b2_z, b2_nz, Decidable.not_not, Int.not_lt, Int.not_le, zK0, zK1, zK2, zK3, zK5, zK7, zK8, zK9, zK10, zK19, zK20, zK40, zK99, zK100, zK199] at q96) | skip
          refine x_al0 rfl dX12_clues_99 ?_
          refine x_gm fdX12_13 W.hM (by decide) W.hF.f1 dX12_clues_100 ?_
          refine x_bipush (v := nI 21) dX12_clues_103 rfl ?_
          refine x_mld (len := 2868) W rfl rfl (by decide) (by omega) (by first | assumption | rfl) dX12_clues_105 ?_
          refine x_is5 rfl dX12_clues_106 ?_
          refine x_iconst (v := nI 1) dX12_clues_108 rfl ?_
          refine x_is6 rfl dX12_clues_109 ?_
          refine x_iconst (v := nI 0) dX12_clues_111 rfl ?_
          refine x_is7 rfl dX12_clues_112 ?_
          refine x_for (e := q.2.length) (fun i => [some (.ref 59), some (.int (nI k)), some (.int (noT tr (nI k))), some (.int (nI (brs (clB dk st q.2) c))), some (.int (nI c)), some (.int (nI (ngk dk.1 dk.2.2.1 i st.1))), some (.int (b2 (andB (clP dk st q.2 c) i = true))), some (.int (nI i))]) (fun i h => ∃ s M L, MW h0 h s M L ∧ MJ s M L dk st un tp tr pi fl) 0 (by omega) ⟨_, _, _, W, J⟩ (fun h hI => ?_) (fun i h hi hI ih2 => ?_)
          · obtain ⟨s, M, L, W, J⟩ := hI
            obtain ⟨D, hn0, hn6, ho0, ho9, hng, hli, e0, e1, e2, m1, m2, m3, m4, m5, u1, u2, t1, t2, r1, hf⟩ := MJ.o J
            obtain ⟨b1, b2', b3, b4, b5⟩ := J.tray hk hq0
            refine x_il7 dX12_clues_114 ?_
            refine x_al0 rfl dX12_clues_116 ?_
            refine x_gm fdX12_82 W.hM (by decide) W.hF.f39 dX12_clues_117 ?_
            refine x_il1 dX12_clues_120 ?_
            refine x_mld (len := 4) W rfl rfl (by decide) (by omega) (by first | assumption | rfl) dX12_clues_121 ?_
            refine x_icmp_ge (tgt := 174) dX12_clues_122 rfl (fun q122 => ?_) (fun q122 => ?_)
            · skip
              first | (simp only [cmp_lt, cmp_gt, cmp_eq, zN_cge, zN_cle, Decidable.not_not] at q122) | (simp (disch := omega) only [zN_le, zN_lt, zN_0, zN_1, nI_toInt, zN_eq, zN_eq0, b2_z, b2_nz, Decidable.not_not, Int.not_lt, Int.not_le, zK0, zK1, zK2, zK3, zK5, zK7, zK8, zK9, zK10, zK19, zK20, zK40, zK99, zK100, zK199] at q122) | skip
              refine x_il3 dX12_clues_174 ?_
              refine x_il6 dX12_clues_175 ?_
              rw [b2_iff (show andB (clP dk st q.2 c) q.2.length = true ↔ clB dk st q.2 c = true by rw [clB_and])]
              refine x_if_eq (tgt := 187) dX12_clues_177 rfl (fun q177 => ?_) (fun q177 => ?_)
              · skip
                first | (simp only [cmp_lt, cmp_gt, cmp_eq, zN_cge, zN_cle, Decidable.not_not] at q177) | (simp (disch := omega) only [zN_le, zN_lt, zN_0, zN_1, nI_toInt, zN_eq, zN_eq0, b2_z, b2_nz, Decidable.not_not, Int.not_lt, Int.not_le, zK0, zK1, zK2, zK3, zK5, zK7, zK8, zK9, zK10, zK19, zK20, zK40, zK99, zK100, zK199] at q177) | skip
                refine x_iconst (v := nI 0) dX12_clues_187 rfl ?_
                refine x_ior (or_n _ _) dX12_clues_188 ?_
                refine x_is3 rfl dX12_clues_189 ?_
                first | refine x_ii4 rfl (nI_1 _) dX12_clues_190 ?_ | refine x_ii4 rfl rfl dX12_clues_190 ?_
                refine x_goto (tgt := 92) dX12_clues_193 rfl ?_
                rw [show brs (clB dk st q.2) c ||| 0 = brs (clB dk st q.2) (c + 1) by rw [brs, if_neg q177]]
                exact ih (c + 1, _, _, _) _ (by simp only; omega) ⟨by simp only; omega, _, _, _, W, J⟩
              · skip
                first | (simp only [cmp_lt, cmp_gt, cmp_eq, zN_cge, zN_cle, Decidable.not_not] at q177) | (simp (disch := omega) only [zN_le, zN_lt, zN_0, zN_1, nI_toInt, zN_eq, zN_eq0, b2_z, b2_nz, Decidable.not_not, Int.not_lt, Int.not_le, zK0, zK1, zK2, zK3, zK5, zK7, zK8, zK9, zK10, zK19, zK20, zK40, zK99, zK100, zK199] at q177) | skip
                refine x_iconst (v := nI 1) dX12_clues_180 rfl ?_
                refine x_il4 dX12_clues_181 ?_
                refine x_ishl ((shl_n (by omega) (by rw [Nat.one_mul]; exact Nat.pow_lt_pow_right (by decide) (by omega)))) dX12_clues_183 ?_
                refine x_goto (tgt := 188) dX12_clues_184 rfl ?_
                refine x_ior (or_n _ _) dX12_clues_188 ?_
                refine x_is3 rfl dX12_clues_189 ?_
                first | refine x_ii4 rfl (nI_1 _) dX12_clues_190 ?_ | refine x_ii4 rfl rfl dX12_clues_190 ?_
                refine x_goto (tgt := 92) dX12_clues_193 rfl ?_
                rw [Nat.one_mul, show brs (clB dk st q.2) c ||| 2 ^ c = brs (clB dk st q.2) (c + 1) by rw [brs, if_pos q177]]
                exact ih (c + 1, _, _, _) _ (by simp only; omega) ⟨by simp only; omega, _, _, _, W, J⟩
            · skip
              first | (simp only [cmp_lt, cmp_gt, cmp_eq, zN_cge, zN_cle, Decidable.not_not] at q122) | (simp (disch := omega) only [zN_le, zN_lt, zN_0, zN_1, nI_toInt, zN_eq, zN_eq0, b2_z, b2_nz, Decidable.not_not, Int.not_lt, Int.not_le, zK0, zK1, zK2, zK3, zK5, zK7, zK8, zK9, zK10, zK19, zK20, zK40, zK99, zK100, zK199] at q122) | skip
              omega
          · obtain ⟨s, M, L, W, J⟩ := hI
            obtain ⟨D, hn0, hn6, ho0, ho9, hng, hli, e0, e1, e2, m1, m2, m3, m4, m5, u1, u2, t1, t2, r1, hf⟩ := MJ.o J
            obtain ⟨b1, b2', b3, b4, b5⟩ := J.tray hk hq0
            have kr := (ngk_row hn0 hn6 hng i st.1 m4).1
            have kr2 := (ngk_row hn0 hn6 hng (i + 1) st.1 m4).1
            have ml := mskK_lt (row := ngk dk.1 dk.2.2.1 (i + 1) st.1) (c := c) hn6
            refine x_il7 dX12_clues_114 ?_
            refine x_al0 rfl dX12_clues_116 ?_
            refine x_gm fdX12_82 W.hM (by decide) W.hF.f39 dX12_clues_117 ?_
            refine x_il1 dX12_clues_120 ?_
            refine x_mld (len := 4) W rfl rfl (by decide) (by omega) (by first | assumption | rfl) dX12_clues_121 ?_
            refine x_icmp_ge (tgt := 174) dX12_clues_122 rfl (fun q122 => ?_) (fun q122 => ?_)
            · skip
              first | (simp only [cmp_lt, cmp_gt, cmp_eq, zN_cge, zN_cle, Decidable.not_not] at q122) | (simp (disch := omega) only [zN_le, zN_lt, zN_0, zN_1, nI_toInt, zN_eq, zN_eq0, b2_z, b2_nz, Decidable.not_not, Int.not_lt, Int.not_le, zK0, zK1, zK2, zK3, zK5, zK7, zK8, zK9, zK10, zK19, zK20, zK40, zK99, zK100, zK199] at q122) | skip
              omega
            · skip
              first | (simp only [cmp_lt, cmp_gt, cmp_eq, zN_cge, zN_cle, Decidable.not_not] at q122) | (simp (disch := omega) only [zN_le, zN_lt, zN_0, zN_1, nI_toInt, zN_eq, zN_eq0, b2_z, b2_nz, Decidable.not_not, Int.not_lt, Int.not_le, zK0, zK1, zK2, zK3, zK5, zK7, zK8, zK9, zK10, zK19, zK20, zK40, zK99, zK100, zK199] at q122) | skip
              refine x_al0 rfl dX12_clues_125 ?_
              refine x_il5 dX12_clues_126 ?_
              refine x_cv1Ip mX12_nightTo_ok lkX12_268 rfl (Nat.le_of_ble_eq_true rfl) (Nat.le_of_ble_eq_true rfl) dX12_clues_128 W.hM  (j_nightTo W J (by first | assumption | omega)) (fun r h hq => ?_)
              obtain ⟨rfl, s, M, L, W, J, U⟩ := hq
              rw [← ngk_s]
              refine x_is5 rfl dX12_clues_131 ?_
              refine x_il6 dX12_clues_133 ?_
              refine x_al0 rfl dX12_clues_135 ?_
              refine x_il5 dX12_clues_136 ?_
              refine x_il4 dX12_clues_138 ?_
              refine x_cv2Ip mX12_letIn_ok lkX12_258 rfl (Nat.le_of_ble_eq_true rfl) (Nat.le_of_ble_eq_true rfl) dX12_clues_140 W.hM  (j_letIn W J kr2) (fun r h hq => ?_)
              obtain ⟨rfl, s, M, L, W, J, U⟩ := hq
              obtain ⟨D, hn0, hn6, ho0, ho9, hng, hli, e0, e1, e2, m1, m2, m3, m4, m5, u1, u2, t1, t2, r1, hf⟩ := MJ.o J
              obtain ⟨b1, b2', b3, b4, b5⟩ := J.tray hk hq0
              refine x_i2l (nI_l (by omega)) dX12_clues_143 ?_
              refine x_al0 rfl dX12_clues_144 ?_
              refine x_gm fdX12_85 W.hM (by decide) W.hF.f40 dX12_clues_145 ?_
              refine x_bipush (v := nI 40) dX12_clues_148 rfl ?_
              refine x_il1 dX12_clues_150 ?_
              first | refine x_imul (pk_mul _ _) dX12_clues_151 ?_ | refine x_imul rfl dX12_clues_151 ?_
              refine x_il7 dX12_clues_152 ?_
              first | refine x_iadd (nI_add _ _) dX12_clues_154 ?_ | refine x_iadd rfl dX12_clues_154 ?_
              refine x_mldl (len := 160) W rfl rfl (by decide) (by omega) (b5 i hi) dX12_clues_155 ?_
              refine x_lcmp (rfl) dX12_clues_156 ?_
              refine x_t_if_ne (t1 := 164) (t2 := 165) dX12_clues_157 rfl dX12_clues_160 dX12_clues_161 rfl dX12_clues_164 rfl ?_
              refine x_iand ((b2_and.trans (b2_iff (show (andB (clP dk st q.2 c) i = true ∧ lg_cmp (lN (mskK dk (ngk dk.1 dk.2.2.1 (i + 1) st.1) c)) (q.2.getD i 0) = 0) ↔ andB (clP dk st q.2 c) (i + 1) = true by rw [cmp_eq, andB, Bool.and_eq_true, clP, decide_eq_true_eq])))) dX12_clues_165 ?_
              refine x_is6 rfl dX12_clues_166 ?_
              first | refine x_ii7 rfl (nI_1 _) dX12_clues_168 ?_ | refine x_ii7 rfl rfl dX12_clues_168 ?_
              refine x_goto (tgt := 114) dX12_clues_171 rfl ?_
              exact ih2 _ ⟨_, _, _, W, J⟩
      · skip
        first | (simp only [cmp_lt, cmp_gt, cmp_eq, zN_cge, zN_cle, Decidable.not_not] at q46) | (simp (disch := omega) only [zN_le, zN_lt, zN_0, zN_1, nI_toInt, zN_eq, zN_eq0, b2_z, b2_nz, Decidable.not_not, Int.not_lt, Int.not_le, zK0, zK1, zK2, zK3, zK5, zK7, zK8, zK9, zK10, zK19, zK20, zK40, zK99, zK100, zK199] at q46) | skip
        have il : i < q.2.length := by omega
        rw [allL_s il] at hE
        refine x_al0 rfl dX12_clues_49 ?_
        refine x_gm fdX12_85 W.hM (by decide) W.hF.f40 dX12_clues_50 ?_
        refine x_bipush (v := nI 40) dX12_clues_53 rfl ?_
        refine x_il1 dX12_clues_55 ?_
        first | refine x_imul (pk_mul _ _) dX12_clues_56 ?_ | refine x_imul rfl dX12_clues_56 ?_
        refine x_il3 dX12_clues_57 ?_
        first | refine x_iadd (nI_add _ _) dX12_clues_58 ?_ | refine x_iadd rfl dX12_clues_58 ?_
        refine x_mldl (len := 160) W rfl rfl (by decide) (by omega) (b5 i il) dX12_clues_59 ?_
        refine x_lconst (v := 0) dX12_clues_60 rfl ?_
        refine x_iconst (v := nI 1) dX12_clues_61 rfl ?_
        refine x_al0 rfl dX12_clues_62 ?_
        refine x_gm fdX12_13 W.hM (by decide) W.hF.f1 dX12_clues_63 ?_
        refine x_iconst (v := nI 1) dX12_clues_66 rfl ?_
        refine x_mld (len := 2868) W rfl rfl (by decide) (by omega) (by first | assumption | rfl) dX12_clues_67 ?_
        refine x_ishl (rfl) dX12_clues_68 ?_
        refine x_iconst (v := nI 1) dX12_clues_69 rfl ?_
        refine x_isub (goal_n hn6) dX12_clues_70 ?_
        refine x_i2l (nI_l (by omega)) dX12_clues_71 ?_
        refine x_cs3I mX12_within_ok lkX12_157 (Nat.le_of_ble_eq_true rfl) (Nat.le_of_ble_eq_true rfl) dX12_clues_72 c_X12_within ?_
        have eb : ((0 : Int64) ≤ q.2.getD i 0 ∧ q.2.getD i 0 ≤ lN (2 ^ dk.1 - 1)) ↔ rngB 0 (((2 ^ dk.1 - 1 : Nat) : Int)) q.2 i = true := by
          rw [Int64.le_iff_toInt_le, Int64.le_iff_toInt_le, lN_toInt (by omega), rngB, decide_eq_true_eq]
          exact Iff.rfl
        refine x_if_ne (tgt := 81) dX12_clues_75 rfl (fun q75 => ?_) (fun q75 => ?_)
        · skip
          first | (simp only [cmp_lt, cmp_gt, cmp_eq, zN_cge, zN_cle, Decidable.not_not] at q75) | (simp (disch := omega) only [zN_le, zN_lt, zN_0, zN_1, nI_toInt, zN_eq, zN_eq0, b2_z, b2_nz, Decidable.not_not, Int.not_lt, Int.not_le, zK0, zK1, zK2, zK3, zK5, zK7, zK8, zK9, zK10, zK19, zK20, zK40, zK99, zK100, zK199] at q75) | skip
          first | refine x_ii3 rfl (nI_1 _) dX12_clues_81 ?_ | refine x_ii3 rfl rfl dX12_clues_81 ?_
          refine x_goto (tgt := 39) dX12_clues_84 rfl ?_
          refine ih (i + 1) _ (by omega) ⟨il, rfl, by rw [hE, eb.mp q75, Bool.true_and]⟩
        · skip
          first | (simp only [cmp_lt, cmp_gt, cmp_eq, zN_cge, zN_cle, Decidable.not_not] at q75) | (simp (disch := omega) only [zN_le, zN_lt, zN_0, zN_1, nI_toInt, zN_eq, zN_eq0, b2_z, b2_nz, Decidable.not_not, Int.not_lt, Int.not_le, zK0, zK1, zK2, zK3, zK5, zK7, zK8, zK9, zK10, zK19, zK20, zK40, zK99, zK100, zK199] at q75) | skip
          refine x_bipush (v := (-3)) dX12_clues_78 rfl ?_
          exact x_iret rfl rfl dX12_clues_80 ⟨_, rfl, by rw [hE, Bool.eq_false_iff.mpr (fun z => q75 (eb.mpr z))]; rfl, _, _, _, W, J⟩
    · skip
      first | (simp only [cmp_lt, cmp_gt, cmp_eq, zN_cge, zN_cle, Decidable.not_not] at q31) | (simp (disch := omega) only [zN_le, zN_lt, zN_0, zN_1, nI_toInt, zN_eq, zN_eq0, b2_z, b2_nz, Decidable.not_not, Int.not_lt, Int.not_le, zK0, zK1, zK2, zK3, zK5, zK7, zK8, zK9, zK10, zK19, zK20, zK40, zK99, zK100, zK199] at q31) | skip
      refine x_bipush (v := (-4)) dX12_clues_34 rfl ?_
      exact x_iret rfl rfl dX12_clues_36 ⟨_, rfl, by rw [show rfs 0 (((2 ^ dk.1 - 1 : Nat) : Int)) q.2 = -4 from if_neg (by omega)]; rfl, _, _, _, W, J⟩
  · skip
    refine x_il2 dX12_clues_15 ?_
    refine x_iret rfl rfl dX12_clues_16 ⟨_, rfl, ?_, _, _, _, W, J⟩
    have e0 : noTl tr 0 (((2 ^ dk.1 - 1 : Nat) : Int)) x = noT tr x := by
      unfold noT at q12 ⊢
      unfold noTl
      by_cases z : oneOf x 4
      · rw [if_pos z] at q12 ⊢
        rw [if_pos z]
        cases z2 : tr (tn x) with
        | none => rfl
        | some q => rw [z2] at q12; exact absurd rfl q12
      · rw [if_neg z, if_neg z]
    rw [F_clues, e0, if_neg q12]
end ZMcl

