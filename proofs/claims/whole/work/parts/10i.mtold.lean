/-! the model's undo; told deeds; years -/
section ZMf
variable {g : zG} {d : Nat} {h0 h : zH} {s : Nat → Value} {M : Nat → Nat → Int32} {L : Nat → Nat → Int64} {dk : zDk} {st : zSt} {un : List zSt} {tp : List Nat} {tr : Nat → zTr} {pi : Nat → zPi} {fl : Nat × Nat}
theorem w_undo {x : Int32} (I : MI h0 h dk st un tp tr pi fl) : Zm g (d + 5) 0 0 mX12_undo [.ref 59, .int x] h (rIp (fun r h' => r = (D_undo st un x).1 ∧ MI h0 h' dk (D_undo st un x).2.1 (D_undo st un x).2.2 tp tr pi fl)) := by
  obtain ⟨s, M, L, W, J⟩ := I
  obtain ⟨D, hn0, hn6, ho0, ho9, hng, hli, e0, e1, e2, m1, m2, m3, m4, m5, u1, u2, t1, t2, r1, hf⟩ := MJ.o J
  show Zw g (d + 5) 0 0 mX12_undo 0 [some (.ref 59), some (.int x), none] [] h _
  have bad : ¬ (1 ≤ x.toInt ∧ x.toInt ≤ 10 ∧ x.toInt ≤ (un.length : Int)) → D_undo st un x = (-3, st, un) := fun q => if_neg q
  refine x_al0 rfl dX12_undo_0 ?_
  refine x_iconst (v := nI 0) dX12_undo_1 rfl ?_
  refine x_mpfJ W J fdX12_1 (by decide) rfl rfl zf_i dX12_undo_2 (fun h W J => ?_)
  refine x_il1 dX12_undo_5 ?_
  refine x_i2l (rfl) dX12_undo_6 ?_
  refine x_lconst (v := 1) dX12_undo_7 rfl ?_
  refine x_ldc2 kcX12_294 dX12_undo_8 ?_
  refine x_cs3I mX12_within_ok lkX12_157 (Nat.le_of_ble_eq_true rfl) (Nat.le_of_ble_eq_true rfl) dX12_undo_11 j_within ?_
  refine x_if_eq (tgt := 28) dX12_undo_14 rfl (fun q14 => ?_) (fun q14 => ?_)
  · skip
    first | (simp only [cmp_lt, cmp_gt, cmp_eq, zN_cge, zN_cle, Decidable.not_not] at q14) | (simp (disch := omega) only [zN_le, zN_lt, zN_0, zN_1, nI_toInt, zN_eq, zN_eq0, b2_z, b2_nz, Decidable.not_not, Int.not_lt, Int.not_le, zK0, zK1, zK2, zK3, zK5, zK7, zK8, zK9, zK10, zK19, zK20, zK40, zK99, zK100, zK199] at q14) | skip
    refine x_bipush (v := (-3)) dX12_undo_28 rfl ?_
    exact x_iret rfl rfl dX12_undo_30 ⟨_, rfl, by rw [bad (fun z => q14 ⟨z.1, z.2.1⟩)], by rw [bad (fun z => q14 ⟨z.1, z.2.1⟩)]; exact ⟨_, _, _, W, J⟩⟩
  · skip
    first | (simp only [cmp_lt, cmp_gt, cmp_eq, zN_cge, zN_cle, Decidable.not_not] at q14) | (simp (disch := omega) only [zN_le, zN_lt, zN_0, zN_1, nI_toInt, zN_eq, zN_eq0, b2_z, b2_nz, Decidable.not_not, Int.not_lt, Int.not_le, zK0, zK1, zK2, zK3, zK5, zK7, zK8, zK9, zK10, zK19, zK20, zK40, zK99, zK100, zK199] at q14) | skip
    refine x_il1 dX12_undo_17 ?_
    refine x_al0 rfl dX12_undo_18 ?_
    refine x_gm fdX12_13 W.hM (by decide) W.hF.f1 dX12_undo_19 ?_
    refine x_bipush (v := nI 24) dX12_undo_22 rfl ?_
    refine x_mld (len := 2868) W rfl rfl (by decide) (by omega) (by first | assumption | rfl) dX12_undo_24 ?_
    refine x_icmp_le (tgt := 31) dX12_undo_25 rfl (fun q25 => ?_) (fun q25 => ?_)
    · skip
      first | (simp only [cmp_lt, cmp_gt, cmp_eq, zN_cge, zN_cle, Decidable.not_not] at q25) | (simp (disch := omega) only [zN_le, zN_lt, zN_0, zN_1, nI_toInt, zN_eq, zN_eq0, b2_z, b2_nz, Decidable.not_not, Int.not_lt, Int.not_le, zK0, zK1, zK2, zK3, zK5, zK7, zK8, zK9, zK10, zK19, zK20, zK40, zK99, zK100, zK199] at q25) | skip
      unfold D_undo
      rw [if_pos ⟨q14.1, q14.2, q25⟩]
      obtain ⟨k, hk1, hk2, rfl⟩ := rng_ex (a := 1) (b := 10) q14 (by decide)
      rw [nI_toInt (by omega)] at q25
      rw [show tn (nI k) = k from nI_clamp (by omega)]
      replace W := W.u 60
      have hl : un.length - k < un.length := by omega
      obtain ⟨c1, c2, c3, c4⟩ := J.2.2.1.2.2 (un.length - k) hl
      refine x_al0 rfl dX12_undo_31 ?_
      refine x_gm fdX12_13 W.hM (by decide) W.hF.f1 dX12_undo_32 ?_
      refine x_bipush (v := nI 24) dX12_undo_35 rfl ?_
      refine x_dup2 rfl rfl dX12_undo_37 ?_
      refine x_mld (len := 2868) W rfl rfl (by decide) (by omega) (by first | assumption | rfl) dX12_undo_38 ?_
      refine x_il1 dX12_undo_39 ?_
      refine x_isub (pk_sub (by omega)) dX12_undo_40 ?_
      refine x_mstU (len := 2868) W rfl rfl (by decide) (by omega) dX12_undo_41 (fun h W => ?_)
      refine x_iconst (v := nI 0) dX12_undo_42 rfl ?_
      refine x_is2 rfl dX12_undo_43 ?_
      refine x_il2 dX12_undo_44 ?_
      refine x_iconst (v := nI 3) dX12_undo_45 rfl ?_
      refine x_icmp_ge (tgt := 83) dX12_undo_46 rfl (fun q46 => ?_) (fun q46 => ?_)
      · skip
        first | (simp only [cmp_lt, cmp_gt, cmp_eq, zN_cge, zN_cle, Decidable.not_not] at q46) | (simp (disch := omega) only [zN_le, zN_lt, zN_0, zN_1, nI_toInt, zN_eq, zN_eq0, b2_z, b2_nz, Decidable.not_not, Int.not_lt, Int.not_le, zK0, zK1, zK2, zK3, zK5, zK7, zK8, zK9, zK10, zK19, zK20, zK40, zK99, zK100, zK199] at q46) | skip
        omega
      · skip
        first | (simp only [cmp_lt, cmp_gt, cmp_eq, zN_cge, zN_cle, Decidable.not_not] at q46) | (simp (disch := omega) only [zN_le, zN_lt, zN_0, zN_1, nI_toInt, zN_eq, zN_eq0, b2_z, b2_nz, Decidable.not_not, Int.not_lt, Int.not_le, zK0, zK1, zK2, zK3, zK5, zK7, zK8, zK9, zK10, zK19, zK20, zK40, zK99, zK100, zK199] at q46) | skip
        refine x_al0 rfl dX12_undo_49 ?_
        refine x_gm fdX12_13 W.hM (by decide) W.hF.f1 dX12_undo_50 ?_
        refine x_bipush (v := nI 21) dX12_undo_53 rfl ?_
        refine x_il2 dX12_undo_55 ?_
        first | refine x_iadd (nI_add _ _) dX12_undo_56 ?_ | refine x_iadd rfl dX12_undo_56 ?_
        refine x_al0 rfl dX12_undo_57 ?_
        refine x_gm fdX12_13 W.hM (by decide) W.hF.f1 dX12_undo_58 ?_
        refine x_bipush (v := nI 25) dX12_undo_61 rfl ?_
        refine x_iconst (v := nI 3) dX12_undo_63 rfl ?_
        refine x_al0 rfl dX12_undo_64 ?_
        refine x_gm fdX12_13 W.hM (by decide) W.hF.f1 dX12_undo_65 ?_
        refine x_bipush (v := nI 24) dX12_undo_68 rfl ?_
        refine x_mld (len := 2868) W rfl rfl (by decide) (by omega) (show _ = nI (un.length - k) from rfl) dX12_undo_70 ?_
        first | refine x_imul (pk_mul _ _) dX12_undo_71 ?_ | refine x_imul rfl dX12_undo_71 ?_
        first | refine x_iadd (nI_add _ _) dX12_undo_72 ?_ | refine x_iadd rfl dX12_undo_72 ?_
        refine x_il2 dX12_undo_73 ?_
        first | refine x_iadd (nI_add _ _) dX12_undo_74 ?_ | refine x_iadd rfl dX12_undo_74 ?_
        refine x_mld (len := 2868) W rfl rfl (by decide) (by omega) ((if_neg (by omega)).trans c1) dX12_undo_75 ?_
        refine x_mstU (len := 2868) W rfl rfl (by decide) (by omega) dX12_undo_76 (fun h W => ?_)
        first | refine x_ii2 rfl (nI_1 _) dX12_undo_77 ?_ | refine x_ii2 rfl rfl dX12_undo_77 ?_
        refine x_goto (tgt := 44) dX12_undo_80 rfl ?_
        refine x_il2 dX12_undo_44 ?_
        refine x_iconst (v := nI 3) dX12_undo_45 rfl ?_
        refine x_icmp_ge (tgt := 83) dX12_undo_46 rfl (fun q46 => ?_) (fun q46 => ?_)
        · skip
          first | (simp only [cmp_lt, cmp_gt, cmp_eq, zN_cge, zN_cle, Decidable.not_not] at q46) | (simp (disch := omega) only [zN_le, zN_lt, zN_0, zN_1, nI_toInt, zN_eq, zN_eq0, b2_z, b2_nz, Decidable.not_not, Int.not_lt, Int.not_le, zK0, zK1, zK2, zK3, zK5, zK7, zK8, zK9, zK10, zK19, zK20, zK40, zK99, zK100, zK199] at q46) | skip
          omega
        · skip
          first | (simp only [cmp_lt, cmp_gt, cmp_eq, zN_cge, zN_cle, Decidable.not_not] at q46) | (simp (disch := omega) only [zN_le, zN_lt, zN_0, zN_1, nI_toInt, zN_eq, zN_eq0, b2_z, b2_nz, Decidable.not_not, Int.not_lt, Int.not_le, zK0, zK1, zK2, zK3, zK5, zK7, zK8, zK9, zK10, zK19, zK20, zK40, zK99, zK100, zK199] at q46) | skip
          refine x_al0 rfl dX12_undo_49 ?_
          refine x_gm fdX12_13 W.hM (by decide) W.hF.f1 dX12_undo_50 ?_
          refine x_bipush (v := nI 21) dX12_undo_53 rfl ?_
          refine x_il2 dX12_undo_55 ?_
          first | refine x_iadd (nI_add _ _) dX12_undo_56 ?_ | refine x_iadd rfl dX12_undo_56 ?_
          refine x_al0 rfl dX12_undo_57 ?_
          refine x_gm fdX12_13 W.hM (by decide) W.hF.f1 dX12_undo_58 ?_
          refine x_bipush (v := nI 25) dX12_undo_61 rfl ?_
          refine x_iconst (v := nI 3) dX12_undo_63 rfl ?_
          refine x_al0 rfl dX12_undo_64 ?_
          refine x_gm fdX12_13 W.hM (by decide) W.hF.f1 dX12_undo_65 ?_
          refine x_bipush (v := nI 24) dX12_undo_68 rfl ?_
          refine x_mld (len := 2868) W rfl rfl (by decide) (by omega) (show _ = nI (un.length - k) from rfl) dX12_undo_70 ?_
          first | refine x_imul (pk_mul _ _) dX12_undo_71 ?_ | refine x_imul rfl dX12_undo_71 ?_
          first | refine x_iadd (nI_add _ _) dX12_undo_72 ?_ | refine x_iadd rfl dX12_undo_72 ?_
          refine x_il2 dX12_undo_73 ?_
          first | refine x_iadd (nI_add _ _) dX12_undo_74 ?_ | refine x_iadd rfl dX12_undo_74 ?_
          refine x_mld (len := 2868) W rfl rfl (by decide) (by omega) ((if_neg (by omega)).trans ((if_neg (by omega)).trans c2)) dX12_undo_75 ?_
          refine x_mstU (len := 2868) W rfl rfl (by decide) (by omega) dX12_undo_76 (fun h W => ?_)
          first | refine x_ii2 rfl (nI_1 _) dX12_undo_77 ?_ | refine x_ii2 rfl rfl dX12_undo_77 ?_
          refine x_goto (tgt := 44) dX12_undo_80 rfl ?_
          refine x_il2 dX12_undo_44 ?_
          refine x_iconst (v := nI 3) dX12_undo_45 rfl ?_
          refine x_icmp_ge (tgt := 83) dX12_undo_46 rfl (fun q46 => ?_) (fun q46 => ?_)
          · skip
            first | (simp only [cmp_lt, cmp_gt, cmp_eq, zN_cge, zN_cle, Decidable.not_not] at q46) | (simp (disch := omega) only [zN_le, zN_lt, zN_0, zN_1, nI_toInt, zN_eq, zN_eq0, b2_z, b2_nz, Decidable.not_not, Int.not_lt, Int.not_le, zK0, zK1, zK2, zK3, zK5, zK7, zK8, zK9, zK10, zK19, zK20, zK40, zK99, zK100, zK199] at q46) | skip
            omega
          · skip
            first | (simp only [cmp_lt, cmp_gt, cmp_eq, zN_cge, zN_cle, Decidable.not_not] at q46) | (simp (disch := omega) only [zN_le, zN_lt, zN_0, zN_1, nI_toInt, zN_eq, zN_eq0, b2_z, b2_nz, Decidable.not_not, Int.not_lt, Int.not_le, zK0, zK1, zK2, zK3, zK5, zK7, zK8, zK9, zK10, zK19, zK20, zK40, zK99, zK100, zK199] at q46) | skip
            refine x_al0 rfl dX12_undo_49 ?_
            refine x_gm fdX12_13 W.hM (by decide) W.hF.f1 dX12_undo_50 ?_
            refine x_bipush (v := nI 21) dX12_undo_53 rfl ?_
            refine x_il2 dX12_undo_55 ?_
            first | refine x_iadd (nI_add _ _) dX12_undo_56 ?_ | refine x_iadd rfl dX12_undo_56 ?_
            refine x_al0 rfl dX12_undo_57 ?_
            refine x_gm fdX12_13 W.hM (by decide) W.hF.f1 dX12_undo_58 ?_
            refine x_bipush (v := nI 25) dX12_undo_61 rfl ?_
            refine x_iconst (v := nI 3) dX12_undo_63 rfl ?_
            refine x_al0 rfl dX12_undo_64 ?_
            refine x_gm fdX12_13 W.hM (by decide) W.hF.f1 dX12_undo_65 ?_
            refine x_bipush (v := nI 24) dX12_undo_68 rfl ?_
            refine x_mld (len := 2868) W rfl rfl (by decide) (by omega) (show _ = nI (un.length - k) from rfl) dX12_undo_70 ?_
            first | refine x_imul (pk_mul _ _) dX12_undo_71 ?_ | refine x_imul rfl dX12_undo_71 ?_
            first | refine x_iadd (nI_add _ _) dX12_undo_72 ?_ | refine x_iadd rfl dX12_undo_72 ?_
            refine x_il2 dX12_undo_73 ?_
            first | refine x_iadd (nI_add _ _) dX12_undo_74 ?_ | refine x_iadd rfl dX12_undo_74 ?_
            refine x_mld (len := 2868) W rfl rfl (by decide) (by omega) ((if_neg (by omega)).trans ((if_neg (by omega)).trans ((if_neg (by omega)).trans c3))) dX12_undo_75 ?_
            refine x_mstU (len := 2868) W rfl rfl (by decide) (by omega) dX12_undo_76 (fun h W => ?_)
            first | refine x_ii2 rfl (nI_1 _) dX12_undo_77 ?_ | refine x_ii2 rfl rfl dX12_undo_77 ?_
            refine x_goto (tgt := 44) dX12_undo_80 rfl ?_
            refine x_il2 dX12_undo_44 ?_
            refine x_iconst (v := nI 3) dX12_undo_45 rfl ?_
            refine x_icmp_ge (tgt := 83) dX12_undo_46 rfl (fun q46 => ?_) (fun q46 => ?_)
            · skip
              first | (simp only [cmp_lt, cmp_gt, cmp_eq, zN_cge, zN_cle, Decidable.not_not] at q46) | (simp (disch := omega) only [zN_le, zN_lt, zN_0, zN_1, nI_toInt, zN_eq, zN_eq0, b2_z, b2_nz, Decidable.not_not, Int.not_lt, Int.not_le, zK0, zK1, zK2, zK3, zK5, zK7, zK8, zK9, zK10, zK19, zK20, zK40, zK99, zK100, zK199] at q46) | skip
              refine x_al0 rfl dX12_undo_83 ?_
              refine x_gm fdX12_13 W.hM (by decide) W.hF.f1 dX12_undo_84 ?_
              refine x_bipush (v := nI 24) dX12_undo_87 rfl ?_
              refine x_mld (len := 2868) W rfl rfl (by decide) (by omega) (show _ = nI (un.length - k) from rfl) dX12_undo_89 ?_
              refine x_iret rfl rfl dX12_undo_90 ⟨_, rfl, rfl, _, _, _, W, J.u60 (fun i hi => (if_neg (by omega)).trans ((if_neg (by omega)).trans ((if_neg (by omega)).trans (if_neg (by omega))))) ⟨rfl, rfl, rfl, c4⟩ ⟨?_, ?_, fun i hi => ?_⟩⟩
              · rw [List.length_take, Nat.min_eq_left (by omega)]; rfl
              · rw [List.length_take]; omega
              · rw [List.length_take, Nat.min_eq_left (by omega)] at hi
                have e : (un.take (un.length - k)).getD i (0, 0, 0) = un.getD i (0, 0, 0) := by rw [List.getD_eq_getElem?_getD, List.getD_eq_getElem?_getD, List.getElem?_take_of_lt hi]
                rw [e]
                obtain ⟨b1, b2, b3, b4⟩ := J.2.2.1.2.2 i (by omega)
                exact ⟨((if_neg (by omega)).trans ((if_neg (by omega)).trans ((if_neg (by omega)).trans (if_neg (by omega))))).trans b1, ((if_neg (by omega)).trans ((if_neg (by omega)).trans ((if_neg (by omega)).trans (if_neg (by omega))))).trans b2, ((if_neg (by omega)).trans ((if_neg (by omega)).trans ((if_neg (by omega)).trans (if_neg (by omega))))).trans b3, b4⟩
            · skip
              first | (simp only [cmp_lt, cmp_gt, cmp_eq, zN_cge, zN_cle, Decidable.not_not] at q46) | (simp (disch := omega) only [zN_le, zN_lt, zN_0, zN_1, nI_toInt, zN_eq, zN_eq0, b2_z, b2_nz, Decidable.not_not, Int.not_lt, Int.not_le, zK0, zK1, zK2, zK3, zK5, zK7, zK8, zK9, zK10, zK19, zK20, zK40, zK99, zK100, zK199] at q46) | skip
              omega
    · skip
      first | (simp only [cmp_lt, cmp_gt, cmp_eq, zN_cge, zN_cle, Decidable.not_not] at q25) | (simp (disch := omega) only [zN_le, zN_lt, zN_0, zN_1, nI_toInt, zN_eq, zN_eq0, b2_z, b2_nz, Decidable.not_not, Int.not_lt, Int.not_le, zK0, zK1, zK2, zK3, zK5, zK7, zK8, zK9, zK10, zK19, zK20, zK40, zK99, zK100, zK199] at q25) | skip
      refine x_bipush (v := (-3)) dX12_undo_28 rfl ?_
      exact x_iret rfl rfl dX12_undo_30 ⟨_, rfl, by rw [bad (fun z => by have := z.2.2; omega)], by rw [bad (fun z => by have := z.2.2; omega)]; exact ⟨_, _, _, W, J⟩⟩
theorem j_whyNot {v : Int64} (W : MW h0 h s M L) (J : MJ s M L dk st un tp tr pi fl) : Zm g (d + 3) 0 0 mX12_whyNot [.ref 59, .long v] h (rI (if (deed1 dk st v).isSome then 0 else 1) h) := by
  obtain ⟨D, hn0, hn6, ho0, ho9, hng, hli, e0, e1, e2, m1, m2, m3, m4, m5, u1, u2, t1, t2, r1, hf⟩ := MJ.o J
  have n0 : v.toInt = 0 ∨ (10 ≤ v.toInt ∧ v.toInt ≤ 19) ∨ (100 ≤ v.toInt ∧ v.toInt ≤ 199) → ∃ k, k < 200 ∧ v = lN k := fun q => ⟨v.toInt.toNat, by omega, Int64.toInt_inj.mp (by rw [lN_toInt (by omega)]; omega)⟩
  have e0 : (10 : Int64) ≤ v ∧ v ≤ 19 ↔ (10 ≤ v.toInt ∧ v.toInt ≤ 19) := by
    rw [Int64.le_iff_toInt_le, Int64.le_iff_toInt_le]; exact Iff.rfl
  have e1 : (100 : Int64) ≤ v ∧ v ≤ 199 ↔ (100 ≤ v.toInt ∧ v.toInt ≤ 199) := by
    rw [Int64.le_iff_toInt_le, Int64.le_iff_toInt_le]; exact Iff.rfl
  show Zw g (d + 3) 0 0 mX12_whyNot 0 [some (.ref 59), some (.long v), none] [] h _
  refine x_ll1 dX12_whyNot_0 ?_
  refine x_lconst (v := 0) dX12_whyNot_1 rfl ?_
  refine x_lcmp (rfl) dX12_whyNot_2 ?_
  refine x_if_eq (tgt := 19) dX12_whyNot_3 rfl (fun q3 => ?_) (fun q3 => ?_)
  · skip
    first | (simp only [cmp_lt, cmp_gt, cmp_eq, zN_cge, zN_cle, Decidable.not_not] at q3) | (simp (disch := omega) only [zN_le, zN_lt, zN_0, zN_1, nI_toInt, zN_eq, zN_eq0, b2_z, b2_nz, Decidable.not_not, Int.not_lt, Int.not_le, zK0, zK1, zK2, zK3, zK5, zK7, zK8, zK9, zK10, zK19, zK20, zK40, zK99, zK100, zK199] at q3) | skip
    refine x_iconst (v := nI 0) dX12_whyNot_19 rfl ?_
    exact x_iret rfl rfl dX12_whyNot_20 ⟨by subst q3; rfl, rfl⟩
  · skip
    first | (simp only [cmp_lt, cmp_gt, cmp_eq, zN_cge, zN_cle, Decidable.not_not] at q3) | (simp (disch := omega) only [zN_le, zN_lt, zN_0, zN_1, nI_toInt, zN_eq, zN_eq0, b2_z, b2_nz, Decidable.not_not, Int.not_lt, Int.not_le, zK0, zK1, zK2, zK3, zK5, zK7, zK8, zK9, zK10, zK19, zK20, zK40, zK99, zK100, zK199] at q3) | skip
    refine x_ll1 dX12_whyNot_6 ?_
    refine x_ldc2 kcX12_294 dX12_whyNot_7 ?_
    refine x_ldc2 kcX12_296 dX12_whyNot_10 ?_
    refine x_cs3I mX12_within_ok lkX12_157 (Nat.le_of_ble_eq_true rfl) (Nat.le_of_ble_eq_true rfl) dX12_whyNot_13 c_X12_within ?_
    refine x_if_eq (tgt := 21) dX12_whyNot_16 rfl (fun q16 => ?_) (fun q16 => ?_)
    · skip
      first | (simp only [cmp_lt, cmp_gt, cmp_eq, zN_cge, zN_cle, Decidable.not_not] at q16) | (simp (disch := omega) only [zN_le, zN_lt, zN_0, zN_1, nI_toInt, zN_eq, zN_eq0, b2_z, b2_nz, Decidable.not_not, Int.not_lt, Int.not_le, zK0, zK1, zK2, zK3, zK5, zK7, zK8, zK9, zK10, zK19, zK20, zK40, zK99, zK100, zK199] at q16) | skip
      refine x_ll1 dX12_whyNot_21 ?_
      refine x_ldc2 kcX12_298 dX12_whyNot_22 ?_
      refine x_ldc2 kcX12_300 dX12_whyNot_25 ?_
      refine x_cs3I mX12_within_ok lkX12_157 (Nat.le_of_ble_eq_true rfl) (Nat.le_of_ble_eq_true rfl) dX12_whyNot_28 c_X12_within ?_
      refine x_if_eq (tgt := 59) dX12_whyNot_31 rfl (fun q31 => ?_) (fun q31 => ?_)
      · skip
        first | (simp only [cmp_lt, cmp_gt, cmp_eq, zN_cge, zN_cle, Decidable.not_not] at q31) | (simp (disch := omega) only [zN_le, zN_lt, zN_0, zN_1, nI_toInt, zN_eq, zN_eq0, b2_z, b2_nz, Decidable.not_not, Int.not_lt, Int.not_le, zK0, zK1, zK2, zK3, zK5, zK7, zK8, zK9, zK10, zK19, zK20, zK40, zK99, zK100, zK199] at q31) | skip
        refine x_iconst (v := nI 1) dX12_whyNot_59 rfl ?_
        exact x_iret rfl rfl dX12_whyNot_60 ⟨by rw [deed1_no q3 (fun z => q16 (e0.mpr z)) (fun z => q31 (e1.mpr z))]; rfl, rfl⟩
      · skip
        first | (simp only [cmp_lt, cmp_gt, cmp_eq, zN_cge, zN_cle, Decidable.not_not] at q31) | (simp (disch := omega) only [zN_le, zN_lt, zN_0, zN_1, nI_toInt, zN_eq, zN_eq0, b2_z, b2_nz, Decidable.not_not, Int.not_lt, Int.not_le, zK0, zK1, zK2, zK3, zK5, zK7, zK8, zK9, zK10, zK19, zK20, zK40, zK99, zK100, zK199] at q31) | skip
        rw [e1] at q31
        obtain ⟨k, hk, rfl⟩ := n0 (Or.inr (Or.inr q31))
        rw [lN_toInt (by omega)] at q31
        have k1 : deedN dk st k = if 100 ≤ k ∧ (k - 100) / 10 < dk.1 ∧ k % 10 < dk.1 ∧ (k - 100) / 10 ≠ k % 10 then some (swS dk st ((k - 100) / 10) (k % 10)) else none := by rw [deedN, if_neg (by omega), if_neg (by omega)]
        refine x_al0 rfl dX12_whyNot_34 ?_
        refine x_ll1 dX12_whyNot_35 ?_
        refine x_ldc2 kcX12_298 dX12_whyNot_36 ?_
        refine x_lsub ((lN_sub (b := 100) (by omega))) dX12_whyNot_39 ?_
        refine x_ldc2 kcX12_294 dX12_whyNot_40 ?_
        refine x_ldiv (by decide) (pk_lDiv (b := 10) (by omega) (by decide) (by decide)) dX12_whyNot_43 ?_
        refine x_ll1 dX12_whyNot_44 ?_
        refine x_ldc2 kcX12_294 dX12_whyNot_45 ?_
        refine x_lrem (by decide) (pk_lRem (b := 10) (by omega) (by decide) (by decide)) dX12_whyNot_48 ?_
        rw [← nI_l (n := (k - 100) / 10) (by omega), ← nI_l (n := k % 10) (by omega)]
        refine x_cv2I mX12_canSwap_ok lkX12_271 rfl (Nat.le_of_ble_eq_true rfl) (Nat.le_of_ble_eq_true rfl) dX12_whyNot_49 W.hM  (j_canSwap W J) ?_
        refine x_if_eq (tgt := 59) dX12_whyNot_52 rfl (fun q52 => ?_) (fun q52 => ?_)
        · skip
          first | (simp only [cmp_lt, cmp_gt, cmp_eq, zN_cge, zN_cle, Decidable.not_not] at q52) | (simp (disch := omega) only [zN_le, zN_lt, zN_0, zN_1, nI_toInt, zN_eq, zN_eq0, b2_z, b2_nz, Decidable.not_not, Int.not_lt, Int.not_le, zK0, zK1, zK2, zK3, zK5, zK7, zK8, zK9, zK10, zK19, zK20, zK40, zK99, zK100, zK199] at q52) | skip
          refine x_iconst (v := nI 1) dX12_whyNot_59 rfl ?_
          refine x_iret rfl rfl dX12_whyNot_60 ⟨?_, rfl⟩
          rw [oneOf_nI (by omega), oneOf_nI (by omega), ne_eq, nI_eq (by omega) (by omega)] at q52
          rw [deed1_k hk, k1.trans (if_neg (fun z => q52 z.2))]
          all_goals rfl
        · skip
          first | (simp only [cmp_lt, cmp_gt, cmp_eq, zN_cge, zN_cle, Decidable.not_not] at q52) | (simp (disch := omega) only [zN_le, zN_lt, zN_0, zN_1, nI_toInt, zN_eq, zN_eq0, b2_z, b2_nz, Decidable.not_not, Int.not_lt, Int.not_le, zK0, zK1, zK2, zK3, zK5, zK7, zK8, zK9, zK10, zK19, zK20, zK40, zK99, zK100, zK199] at q52) | skip
          rw [oneOf_nI (by omega), oneOf_nI (by omega), ne_eq, nI_eq (by omega) (by omega)] at q52
          refine x_iconst (v := nI 0) dX12_whyNot_55 rfl ?_
          refine x_goto (tgt := 60) dX12_whyNot_56 rfl ?_
          exact x_iret rfl rfl dX12_whyNot_60 ⟨by rw [deed1_k hk, k1.trans (if_pos ⟨by omega, q52⟩)]; rfl, rfl⟩
    · skip
      first | (simp only [cmp_lt, cmp_gt, cmp_eq, zN_cge, zN_cle, Decidable.not_not] at q16) | (simp (disch := omega) only [zN_le, zN_lt, zN_0, zN_1, nI_toInt, zN_eq, zN_eq0, b2_z, b2_nz, Decidable.not_not, Int.not_lt, Int.not_le, zK0, zK1, zK2, zK3, zK5, zK7, zK8, zK9, zK10, zK19, zK20, zK40, zK99, zK100, zK199] at q16) | skip
      refine x_iconst (v := nI 0) dX12_whyNot_19 rfl ?_
      refine x_iret rfl rfl dX12_whyNot_20 ⟨?_, rfl⟩
      rw [e0] at q16
      obtain ⟨k, hk, rfl⟩ := n0 (Or.inr (Or.inl q16))
      rw [lN_toInt (by omega)] at q16
      rw [deed1_k hk, show deedN dk st k = _ from (if_neg (by omega)).trans (if_pos (by omega))]
      all_goals rfl
def noT (tr : Nat → zTr) (x : Int32) : Int32 := if oneOf x 4 then (if (tr (tn x)).isSome then 0 else -6) else -2
theorem MJ.noT {k : Nat} (J : MJ s M L dk st un tp tr pi fl) (hk : k < 4) : M 80 k = -1 ↔ (tr k).isSome = false := by
  have b := J.2.2.2.2.1 k hk
  split at b
  · next q => rw [q]; exact ⟨fun _ => rfl, fun _ => b⟩
  · next p q =>
    rw [q]
    refine ⟨fun z => ?_, fun z => by cases z⟩
    rw [b.1] at z
    have : (nI p.1).toInt = (-1 : Int32).toInt := by rw [z]
    have e : (-1 : Int32).toInt = -1 := rfl
    rw [nI_toInt (by have := b.2.1; omega), e] at this
    omega
theorem MJ.tray {k : Nat} {q : Nat × List Int64} (J : MJ s M L dk st un tp tr pi fl) (hk : k < 4) (hq : tr k = some q) : M 80 k = nI q.1 ∧ q.1 < 4 ∧ M 81 k = nI q.2.length ∧ q.2.length ≤ 40 ∧ ∀ i, i < q.2.length → L 82 (40 * k + i) = q.2.getD i 0 := by
  have b := J.2.2.2.2.1 k hk
  rw [hq] at b
  exact b
theorem j_noTray {x : Int32} (W : MW h0 h s M L) (J : MJ s M L dk st un tp tr pi fl) : Zm g (d + 1) 0 0 mX12_noTray [.ref 59, .int x] h (rI (noT tr x) h) := by
  have e4 : oneOf x 4 ↔ 0 ≤ x.toInt ∧ x.toInt ≤ 3 := by
    unfold oneOf
    omega
  show Zw g (d + 1) 0 0 mX12_noTray 0 [some (.ref 59), some (.int x)] [] h _
  refine x_il1 dX12_noTray_0 ?_
  refine x_i2l (rfl) dX12_noTray_1 ?_
  refine x_lconst (v := 0) dX12_noTray_2 rfl ?_
  refine x_ldc2 kcX12_312 dX12_noTray_3 ?_
  refine x_cs3I mX12_within_ok lkX12_157 (Nat.le_of_ble_eq_true rfl) (Nat.le_of_ble_eq_true rfl) dX12_noTray_6 j_within ?_
  refine x_if_ne (tgt := 17) dX12_noTray_9 rfl (fun q9 => ?_) (fun q9 => ?_)
  · skip
    first | (simp only [cmp_lt, cmp_gt, cmp_eq, zN_cge, zN_cle, Decidable.not_not] at q9) | (simp (disch := omega) only [zN_le, zN_lt, zN_0, zN_1, nI_toInt, zN_eq, zN_eq0, b2_z, b2_nz, Decidable.not_not, Int.not_lt, Int.not_le, zK0, zK1, zK2, zK3, zK5, zK7, zK8, zK9, zK10, zK19, zK20, zK40, zK99, zK100, zK199] at q9) | skip
    rw [← e4] at q9
    unfold noT
    rw [if_pos q9]
    obtain ⟨k, hk, rfl⟩ := oneOf_ex q9
    rw [show tn (nI k) = k from nI_clamp (by omega)]
    refine x_al0 rfl dX12_noTray_17 ?_
    refine x_gm fdX12_79 W.hM (by decide) W.hF.f38 dX12_noTray_18 ?_
    refine x_il1 dX12_noTray_21 ?_
    refine x_mld (len := 4) W rfl rfl (by decide) (by omega) rfl dX12_noTray_22 ?_
    refine x_iconst (v := (-1)) dX12_noTray_23 rfl ?_
    refine x_icmp_ne (tgt := 32) dX12_noTray_24 rfl (fun q24 => ?_) (fun q24 => ?_)
    · skip
      first | (simp only [cmp_lt, cmp_gt, cmp_eq, zN_cge, zN_cle, Decidable.not_not] at q24) | (simp (disch := omega) only [zN_le, zN_lt, zN_0, zN_1, nI_toInt, zN_eq, zN_eq0, b2_z, b2_nz, Decidable.not_not, Int.not_lt, Int.not_le, zK0, zK1, zK2, zK3, zK5, zK7, zK8, zK9, zK10, zK19, zK20, zK40, zK99, zK100, zK199] at q24) | skip
      refine x_iconst (v := nI 0) dX12_noTray_32 rfl ?_
      exact x_iret rfl rfl dX12_noTray_33 ⟨by rw [if_pos (show (tr k).isSome = true from by cases z : (tr k).isSome; exact absurd ((J.noT hk).mpr z) q24; rfl)]; rfl, rfl⟩
    · skip
      first | (simp only [cmp_lt, cmp_gt, cmp_eq, zN_cge, zN_cle, Decidable.not_not] at q24) | (simp (disch := omega) only [zN_le, zN_lt, zN_0, zN_1, nI_toInt, zN_eq, zN_eq0, b2_z, b2_nz, Decidable.not_not, Int.not_lt, Int.not_le, zK0, zK1, zK2, zK3, zK5, zK7, zK8, zK9, zK10, zK19, zK20, zK40, zK99, zK100, zK199] at q24) | skip
      refine x_bipush (v := (-6)) dX12_noTray_27 rfl ?_
      refine x_goto (tgt := 33) dX12_noTray_29 rfl ?_
      exact x_iret rfl rfl dX12_noTray_33 ⟨by rw [(J.noT hk).mp q24]; rfl, rfl⟩
  · skip
    first | (simp only [cmp_lt, cmp_gt, cmp_eq, zN_cge, zN_cle, Decidable.not_not] at q9) | (simp (disch := omega) only [zN_le, zN_lt, zN_0, zN_1, nI_toInt, zN_eq, zN_eq0, b2_z, b2_nz, Decidable.not_not, Int.not_lt, Int.not_le, zK0, zK1, zK2, zK3, zK5, zK7, zK8, zK9, zK10, zK19, zK20, zK40, zK99, zK100, zK199] at q9) | skip
    refine x_bipush (v := (-2)) dX12_noTray_12 rfl ?_
    refine x_goto (tgt := 33) dX12_noTray_14 rfl ?_
    exact x_iret rfl rfl dX12_noTray_33 ⟨by rw [noT, if_neg (fun z => q9 (e4.mp z))], rfl⟩
theorem j_does {k : Nat} {st' : zSt} (W : MW h0 h s M L) (J : MJ s M L dk st un tp tr pi fl) (hd : deedN dk st k = some st') (hk : k < 200) : Zm g (d + 3) 0 0 mX12_does [.ref 59, .int (nI k)] h (rVp (fun h' => ∃ s' M' L', MW h0 h' s' M' L' ∧ MJ s' M' L' dk st' un tp tr pi fl ∧ Un [] [60, 65] [] s s' M M' L L')) := by
  obtain ⟨D, hn0, hn6, ho0, ho9, hng, hli, e0, e1, e2, m1, m2, m3, m4, m5, u1, u2, t1, t2, r1, hf⟩ := MJ.o J
  unfold deedN at hd
  show Zw g (d + 3) 0 0 mX12_does 0 [some (.ref 59), some (.int (nI k))] [] h _
  refine x_il1 dX12_does_0 ?_
  refine x_if_ne (tgt := 11) dX12_does_1 rfl (fun q1 => ?_) (fun q1 => ?_)
  · skip
    first | (simp only [cmp_lt, cmp_gt, cmp_eq, zN_cge, zN_cle, Decidable.not_not] at q1) | (simp (disch := omega) only [zN_le, zN_lt, zN_0, zN_1, nI_toInt, zN_eq, zN_eq0, b2_z, b2_nz, Decidable.not_not, Int.not_lt, Int.not_le, zK0, zK1, zK2, zK3, zK5, zK7, zK8, zK9, zK10, zK19, zK20, zK40, zK99, zK100, zK199] at q1) | skip
    rw [if_neg q1] at hd
    refine x_il1 dX12_does_11 ?_
    refine x_bipush (v := nI 20) dX12_does_12 rfl ?_
    refine x_icmp_ge (tgt := 31) dX12_does_14 rfl (fun q14 => ?_) (fun q14 => ?_)
    · skip
      first | (simp only [cmp_lt, cmp_gt, cmp_eq, zN_cge, zN_cle, Decidable.not_not] at q14) | (simp (disch := omega) only [zN_le, zN_lt, zN_0, zN_1, nI_toInt, zN_eq, zN_eq0, b2_z, b2_nz, Decidable.not_not, Int.not_lt, Int.not_le, zK0, zK1, zK2, zK3, zK5, zK7, zK8, zK9, zK10, zK19, zK20, zK40, zK99, zK100, zK199] at q14) | skip
      rw [if_neg (by omega)] at hd
      have k1 : 100 ≤ k ∧ (k - 100) / 10 < dk.1 ∧ k % 10 < dk.1 ∧ (k - 100) / 10 ≠ k % 10 := by split at hd; assumption; cases hd
      rw [if_pos k1] at hd
      cases hd
      refine x_al0 rfl dX12_does_31 ?_
      refine x_gm fdX12_13 W.hM (by decide) W.hF.f1 dX12_does_32 ?_
      refine x_bipush (v := nI 21) dX12_does_35 rfl ?_
      refine x_al0 rfl dX12_does_37 ?_
      refine x_al0 rfl dX12_does_38 ?_
      refine x_gm fdX12_13 W.hM (by decide) W.hF.f1 dX12_does_39 ?_
      refine x_bipush (v := nI 21) dX12_does_42 rfl ?_
      refine x_mld (len := 2868) W rfl rfl (by decide) (by omega) (by first | assumption | rfl) dX12_does_44 ?_
      refine x_il1 dX12_does_45 ?_
      refine x_bipush (v := nI 100) dX12_does_46 rfl ?_
      refine x_isub (pk_sub (by omega)) dX12_does_48 ?_
      refine x_bipush (v := nI 10) dX12_does_49 rfl ?_
      refine x_idiv (by decide) (pk_div (by omega) (by decide) (by decide)) dX12_does_51 ?_
      refine x_il1 dX12_does_52 ?_
      refine x_bipush (v := nI 10) dX12_does_53 rfl ?_
      refine x_irem (by decide) (pk_rem (by omega) (by decide) (by decide)) dX12_does_55 ?_
      refine x_cv3Ip mX12_swapTo_ok lkX12_278 rfl (Nat.le_of_ble_eq_true rfl) (Nat.le_of_ble_eq_true rfl) dX12_does_56 W.hM  (j_swapTo W J (by first | assumption | omega) (by first | assumption | omega) (by first | assumption | omega)) (fun r h hq => ?_)
      obtain ⟨rfl, s, M, L, W, J, U⟩ := hq
      obtain ⟨D, hn0, hn6, ho0, ho9, hng, hli, e0, e1, e2, m1, m2, m3, m4, m5, u1, u2, t1, t2, r1, hf⟩ := MJ.o J
      replace W := W.u 60
      refine x_mstU (len := 2868) W rfl rfl (by decide) (by omega) dX12_does_59 (fun h W => ?_)
      exact x_vret rfl dX12_does_60 ⟨rfl, _, _, _, W, J.r21 (sw1_row hn0 hn6 m4 k1.2.1 k1.2.2.1).1, (U.mono (by simp) (by simp) (by simp)).m (by simp)⟩
    · skip
      first | (simp only [cmp_lt, cmp_gt, cmp_eq, zN_cge, zN_cle, Decidable.not_not] at q14) | (simp (disch := omega) only [zN_le, zN_lt, zN_0, zN_1, nI_toInt, zN_eq, zN_eq0, b2_z, b2_nz, Decidable.not_not, Int.not_lt, Int.not_le, zK0, zK1, zK2, zK3, zK5, zK7, zK8, zK9, zK10, zK19, zK20, zK40, zK99, zK100, zK199] at q14) | skip
      have k10 : 10 ≤ k ∧ k ≤ 19 := by
        split at hd
        · assumption
        · split at hd
          · omega
          · cases hd
      rw [if_pos k10] at hd
      cases hd
      have k10 : 10 ≤ k := k10.1
      refine x_al0 rfl dX12_does_17 ?_
      refine x_gm fdX12_13 W.hM (by decide) W.hF.f1 dX12_does_18 ?_
      refine x_bipush (v := nI 22) dX12_does_21 rfl ?_
      refine x_il1 dX12_does_23 ?_
      refine x_bipush (v := nI 10) dX12_does_24 rfl ?_
      refine x_isub (pk_sub (by omega)) dX12_does_26 ?_
      replace W := W.u 60
      refine x_mstU (len := 2868) W rfl rfl (by decide) (by omega) dX12_does_27 (fun h W => ?_)
      refine x_goto (tgt := 60) dX12_does_28 rfl ?_
      exact x_vret rfl dX12_does_60 ⟨rfl, _, _, _, W, J.r22 (by omega), Un.rf.m (by simp)⟩
  · skip
    first | (simp only [cmp_lt, cmp_gt, cmp_eq, zN_cge, zN_cle, Decidable.not_not] at q1) | (simp (disch := omega) only [zN_le, zN_lt, zN_0, zN_1, nI_toInt, zN_eq, zN_eq0, b2_z, b2_nz, Decidable.not_not, Int.not_lt, Int.not_le, zK0, zK1, zK2, zK3, zK5, zK7, zK8, zK9, zK10, zK19, zK20, zK40, zK99, zK100, zK199] at q1) | skip
    rw [if_pos q1] at hd
    cases hd
    refine x_al0 rfl dX12_does_4 ?_
    refine x_cv0Vp mX12_goesNight_ok lkX12_289 rfl (Nat.le_of_ble_eq_true rfl) (Nat.le_of_ble_eq_true rfl) dX12_does_5 W.hM  (j_goesNight W J) (fun h hq => ?_)
    obtain ⟨s, M, L, W, J, U⟩ := hq
    obtain ⟨D, hn0, hn6, ho0, ho9, hng, hli, e0, e1, e2, m1, m2, m3, m4, m5, u1, u2, t1, t2, r1, hf⟩ := MJ.o J
    refine x_goto (tgt := 60) dX12_does_8 rfl ?_
    exact x_vret rfl dX12_does_60 ⟨rfl, _, _, _, W, J, U⟩
theorem j_tells {t : Nat} {q : Nat × List Int64} (W : MW h0 h s M L) (J : MJ s M L dk st un tp tr pi fl) (ht : t < 4) (hq : tr t = some q) : Zm g (d + 4) 0 0 mX12_tells [.ref 59, .int (nI t)] h (rIp (fun r h' => r = nI (deedL dk q.2 st).1 ∧ ∃ s' M' L', MW h0 h' s' M' L' ∧ MJ s' M' L' dk (deedL dk q.2 st).2 un tp tr pi fl ∧ Un [24] [60, 65] [] s s' M M' L L' ∧ s' 24 = .int (if (deedL dk q.2 st).1 < q.2.length then 1 else 0))) := by
  obtain ⟨-, -, -, hl40, -⟩ := J.tray ht hq
  show Zw g (d + 4) 0 0 mX12_tells 0 [some (.ref 59), some (.int (nI t)), none] [] h _
  refine x_al0 rfl dX12_tells_0 ?_
  refine x_iconst (v := nI 0) dX12_tells_1 rfl ?_
  refine x_mpfJ W J fdX12_302 (by decide) rfl rfl zf_i dX12_tells_2 (fun h W J => ?_)
  refine x_iconst (v := nI 0) dX12_tells_5 rfl ?_
  refine x_is2 rfl dX12_tells_6 ?_
  refine x_wh (fun (i : Nat) => [some (.ref 59), some (.int (nI t)), some (.int (nI i))]) (fun i h => i ≤ q.2.length ∧ ∃ s' M' L' st', MW h0 h s' M' L' ∧ MJ s' M' L' dk st' un tp tr pi fl ∧ Un [24] [60, 65] [] s s' M M' L L' ∧ s' 24 = .int 0 ∧ (deedL dk q.2 st) = (i + (deedL dk (q.2.drop i) st').1, (deedL dk (q.2.drop i) st').2)) (fun i => q.2.length - i) 0 ⟨Nat.zero_le _, _, _, _, st, W, J, Un.rf.fs (by simp), rfl, ?_⟩ (fun i h hI ih => ?_)
  · rw [List.drop_zero, Nat.zero_add]
  · obtain ⟨hi, s', M', L', st', W, J, U, tw, hE⟩ := hI
    obtain ⟨b1, b2, b3, b4, b5⟩ := J.tray ht hq
    refine x_il2 dX12_tells_7 ?_
    refine x_al0 rfl dX12_tells_8 ?_
    refine x_gm fdX12_82 W.hM (by decide) W.hF.f39 dX12_tells_9 ?_
    refine x_il1 dX12_tells_12 ?_
    refine x_mld (len := 4) W rfl rfl (by decide) (by omega) (by first | assumption | rfl) dX12_tells_13 ?_
    refine x_icmp_ge (tgt := 67) dX12_tells_14 rfl (fun q14 => ?_) (fun q14 => ?_)
    · skip
      first | (simp only [cmp_lt, cmp_gt, cmp_eq, zN_cge, zN_cle, Decidable.not_not] at q14) | (simp (disch := omega) only [zN_le, zN_lt, zN_0, zN_1, nI_toInt, zN_eq, zN_eq0, b2_z, b2_nz, Decidable.not_not, Int.not_lt, Int.not_le, zK0, zK1, zK2, zK3, zK5, zK7, zK8, zK9, zK10, zK19, zK20, zK40, zK99, zK100, zK199] at q14) | skip
      have : i = q.2.length := by omega
      subst this
      simp only [List.drop_length, deedL, Nat.add_zero] at hE
      rw [hE]
      refine x_al0 rfl dX12_tells_67 ?_
      refine x_gm fdX12_82 W.hM (by decide) W.hF.f39 dX12_tells_68 ?_
      refine x_il1 dX12_tells_71 ?_
      refine x_mld (len := 4) W rfl rfl (by decide) (by omega) (by first | assumption | rfl) dX12_tells_72 ?_
      exact x_iret rfl rfl dX12_tells_73 ⟨_, rfl, rfl, _, _, _, W, J, U, tw.trans (by simp only [Nat.lt_irrefl, if_false])⟩
    · skip
      first | (simp only [cmp_lt, cmp_gt, cmp_eq, zN_cge, zN_cle, Decidable.not_not] at q14) | (simp (disch := omega) only [zN_le, zN_lt, zN_0, zN_1, nI_toInt, zN_eq, zN_eq0, b2_z, b2_nz, Decidable.not_not, Int.not_lt, Int.not_le, zK0, zK1, zK2, zK3, zK5, zK7, zK8, zK9, zK10, zK19, zK20, zK40, zK99, zK100, zK199] at q14) | skip
      have hil : i < q.2.length := by omega
      have hv := b5 i hil
      have hdr : q.2.drop i = q.2.getD i 0 :: q.2.drop (i + 1) := by rw [List.drop_eq_getElem_cons hil, List.getD_eq_getElem?_getD, List.getElem?_eq_getElem hil]; rfl
      rw [hdr] at hE
      refine x_al0 rfl dX12_tells_17 ?_
      refine x_al0 rfl dX12_tells_18 ?_
      refine x_al0 rfl dX12_tells_19 ?_
      refine x_gm fdX12_85 W.hM (by decide) W.hF.f40 dX12_tells_20 ?_
      refine x_bipush (v := nI 40) dX12_tells_23 rfl ?_
      refine x_il1 dX12_tells_25 ?_
      first | refine x_imul (pk_mul _ _) dX12_tells_26 ?_ | refine x_imul rfl dX12_tells_26 ?_
      refine x_il2 dX12_tells_27 ?_
      first | refine x_iadd (nI_add _ _) dX12_tells_28 ?_ | refine x_iadd rfl dX12_tells_28 ?_
      refine x_mldl (len := 160) W rfl rfl (by decide) (by omega) (by first | assumption | rfl) dX12_tells_29 ?_
      refine x_cv1I mX12_whyNot_ok lkX12_305 rfl (Nat.le_of_ble_eq_true rfl) (Nat.le_of_ble_eq_true rfl) dX12_tells_30 W.hM  (j_whyNot W J) ?_
      refine x_mpfJ W J fdX12_302 (by decide) rfl rfl zf_i dX12_tells_33 (fun h W J => ?_)
      refine x_al0 rfl dX12_tells_36 ?_
      refine x_gm fdX12_302 W.hM (by decide) ((by rfl)) dX12_tells_37 ?_
      refine x_if_eq (tgt := 45) dX12_tells_40 rfl (fun q40 => ?_) (fun q40 => ?_)
      · skip
        first | (simp only [cmp_lt, cmp_gt, cmp_eq, zN_cge, zN_cle, Decidable.not_not] at q40) | (simp (disch := omega) only [zN_le, zN_lt, zN_0, zN_1, nI_toInt, zN_eq, zN_eq0, b2_z, b2_nz, Decidable.not_not, Int.not_lt, Int.not_le, zK0, zK1, zK2, zK3, zK5, zK7, zK8, zK9, zK10, zK19, zK20, zK40, zK99, zK100, zK199] at q40) | skip
        obtain ⟨st2, yes⟩ : ∃ st2, deed1 dk st' (q.2.getD i 0) = some st2 := by cases z : deed1 dk st' (q.2.getD i 0); rw [z] at q40; exact absurd q40 (by decide); exact ⟨_, rfl⟩
        obtain ⟨k, hk, ek, ed⟩ := deed1_ex yes
        simp only [deedL_s yes] at hE
        rw [ek] at hv
        refine x_al0 rfl dX12_tells_45 ?_
        refine x_al0 rfl dX12_tells_46 ?_
        refine x_gm fdX12_85 W.hM (by decide) W.hF.f40 dX12_tells_47 ?_
        refine x_bipush (v := nI 40) dX12_tells_50 rfl ?_
        refine x_il1 dX12_tells_52 ?_
        first | refine x_imul (pk_mul _ _) dX12_tells_53 ?_ | refine x_imul rfl dX12_tells_53 ?_
        refine x_il2 dX12_tells_54 ?_
        first | refine x_iadd (nI_add _ _) dX12_tells_55 ?_ | refine x_iadd rfl dX12_tells_55 ?_
        refine x_mldl (len := 160) W rfl rfl (by decide) (by omega) (by first | assumption | rfl) dX12_tells_56 ?_
        refine x_l2i (lN_i k) dX12_tells_57 ?_
        refine x_cv1Vp mX12_does_ok lkX12_309 rfl (Nat.le_of_ble_eq_true rfl) (Nat.le_of_ble_eq_true rfl) dX12_tells_58 W.hM  (j_does W J ed hk) (fun h hq => ?_)
        obtain ⟨s2, M2, L2, W, J, U2⟩ := hq
        refine x_ii2 rfl (nI_1 _) dX12_tells_61 ?_
        refine x_goto (tgt := 7) dX12_tells_64 rfl ?_
        refine ih (i + 1) _ (by omega) ⟨hil, _, _, _, _, W, J, (U.fs (by simp)).tr (U2.mono (by simp) (by simp) (by simp)), ?_, ?_⟩
        · rw [U2.1 24 (by simp)]
          show Value.int (if (deed1 dk st' (q.2.getD i 0)).isSome = true then 0 else 1) = _
          rw [yes]
          rfl
        · rw [hE]
          simp only [Prod.mk.injEq, and_true]
          omega
      · skip
        first | (simp only [cmp_lt, cmp_gt, cmp_eq, zN_cge, zN_cle, Decidable.not_not] at q40) | (simp (disch := omega) only [zN_le, zN_lt, zN_0, zN_1, nI_toInt, zN_eq, zN_eq0, b2_z, b2_nz, Decidable.not_not, Int.not_lt, Int.not_le, zK0, zK1, zK2, zK3, zK5, zK7, zK8, zK9, zK10, zK19, zK20, zK40, zK99, zK100, zK199] at q40) | skip
        have no : deed1 dk st' (q.2.getD i 0) = none := by cases z : deed1 dk st' (q.2.getD i 0); rfl; rw [z] at q40; exact absurd rfl q40
        simp only [deedL_n no, Nat.add_zero] at hE
        rw [hE]
        refine x_il2 dX12_tells_43 ?_
        exact x_iret rfl rfl dX12_tells_44 ⟨_, rfl, rfl, _, _, _, W, J, U.fs (by simp), by rw [if_pos hil]; show Value.int (if (deed1 dk st' (q.2.getD i 0)).isSome = true then 0 else 1) = _; rw [no]; rfl⟩
end ZMf

