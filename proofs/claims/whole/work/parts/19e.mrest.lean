/-! the model's restore -/
def A_restore (pi : Nat → zPi) (x : Int32) : Int32 := if oneOf x 2 then (match pi (tn x) with
  | none => -5
  | some _ => 0) else -2
def S_restore (dk : zDk) (st : zSt) (un : List zSt) (pi : Nat → zPi) (x : Int32) : zDk × zSt × List zSt := if oneOf x 2 then (match pi (tn x) with
  | none => (dk, st, un)
  | some q => (q.1, q.2, [])) else (dk, st, un)
def bck (al : Nat → Int32) (i k : Nat) : Nat → Int32 := fun t => if t < k then al (956 * (i + 1) + t) else al t
theorem bck_0 {al : Nat → Int32} {i : Nat} : bck al i 0 = al := by
  funext t
  exact if_neg (by omega)
theorem bck_s {al : Nat → Int32} {i k : Nat} : upd (bck al i k) k (al (956 * (i + 1) + k)) = bck al i (k + 1) := by
  funext t
  unfold upd
  by_cases z : t = k
  · rw [if_pos z, z]; exact (if_pos (by omega)).symm
  · rw [if_neg z]
    unfold bck
    by_cases c : t < k
    · rw [if_pos c, if_pos (by omega)]
    · rw [if_neg c, if_neg (by omega)]
section ZRe
variable {g : zG} {d : Nat} {h0 h : zH} {s s' : Nat → Value} {M M' : Nat → Nat → Int32} {L : Nat → Nat → Int64} {dk : zDk} {st : zSt} {un : List zSt} {tp : List Nat} {tr : Nat → zTr} {pi : Nat → zPi} {fl : Nat × Nat}
theorem MJ.rest {i : Nat} {q : zDk × zSt} (J : MJ s M L dk st un tp tr pi fl) (hi : i < 2) (hq : pi i = some q) (h60 : M' 60 = upd (bck (M 60) i 956) 24 (nI 0)) (hM : ∀ j, j ≠ 60 → j ≠ 64 → j ≠ 65 → M' j = M j) (hs : ∀ j, j ≠ 17 → s' j = s j) (h17 : s' 17 = .int (nI (fct q.1.1))) (hT : MTb M' q.1.1) : MJ s' M' L q.1 q.2 [] tp tr pi fl := by
  obtain ⟨a1, a2, a3, a4, a5, a6, a7⟩ := J
  have p := a6 i hi
  rw [hq] at p
  obtain ⟨p1, p2, p3⟩ := p
  have lo : ∀ k, k < 956 → k ≠ 24 → M' 60 k = M 60 (956 * (i + 1) + k) := fun k hk h24 => by
    rw [h60, pk_un h24]; exact if_pos hk
  have hi9 : ∀ k, 956 ≤ k → M' 60 k = M 60 k := fun k hk => by
    rw [h60, pk_un (by omega)]; exact if_neg (by omega)
  obtain ⟨m1, m2, m3, m4⟩ := p3
  refine ⟨MDk.of (p2.c (fun k hk => lo k (by omega) (by omega))) hT h17, ⟨(lo 21 (by decide) (by decide)).trans m1, (lo 22 (by decide) (by decide)).trans m2, (lo 23 (by decide) (by decide)).trans m3, m4⟩, ⟨by rw [h60]; exact pk_us, Nat.zero_le _, fun j hj => absurd hj (Nat.not_lt_zero _)⟩, ?_, ?_, fun t ht => ?_, ?_⟩
  · unfold MTp; rw [hs 5 (by decide), hM 62 (by decide) (by decide) (by decide)]; exact a4
  · unfold MTr; rw [hM 80 (by decide) (by decide) (by decide), hM 81 (by decide) (by decide) (by decide)]; exact a5
  · have p := a6 t ht
    rw [hM 61 (by decide) (by decide) (by decide)]
    cases e : pi t with
    | none => rw [e] at p; exact p
    | some q =>
      rw [e] at p
      obtain ⟨p1, p2, p3⟩ := p
      exact ⟨p1, p2.c (fun k hk => hi9 _ (by omega)), p3.c (fun k hk => hi9 _ (by omega))⟩
  · unfold MFl; rw [hs 13 (by decide), hs 14 (by decide), hs 10 (by decide)]; exact a7
theorem w_restore {x : Int32} (I : MI h0 h dk st un tp tr pi fl) : Zm g (d + 8) 0 0 mX12_restore [.ref 59, .int x] h (rIp (fun r h' => r = A_restore pi x ∧ MI h0 h' (S_restore dk st un pi x).1 (S_restore dk st un pi x).2.1 (S_restore dk st un pi x).2.2 tp tr pi fl)) := by
  obtain ⟨s, M, L, W, J⟩ := I
  obtain ⟨D, hn0, hn6, ho0, ho9, hng, hli, e0, e1, e2, m1, m2, m3, m4, m5, u1, u2, t1, t2, r1, hf⟩ := MJ.o J
  have e2 : oneOf x 2 ↔ 0 ≤ x.toInt ∧ x.toInt ≤ 1 := by
    unfold oneOf
    omega
  show Zw g (d + 8) 0 0 mX12_restore 0 [some (.ref 59), some (.int x), none] [] h _
  refine x_al0 rfl dX12_restore_0 ?_
  refine x_iconst (v := nI 0) dX12_restore_1 rfl ?_
  refine x_mpfJ W J fdX12_1 (by decide) rfl rfl zf_i dX12_restore_2 (fun h W J => ?_)
  refine x_il1 dX12_restore_5 ?_
  refine x_i2l (rfl) dX12_restore_6 ?_
  refine x_lconst (v := 0) dX12_restore_7 rfl ?_
  refine x_lconst (v := 1) dX12_restore_8 rfl ?_
  refine x_cs3I mX12_within_ok lkX12_157 (Nat.le_of_ble_eq_true rfl) (Nat.le_of_ble_eq_true rfl) dX12_restore_9 j_within ?_
  refine x_if_ne (tgt := 18) dX12_restore_12 rfl (fun q12 => ?_) (fun q12 => ?_)
  · skip
    first | (simp only [cmp_lt, cmp_gt, cmp_eq, zN_cge, zN_cle, Decidable.not_not] at q12) | (simp (disch := omega) only [zN_le, zN_lt, zN_0, zN_1, nI_toInt, zN_eq, zN_eq0, b2_z, b2_nz, Decidable.not_not, Int.not_lt, Int.not_le, zK0, zK1, zK2, zK3, zK5, zK7, zK8, zK9, zK10, zK19, zK20, zK40, zK99, zK100, zK199] at q12) | skip
    have c : oneOf x 2 := e2.mpr q12
    unfold A_restore S_restore
    rw [if_pos c, if_pos c]
    obtain ⟨i, hi, rfl⟩ := oneOf_ex c
    rw [show tn (nI i) = i from nI_clamp (by omega)]
    have p := J.2.2.2.2.2.1 i hi
    refine x_al0 rfl dX12_restore_18 ?_
    refine x_gm fdX12_17 W.hM (by decide) W.hF.f2 dX12_restore_19 ?_
    refine x_il1 dX12_restore_22 ?_
    refine x_zald W.g61 (vp_in_nI (by omega) (by decide)) (congrArg (M 61) (nI_clamp (by omega))) dX12_restore_23 ?_
    cases ep : pi i with
    | none =>
      rw [ep] at p
      rw [show M 61 i = 0 from p]
      refine x_if_ne (tgt := 30) dX12_restore_24 rfl (fun q24 => ?_) (fun q24 => ?_)
      · skip
        exact absurd rfl q24
      · skip
        refine x_bipush (v := (-5)) dX12_restore_27 rfl ?_
        exact x_iret rfl rfl dX12_restore_29 ⟨_, rfl, rfl, _, _, _, W, J⟩
    | some q =>
      rw [ep] at p
      rw [show M 61 i = 1 from p.1]
      refine x_if_ne (tgt := 30) dX12_restore_24 rfl (fun q24 => ?_) (fun q24 => ?_)
      · skip
        refine x_iconst (v := nI 0) dX12_restore_30 rfl ?_
        refine x_is2 rfl dX12_restore_31 ?_
        have W := W.u 60
        refine x_for (e := 956) (fun k => [some (.ref 59), some (.int (nI i)), some (.int (nI k))]) (fun k h => MW h0 h _ (upM M 60 (bck (M 60) i k)) L) 0 (by omega) (by rw [bck_0]; exact W) (fun h W => ?_) (fun k h hk W ih => ?_)
        · refine x_il2 dX12_restore_32 ?_
          refine x_sipush (v := nI 956) dX12_restore_33 (by decide) ?_
          refine x_icmp_ge (tgt := 65) dX12_restore_36 rfl (fun q36 => ?_) (fun q36 => ?_)
          · skip
            first | (simp only [cmp_lt, cmp_gt, cmp_eq, zN_cge, zN_cle, Decidable.not_not] at q36) | (simp (disch := omega) only [zN_le, zN_lt, zN_0, zN_1, nI_toInt, zN_eq, zN_eq0, b2_z, b2_nz, Decidable.not_not, Int.not_lt, Int.not_le, zK0, zK1, zK2, zK3, zK5, zK7, zK8, zK9, zK10, zK19, zK20, zK40, zK99, zK100, zK199] at q36) | skip
            refine x_al0 rfl dX12_restore_65 ?_
            refine x_gm fdX12_13 W.hM (by decide) W.hF.f1 dX12_restore_66 ?_
            refine x_bipush (v := nI 24) dX12_restore_69 rfl ?_
            refine x_iconst (v := nI 0) dX12_restore_71 rfl ?_
            refine x_mstU (len := 2868) W rfl rfl (by decide) (by omega) dX12_restore_72 (fun h W => ?_)
            have n1 : upM M 60 (upd (bck (M 60) i 956) 24 (nI 0)) 60 1 = nI q.1.1 := by rw [upM_eq, pk_un (by decide), show bck (M 60) i 956 1 = M 60 (956 * (i + 1) + 1) from if_pos (by decide)]; exact p.2.1.2.2.1
            refine x_al0 rfl dX12_restore_73 ?_
            refine x_cv0Vp mX12_laysAll_ok lkX12_92 rfl (Nat.le_of_ble_eq_true rfl) (Nat.le_of_ble_eq_true rfl) dX12_restore_74 W.hM  (j_laysAll p.2.1.1.1 p.2.1.1.2.1 W n1) (fun h hq => ?_)
            obtain ⟨s2, M2, W, h17, hs, hM, hT⟩ := hq
            refine x_iconst (v := nI 0) dX12_restore_77 rfl ?_
            exact x_iret rfl rfl dX12_restore_78 ⟨_, rfl, rfl, s2, M2, L, W, J.rest hi ep ((hM 60 (by decide) (by decide)).trans upM_eq) (fun j a b c => (hM j b c).trans (upM_ne a)) hs h17 hT⟩
          · skip
            first | (simp only [cmp_lt, cmp_gt, cmp_eq, zN_cge, zN_cle, Decidable.not_not] at q36) | (simp (disch := omega) only [zN_le, zN_lt, zN_0, zN_1, nI_toInt, zN_eq, zN_eq0, b2_z, b2_nz, Decidable.not_not, Int.not_lt, Int.not_le, zK0, zK1, zK2, zK3, zK5, zK7, zK8, zK9, zK10, zK19, zK20, zK40, zK99, zK100, zK199] at q36) | skip
            omega
        · refine x_il2 dX12_restore_32 ?_
          refine x_sipush (v := nI 956) dX12_restore_33 (by decide) ?_
          refine x_icmp_ge (tgt := 65) dX12_restore_36 rfl (fun q36 => ?_) (fun q36 => ?_)
          · skip
            first | (simp only [cmp_lt, cmp_gt, cmp_eq, zN_cge, zN_cle, Decidable.not_not] at q36) | (simp (disch := omega) only [zN_le, zN_lt, zN_0, zN_1, nI_toInt, zN_eq, zN_eq0, b2_z, b2_nz, Decidable.not_not, Int.not_lt, Int.not_le, zK0, zK1, zK2, zK3, zK5, zK7, zK8, zK9, zK10, zK19, zK20, zK40, zK99, zK100, zK199] at q36) | skip
            omega
          · skip
            first | (simp only [cmp_lt, cmp_gt, cmp_eq, zN_cge, zN_cle, Decidable.not_not] at q36) | (simp (disch := omega) only [zN_le, zN_lt, zN_0, zN_1, nI_toInt, zN_eq, zN_eq0, b2_z, b2_nz, Decidable.not_not, Int.not_lt, Int.not_le, zK0, zK1, zK2, zK3, zK5, zK7, zK8, zK9, zK10, zK19, zK20, zK40, zK99, zK100, zK199] at q36) | skip
            refine x_al0 rfl dX12_restore_39 ?_
            refine x_gm fdX12_13 W.hM (by decide) W.hF.f1 dX12_restore_40 ?_
            refine x_il2 dX12_restore_43 ?_
            refine x_al0 rfl dX12_restore_44 ?_
            refine x_gm fdX12_13 W.hM (by decide) W.hF.f1 dX12_restore_45 ?_
            refine x_sipush (v := nI 956) dX12_restore_48 (by decide) ?_
            refine x_il1 dX12_restore_51 ?_
            refine x_iconst (v := nI 1) dX12_restore_52 rfl ?_
            first | refine x_iadd (nI_add _ _) dX12_restore_53 ?_ | refine x_iadd rfl dX12_restore_53 ?_
            first | refine x_imul (pk_mul _ _) dX12_restore_54 ?_ | refine x_imul rfl dX12_restore_54 ?_
            refine x_il2 dX12_restore_55 ?_
            first | refine x_iadd (nI_add _ _) dX12_restore_56 ?_ | refine x_iadd rfl dX12_restore_56 ?_
            refine x_mld (len := 2868) W rfl rfl (by decide) (by omega) ((congrFun upM_eq _).trans (if_neg (by omega))) dX12_restore_57 ?_
            refine x_mstU (len := 2868) W rfl rfl (by decide) (by omega) dX12_restore_58 (fun h W => ?_)
            rw [bck_s] at W
            first | refine x_ii2 rfl (nI_1 _) dX12_restore_59 ?_ | refine x_ii2 rfl rfl dX12_restore_59 ?_
            refine x_goto (tgt := 32) dX12_restore_62 rfl ?_
            exact ih _ W
      · skip
        exact absurd q24 (by decide)
  · skip
    first | (simp only [cmp_lt, cmp_gt, cmp_eq, zN_cge, zN_cle, Decidable.not_not] at q12) | (simp (disch := omega) only [zN_le, zN_lt, zN_0, zN_1, nI_toInt, zN_eq, zN_eq0, b2_z, b2_nz, Decidable.not_not, Int.not_lt, Int.not_le, zK0, zK1, zK2, zK3, zK5, zK7, zK8, zK9, zK10, zK19, zK20, zK40, zK99, zK100, zK199] at q12) | skip
    refine x_bipush (v := (-2)) dX12_restore_15 rfl ?_
    exact x_iret rfl rfl dX12_restore_17 ⟨_, rfl, by rw [A_restore, if_neg (fun c => q12 (e2.mp c))], by rw [S_restore, if_neg (fun c => q12 (e2.mp c))]; exact ⟨_, _, _, W, J⟩⟩
end ZRe

