/-! the model's desk -/
section ZDv
variable {g : zG} {d : Nat} {h0 h h' : zH} {s s' s2 : Nat → Value} {M M' M2 : Nat → Nat → Int32} {L : Nat → Nat → Int64} {dk : zDk} {st : zSt} {un : List zSt} {tp tp' : List Nat} {tr : Nat → zTr} {pi : Nat → zPi} {fl fl' : Nat × Nat} {S : Sum (Nat × Nat) (Nat × zDd)} {e : Nat × Nat} {x : Int32} {X : zX} {p base li : Nat} {D : zDd}
theorem fDk_h {q : Nat × zDd} (h : fHd X = .inr q) : fDk X = fFin X (fLns X 901 q.2 1 q.1) := by
  unfold fDk
  rw [h]
  rfl
theorem fDk_x {e : Nat × Nat} (h : fHd X = .inl e) : fDk X = .inl e := by
  unfold fDk
  rw [h]
/-- from the first token on -/
theorem dk53 {f : Nat → Int32} (J : MJ s M L dk st un tp tr pi fl) (B : DB s s' M (upM M 63 f)) (W : MW h0 h s' (upM M 63 f) L) (O : PO X s' (upM M 63 f) 0 0) (f1 : ∀ k, k < 956 → f k = plF k) (hS : S = fDk X) : Zw g (d + 57) 0 0 mX12_desk 53 [some (.ref 59), some (.int x), none] [] h (QD h0 dk st un tr pi S) := by
  have X9 := O.1.2.1
  have aX := tkA_le O.2.1.1
  have z0 : 0 ≤ X.2 := Nat.zero_le _
  refine x_al0 rfl dX12_desk_53 ?_
  refine x_iconst (v := nI 0) dX12_desk_54 rfl ?_
  refine x_cv1Ip mX12_eats_ok lkX12_173 rfl (Nat.le_of_ble_eq_true rfl) (Nat.le_of_ble_eq_true rfl) dX12_desk_55 W.hM  (o_eats W O (by decide)) (fun r h hq => ?_)
  rcases hq with ⟨z, rfl, s2, W, U2, K2⟩ | ⟨z, rfl, rfl⟩
  · have b := tkA_B z0 (by omega)
    have O := O.nx U2 K2 (by omega)
    refine x_if_ne (tgt := 66) dX12_desk_58 rfl (fun q58 => ?_) (fun q58 => ?_)
    · skip
      first | (simp only [cmp_lt, cmp_gt, cmp_eq, zN_cge, zN_cle, Decidable.not_not] at q58) | (simp (disch := omega) only [zN_le, zN_lt, zN_0, zN_1, nI_toInt, zN_eq, zN_eq0, b2_z, b2_nz, Decidable.not_not, Int.not_lt, Int.not_le, zK0, zK1, zK2, zK3, zK5, zK7, zK8, zK9, zK10, zK19, zK20, zK40, zK99, zK100, zK199] at q58) | skip
      refine x_al0 rfl dX12_desk_66 ?_
      refine x_gm fdX12_24 W.hM (by decide) W.hF.f4 dX12_desk_67 ?_
      refine x_iconst (v := nI 1) dX12_desk_70 rfl ?_
      refine x_al0 rfl dX12_desk_71 ?_
      refine x_iconst (v := nI 1) dX12_desk_72 rfl ?_
      refine x_iconst (v := nI 1) dX12_desk_73 rfl ?_
      refine x_bipush (v := nI 6) dX12_desk_74 rfl ?_
      refine x_cv3Ip mX12_named_ok lkX12_204 rfl (Nat.le_of_ble_eq_true rfl) (Nat.le_of_ble_eq_true rfl) dX12_desk_76 W.hM  (o_named (k := 1) (lo := 1) (hi := 6) (by decide) (by decide) (by decide) W O) (fun r h hq => ?_)
      cases z1 : fNd X 1 1 6 (tkB X 0) with
      | inl e9 =>
        have le := fNd_e (by decide) b.2 z1
        rw [z1] at hq
        obtain ⟨s3, W, U3, E3⟩ := hq
        refine x_mst (len := 956) W rfl rfl (by decide) (by omega) dX12_desk_79 (fun h W => ?_)
        exact dk80e (d := d + 54) J ((B.pw (U2.pw.tr U3)).pw upM_63) W E3 (by omega) (by rw [hS]; exact fDk_x (by unfold fHd; rw [if_pos z, z1]))
      | inr q =>
        have lo := fNd_o (by decide) b.2 z1
        rw [z1] at hq
        obtain ⟨rfl, s3, W, U3, K3⟩ := hq
        have O := (O.nx U3 K3 (by omega)).fr (f := upd (upM M 63 f 63) 1 (nI q.2)) (pk_un (by decide))
        refine x_mst (len := 956) W rfl rfl (by decide) (by omega) dX12_desk_79 (fun h W => ?_)
        refine x_al0 rfl dX12_desk_80 ?_
        refine x_gm fdX12_24 W.hM (by decide) W.hF.f4 dX12_desk_81 ?_
        refine x_iconst (v := nI 2) dX12_desk_84 rfl ?_
        refine x_al0 rfl dX12_desk_85 ?_
        refine x_iconst (v := nI 2) dX12_desk_86 rfl ?_
        refine x_iconst (v := nI 1) dX12_desk_87 rfl ?_
        refine x_bipush (v := nI 9) dX12_desk_88 rfl ?_
        refine x_cv3Ip mX12_named_ok lkX12_204 rfl (Nat.le_of_ble_eq_true rfl) (Nat.le_of_ble_eq_true rfl) dX12_desk_90 W.hM  (o_named (k := 2) (lo := 1) (hi := 9) (by decide) (by decide) (by decide) W O) (fun r h hq => ?_)
        cases z2 : fNd X 2 1 9 q.1 with
        | inl e9 =>
          have le := fNd_e (by decide) lo.1 z2
          rw [z2] at hq
          obtain ⟨s4, W, U4, E4⟩ := hq
          refine x_mst (len := 956) W rfl rfl (by decide) (by omega) dX12_desk_93 (fun h W => ?_)
          exact dk94e (d := d + 54) J (((B.pw (U2.tr U3).pw).pw (upM_63.tr U4)).pw upM_63) W E4 (by omega) (by rw [hS]; exact fDk_x (by unfold fHd; rw [if_pos z, z1]; simp only; rw [z2]))
        | inr q2 =>
          have lo2 := fNd_o (by decide) lo.1 z2
          rw [z2] at hq
          obtain ⟨rfl, s4, W, U4, K4⟩ := hq
          have O := (O.nx U4 K4 (by omega))
          have B := (B.pw (U2.tr U3).pw).pw (upM_63 (f := upd (upM M 63 f 63) 1 (nI q.2)) |>.tr U4.pw)
          refine x_mst (len := 956) W rfl rfl (by decide) (by omega) dX12_desk_93 (fun h W => ?_)
          rw [upM_eq, upM_upM, upM_upM, upM_eq] at W
          rw [upM_eq, upM_upM] at O B
          have O := O.fr (f := upd (upd f 1 (nI q.2)) 2 (nI q2.2)) (by rw [upM_eq, pk_un (by decide)])
          have B := B.pw (upM_63 (s := s4) (f := upd (upd f 1 (nI q.2)) 2 (nI q2.2)))
          rw [upM_upM] at O B
          refine x_al0 rfl dX12_desk_94 ?_
          refine x_cv0Vp mX12_closes_ok lkX12_208 rfl (Nat.le_of_ble_eq_true rfl) (Nat.le_of_ble_eq_true rfl) dX12_desk_95 W.hM  (o_closes (li := 0) W O (by rw [upM_eq, pk_un (by decide), pk_un (by decide), f1 0 (by decide)]; rfl)) (fun h hq => ?_)
          rcases hq with ⟨y, s6, W6, U6, K6⟩ | ⟨y, s6, M6, W6, U6, E6⟩
          · have b2 := tkA_B lo2.1 (by omega)
            have hH : fHd X = .inr (tkB X q2.1, q.2, q2.2, id, id, 0, none, none) := by unfold fHd; rw [if_pos z, z1]; simp only; rw [z2]; simp only; rw [if_pos y]
            have o := fHd_o (X := X)
            rw [hH] at o
            have u : ∀ k, k ≠ 0 → k ≠ 1 → k ≠ 2 → k < 956 → upM (upM M 63 (upd (upd f 1 (nI q.2)) 2 (nI q2.2))) 63 (upd (upM M 63 (upd (upd f 1 (nI q.2)) 2 (nI q2.2)) 63) 0 (nI (0 + 1))) 63 k = plF k := fun k k0 k1 k2 k3 => by rw [upM_eq, pk_un k0, upM_eq, pk_un k2, pk_un k1]; exact f1 k k3
            refine dk98 (D := (q.2, q2.2, id, id, 0, none, none)) (li := 1) (base := 0) J (B.pw (U6.pw.tr upM_63)) W6 ((O.nx U6 K6 (by omega)).fr (pk_un (by decide))) ?_ o.2.1 (by omega) (by rw [hS]; exact fDk_h hH)
            refine ⟨by rw [upM_eq]; exact pk_us, by rw [upM_eq, pk_un (by decide), upM_eq, pk_un (by decide)]; exact pk_us, by rw [upM_eq, pk_un (by decide), upM_eq]; exact pk_us, ?_, ?_, fun i hi => ?_, fun i hi => ?_, ?_, ?_, ?_, ?_⟩
            · exact (u 3 (by decide) (by decide) (by decide) (by decide)).trans rfl
            · exact (u 4 (by decide) (by decide) (by decide) (by decide)).trans rfl
            · rw [u _ (by omega) (by omega) (by omega) (by omega)]
              unfold plF
              rw [if_pos (by omega), Nat.add_sub_cancel_left]
              rfl
            · rw [u _ (by omega) (by omega) (by omega) (by omega)]
              unfold plF
              rw [if_neg (by omega), if_pos (by omega), Nat.add_sub_cancel_left]
              rfl
            · exact (u 22 (by decide) (by decide) (by decide) (by decide)).trans rfl
            · exact (u 21 (by decide) (by decide) (by decide) (by decide)).trans rfl
            · exact (u 23 (by decide) (by decide) (by decide) (by decide)).trans rfl
            · exact (u 24 (by decide) (by decide) (by decide) (by decide)).trans rfl
          · have aq := tkA_le lo2.1
            exact dk98e (d := d + 56) J (B.pw U6) W6 E6 (by simp only; omega) (by rw [hS]; exact fDk_x (by unfold fHd; rw [if_pos z, z1]; simp only; rw [z2]; simp only; rw [if_neg y]))
    · skip
      first | (simp only [cmp_lt, cmp_gt, cmp_eq, zN_cge, zN_cle, Decidable.not_not] at q58) | (simp (disch := omega) only [zN_le, zN_lt, zN_0, zN_1, nI_toInt, zN_eq, zN_eq0, b2_z, b2_nz, Decidable.not_not, Int.not_lt, Int.not_le, zK0, zK1, zK2, zK3, zK5, zK7, zK8, zK9, zK10, zK19, zK20, zK40, zK99, zK100, zK199] at q58) | skip
      exact absurd q58 (by decide)
  · refine x_if_ne (tgt := 66) dX12_desk_58 rfl (fun q58 => ?_) (fun q58 => ?_)
    · skip
      first | (simp only [cmp_lt, cmp_gt, cmp_eq, zN_cge, zN_cle, Decidable.not_not] at q58) | (simp (disch := omega) only [zN_le, zN_lt, zN_0, zN_1, nI_toInt, zN_eq, zN_eq0, b2_z, b2_nz, Decidable.not_not, Int.not_lt, Int.not_le, zK0, zK1, zK2, zK3, zK5, zK7, zK8, zK9, zK10, zK19, zK20, zK40, zK99, zK100, zK199] at q58) | skip
      exact absurd trivial q58
    · skip
      first | (simp only [cmp_lt, cmp_gt, cmp_eq, zN_cge, zN_cle, Decidable.not_not] at q58) | (simp (disch := omega) only [zN_le, zN_lt, zN_0, zN_1, nI_toInt, zN_eq, zN_eq0, b2_z, b2_nz, Decidable.not_not, Int.not_lt, Int.not_le, zK0, zK1, zK2, zK3, zK5, zK7, zK8, zK9, zK10, zK19, zK20, zK40, zK99, zK100, zK199] at q58) | skip
      refine x_al0 rfl dX12_desk_61 ?_
      refine x_iconst (v := nI 2) dX12_desk_62 rfl ?_
      refine x_cv1Vp mX12_fails_ok lkX12_153 rfl (Nat.le_of_ble_eq_true rfl) (Nat.le_of_ble_eq_true rfl) dX12_desk_63 W.hM  (o_fails (fa := 2) (by decide) (by decide) W O) (fun h hq => ?_)
      obtain ⟨s5, W5, U5, E5⟩ := hq
      exact dk66e (d := d + 54) J (B.pw U5) W5 E5 (by simp only; omega) (by rw [hS]; exact fDk_x (by unfold fHd; rw [if_neg z]; rfl))
theorem w_desk {x : Int32} (I : MI h0 h dk st un tp tr pi fl) : Zm g (d + 57) 0 0 mX12_desk [.ref 59, .int x] h (rIp (fun r h' => r = A_desk tp x ∧ MI h0 h' (S_desk dk st un tp fl x).1 (S_desk dk st un tp fl x).2.1 (S_desk dk st un tp fl x).2.2.1 (S_desk dk st un tp fl x).2.2.2.1 tr pi (S_desk dk st un tp fl x).2.2.2.2)) := by
  obtain ⟨s, M, L, W, J⟩ := I
  obtain ⟨a1, a2, a3, ⟨t1, t2, t3⟩, a5, a6, ⟨l1, l2, l3, l4, nu, e10⟩⟩ := id J
  show Zw g (d + 57) 0 0 mX12_desk 0 [some (.ref 59), some (.int x), none] [] h _
  refine x_al0 rfl dX12_desk_0 ?_
  refine x_iconst (v := nI 0) dX12_desk_1 rfl ?_
  refine x_mpf W fdX12_1 (by decide) rfl zf_i dX12_desk_2 (fun h W => ?_)
  refine x_il1 dX12_desk_5 ?_
  refine x_i2l (rfl) dX12_desk_6 ?_
  refine x_lconst (v := 0) dX12_desk_7 rfl ?_
  refine x_al0 rfl dX12_desk_8 ?_
  refine x_gm fdX12_95 W.hM (by decide) (t1) dX12_desk_9 ?_
  refine x_i2l (rfl) dX12_desk_12 ?_
  refine x_cs3I mX12_within_ok lkX12_157 (Nat.le_of_ble_eq_true rfl) (Nat.le_of_ble_eq_true rfl) dX12_desk_13 j_within ?_
  rw [b2_congr (show ((0 : Int64).toInt ≤ x.toInt ∧ x.toInt ≤ (nI tp.length).toInt64.toInt) ↔ inR tp x by rw [i64_n, nI_toInt (by omega)]; exact Iff.rfl)]
  refine x_if_ne (tgt := 22) dX12_desk_16 rfl (fun q16 => ?_) (fun q16 => ?_)
  · skip
    have hR : inR tp x := b2n q16
    obtain ⟨k1, k2⟩ := oneOf_n (x := x) (n := tp.length + 1) ⟨hR.1, by have := hR.2; omega⟩
    have eQ : (rIp (fun r h' => r = A_desk tp x ∧ MI h0 h' (S_desk dk st un tp fl x).1 (S_desk dk st un tp fl x).2.1 (S_desk dk st un tp fl x).2.2.1 (S_desk dk st un tp fl x).2.2.2.1 tr pi (S_desk dk st un tp fl x).2.2.2.2)) = QD h0 dk st un tr pi (fDk (zTx tp (tn x))) := by
      unfold QD A_desk S_desk
      rw [if_pos hR, if_pos hR]
      cases fDk (zTx tp (tn x)) <;> rfl
    rw [eQ]
    generalize hk : tn x = k at k1 k2 ⊢
    subst k2
    clear hk
    refine x_al0 rfl dX12_desk_22 ?_
    refine x_il1 dX12_desk_23 ?_
    refine x_mpf W fdX12_98 (by decide) rfl zf_i dX12_desk_24 (fun h W => ?_)
    refine x_al0 rfl dX12_desk_27 ?_
    refine x_iconst (v := nI 0) dX12_desk_28 rfl ?_
    refine x_mpf W fdX12_95 (by decide) rfl zf_i dX12_desk_29 (fun h W => ?_)
    refine x_al0 rfl dX12_desk_32 ?_
    refine x_iconst (v := nI 0) dX12_desk_33 rfl ?_
    refine x_mpf W fdX12_116 (by decide) rfl zf_i dX12_desk_34 (fun h W => ?_)
    refine x_al0 rfl dX12_desk_37 ?_
    refine x_iconst (v := nI 0) dX12_desk_38 rfl ?_
    refine x_mpf W fdX12_141 (by decide) rfl zf_i dX12_desk_39 (fun h W => ?_)
    refine x_al0 rfl dX12_desk_42 ?_
    refine x_gm fdX12_24 W.hM (by decide) W.hF.f4 dX12_desk_43 ?_
    refine x_cs1Vp mX12_plain_ok lkX12_88 (Nat.le_of_ble_eq_true rfl) (Nat.le_of_ble_eq_true rfl) dX12_desk_46 (o_plain63 W) (fun h hq => ?_)
    obtain ⟨f, W, f1, f2⟩ := hq
    obtain ⟨s1, W, c8, c5, c7, c11, c10, cs⟩ : ∃ s1, MW h0 h s1 (upM M 63 f) L ∧ s1 8 = .int (nI k) ∧ s1 5 = .int (nI 0) ∧ s1 7 = .int (nI 0) ∧ s1 11 = .int 0 ∧ s1 10 = .int nu ∧ ∀ k, k ≠ 0 → k ≠ 5 → k ≠ 7 → k ≠ 8 → k ≠ 11 → s1 k = s k := ⟨_, W, rfl, rfl, rfl, rfl, e10, fun k k0 k1 k2 k3 k4 => (va_up_ne _ _ k4).trans ((va_up_ne _ _ k2).trans ((va_up_ne _ _ k1).trans ((va_up_ne _ _ k3).trans (va_up_ne _ _ k0))))⟩
    have T : TX (zTx tp k) s1 (upM M 63 f) := ⟨c8, by show k ≤ 900; omega, fun i hi => t3 i (by have : i < k := hi; omega)⟩
    refine x_al0 rfl dX12_desk_49 ?_
    refine x_cv0Vp mX12_next_ok lkX12_150 rfl (Nat.le_of_ble_eq_true rfl) (Nat.le_of_ble_eq_true rfl) dX12_desk_50 W.hM  (j_next (q := 0) W T (Nat.zero_le _) c7 c10) (fun h hq => ?_)
    obtain ⟨s2, W2, U2, K2⟩ := hq
    have O : PO (zTx tp k) s2 (upM M 63 f) 0 0 := ⟨T.pu U2, K2, by rw [U2 11 (by decide) (by decide) (by decide) (by decide)]; exact c11, by rw [upM_eq, f1 55 (by decide)]; rfl, Nat.zero_le _⟩
    exact dk53 J ⟨fun k k0 k1 k2 k3 k4 k5 k6 k7 k8 => (U2 k k2 k3 k5 k6).trans (cs k k0 k1 k3 k4 k7), fun i hi => upM_ne hi, (U2 5 (by decide) (by decide) (by decide) (by decide)).trans c5⟩ W2 O f1 rfl
  · skip
    refine x_bipush (v := (-3)) dX12_desk_19 rfl ?_
    exact x_iret rfl rfl dX12_desk_21 ⟨_, rfl, by rw [A_desk, if_neg (b2e q16)], by rw [S_desk, if_neg (b2e q16)]; exact ⟨_, M, L, W, J.us rfl⟩⟩
end ZDv

