/-! the model's deeds -/
section ZMe
variable {g : zG} {d : Nat} {h0 h : zH} {s : Nat → Value} {M : Nat → Nat → Int32} {L : Nat → Nat → Int64} {dk : zDk} {st : zSt} {un : List zSt} {tp : List Nat} {tr : Nat → zTr} {pi : Nat → zPi} {fl : Nat × Nat}
theorem MUn.c {al al' : Nat → Int32} {n : Nat} (a : MUn al n un) (h : ∀ k, 24 ≤ k → k < 55 → al' k = al k) : MUn al' n un := by
  obtain ⟨a1, a2, a3⟩ := a
  refine ⟨by rw [h _ (by omega) (by omega)]; exact a1, a2, fun i hi => ?_⟩
  obtain ⟨c1, c2, c3, c4⟩ := a3 i hi
  exact ⟨by rw [h _ (by omega) (by omega)]; exact c1, by rw [h _ (by omega) (by omega)]; exact c2, by rw [h _ (by omega) (by omega)]; exact c3, c4⟩
theorem MJ.r21 {r : Nat} (J : MJ s M L dk st un tp tr pi fl) (hr : r < fct dk.1) : MJ s (upM M 60 (upd (M 60) 21 (nI r))) L dk (r, st.2.1, st.2.2) un tp tr pi fl := by
  obtain ⟨c1, c2, c3, c4, c5⟩ := J.2.1
  exact J.u60 (fun k hk => pk_un (by omega)) ⟨pk_us, (pk_un (by omega)).trans c2, (pk_un (by omega)).trans c3, hr, c5⟩ (J.2.2.1.c (fun k _ _ => pk_un (by omega)))
theorem MJ.r22 {r : Nat} (J : MJ s M L dk st un tp tr pi fl) (hr : r < 10) : MJ s (upM M 60 (upd (M 60) 22 (nI r))) L dk (st.1, r, st.2.2) un tp tr pi fl := by
  obtain ⟨c1, c2, c3, c4, c5⟩ := J.2.1
  exact J.u60 (fun k hk => pk_un (by omega)) ⟨(pk_un (by omega)).trans c1, pk_us, (pk_un (by omega)).trans c3, c4, hr⟩ (J.2.2.1.c (fun k _ _ => pk_un (by omega)))
theorem MJ.r23 {r : Int32} (J : MJ s M L dk st un tp tr pi fl) : MJ s (upM M 60 (upd (M 60) 23 r)) L dk (st.1, st.2.1, r) un tp tr pi fl := by
  obtain ⟨c1, c2, c3, c4, c5⟩ := J.2.1
  exact J.u60 (fun k hk => pk_un (by omega)) ⟨(pk_un (by omega)).trans c1, (pk_un (by omega)).trans c2, pk_us, c4, c5⟩ (J.2.2.1.c (fun k _ _ => pk_un (by omega)))
theorem j_canSwap {x y : Int32} (W : MW h0 h s M L) (J : MJ s M L dk st un tp tr pi fl) : Zm g (d + 2) 0 0 mX12_canSwap [.ref 59, .long x.toInt64, .long y.toInt64] h (rI (b2 (oneOf x dk.1 ∧ oneOf y dk.1 ∧ x ≠ y)) h) := by
  have := w_canSwap (g := g) (d := d) (v := x.toInt64) (u := y.toInt64) W J.1
  have e : (oneL x.toInt64 dk.1 ∧ oneL y.toInt64 dk.1 ∧ x.toInt64 ≠ y.toInt64) ↔ (oneOf x dk.1 ∧ oneOf y dk.1 ∧ x ≠ y) := by
    unfold oneL oneOf
    rw [i64_n, i64_n, ne_eq, ne_eq, ← Int64.toInt_inj, i64_n, i64_n, Int32.toInt_inj]
  rw [b2_iff e] at this
  exact this
theorem j_goesNight (W : MW h0 h s M L) (J : MJ s M L dk st un tp tr pi fl) : Zm g (d + 2) 0 0 mX12_goesNight [.ref 59] h (rVp (fun h' => ∃ s' M' L', MW h0 h' s' M' L' ∧ MJ s' M' L' dk (ngt dk.1 dk.2.2.1 st.1, st.2.1, st.2.2 + 1) un tp tr pi fl ∧ Un [] [60, 65] [] s s' M M' L L')) := by
  obtain ⟨D, hn0, hn6, ho0, ho9, hng, hli, e0, e1, e2, m1, m2, m3, m4, m5, u1, u2, t1, t2, r1, hf⟩ := MJ.o J
  show Zw g (d + 2) 0 0 mX12_goesNight 0 [some (.ref 59)] [] h _
  refine x_al0 rfl dX12_goesNight_0 ?_
  refine x_gm fdX12_13 W.hM (by decide) W.hF.f1 dX12_goesNight_1 ?_
  refine x_bipush (v := nI 21) dX12_goesNight_4 rfl ?_
  refine x_al0 rfl dX12_goesNight_6 ?_
  refine x_al0 rfl dX12_goesNight_7 ?_
  refine x_gm fdX12_13 W.hM (by decide) W.hF.f1 dX12_goesNight_8 ?_
  refine x_bipush (v := nI 21) dX12_goesNight_11 rfl ?_
  refine x_mld (len := 2868) W rfl rfl (by decide) (by omega) (by first | assumption | rfl) dX12_goesNight_13 ?_
  refine x_cv1Ip mX12_nightTo_ok lkX12_268 rfl (Nat.le_of_ble_eq_true rfl) (Nat.le_of_ble_eq_true rfl) dX12_goesNight_14 W.hM  (j_nightTo W J (by first | assumption | omega)) (fun r h hq => ?_)
  obtain ⟨rfl, s, M, L, W, J, U⟩ := hq
  obtain ⟨D, hn0, hn6, ho0, ho9, hng, hli, e0, e1, e2, m1, m2, m3, m4, m5, u1, u2, t1, t2, r1, hf⟩ := MJ.o J
  replace W := W.u 60
  refine x_mstU (len := 2868) W rfl rfl (by decide) (by omega) dX12_goesNight_17 (fun h W => ?_)
  replace J := J.r21 (ngt_row hn0 hn6 hng m4).1
  replace W := W.u 60
  refine x_al0 rfl dX12_goesNight_18 ?_
  refine x_gm fdX12_13 W.hM (by decide) W.hF.f1 dX12_goesNight_19 ?_
  refine x_bipush (v := nI 23) dX12_goesNight_22 rfl ?_
  refine x_dup2 rfl rfl dX12_goesNight_24 ?_
  refine x_mld (len := 2868) W rfl rfl (by decide) (by omega) m3 dX12_goesNight_25 ?_
  refine x_iconst (v := nI 1) dX12_goesNight_26 rfl ?_
  first | refine x_iadd (nI_add _ _) dX12_goesNight_27 ?_ | refine x_iadd rfl dX12_goesNight_27 ?_
  refine x_mstU (len := 2868) W rfl rfl (by decide) (by omega) dX12_goesNight_28 (fun h W => ?_)
  exact x_vret rfl dX12_goesNight_29 ⟨rfl, _, _, _, W, J.r23, ((U.mono (by simp) (by simp) (by simp)).m (by simp)).m (by simp)⟩
theorem w_swap {x y : Int32} (I : MI h0 h dk st un tp tr pi fl) : Zm g (d + 5) 0 0 mX12_swap [.ref 59, .int x, .int y] h (rIp (fun r h' => r = (D_swap dk st un x y).1 ∧ MI h0 h' dk (D_swap dk st un x y).2.1 (D_swap dk st un x y).2.2 tp tr pi fl)) := by
  obtain ⟨s, M, L, W, J⟩ := I
  obtain ⟨D, hn0, hn6, ho0, ho9, hng, hli, e0, e1, e2, m1, m2, m3, m4, m5, u1, u2, t1, t2, r1, hf⟩ := MJ.o J
  show Zw g (d + 5) 0 0 mX12_swap 0 [some (.ref 59), some (.int x), some (.int y)] [] h _
  refine x_al0 rfl dX12_swap_0 ?_
  refine x_iconst (v := nI 0) dX12_swap_1 rfl ?_
  refine x_mpfJ W J fdX12_1 (by decide) rfl rfl zf_i dX12_swap_2 (fun h W J => ?_)
  refine x_al0 rfl dX12_swap_5 ?_
  refine x_il1 dX12_swap_6 ?_
  refine x_i2l (rfl) dX12_swap_7 ?_
  refine x_il2 dX12_swap_8 ?_
  refine x_i2l (rfl) dX12_swap_9 ?_
  refine x_cv2I mX12_canSwap_ok lkX12_271 rfl (Nat.le_of_ble_eq_true rfl) (Nat.le_of_ble_eq_true rfl) dX12_swap_10 W.hM  (j_canSwap W J) ?_
  refine x_if_ne (tgt := 19) dX12_swap_13 rfl (fun q13 => ?_) (fun q13 => ?_)
  · skip
    first | (simp only [cmp_lt, cmp_gt, cmp_eq, zN_cge, zN_cle, Decidable.not_not] at q13) | (simp (disch := omega) only [zN_le, zN_lt, zN_0, zN_1, nI_toInt, zN_eq, zN_eq0, b2_z, b2_nz, Decidable.not_not, Int.not_lt, Int.not_le, zK0, zK1, zK2, zK3, zK5, zK7, zK8, zK9, zK10, zK19, zK20, zK40, zK99, zK100, zK199] at q13) | skip
    unfold D_swap
    rw [if_pos q13]
    obtain ⟨⟨a, ha, rfl⟩, ⟨b, hb, rfl⟩, -⟩ := And.intro (oneOf_ex q13.1) (And.intro (oneOf_ex q13.2.1) trivial)
    rw [show tn (nI a) = a from nI_clamp (by omega), show tn (nI b) = b from nI_clamp (by omega)]
    refine x_al0 rfl dX12_swap_19 ?_
    refine x_cv0Vp mX12_stores_ok lkX12_275 rfl (Nat.le_of_ble_eq_true rfl) (Nat.le_of_ble_eq_true rfl) dX12_swap_20 W.hM  (j_stores W J) (fun h hq => ?_)
    obtain ⟨M, W, J, U, hw⟩ := hq
    obtain ⟨D, hn0, hn6, ho0, ho9, hng, hli, e0, e1, e2, m1, m2, m3, m4, m5, u1, u2, t1, t2, r1, hf⟩ := MJ.o J
    have o1 : st.1 < fct dk.1 ∧ st.2.1 < 10 := ⟨m4, m5⟩
    refine x_al0 rfl dX12_swap_23 ?_
    refine x_gm fdX12_13 W.hM (by decide) W.hF.f1 dX12_swap_24 ?_
    refine x_bipush (v := nI 21) dX12_swap_27 rfl ?_
    refine x_al0 rfl dX12_swap_29 ?_
    refine x_al0 rfl dX12_swap_30 ?_
    refine x_gm fdX12_13 W.hM (by decide) W.hF.f1 dX12_swap_31 ?_
    refine x_bipush (v := nI 21) dX12_swap_34 rfl ?_
    refine x_mld (len := 2868) W rfl rfl (by decide) (by omega) (by first | assumption | rfl) dX12_swap_36 ?_
    refine x_il1 dX12_swap_37 ?_
    refine x_il2 dX12_swap_38 ?_
    refine x_cv3Ip mX12_swapTo_ok lkX12_278 rfl (Nat.le_of_ble_eq_true rfl) (Nat.le_of_ble_eq_true rfl) dX12_swap_39 W.hM  (j_swapTo W J (by first | assumption | omega) (by first | assumption | omega) (by first | assumption | omega)) (fun r h hq => ?_)
    obtain ⟨rfl, s, M, L, W, J, U⟩ := hq
    obtain ⟨D, hn0, hn6, ho0, ho9, hng, hli, e0, e1, e2, m1, m2, m3, m4, m5, u1, u2, t1, t2, r1, hf⟩ := MJ.o J
    replace W := W.u 60
    replace hw : Was M st := by unfold Was; rw [U.2.1 69 (by decide)]; exact hw
    refine x_mstU (len := 2868) W rfl rfl (by decide) (by omega) dX12_swap_42 (fun h W => ?_)
    replace J := J.r21 (sw1_row hn0 hn6 m4 ha hb).1
    refine x_al0 rfl dX12_swap_43 ?_
    refine x_cv0Vp mX12_notes_ok lkX12_281 rfl (Nat.le_of_ble_eq_true rfl) (Nat.le_of_ble_eq_true rfl) dX12_swap_44 W.hM  (j_notes W J hw (by first | assumption | omega)) (fun h hq => ?_)
    obtain ⟨M, W, J, U⟩ := hq
    obtain ⟨D, hn0, hn6, ho0, ho9, hng, hli, e0, e1, e2, m1, m2, m3, m4, m5, u1, u2, t1, t2, r1, hf⟩ := MJ.o J
    refine x_al0 rfl dX12_swap_47 ?_
    refine x_cv0Ip mX12_letNow_ok lkX12_265 rfl (Nat.le_of_ble_eq_true rfl) (Nat.le_of_ble_eq_true rfl) dX12_swap_48 W.hM  (j_letNow W J) (fun r h hq => ?_)
    obtain ⟨rfl, s, M, L, W, J, U⟩ := hq
    obtain ⟨D, hn0, hn6, ho0, ho9, hng, hli, e0, e1, e2, m1, m2, m3, m4, m5, u1, u2, t1, t2, r1, hf⟩ := MJ.o J
    refine x_cs1I mX12_bitsOf_ok lkX12_284 (Nat.le_of_ble_eq_true rfl) (Nat.le_of_ble_eq_true rfl) dX12_swap_51 (m_bitsOf (msk_lt hn6)) ?_
    exact x_iret rfl rfl dX12_swap_54 ⟨_, rfl, rfl, _, _, _, W, J⟩
  · skip
    first | (simp only [cmp_lt, cmp_gt, cmp_eq, zN_cge, zN_cle, Decidable.not_not] at q13) | (simp (disch := omega) only [zN_le, zN_lt, zN_0, zN_1, nI_toInt, zN_eq, zN_eq0, b2_z, b2_nz, Decidable.not_not, Int.not_lt, Int.not_le, zK0, zK1, zK2, zK3, zK5, zK7, zK8, zK9, zK10, zK19, zK20, zK40, zK99, zK100, zK199] at q13) | skip
    refine x_bipush (v := (-11)) dX12_swap_16 rfl ?_
    exact x_iret rfl rfl dX12_swap_18 ⟨_, rfl, by rw [D_swap, if_neg q13], by rw [D_swap, if_neg q13]; exact ⟨_, _, _, W, J⟩⟩
theorem w_nights {x : Int32} (I : MI h0 h dk st un tp tr pi fl) : Zm g (d + 5) 0 0 mX12_nights [.ref 59, .int x] h (rIp (fun r h' => r = (D_nights dk st un x).1 ∧ MI h0 h' dk (D_nights dk st un x).2.1 (D_nights dk st un x).2.2 tp tr pi fl)) := by
  obtain ⟨s, M, L, W, J⟩ := I
  obtain ⟨D, hn0, hn6, ho0, ho9, hng, hli, e0, e1, e2, m1, m2, m3, m4, m5, u1, u2, t1, t2, r1, hf⟩ := MJ.o J
  show Zw g (d + 5) 0 0 mX12_nights 0 [some (.ref 59), some (.int x), none] [] h _
  refine x_al0 rfl dX12_nights_0 ?_
  refine x_iconst (v := nI 0) dX12_nights_1 rfl ?_
  refine x_mpfJ W J fdX12_1 (by decide) rfl rfl zf_i dX12_nights_2 (fun h W J => ?_)
  refine x_il1 dX12_nights_5 ?_
  refine x_i2l (rfl) dX12_nights_6 ?_
  refine x_lconst (v := 1) dX12_nights_7 rfl ?_
  refine x_ldc2 kcX12_287 dX12_nights_8 ?_
  refine x_cs3I mX12_within_ok lkX12_157 (Nat.le_of_ble_eq_true rfl) (Nat.le_of_ble_eq_true rfl) dX12_nights_11 j_within ?_
  refine x_if_ne (tgt := 20) dX12_nights_14 rfl (fun q14 => ?_) (fun q14 => ?_)
  · skip
    first | (simp only [cmp_lt, cmp_gt, cmp_eq, zN_cge, zN_cle, Decidable.not_not] at q14) | (simp (disch := omega) only [zN_le, zN_lt, zN_0, zN_1, nI_toInt, zN_eq, zN_eq0, b2_z, b2_nz, Decidable.not_not, Int.not_lt, Int.not_le, zK0, zK1, zK2, zK3, zK5, zK7, zK8, zK9, zK10, zK19, zK20, zK40, zK99, zK100, zK199] at q14) | skip
    unfold D_nights
    rw [if_pos q14]
    obtain ⟨k, hk1, hk2, rfl⟩ := rng_ex (a := 1) (b := 99) q14 (by decide)
    rw [show tn (nI k) = k from nI_clamp (by omega)]
    refine x_al0 rfl dX12_nights_20 ?_
    refine x_cv0Vp mX12_stores_ok lkX12_275 rfl (Nat.le_of_ble_eq_true rfl) (Nat.le_of_ble_eq_true rfl) dX12_nights_21 W.hM  (j_stores W J) (fun h hq => ?_)
    obtain ⟨M, W, J, U, hw⟩ := hq
    obtain ⟨D, hn0, hn6, ho0, ho9, hng, hli, e0, e1, e2, m1, m2, m3, m4, m5, u1, u2, t1, t2, r1, hf⟩ := MJ.o J
    have o1 : st.1 < fct dk.1 ∧ st.2.1 < 10 := ⟨m4, m5⟩
    refine x_iconst (v := nI 0) dX12_nights_24 rfl ?_
    refine x_is2 rfl dX12_nights_25 ?_
    have key : st.2.2 = st.2.2 + nI 0 := by rw [show nI 0 = (0 : Int32) from rfl, Int32.add_zero]
    refine x_for (e := k) (fun i => [some (.ref 59), some (.int (nI k)), some (.int (nI i))]) (fun i h => ∃ s M L, MW h0 h s M L ∧ MJ s M L dk (ngk dk.1 dk.2.2.1 i st.1, st.2.1, st.2.2 + nI i) un tp tr pi fl ∧ Was M st) 0 (by omega) ⟨_, _, _, W, by rw [← key]; exact J, hw⟩ (fun h hI => ?_) (fun i h hi hI ih => ?_)
    · obtain ⟨s, M, L, W, J, hw⟩ := hI
      obtain ⟨D, hn0, hn6, ho0, ho9, hng, hli, e0, e1, e2, m1, m2, m3, m4, m5, u1, u2, t1, t2, r1, hf⟩ := MJ.o J
      refine x_il2 dX12_nights_26 ?_
      refine x_il1 dX12_nights_27 ?_
      refine x_icmp_ge (tgt := 41) dX12_nights_28 rfl (fun q28 => ?_) (fun q28 => ?_)
      · skip
        first | (simp only [cmp_lt, cmp_gt, cmp_eq, zN_cge, zN_cle, Decidable.not_not] at q28) | (simp (disch := omega) only [zN_le, zN_lt, zN_0, zN_1, nI_toInt, zN_eq, zN_eq0, b2_z, b2_nz, Decidable.not_not, Int.not_lt, Int.not_le, zK0, zK1, zK2, zK3, zK5, zK7, zK8, zK9, zK10, zK19, zK20, zK40, zK99, zK100, zK199] at q28) | skip
        refine x_al0 rfl dX12_nights_41 ?_
        refine x_cv0Vp mX12_notes_ok lkX12_281 rfl (Nat.le_of_ble_eq_true rfl) (Nat.le_of_ble_eq_true rfl) dX12_nights_42 W.hM  (j_notes W J hw (by first | assumption | omega)) (fun h hq => ?_)
        obtain ⟨M, W, J, U⟩ := hq
        obtain ⟨D, hn0, hn6, ho0, ho9, hng, hli, e0, e1, e2, m1, m2, m3, m4, m5, u1, u2, t1, t2, r1, hf⟩ := MJ.o J
        refine x_al0 rfl dX12_nights_45 ?_
        refine x_cv0Ip mX12_letNow_ok lkX12_265 rfl (Nat.le_of_ble_eq_true rfl) (Nat.le_of_ble_eq_true rfl) dX12_nights_46 W.hM  (j_letNow W J) (fun r h hq => ?_)
        obtain ⟨rfl, s, M, L, W, J, U⟩ := hq
        obtain ⟨D, hn0, hn6, ho0, ho9, hng, hli, e0, e1, e2, m1, m2, m3, m4, m5, u1, u2, t1, t2, r1, hf⟩ := MJ.o J
        refine x_cs1I mX12_bitsOf_ok lkX12_284 (Nat.le_of_ble_eq_true rfl) (Nat.le_of_ble_eq_true rfl) dX12_nights_49 (m_bitsOf (msk_lt hn6)) ?_
        exact x_iret rfl rfl dX12_nights_52 ⟨_, rfl, rfl, _, _, _, W, J⟩
      · skip
        first | (simp only [cmp_lt, cmp_gt, cmp_eq, zN_cge, zN_cle, Decidable.not_not] at q28) | (simp (disch := omega) only [zN_le, zN_lt, zN_0, zN_1, nI_toInt, zN_eq, zN_eq0, b2_z, b2_nz, Decidable.not_not, Int.not_lt, Int.not_le, zK0, zK1, zK2, zK3, zK5, zK7, zK8, zK9, zK10, zK19, zK20, zK40, zK99, zK100, zK199] at q28) | skip
        omega
    · obtain ⟨s, M, L, W, J, hw⟩ := hI
      obtain ⟨D, hn0, hn6, ho0, ho9, hng, hli, e0, e1, e2, m1, m2, m3, m4, m5, u1, u2, t1, t2, r1, hf⟩ := MJ.o J
      refine x_il2 dX12_nights_26 ?_
      refine x_il1 dX12_nights_27 ?_
      refine x_icmp_ge (tgt := 41) dX12_nights_28 rfl (fun q28 => ?_) (fun q28 => ?_)
      · skip
        first | (simp only [cmp_lt, cmp_gt, cmp_eq, zN_cge, zN_cle, Decidable.not_not] at q28) | (simp (disch := omega) only [zN_le, zN_lt, zN_0, zN_1, nI_toInt, zN_eq, zN_eq0, b2_z, b2_nz, Decidable.not_not, Int.not_lt, Int.not_le, zK0, zK1, zK2, zK3, zK5, zK7, zK8, zK9, zK10, zK19, zK20, zK40, zK99, zK100, zK199] at q28) | skip
        omega
      · skip
        first | (simp only [cmp_lt, cmp_gt, cmp_eq, zN_cge, zN_cle, Decidable.not_not] at q28) | (simp (disch := omega) only [zN_le, zN_lt, zN_0, zN_1, nI_toInt, zN_eq, zN_eq0, b2_z, b2_nz, Decidable.not_not, Int.not_lt, Int.not_le, zK0, zK1, zK2, zK3, zK5, zK7, zK8, zK9, zK10, zK19, zK20, zK40, zK99, zK100, zK199] at q28) | skip
        refine x_al0 rfl dX12_nights_31 ?_
        refine x_cv0Vp mX12_goesNight_ok lkX12_289 rfl (Nat.le_of_ble_eq_true rfl) (Nat.le_of_ble_eq_true rfl) dX12_nights_32 W.hM  (j_goesNight W J) (fun h hq => ?_)
        obtain ⟨s, M, L, W, J, U⟩ := hq
        obtain ⟨D, hn0, hn6, ho0, ho9, hng, hli, e0, e1, e2, m1, m2, m3, m4, m5, u1, u2, t1, t2, r1, hf⟩ := MJ.o J
        refine x_ii2 rfl (nI_1 _) dX12_nights_35 ?_
        refine x_goto (tgt := 26) dX12_nights_38 rfl ?_
        refine ih _ ⟨_, _, _, W, ?_, by unfold Was; rw [U.2.1 69 (by decide)]; exact hw⟩
        rw [ngk_s, show st.2.2 + nI (i + 1) = st.2.2 + nI i + 1 by rw [← nI_1, Int32.add_assoc]]
        exact J
  · skip
    first | (simp only [cmp_lt, cmp_gt, cmp_eq, zN_cge, zN_cle, Decidable.not_not] at q14) | (simp (disch := omega) only [zN_le, zN_lt, zN_0, zN_1, nI_toInt, zN_eq, zN_eq0, b2_z, b2_nz, Decidable.not_not, Int.not_lt, Int.not_le, zK0, zK1, zK2, zK3, zK5, zK7, zK8, zK9, zK10, zK19, zK20, zK40, zK99, zK100, zK199] at q14) | skip
    refine x_bipush (v := (-3)) dX12_nights_17 rfl ?_
    exact x_iret rfl rfl dX12_nights_19 ⟨_, rfl, by rw [D_nights, if_neg q14], by rw [D_nights, if_neg q14]; exact ⟨_, _, _, W, J⟩⟩
theorem w_clue {x : Int32} (I : MI h0 h dk st un tp tr pi fl) : Zm g (d + 5) 0 0 mX12_clue [.ref 59, .int x] h (rIp (fun r h' => r = (D_clue st un x).1 ∧ MI h0 h' dk (D_clue st un x).2.1 (D_clue st un x).2.2 tp tr pi fl)) := by
  obtain ⟨s, M, L, W, J⟩ := I
  obtain ⟨D, hn0, hn6, ho0, ho9, hng, hli, e0, e1, e2, m1, m2, m3, m4, m5, u1, u2, t1, t2, r1, hf⟩ := MJ.o J
  show Zw g (d + 5) 0 0 mX12_clue 0 [some (.ref 59), some (.int x)] [] h _
  have e10 : oneOf x 10 ↔ 0 ≤ x.toInt ∧ x.toInt ≤ 9 := by
    unfold oneOf
    omega
  refine x_al0 rfl dX12_clue_0 ?_
  refine x_iconst (v := nI 0) dX12_clue_1 rfl ?_
  refine x_mpfJ W J fdX12_1 (by decide) rfl rfl zf_i dX12_clue_2 (fun h W J => ?_)
  refine x_il1 dX12_clue_5 ?_
  refine x_i2l (rfl) dX12_clue_6 ?_
  refine x_lconst (v := 0) dX12_clue_7 rfl ?_
  refine x_ldc2 kcX12_292 dX12_clue_8 ?_
  refine x_cs3I mX12_within_ok lkX12_157 (Nat.le_of_ble_eq_true rfl) (Nat.le_of_ble_eq_true rfl) dX12_clue_11 j_within ?_
  refine x_if_ne (tgt := 20) dX12_clue_14 rfl (fun q14 => ?_) (fun q14 => ?_)
  · skip
    first | (simp only [cmp_lt, cmp_gt, cmp_eq, zN_cge, zN_cle, Decidable.not_not] at q14) | (simp (disch := omega) only [zN_le, zN_lt, zN_0, zN_1, nI_toInt, zN_eq, zN_eq0, b2_z, b2_nz, Decidable.not_not, Int.not_lt, Int.not_le, zK0, zK1, zK2, zK3, zK5, zK7, zK8, zK9, zK10, zK19, zK20, zK40, zK99, zK100, zK199] at q14) | skip
    unfold D_clue
    rw [← e10] at q14
    rw [if_pos q14]
    obtain ⟨k, hk, rfl⟩ := oneOf_ex q14
    rw [show tn (nI k) = k from nI_clamp (by omega)]
    refine x_al0 rfl dX12_clue_20 ?_
    refine x_cv0Vp mX12_stores_ok lkX12_275 rfl (Nat.le_of_ble_eq_true rfl) (Nat.le_of_ble_eq_true rfl) dX12_clue_21 W.hM  (j_stores W J) (fun h hq => ?_)
    obtain ⟨M, W, J, U, hw⟩ := hq
    obtain ⟨D, hn0, hn6, ho0, ho9, hng, hli, e0, e1, e2, m1, m2, m3, m4, m5, u1, u2, t1, t2, r1, hf⟩ := MJ.o J
    have o1 : st.1 < fct dk.1 ∧ st.2.1 < 10 := ⟨m4, m5⟩
    refine x_al0 rfl dX12_clue_24 ?_
    refine x_gm fdX12_13 W.hM (by decide) W.hF.f1 dX12_clue_25 ?_
    refine x_bipush (v := nI 22) dX12_clue_28 rfl ?_
    refine x_il1 dX12_clue_30 ?_
    replace W := W.u 60
    refine x_mstU (len := 2868) W rfl rfl (by decide) (by omega) dX12_clue_31 (fun h W => ?_)
    replace J := J.r22 hk
    refine x_al0 rfl dX12_clue_32 ?_
    refine x_cv0Vp mX12_notes_ok lkX12_281 rfl (Nat.le_of_ble_eq_true rfl) (Nat.le_of_ble_eq_true rfl) dX12_clue_33 W.hM  (j_notes W J hw (by first | assumption | omega)) (fun h hq => ?_)
    obtain ⟨M, W, J, U⟩ := hq
    obtain ⟨D, hn0, hn6, ho0, ho9, hng, hli, e0, e1, e2, m1, m2, m3, m4, m5, u1, u2, t1, t2, r1, hf⟩ := MJ.o J
    replace hw : Was M st := by unfold Was; rw [U.2.1 69 (by decide)]; exact hw
    refine x_al0 rfl dX12_clue_36 ?_
    refine x_gm fdX12_45 W.hM (by decide) W.hF.f23 dX12_clue_37 ?_
    refine x_iconst (v := nI 1) dX12_clue_40 rfl ?_
    refine x_mld (len := 3) W rfl rfl (by decide) (by omega) hw.2.1 dX12_clue_41 ?_
    exact x_iret rfl rfl dX12_clue_42 ⟨_, rfl, rfl, _, _, _, W, J⟩
  · skip
    first | (simp only [cmp_lt, cmp_gt, cmp_eq, zN_cge, zN_cle, Decidable.not_not] at q14) | (simp (disch := omega) only [zN_le, zN_lt, zN_0, zN_1, nI_toInt, zN_eq, zN_eq0, b2_z, b2_nz, Decidable.not_not, Int.not_lt, Int.not_le, zK0, zK1, zK2, zK3, zK5, zK7, zK8, zK9, zK10, zK19, zK20, zK40, zK99, zK100, zK199] at q14) | skip
    refine x_bipush (v := (-11)) dX12_clue_17 rfl ?_
    exact x_iret rfl rfl dX12_clue_19 ⟨_, rfl, by rw [D_clue, if_neg (fun z => q14 (e10.mp z))], by rw [D_clue, if_neg (fun z => q14 (e10.mp z))]; exact ⟨_, _, _, W, J⟩⟩
end ZMe

