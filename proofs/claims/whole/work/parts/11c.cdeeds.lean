/-! rows behind swaps and nights; the class's swap, nights, clue, undo -/
section ZCD
variable {g : zG} {d : Nat} {h0 h h' : zH} {Z Z' : Nat → Option va_E} {rt : Nat} {ds : List (Nat × zDk)} {dk : zDk} {st : zSt} {un : List zSt} {tp : List Nat} {tr : Nat → zTr} {pi : Nat → zPi} {fl : Nat × Nat} {ln : zLn} {sb sj : zS3} {dr : Int32}
theorem CJ.unU {un' : List zSt} (a : CJ Z rt ds dk st un tp tr pi fl sb sj dr) (hz : Z' 0 = some (xE (nI tp.length) rt (nI un'.length) dr)) (hU : UnJ Z' dk.1 un') (hs : ∀ i, i ≠ 0 → i ≠ 12 → (i < 34 ∨ 44 ≤ i) → Z' i = Z i) : CJ Z' rt ds dk st un' tp tr pi fl sb sj dr := by
  obtain ⟨a1, a2, a3, a4, a5, a6, a7, a8, a9, a10⟩ := a
  refine ⟨hz, ?_, ?_, ?_, a5.c (hs 1 (by decide) (by decide) (by decide)), hU, a7.c (hs 13 (by decide) (by decide) (by decide)) (fun i _ _ => hs i (by omega) (by omega) (by omega)), a8.c (hs 14 (by decide) (by decide) (by decide)) (fun i _ _ => hs i (by omega) (by omega) (by omega)), a9.c (hs 32 (by decide) (by decide) (by decide)) (hs 33 (by decide) (by decide) (by decide)), a10.c (fun i _ _ => hs i (by omega) (by omega) (by omega))⟩
  · rw [hs 9 (by decide) (by decide) (by decide)]; exact a2
  · rw [hs 10 (by decide) (by decide) (by decide)]; exact a3
  · rw [hs 11 (by decide) (by decide) (by decide)]; exact a4
theorem c_become {a b : Nat} {t t0 : zS3} (ha : h[a]? = some (s3E t0)) (hb : h[b]? = some (s3E t)) (hab : a ≠ b) : Zm g d 0 0 mX7_become [.ref a, .ref b] h (rVp (fun h' => h' = h.set a (s3E t))) := by
  have hb1 : ∀ {e : va_E}, (h.set a e)[b]? = some (s3E t) := fun {e} => by rw [hs_ne hab]; exact hb
  show Zw g d 0 0 mX7_become 0 [some (.ref a), some (.ref b)] [] h _
  refine x_al0 rfl dX7_become_0 ?_
  refine x_al1 rfl dX7_become_1 ?_
  refine x_get fdX7_7 hb rfl dX7_become_2 ?_
  refine x_put fdX7_7 ha zf_i (by simp) dX7_become_5 ?_
  refine x_al0 rfl dX7_become_8 ?_
  refine x_al1 rfl dX7_become_9 ?_
  refine x_get fdX7_13 hb1 rfl dX7_become_10 ?_
  refine x_put fdX7_13 (hs_eq ha) zf_i (by simp) dX7_become_13 ?_
  rw [hs_hs]
  refine x_al0 rfl dX7_become_16 ?_
  refine x_al1 rfl dX7_become_17 ?_
  refine x_get fdX7_16 hb1 rfl dX7_become_18 ?_
  refine x_put fdX7_16 (hs_eq ha) zf_i (by simp) dX7_become_21 ?_
  rw [hs_hs]
  exact x_vret rfl dX7_become_24 ⟨rfl, rfl⟩
theorem lp_forget {off : Nat} {u : Nat → Option Nat} (J : CJ Z rt ds dk st un tp tr pi fl sb sj dr) (h12 : Z 12 = some (rfA 4 10 u)) (hu : ∀ i, i < 10 → u i = some (34 + (off + i) % 10)) (hs : ∀ i, i < 10 → ∃ t, Z (34 + i) = some (s3E t)) (hl : un.length = 10) (hv : ∀ i, i < un.length → Z (34 + (off + i) % 10) = some (s3E (s3 (un.getD i (0, 0, 0)))) ∧ stOk dk.1 (un.getD i (0, 0, 0))) : ∀ (k j : Nat) (u' : Nat → Option Nat) (h : zH), j + k = 10 → 1 ≤ j → CW h0 h (upM Z 12 (some (rfA 4 10 u'))) → EWk h dk rt ds ln → (∀ i, i + 1 < j → u' i = u (i + 1)) → (∀ i, j ≤ i + 1 → u' i = u i) →
    Zw g d 0 0 mX11_forgetEldest 9 [some (.ref 0), some (.ref (34 + off % 10)), some (.int (nI j))] [] h (rVp (fun h' => CI h0 h' dk st (un.drop 1) tp tr pi fl ln sb sj dr)) := by
  have cel : ∀ {h : zH} {u' : Nat → Option Nat} (i : Nat), i < 10 → CW h0 h (upM Z 12 (some (rfA 4 10 u'))) → ∃ t, h[34 + i]? = some (s3E t) := fun i hi C => by
    obtain ⟨t, e⟩ := hs i hi
    exact ⟨t, C.get (by rw [upM_ne (by omega)]; exact e)⟩
  intro k
  induction k with
  | zero =>
    intro j u' h hj h1 C W e1 e2
    obtain rfl : j = 10 := by omega
    have hx : h[0]? = _ := C.get (i := 0) (by rw [upM_ne (by decide)]; exact J.1)
    have hA : h[12]? = _ := C.get upM_eq
    obtain ⟨t, ht⟩ := cel (off % 10) (Nat.mod_lt _ (by decide)) C
    refine x_il2 dX11_forgetEldest_9 ?_
    refine x_al0 rfl dX11_forgetEldest_10 ?_
    refine x_get fdX11_37 hx rfl dX11_forgetEldest_11 ?_
    refine x_alen rfl hA rfl dX11_forgetEldest_14 ?_
    refine x_icmp_ge (tgt := 38) dX11_forgetEldest_15 rfl (fun q1 => ?_) (fun q1 => ?_)
    · refine x_al0 rfl dX11_forgetEldest_38 ?_
      refine x_get fdX11_37 hx rfl dX11_forgetEldest_39 ?_
      refine x_al0 rfl dX11_forgetEldest_42 ?_
      refine x_get fdX11_37 hx rfl dX11_forgetEldest_43 ?_
      refine x_alen rfl hA rfl dX11_forgetEldest_46 ?_
      refine x_iconst (v := nI 1) dX11_forgetEldest_47 rfl ?_
      refine x_isub (pk_sub (a := 10) (b := 1) (by decide)) dX11_forgetEldest_48 ?_
      refine x_al1 rfl dX11_forgetEldest_49 ?_
      refine x_aast rfl rfl hA ht (vp_in_nI (by decide) (by decide)) dX11_forgetEldest_50 ?_
      rw [nI_clamp (by decide)]
      have C2 := C.set (e := rfA 4 10 (va_up u' 9 (some (34 + off % 10)))) upM_eq rfl
      have W2 := EW.set (e := rfA 4 10 (va_up u' 9 (some (34 + off % 10)))) W C upM_eq
      rw [upM_upM] at C2
      have hx2 := C2.get (i := 0) (by rw [upM_ne (by decide)]; exact J.1)
      have hA2 := C2.get (i := 12) upM_eq
      refine x_al0 rfl dX11_forgetEldest_51 ?_
      refine x_al0 rfl dX11_forgetEldest_52 ?_
      refine x_get fdX11_37 hx2 rfl dX11_forgetEldest_53 ?_
      refine x_alen rfl hA2 rfl dX11_forgetEldest_56 ?_
      refine x_iconst (v := nI 1) dX11_forgetEldest_57 rfl ?_
      refine x_isub (pk_sub (a := 10) (b := 1) (by decide)) dX11_forgetEldest_58 ?_
      refine x_put fdX11_41 hx2 zf_i (by simp) dX11_forgetEldest_59 ?_
      have z0 : upM Z 12 (some (rfA 4 10 (va_up u' 9 (some (34 + off % 10))))) 0 = _ := (upM_ne (by decide)).trans J.1
      have ln9 : (un.drop 1).length = 9 := by simp [hl]
      refine x_vret rfl dX11_forgetEldest_62 ⟨rfl, _, rt, ds, C2.set z0 rfl, EW.set W2 C2 z0, J.unU ?_ ?_ (fun i a b c => by rw [upM_ne a, upM_ne b])⟩
      · rw [upM_eq, ln9]; rfl
      · refine ⟨by omega, off + 1, _, (upM_ne (by decide)).trans upM_eq, fun i hi => ?_, fun i hi => ?_, fun i hi => ?_⟩
        · show (if i = 9 then _ else u' i) = _
          by_cases q : i = 9
          · rw [if_pos q, q]
            exact congrArg some (by omega)
          · rw [if_neg q, e1 i (by omega), hu _ (by omega)]
            exact congrArg some (by omega)
        · rw [upM_ne (by omega), upM_ne (by omega)]
          exact hs i hi
        · rw [upM_ne (by omega), upM_ne (by omega)]
          have e : (un.drop 1).getD i (0, 0, 0) = un.getD (i + 1) (0, 0, 0) := by
            rw [List.getD_eq_getElem?_getD, List.getD_eq_getElem?_getD, List.getElem?_drop, Nat.add_comm]
          rw [e, show off + 1 + i = off + (i + 1) by omega]
          exact hv (i + 1) (by omega)
    · exact absurd (by decide) q1
  | succ k ih =>
    intro j u' h hj h1 C W e1 e2
    have hx : h[0]? = _ := C.get (i := 0) (by rw [upM_ne (by decide)]; exact J.1)
    have hA : h[12]? = _ := C.get upM_eq
    obtain ⟨t, ht⟩ := cel ((off + j) % 10) (Nat.mod_lt _ (by decide)) C
    refine x_il2 dX11_forgetEldest_9 ?_
    refine x_al0 rfl dX11_forgetEldest_10 ?_
    refine x_get fdX11_37 hx rfl dX11_forgetEldest_11 ?_
    refine x_alen rfl hA rfl dX11_forgetEldest_14 ?_
    refine x_icmp_ge (tgt := 38) dX11_forgetEldest_15 rfl (fun q1 => ?_) (fun q1 => ?_)
    · exact absurd q1 (nI_ge (a := j) (b := 10) (by omega) (by omega))
    · refine x_al0 rfl dX11_forgetEldest_18 ?_
      refine x_get fdX11_37 hx rfl dX11_forgetEldest_19 ?_
      refine x_il2 dX11_forgetEldest_22 ?_
      refine x_iconst (v := nI 1) dX11_forgetEldest_23 rfl ?_
      refine x_isub (pk_sub (by omega)) dX11_forgetEldest_24 ?_
      refine x_al0 rfl dX11_forgetEldest_25 ?_
      refine x_get fdX11_37 hx rfl dX11_forgetEldest_26 ?_
      refine x_il2 dX11_forgetEldest_29 ?_
      refine x_aald rfl hA (vp_in_nI (by omega) (by decide)) (by rw [nI_clamp (by omega), e2 j (by omega), hu j (by omega)]) dX11_forgetEldest_30 ?_
      refine x_aast rfl rfl hA ht (vp_in_nI (by omega) (by decide)) dX11_forgetEldest_31 ?_
      first | refine x_ii2 rfl (nI_1 _) dX11_forgetEldest_32 ?_ | refine x_ii2 rfl rfl dX11_forgetEldest_32 ?_
      refine x_goto (tgt := 9) dX11_forgetEldest_35 rfl ?_
      rw [nI_clamp (by omega)]
      have C2 := C.set (e := rfA 4 10 (va_up u' (j - 1) (some (34 + (off + j) % 10)))) upM_eq rfl
      have W2 := EW.set (e := rfA 4 10 (va_up u' (j - 1) (some (34 + (off + j) % 10)))) W C upM_eq
      rw [upM_upM] at C2
      refine ih (j + 1) _ _ (by omega) (by omega) C2 W2 (fun i hi => ?_) (fun i hi => ?_)
      · show (if i = j - 1 then _ else u' i) = _
        by_cases q : i = j - 1
        · rw [if_pos q, q, show j - 1 + 1 = j by omega, hu j (by omega)]
        · rw [if_neg q]
          exact e1 i (by omega)
      · show (if i = j - 1 then _ else u' i) = _
        rw [if_neg (by omega)]
        exact e2 i (by omega)
theorem k_forgetEldest (I : CI h0 h dk st un tp tr pi fl ln sb sj dr) (hl : un.length = 10) : Zm g d 0 0 mX11_forgetEldest [.ref 0] h (rVp (fun h' => CI h0 h' dk st (un.drop 1) tp tr pi fl ln sb sj dr)) := by
  obtain ⟨Z, rt, ds, C, W, J⟩ := I
  obtain ⟨-, off, u, h12, hu, hs, hv⟩ := id J.2.2.2.2.2.1
  have hx : h[0]? = _ := C.get J.1
  have hA : h[12]? = _ := C.get h12
  have Ze : upM Z 12 (some (rfA 4 10 u)) = Z := by
    funext j
    unfold upM
    split
    · next q => rw [q, h12]
    · rfl
  show Zw g d 0 0 mX11_forgetEldest 0 [some (.ref 0), none, none] [] h _
  refine x_al0 rfl dX11_forgetEldest_0 ?_
  refine x_get fdX11_37 hx rfl dX11_forgetEldest_1 ?_
  refine x_iconst (v := nI 0) dX11_forgetEldest_4 rfl ?_
  refine x_aald rfl hA (vp_in_nI (by decide) (by decide)) (hu 0 (by decide)) dX11_forgetEldest_5 ?_
  refine x_as1 rfl rfl dX11_forgetEldest_6 ?_
  refine x_iconst (v := nI 1) dX11_forgetEldest_7 rfl ?_
  refine x_is2 rfl dX11_forgetEldest_8 ?_
  exact lp_forget J h12 hu hs hl hv 9 1 u h (by omega) (by omega) (by rw [Ze]; exact C) W (fun i hi => absurd hi (by omega)) (fun _ _ => rfl)
theorem lp_keep {b : Nat} {sx : zSt} (I : CI h0 h dk st un tp tr pi fl ln sb sj dr) (hb : h[b]? = some (s3E (s3 sx))) (hk : stOk dk.1 sx) (hb9 : b = 9 ∨ b = 10) (hl : un.length < 10) : Zw g (d + 1) 0 0 mX11_keepForUndoing 13 [some (.ref 0), some (.ref b)] [] h (rVp (fun h' => CI h0 h' dk st (un ++ [sx]) tp tr pi fl ln sb sj dr)) := by
  obtain ⟨Z, rt, ds, C, W, J⟩ := I
  obtain ⟨-, off, u, h12, hu, hs, hv⟩ := id J.2.2.2.2.2.1
  have hx : h[0]? = _ := C.get J.1
  have hA : h[12]? = _ := C.get h12
  obtain ⟨t, ht⟩ := hs ((off + un.length) % 10) (Nat.mod_lt _ (by decide))
  have hm := Nat.mod_lt (off + un.length) (show 0 < 10 by decide)
  refine x_al0 rfl dX11_keepForUndoing_13 ?_
  refine x_get fdX11_37 hx rfl dX11_keepForUndoing_14 ?_
  refine x_al0 rfl dX11_keepForUndoing_17 ?_
  refine x_get fdX11_41 hx rfl dX11_keepForUndoing_18 ?_
  refine x_aald rfl hA (vp_in_nI (by omega) (by decide)) (by rw [nI_clamp (by omega)]; exact hu un.length hl) dX11_keepForUndoing_21 ?_
  refine x_al1 rfl dX11_keepForUndoing_22 ?_
  refine x_cv1Vp mX7_become_ok lkX11_217 rfl (Nat.le_of_ble_eq_true rfl) (Nat.le_of_ble_eq_true rfl) dX11_keepForUndoing_23 (C.get  ht) (c_become (C.get ht) hb (by omega)) (fun h hq => ?_)
  subst hq
  have C2 := C.set (e := s3E (s3 sx)) ht rfl
  have W2 := EW.set (e := s3E (s3 sx)) W C ht
  have z0 : upM Z (34 + (off + un.length) % 10) (some (s3E (s3 sx))) 0 = _ := (upM_ne (by omega)).trans J.1
  have hx := C2.get z0
  refine x_al0 rfl dX11_keepForUndoing_26 ?_
  refine x_dup rfl dX11_keepForUndoing_27 ?_
  refine x_get fdX11_41 hx rfl dX11_keepForUndoing_28 ?_
  refine x_iconst (v := nI 1) dX11_keepForUndoing_31 rfl ?_
  first | refine x_iadd (nI_add _ _) dX11_keepForUndoing_32 ?_ | refine x_iadd rfl dX11_keepForUndoing_32 ?_
  refine x_put fdX11_41 hx zf_i (by simp) dX11_keepForUndoing_33 ?_
  refine x_vret rfl dX11_keepForUndoing_36 ⟨rfl, _, rt, ds, C2.set z0 rfl, EW.set W2 C2 z0, J.unU ?_ ?_ (fun i a b c => by rw [upM_ne a, upM_ne (by omega)])⟩
  · rw [upM_eq, List.length_append]; rfl
  · refine ⟨by rw [List.length_append]; exact hl, off, u, ?_, hu, fun i hi => ?_, fun i hi => ?_⟩
    · rw [upM_ne (by decide), upM_ne (by omega)]; exact h12
    · rw [upM_ne (by omega)]
      by_cases q : 34 + i = 34 + (off + un.length) % 10
      · rw [q, upM_eq]; exact ⟨_, rfl⟩
      · rw [upM_ne q]; exact hs i hi
    · rw [List.length_append, List.length_singleton] at hi
      rw [upM_ne (by omega)]
      by_cases q : i = un.length
      · subst q
        rw [upM_eq, gD_n]
        exact ⟨rfl, hk⟩
      · rw [upM_ne (by omega), gD_l (by omega)]
        exact hv i (by omega)
theorem k_keep {b : Nat} {sx : zSt} (I : CI h0 h dk st un tp tr pi fl ln sb sj dr) (hb : (b = 9 ∧ sx = st) ∨ (b = 10 ∧ s3 sx = sb)) (hk : stOk dk.1 sx) : Zm g (d + 2) 0 0 mX11_keepForUndoing [.ref 0, .ref b] h (rVp (fun h' => CI h0 h' dk st (pushU un sx) tp tr pi fl ln sb sj dr)) := by
  obtain ⟨rt, rn, rs, sw, rmv, rmk, moc, len, fre, fc, fr, vn, vs, qd, wst, wqu, wwe, wla, hx, hn, hd, hR, hv, hw, hs⟩ := I.o
  have ul : un.length ≤ 10 := by
    obtain ⟨Z, rt, ds, C, W, J⟩ := I
    exact J.2.2.2.2.2.1.1
  have cell : ∀ {h : zH} {un : List zSt}, CI h0 h dk st un tp tr pi fl ln sb sj dr → h[b]? = some (s3E (s3 sx)) := fun I => by
    rcases hb with ⟨rfl, rfl⟩ | ⟨rfl, q⟩
    · obtain ⟨rt, rn, rs, sw, rmv, rmk, moc, len, fre, fc, fr, vn, vs, qd, wst, wqu, wwe, wla, hx, hn, -⟩ := I.o
      exact hn
    · rw [q]; exact I.i10
  have hb9 : b = 9 ∨ b = 10 := hb.imp And.left And.left
  show Zw g (d + 2) 0 0 mX11_keepForUndoing 0 [some (.ref 0), some (.ref b)] [] h _
  refine x_al0 rfl dX11_keepForUndoing_0 ?_
  refine x_get fdX11_41 hx rfl dX11_keepForUndoing_1 ?_
  refine x_bipush (v := nI 10) dX11_keepForUndoing_4 rfl ?_
  refine x_icmp_lt (tgt := 13) dX11_keepForUndoing_6 rfl (fun q1 => ?_) (fun q1 => ?_)
  · have hl : un.length < 10 := by
      rw [Int32.lt_iff_toInt_lt, nI_toInt (by omega)] at q1
      have : (nI 10).toInt = 10 := rfl
      omega
    refine Zw.mono (lp_keep I (cell I) hk hb9 hl) (fun v h' hq => ?_)
    unfold pushU
    rw [if_neg (by omega)]
    exact hq
  · have hl : un.length = 10 := by
      rw [Int32.lt_iff_toInt_lt, nI_toInt (by omega)] at q1
      have : (nI 10).toInt = 10 := rfl
      omega
    refine x_al0 rfl dX11_keepForUndoing_9 ?_
    refine x_cv0Vp mX11_forgetEldest_ok lkX11_220 rfl (Nat.le_of_ble_eq_true rfl) (Nat.le_of_ble_eq_true rfl) dX11_keepForUndoing_10 hx  (k_forgetEldest I hl) (fun h hq => ?_)
    refine Zw.mono (lp_keep hq (cell hq) hk hb9 (by simp [hl])) (fun v h' hq => ?_)
    unfold pushU
    rw [if_pos hl]
    exact hq
end ZCD

