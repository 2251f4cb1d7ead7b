/-! the class's trays: numbers, write, lists -/
theorem mnn_n {a b : Nat} (ha : a < 2 ^ 31) (hb : b < 2 ^ 31) : (if nI b < nI a then nI b else nI a) = nI (min a b) := by
  rcases Nat.lt_or_ge b a with h | h
  · rw [if_pos (nI_lt h ha), Nat.min_eq_right (by omega)]
  · rw [if_neg (nI_nlt h hb), Nat.min_eq_left (by omega)]
section ZCt
variable {g : zG} {d : Nat} {h0 h h' : zH} {Z : Nat → Option va_E} {rt : Nat} {ds : List (Nat × zDk)} {dk : zDk} {st : zSt} {un : List zSt} {tp : List Nat} {tr : Nat → zTr} {pi : Nat → zPi} {fl : Nat × Nat} {ln : zLn} {sb sj : zS3} {dr : Int32}
theorem CJ.trU {k : Nat} {e1 e2 : va_E} {q : zTr} (a : CJ Z rt ds dk st un tp tr pi fl sb sj dr) (hk : k < 4) (hq : TrJ (upM (upM Z (44 + 2 * k) (some e1)) (45 + 2 * k) (some e2)) k q) : CJ (upM (upM Z (44 + 2 * k) (some e1)) (45 + 2 * k) (some e2)) rt ds dk st un tp (upT tr k q) pi fl sb sj dr := by
  have o : ∀ i, i < 44 ∨ 52 ≤ i → upM (upM Z (44 + 2 * k) (some e1)) (45 + 2 * k) (some e2) i = Z i := fun i hi => (upM_ne (by omega)).trans (upM_ne (by omega))
  obtain ⟨a1, a2, a3, a4, a5, a6, a7, a8, a9, a10⟩ := a
  refine ⟨by rw [o _ (by decide)]; exact a1, by rw [o _ (by decide)]; exact a2, by rw [o _ (by decide)]; exact a3, by rw [o _ (by decide)]; exact a4, a5.c (o _ (by decide)), a6.c (o _ (by decide)) (fun i _ _ => o i (by omega)), ⟨by rw [o _ (by decide)]; exact a7.1, fun t ht => ?_⟩, a8.c (o _ (by decide)) (fun i _ _ => o i (by omega)), a9.c (o _ (by decide)) (o _ (by decide)), a10.c (fun i _ _ => o i (by omega))⟩
  unfold upT
  by_cases z : t = k
  · rw [if_pos z, z]; exact hq
  · rw [if_neg z]
    exact (a7.2 t ht).c ((upM_ne (by omega)).trans (upM_ne (by omega))) ((upM_ne (by omega)).trans (upM_ne (by omega)))
theorem CI.cells {k : Nat} (I : CI h0 h dk st un tp tr pi fl ln sb sj dr) (hk : k < 4) : ∃ so sz f, h[44 + 2 * k]? = some (trE so sz (45 + 2 * k)) ∧ h[45 + 2 * k]? = some (lnA 40 f) := by
  obtain ⟨Z, rt, ds, C, W, J⟩ := I
  have a := J.2.2.2.2.2.2.1.2 k hk
  cases hq : tr k with
  | none =>
    rw [hq] at a
    obtain ⟨so, f, a1, a2⟩ := a
    exact ⟨so, _, f, C.get a1, C.get a2⟩
  | some q =>
    rw [hq] at a
    obtain ⟨f, a1, a2, -⟩ := a
    exact ⟨_, _, f, C.get a1, C.get a2⟩
theorem CI.trU {k so n : Nat} {f : Nat → Int64} {v : Nat → Int64} (I : CI h0 h dk st un tp tr pi fl ln sb sj dr) (hk : k < 4) (hs : so < 4) (hn : n ≤ 40) (hv : ∀ i, i < n → f i = v i) : CI h0 ((h.set (44 + 2 * k) (trE (nI so) (nI n) (45 + 2 * k))).set (45 + 2 * k) (lnA 40 f)) dk st un tp (upT tr k (some (so, mkL n v))) pi fl ln sb sj dr := by
  obtain ⟨Z, rt, ds, C, W, J⟩ := I
  have a := J.2.2.2.2.2.2.1.2 k hk
  have key : ∃ so sz f, Z (44 + 2 * k) = some (trE so sz (45 + 2 * k)) ∧ Z (45 + 2 * k) = some (lnA 40 f) := by
    cases hq : tr k with
    | none =>
      rw [hq] at a
      obtain ⟨so, f, a1, a2⟩ := a
      exact ⟨so, _, f, a1, a2⟩
    | some q =>
      rw [hq] at a
      obtain ⟨f, a1, a2, -⟩ := a
      exact ⟨_, _, f, a1, a2⟩
  obtain ⟨so0, sz0, f0, z1, z2⟩ := key
  have C2 := C.set (e := trE (nI so) (nI n) (45 + 2 * k)) z1 rfl
  have W2 := EW.set (e := trE (nI so) (nI n) (45 + 2 * k)) W C z1
  have z3 : upM Z (44 + 2 * k) (some (trE (nI so) (nI n) (45 + 2 * k))) (45 + 2 * k) = some (lnA 40 f0) := (upM_ne (by omega)).trans z2
  refine ⟨_, rt, ds, C2.set z3 rfl, EW.set W2 C2 z3, J.trU hk ⟨f, (upM_ne (by omega)).trans ?_, upM_eq, hs, by rw [mkL_len]; exact hn, fun i hi => ?_⟩⟩
  · rw [upM_eq, mkL_len]
  · rw [mkL_len] at hi
    rw [mkL_get hi]
    exact hv i hi
theorem CI.tr2 {k : Nat} {q : Nat × List Int64} {f : Nat → Int64} {v : Nat → Int64} (I : CI h0 h dk st un tp tr pi fl ln sb sj dr) (hk : k < 4) (hq : tr k = some q) (hv : ∀ i, i < q.2.length → f i = v i) : CI h0 (h.set (45 + 2 * k) (lnA 40 f)) dk st un tp (upT tr k (some (q.1, mkL q.2.length v))) pi fl ln sb sj dr := by
  obtain ⟨f0, a1, a2, a3, a4, a5⟩ := I.tray hk hq
  have z := I.trU hk a3 a4 hv
  rw [hs_same a1] at z
  exact z
theorem c_empty {i v : Nat} {so0 sz0 so sz : Int32} {f : Nat → Int64} (ht : h[i]? = some (trE so0 sz0 v)) (ha : h[v]? = some (lnA 40 f)) (hiv : i ≠ v) : Zm g (d + 1) 0 0 mX8_empty [.ref i, .int so, .int sz] h (rVp (fun h' => ∃ f', h' = (h.set i (trE so sz v)).set v (lnA 40 f') ∧ ∀ k, k < 40 → f' k = 0)) := by
  show Zw g (d + 1) 0 0 mX8_empty 0 [some (.ref i), some (.int so), some (.int sz)] [] h _
  have ha1 : ∀ {e : va_E}, (h.set i e)[v]? = some (lnA 40 f) := fun {e} => by rw [hs_ne hiv]; exact ha
  refine x_al0 rfl dX8_empty_0 ?_
  refine x_il1 dX8_empty_1 ?_
  refine x_put fdX8_9 ht zf_i (by simp) dX8_empty_2 ?_
  refine x_al0 rfl dX8_empty_5 ?_
  refine x_il2 dX8_empty_6 ?_
  refine x_put fdX8_15 (hs_eq ht) zf_i (by simp) dX8_empty_7 ?_
  rw [hs_hs]
  refine x_al0 rfl dX8_empty_10 ?_
  refine x_get fdX8_18 (hs_eq ht) rfl dX8_empty_11 ?_
  refine x_lconst (v := 0) dX8_empty_14 rfl ?_
  refine x_cs2Vp mJ7_fill_d0a16_ok lkX8_22 (Nat.le_of_ble_eq_true rfl) (Nat.le_of_ble_eq_true rfl) dX8_empty_15 (c_fillL ha1 (by decide)) (fun h hq => ?_)
  obtain ⟨f', rfl, hf⟩ := hq
  exact x_vret rfl dX8_empty_18 ⟨rfl, f', rfl, hf⟩
theorem c_cutToSort {i v so : Nat} {sz : Int32} {x : Int64} (ht : h[i]? = some (trE (nI so) sz v)) (hs : so < 4) : Zm g d 0 0 mX8_cutToSort [.ref i, .long x] h (rL (cutS so x) h) := by
  show Zw g d 0 0 mX8_cutToSort 0 [some (.ref i), some (.long x), none] [] h _
  refine x_al0 rfl dX8_cutToSort_0 ?_
  refine x_get fdX8_9 ht rfl dX8_cutToSort_1 ?_
  rcases (show so = 0 ∨ so = 1 ∨ so = 2 ∨ so = 3 by omega) with rfl | rfl | rfl | rfl
  · refine x_tabIn (tgt := 32) dX8_cutToSort_4 (by decide) (by decide) rfl rfl ?_
    refine x_ll1 dX8_cutToSort_32 ?_
    refine x_l2i (rfl) dX8_cutToSort_33 ?_
    refine x_i2b (rfl) dX8_cutToSort_34 ?_
    refine x_i2l (rfl) dX8_cutToSort_35 ?_
    exact x_lret rfl dX8_cutToSort_36 ⟨rfl, rfl⟩
  · refine x_tabIn (tgt := 37) dX8_cutToSort_4 (by decide) (by decide) rfl rfl ?_
    refine x_ll1 dX8_cutToSort_37 ?_
    refine x_l2i (rfl) dX8_cutToSort_38 ?_
    refine x_i2s (rfl) dX8_cutToSort_39 ?_
    refine x_i2l (rfl) dX8_cutToSort_40 ?_
    exact x_lret rfl dX8_cutToSort_41 ⟨rfl, rfl⟩
  · refine x_tabIn (tgt := 42) dX8_cutToSort_4 (by decide) (by decide) rfl rfl ?_
    refine x_ll1 dX8_cutToSort_42 ?_
    refine x_l2i (rfl) dX8_cutToSort_43 ?_
    refine x_i2l (rfl) dX8_cutToSort_44 ?_
    exact x_lret rfl dX8_cutToSort_45 ⟨rfl, rfl⟩
  · refine x_tabOut (tgt := 46) dX8_cutToSort_4 (Or.inr (by decide)) rfl ?_
    refine x_ll1 dX8_cutToSort_46 ?_
    exact x_lret rfl dX8_cutToSort_47 ⟨rfl, rfl⟩
theorem c_put {i v so k : Nat} {sz : Int32} {x : Int64} {f : Nat → Int64} (ht : h[i]? = some (trE (nI so) sz v)) (ha : h[v]? = some (lnA 40 f)) (hs : so < 4) (hk : k < 40) : Zm g (d + 1) 0 0 mX8_put [.ref i, .int (nI k), .long x] h (rLp (fun r h' => r = cutS so x ∧ h' = h.set v (lnA 40 (vp_updL f k (cutS so x))))) := by
  show Zw g (d + 1) 0 0 mX8_put 0 [some (.ref i), some (.int (nI k)), some (.long x), none, none, none] [] h _
  refine x_al0 rfl dX8_put_0 ?_
  refine x_ll2 dX8_put_1 ?_
  refine x_cv1L mX8_cutToSort_ok lkX8_28 rfl (Nat.le_of_ble_eq_true rfl) (Nat.le_of_ble_eq_true rfl) dX8_put_2 ht  (c_cutToSort ht hs) ?_
  refine x_ls4 rfl dX8_put_5 ?_
  refine x_il1 dX8_put_7 ?_
  refine x_if_lt (tgt := 28) dX8_put_8 rfl (fun q8 => ?_) (fun q8 => ?_)
  · skip
    first | (simp only [cmp_lt, cmp_gt, cmp_eq, zN_cge, zN_cle, Decidable.not_not] at q8) | (simp (disch := omega) only [zN_le, zN_lt, zN_0, zN_1, nI_toInt, zN_eq, zN_eq0, b2_z, b2_nz, Decidable.not_not, Int.not_lt, Int.not_le, zK0, zK1, zK2, zK3, zK5, zK7, zK8, zK9, zK10, zK19, zK20, zK40, zK99, zK100, zK199] at q8) | skip
    omega
  · skip
    first | (simp only [cmp_lt, cmp_gt, cmp_eq, zN_cge, zN_cle, Decidable.not_not] at q8) | (simp (disch := omega) only [zN_le, zN_lt, zN_0, zN_1, nI_toInt, zN_eq, zN_eq0, b2_z, b2_nz, Decidable.not_not, Int.not_lt, Int.not_le, zK0, zK1, zK2, zK3, zK5, zK7, zK8, zK9, zK10, zK19, zK20, zK40, zK99, zK100, zK199] at q8) | skip
    refine x_il1 dX8_put_11 ?_
    refine x_al0 rfl dX8_put_12 ?_
    refine x_get fdX8_18 ht rfl dX8_put_13 ?_
    refine x_alen rfl ha rfl dX8_put_16 ?_
    refine x_icmp_ge (tgt := 28) dX8_put_17 rfl (fun q17 => ?_) (fun q17 => ?_)
    · skip
      exact absurd q17 (nI_ge (a := k) (b := 40) hk (by decide))
    · skip
      refine x_al0 rfl dX8_put_20 ?_
      refine x_get fdX8_18 ht rfl dX8_put_21 ?_
      refine x_il1 dX8_put_24 ?_
      refine x_ll4 dX8_put_25 ?_
      refine x_last ha (vp_in_nI hk (by decide)) dX8_put_27 ?_
      rw [nI_clamp (by omega)]
      refine x_ll4 dX8_put_28 ?_
      exact x_lret rfl dX8_put_30 ⟨_, rfl, rfl, rfl⟩
theorem k_numbers {x y z : Int32} (I : CI h0 h dk st un tp tr pi fl ln sb sj dr) : Zm g (d + 3) 0 0 mX11_numbers [.ref 0, .int x, .int y, .int z] h (rIp (fun r h' => r = (D_numbers tr x y z).1 ∧ CI h0 h' dk st un tp (D_numbers tr x y z).2 pi fl ln sb sj dr)) := by
  obtain ⟨rt, rn, rs, sw, rmv, rmk, moc, len, fre, fc, fr, vn, vs, qd, wst, wqu, wwe, wla, hx, hn, hd, hR, hv, hw, hs⟩ := I.o
  obtain ⟨u, h13, hu⟩ := I.trs
  show Zw g (d + 3) 0 0 mX11_numbers 0 [some (.ref 0), some (.int x), some (.int y), some (.int z)] [] h _
  refine x_il1 dX11_numbers_0 ?_
  refine x_iconst (v := nI 4) dX11_numbers_1 rfl ?_
  refine x_cs2I mX11_isOneOf_ok lkX11_157 (Nat.le_of_ble_eq_true rfl) (Nat.le_of_ble_eq_true rfl) dX11_numbers_2 (c_isOneOf (by decide)) ?_
  refine x_if_eq (tgt := 16) dX11_numbers_5 rfl (fun q5 => ?_) (fun q5 => ?_)
  · skip
    first | (simp only [cmp_lt, cmp_gt, cmp_eq, zN_cge, zN_cle, Decidable.not_not] at q5) | (simp (disch := omega) only [zN_le, zN_lt, zN_0, zN_1, nI_toInt, zN_eq, zN_eq0, b2_z, b2_nz, Decidable.not_not, Int.not_lt, Int.not_le, zK0, zK1, zK2, zK3, zK5, zK7, zK8, zK9, zK10, zK19, zK20, zK40, zK99, zK100, zK199] at q5) | skip
    refine x_bipush (v := (-2)) dX11_numbers_16 rfl ?_
    exact x_iret rfl rfl dX11_numbers_18 ⟨_, rfl, by rw [D_numbers, if_neg (fun c => q5 c.1)], by rw [D_numbers, if_neg (fun c => q5 c.1)]; exact I⟩
  · skip
    first | (simp only [cmp_lt, cmp_gt, cmp_eq, zN_cge, zN_cle, Decidable.not_not] at q5) | (simp (disch := omega) only [zN_le, zN_lt, zN_0, zN_1, nI_toInt, zN_eq, zN_eq0, b2_z, b2_nz, Decidable.not_not, Int.not_lt, Int.not_le, zK0, zK1, zK2, zK3, zK5, zK7, zK8, zK9, zK10, zK19, zK20, zK40, zK99, zK100, zK199] at q5) | skip
    refine x_il2 dX11_numbers_8 ?_
    refine x_iconst (v := nI 4) dX11_numbers_9 rfl ?_
    refine x_cs2I mX11_isOneOf_ok lkX11_157 (Nat.le_of_ble_eq_true rfl) (Nat.le_of_ble_eq_true rfl) dX11_numbers_10 (c_isOneOf (by decide)) ?_
    refine x_if_ne (tgt := 19) dX11_numbers_13 rfl (fun q13 => ?_) (fun q13 => ?_)
    · skip
      first | (simp only [cmp_lt, cmp_gt, cmp_eq, zN_cge, zN_cle, Decidable.not_not] at q13) | (simp (disch := omega) only [zN_le, zN_lt, zN_0, zN_1, nI_toInt, zN_eq, zN_eq0, b2_z, b2_nz, Decidable.not_not, Int.not_lt, Int.not_le, zK0, zK1, zK2, zK3, zK5, zK7, zK8, zK9, zK10, zK19, zK20, zK40, zK99, zK100, zK199] at q13) | skip
      have c : oneOf x 4 ∧ oneOf y 4 := ⟨q5, q13⟩
      refine x_il3 dX11_numbers_19 ?_
      refine x_if_lt (tgt := 29) dX11_numbers_20 rfl (fun q20 => ?_) (fun q20 => ?_)
      · skip
        first | (simp only [cmp_lt, cmp_gt, cmp_eq, zN_cge, zN_cle, Decidable.not_not] at q20) | (simp (disch := omega) only [zN_le, zN_lt, zN_0, zN_1, nI_toInt, zN_eq, zN_eq0, b2_z, b2_nz, Decidable.not_not, Int.not_lt, Int.not_le, zK0, zK1, zK2, zK3, zK5, zK7, zK8, zK9, zK10, zK19, zK20, zK40, zK99, zK100, zK199] at q20) | skip
        refine x_bipush (v := (-3)) dX11_numbers_29 rfl ?_
        exact x_iret rfl rfl dX11_numbers_31 ⟨_, rfl, by rw [D_numbers, if_pos c, if_neg (by omega)], by rw [D_numbers, if_pos c, if_neg (by omega)]; exact I⟩
      · skip
        first | (simp only [cmp_lt, cmp_gt, cmp_eq, zN_cge, zN_cle, Decidable.not_not] at q20) | (simp (disch := omega) only [zN_le, zN_lt, zN_0, zN_1, nI_toInt, zN_eq, zN_eq0, b2_z, b2_nz, Decidable.not_not, Int.not_lt, Int.not_le, zK0, zK1, zK2, zK3, zK5, zK7, zK8, zK9, zK10, zK19, zK20, zK40, zK99, zK100, zK199] at q20) | skip
        refine x_il3 dX11_numbers_23 ?_
        refine x_bipush (v := nI 40) dX11_numbers_24 rfl ?_
        refine x_icmp_le (tgt := 32) dX11_numbers_26 rfl (fun q26 => ?_) (fun q26 => ?_)
        · skip
          first | (simp only [cmp_lt, cmp_gt, cmp_eq, zN_cge, zN_cle, Decidable.not_not] at q26) | (simp (disch := omega) only [zN_le, zN_lt, zN_0, zN_1, nI_toInt, zN_eq, zN_eq0, b2_z, b2_nz, Decidable.not_not, Int.not_lt, Int.not_le, zK0, zK1, zK2, zK3, zK5, zK7, zK8, zK9, zK10, zK19, zK20, zK40, zK99, zK100, zK199] at q26) | skip
          have q41 : 0 ≤ z.toInt ∧ z.toInt ≤ 40 := by omega
          unfold D_numbers
          rw [if_pos c, if_pos q41]
          obtain ⟨k, hk, rfl⟩ := oneOf_ex c.1
          obtain ⟨so, hso, rfl⟩ := oneOf_ex c.2
          obtain ⟨n, -, hn40, rfl⟩ := rng_ex (a := 0) (b := 40) q41 (by decide)
          rw [show tn (nI k) = k from nI_clamp (by omega), show tn (nI so) = so from nI_clamp (by omega), show tn (nI n) = n from nI_clamp (by omega)]
          obtain ⟨so0, sz0, f0, ht, ha⟩ := I.cells hk
          refine x_al0 rfl dX11_numbers_32 ?_
          refine x_get fdX11_49 hx rfl dX11_numbers_33 ?_
          refine x_il1 dX11_numbers_36 ?_
          refine x_aald rfl h13 (vp_in_nI (by omega) (by decide)) (by rw [nI_clamp (by omega)]; exact hu k hk) dX11_numbers_37 ?_
          refine x_il2 dX11_numbers_38 ?_
          refine x_il3 dX11_numbers_39 ?_
          refine x_cv2Vp mX8_empty_ok lkX11_399 rfl (Nat.le_of_ble_eq_true rfl) (Nat.le_of_ble_eq_true rfl) dX11_numbers_40 ht  (c_empty ht ha (by omega)) (fun h hq => ?_)
          obtain ⟨f', rfl, hf⟩ := hq
          refine x_iconst (v := nI 0) dX11_numbers_43 rfl ?_
          exact x_iret rfl rfl dX11_numbers_44 ⟨_, rfl, rfl, I.trU hk hso hn40 (fun i hi => hf i (by omega))⟩
        · skip
          first | (simp only [cmp_lt, cmp_gt, cmp_eq, zN_cge, zN_cle, Decidable.not_not] at q26) | (simp (disch := omega) only [zN_le, zN_lt, zN_0, zN_1, nI_toInt, zN_eq, zN_eq0, b2_z, b2_nz, Decidable.not_not, Int.not_lt, Int.not_le, zK0, zK1, zK2, zK3, zK5, zK7, zK8, zK9, zK10, zK19, zK20, zK40, zK99, zK100, zK199] at q26) | skip
          refine x_bipush (v := (-3)) dX11_numbers_29 rfl ?_
          exact x_iret rfl rfl dX11_numbers_31 ⟨_, rfl, by rw [D_numbers, if_pos c, if_neg (by omega)], by rw [D_numbers, if_pos c, if_neg (by omega)]; exact I⟩
    · skip
      first | (simp only [cmp_lt, cmp_gt, cmp_eq, zN_cge, zN_cle, Decidable.not_not] at q13) | (simp (disch := omega) only [zN_le, zN_lt, zN_0, zN_1, nI_toInt, zN_eq, zN_eq0, b2_z, b2_nz, Decidable.not_not, Int.not_lt, Int.not_le, zK0, zK1, zK2, zK3, zK5, zK7, zK8, zK9, zK10, zK19, zK20, zK40, zK99, zK100, zK199] at q13) | skip
      refine x_bipush (v := (-2)) dX11_numbers_16 rfl ?_
      exact x_iret rfl rfl dX11_numbers_18 ⟨_, rfl, by rw [D_numbers, if_neg (fun c => q13 c.2)], by rw [D_numbers, if_neg (fun c => q13 c.2)]; exact I⟩
theorem k_write {x y : Int32} {v : Int64} (I : CI h0 h dk st un tp tr pi fl ln sb sj dr) : Zm g (d + 3) 0 0 mX11_write [.ref 0, .int x, .int y, .long v] h (rLp (fun r h' => r = (D_write tr x y v).1 ∧ CI h0 h' dk st un tp (D_write tr x y v).2 pi fl ln sb sj dr)) := by
  obtain ⟨rt, rn, rs, sw, rmv, rmk, moc, len, fre, fc, fr, vn, vs, qd, wst, wqu, wwe, wla, hx, hn, hd, hR, hv, hw, hs⟩ := I.o
  obtain ⟨u, h13, hu⟩ := I.trs
  show Zw g (d + 3) 0 0 mX11_write 0 [some (.ref 0), some (.int x), some (.int y), some (.long v), none, none] [] h _
  refine x_il1 dX11_write_0 ?_
  refine x_iconst (v := nI 4) dX11_write_1 rfl ?_
  refine x_cs2I mX11_isOneOf_ok lkX11_157 (Nat.le_of_ble_eq_true rfl) (Nat.le_of_ble_eq_true rfl) dX11_write_2 (c_isOneOf (by decide)) ?_
  refine x_if_ne (tgt := 12) dX11_write_5 rfl (fun q5 => ?_) (fun q5 => ?_)
  · skip
    first | (simp only [cmp_lt, cmp_gt, cmp_eq, zN_cge, zN_cle, Decidable.not_not] at q5) | (simp (disch := omega) only [zN_le, zN_lt, zN_0, zN_1, nI_toInt, zN_eq, zN_eq0, b2_z, b2_nz, Decidable.not_not, Int.not_lt, Int.not_le, zK0, zK1, zK2, zK3, zK5, zK7, zK8, zK9, zK10, zK19, zK20, zK40, zK99, zK100, zK199] at q5) | skip
    obtain ⟨k, hk, rfl⟩ := oneOf_ex q5
    have eF : D_write tr (nI k) y v = match tr k with | none => (-6, tr) | some q => wrQ tr k q y v := by rw [D_write, if_pos q5, show tn (nI k) = k from nI_clamp (by omega)]; rfl
    refine x_al0 rfl dX11_write_12 ?_
    refine x_get fdX11_49 hx rfl dX11_write_13 ?_
    refine x_il1 dX11_write_16 ?_
    refine x_aald rfl h13 (vp_in_nI (by omega) (by decide)) (by rw [nI_clamp (by omega)]; exact hu k hk) dX11_write_17 ?_
    refine x_as5 rfl rfl dX11_write_18 ?_
    refine x_al5 rfl dX11_write_20 ?_
    cases hT : tr k with
    | none =>
      rw [hT] at eF
      obtain ⟨so, ht⟩ := I.trayN hk hT
      refine x_cv0I mX8_isMissing_ok lkX11_223 rfl (Nat.le_of_ble_eq_true rfl) (Nat.le_of_ble_eq_true rfl) dX11_write_22 ht  (c_isMissing ht) ?_
      refine x_if_eq (tgt := 32) dX11_write_25 rfl (fun q25 => ?_) (fun q25 => ?_)
      · skip
        first | (simp only [cmp_lt, cmp_gt, cmp_eq, zN_cge, zN_cle, Decidable.not_not] at q25) | (simp (disch := omega) only [zN_le, zN_lt, zN_0, zN_1, nI_toInt, zN_eq, zN_eq0, b2_z, b2_nz, Decidable.not_not, Int.not_lt, Int.not_le, zK0, zK1, zK2, zK3, zK5, zK7, zK8, zK9, zK10, zK19, zK20, zK40, zK99, zK100, zK199] at q25) | skip
        exact absurd q25 (by decide)
      · skip
        first | (simp only [cmp_lt, cmp_gt, cmp_eq, zN_cge, zN_cle, Decidable.not_not] at q25) | (simp (disch := omega) only [zN_le, zN_lt, zN_0, zN_1, nI_toInt, zN_eq, zN_eq0, b2_z, b2_nz, Decidable.not_not, Int.not_lt, Int.not_le, zK0, zK1, zK2, zK3, zK5, zK7, zK8, zK9, zK10, zK19, zK20, zK40, zK99, zK100, zK199] at q25) | skip
        refine x_ldc2 kcX11_402 dX11_write_28 ?_
        exact x_lret rfl dX11_write_31 ⟨_, rfl, by rw [eF], by rw [eF]; exact I⟩
    | some q =>
      replace eF : D_write tr (nI k) y v = wrQ tr k q y v := by rw [eF, hT]
      rw [eF]
      obtain ⟨f, ht, ha, a1, a2, hf⟩ := I.tray hk hT
      refine x_cv0I mX8_isMissing_ok lkX11_223 rfl (Nat.le_of_ble_eq_true rfl) (Nat.le_of_ble_eq_true rfl) dX11_write_22 ht  (c_isMissing ht) ?_
      refine x_if_eq (tgt := 32) dX11_write_25 rfl (fun q25 => ?_) (fun q25 => ?_)
      · skip
        first | (simp only [cmp_lt, cmp_gt, cmp_eq, zN_cge, zN_cle, Decidable.not_not] at q25) | (simp (disch := omega) only [zN_le, zN_lt, zN_0, zN_1, nI_toInt, zN_eq, zN_eq0, b2_z, b2_nz, Decidable.not_not, Int.not_lt, Int.not_le, zK0, zK1, zK2, zK3, zK5, zK7, zK8, zK9, zK10, zK19, zK20, zK40, zK99, zK100, zK199] at q25) | skip
        refine x_il2 dX11_write_32 ?_
        refine x_al5 rfl dX11_write_33 ?_
        refine x_get fdX11_231 ht rfl dX11_write_35 ?_
        refine x_cs2I mX11_isOneOf_ok lkX11_157 (Nat.le_of_ble_eq_true rfl) (Nat.le_of_ble_eq_true rfl) dX11_write_38 (c_isOneOf (by omega)) ?_
        refine x_if_ne (tgt := 48) dX11_write_41 rfl (fun q41 => ?_) (fun q41 => ?_)
        · skip
          first | (simp only [cmp_lt, cmp_gt, cmp_eq, zN_cge, zN_cle, Decidable.not_not] at q41) | (simp (disch := omega) only [zN_le, zN_lt, zN_0, zN_1, nI_toInt, zN_eq, zN_eq0, b2_z, b2_nz, Decidable.not_not, Int.not_lt, Int.not_le, zK0, zK1, zK2, zK3, zK5, zK7, zK8, zK9, zK10, zK19, zK20, zK40, zK99, zK100, zK199] at q41) | skip
          unfold wrQ
          rw [if_pos q41]
          obtain ⟨i, hi, rfl⟩ := oneOf_ex q41
          rw [show tn (nI i) = i from nI_clamp (by omega)]
          refine x_al5 rfl dX11_write_48 ?_
          refine x_il2 dX11_write_50 ?_
          refine x_ll3 dX11_write_51 ?_
          refine x_cv2Lp mX8_put_ok lkX11_406 rfl (Nat.le_of_ble_eq_true rfl) (Nat.le_of_ble_eq_true rfl) dX11_write_52 ht  (c_put ht ha a1 (by omega)) (fun r h hq => ?_)
          obtain ⟨rfl, rfl⟩ := hq
          refine x_lret rfl dX11_write_55 ⟨_, rfl, rfl, I.tr2 hk hT (fun j hj => ?_)⟩
          unfold vp_updL
          by_cases c : j = i
          · rw [if_pos c, if_pos c]
          · rw [if_neg c, if_neg c]; exact hf j hj
        · skip
          first | (simp only [cmp_lt, cmp_gt, cmp_eq, zN_cge, zN_cle, Decidable.not_not] at q41) | (simp (disch := omega) only [zN_le, zN_lt, zN_0, zN_1, nI_toInt, zN_eq, zN_eq0, b2_z, b2_nz, Decidable.not_not, Int.not_lt, Int.not_le, zK0, zK1, zK2, zK3, zK5, zK7, zK8, zK9, zK10, zK19, zK20, zK40, zK99, zK100, zK199] at q41) | skip
          refine x_ldc2 kcX11_404 dX11_write_44 ?_
          exact x_lret rfl dX11_write_47 ⟨_, rfl, by rw [show wrQ tr k q y v = (-7, tr) from if_neg q41], by rw [show wrQ tr k q y v = (-7, tr) from if_neg q41]; exact I⟩
      · skip
        first | (simp only [cmp_lt, cmp_gt, cmp_eq, zN_cge, zN_cle, Decidable.not_not] at q25) | (simp (disch := omega) only [zN_le, zN_lt, zN_0, zN_1, nI_toInt, zN_eq, zN_eq0, b2_z, b2_nz, Decidable.not_not, Int.not_lt, Int.not_le, zK0, zK1, zK2, zK3, zK5, zK7, zK8, zK9, zK10, zK19, zK20, zK40, zK99, zK100, zK199] at q25) | skip
        omega
  · skip
    first | (simp only [cmp_lt, cmp_gt, cmp_eq, zN_cge, zN_cle, Decidable.not_not] at q5) | (simp (disch := omega) only [zN_le, zN_lt, zN_0, zN_1, nI_toInt, zN_eq, zN_eq0, b2_z, b2_nz, Decidable.not_not, Int.not_lt, Int.not_le, zK0, zK1, zK2, zK3, zK5, zK7, zK8, zK9, zK10, zK19, zK20, zK40, zK99, zK100, zK199] at q5) | skip
    refine x_ldc2 kcX11_313 dX11_write_8 ?_
    exact x_lret rfl dX11_write_11 ⟨_, rfl, by rw [D_write, if_neg q5], by rw [D_write, if_neg q5]; exact I⟩
theorem k_lists {x y : Int32} (I : CI h0 h dk st un tp tr pi fl ln sb sj dr) : Zm g (d + 3) 0 0 mX11_lists [.ref 0, .int x, .int y] h (rIp (fun r h' => r = (D_lists dk tr x y).1 ∧ CI h0 h' dk st un tp (D_lists dk tr x y).2 pi fl ln sb sj dr)) := by
  obtain ⟨rt, rn, rs, sw, rmv, rmk, moc, len, fre, fc, fr, vn, vs, qd, wst, wqu, wwe, wla, hx, hn, hd, hR, hv, hw, hs⟩ := I.o
  obtain ⟨d1, d2, d3, d4, d5, d6, d7, d8⟩ := I.dkB
  have hf7 := fct_le d2
  obtain ⟨u, h13, hu⟩ := I.trs
  show Zw g (d + 3) 0 0 mX11_lists 0 [some (.ref 0), some (.int x), some (.int y), none, none, none] [] h _
  refine x_il1 dX11_lists_0 ?_
  refine x_iconst (v := nI 4) dX11_lists_1 rfl ?_
  refine x_cs2I mX11_isOneOf_ok lkX11_157 (Nat.le_of_ble_eq_true rfl) (Nat.le_of_ble_eq_true rfl) dX11_lists_2 (c_isOneOf (by decide)) ?_
  refine x_if_ne (tgt := 11) dX11_lists_5 rfl (fun q5 => ?_) (fun q5 => ?_)
  · skip
    first | (simp only [cmp_lt, cmp_gt, cmp_eq, zN_cge, zN_cle, Decidable.not_not] at q5) | (simp (disch := omega) only [zN_le, zN_lt, zN_0, zN_1, nI_toInt, zN_eq, zN_eq0, b2_z, b2_nz, Decidable.not_not, Int.not_lt, Int.not_le, zK0, zK1, zK2, zK3, zK5, zK7, zK8, zK9, zK10, zK19, zK20, zK40, zK99, zK100, zK199] at q5) | skip
    obtain ⟨k, hk, rfl⟩ := oneOf_ex q5
    have eF : D_lists dk tr (nI k) y = match tr k with | none => (-6, tr) | some q => lsQ dk tr k q y := by rw [D_lists, if_pos q5, show tn (nI k) = k from nI_clamp (by omega)]; rfl
    refine x_al0 rfl dX11_lists_11 ?_
    refine x_get fdX11_49 hx rfl dX11_lists_12 ?_
    refine x_il1 dX11_lists_15 ?_
    refine x_aald rfl h13 (vp_in_nI (by omega) (by decide)) (by rw [nI_clamp (by omega)]; exact hu k hk) dX11_lists_16 ?_
    refine x_as3 rfl rfl dX11_lists_17 ?_
    refine x_al3 rfl dX11_lists_18 ?_
    cases hT : tr k with
    | none =>
      rw [hT] at eF
      obtain ⟨so, ht⟩ := I.trayN hk hT
      refine x_cv0I mX8_isMissing_ok lkX11_223 rfl (Nat.le_of_ble_eq_true rfl) (Nat.le_of_ble_eq_true rfl) dX11_lists_19 ht  (c_isMissing ht) ?_
      refine x_if_eq (tgt := 28) dX11_lists_22 rfl (fun q22 => ?_) (fun q22 => ?_)
      · skip
        first | (simp only [cmp_lt, cmp_gt, cmp_eq, zN_cge, zN_cle, Decidable.not_not] at q22) | (simp (disch := omega) only [zN_le, zN_lt, zN_0, zN_1, nI_toInt, zN_eq, zN_eq0, b2_z, b2_nz, Decidable.not_not, Int.not_lt, Int.not_le, zK0, zK1, zK2, zK3, zK5, zK7, zK8, zK9, zK10, zK19, zK20, zK40, zK99, zK100, zK199] at q22) | skip
        exact absurd q22 (by decide)
      · skip
        first | (simp only [cmp_lt, cmp_gt, cmp_eq, zN_cge, zN_cle, Decidable.not_not] at q22) | (simp (disch := omega) only [zN_le, zN_lt, zN_0, zN_1, nI_toInt, zN_eq, zN_eq0, b2_z, b2_nz, Decidable.not_not, Int.not_lt, Int.not_le, zK0, zK1, zK2, zK3, zK5, zK7, zK8, zK9, zK10, zK19, zK20, zK40, zK99, zK100, zK199] at q22) | skip
        refine x_bipush (v := (-6)) dX11_lists_25 rfl ?_
        exact x_iret rfl rfl dX11_lists_27 ⟨_, rfl, by rw [eF], by rw [eF]; exact I⟩
    | some q =>
      replace eF : D_lists dk tr (nI k) y = lsQ dk tr k q y := by rw [eF, hT]
      rw [eF]
      obtain ⟨f, ht, ha, a1, a2, hf⟩ := I.tray hk hT
      refine x_cv0I mX8_isMissing_ok lkX11_223 rfl (Nat.le_of_ble_eq_true rfl) (Nat.le_of_ble_eq_true rfl) dX11_lists_19 ht  (c_isMissing ht) ?_
      refine x_if_eq (tgt := 28) dX11_lists_22 rfl (fun q22 => ?_) (fun q22 => ?_)
      · skip
        first | (simp only [cmp_lt, cmp_gt, cmp_eq, zN_cge, zN_cle, Decidable.not_not] at q22) | (simp (disch := omega) only [zN_le, zN_lt, zN_0, zN_1, nI_toInt, zN_eq, zN_eq0, b2_z, b2_nz, Decidable.not_not, Int.not_lt, Int.not_le, zK0, zK1, zK2, zK3, zK5, zK7, zK8, zK9, zK10, zK19, zK20, zK40, zK99, zK100, zK199] at q22) | skip
        refine x_il2 dX11_lists_28 ?_
        refine x_al0 rfl dX11_lists_29 ?_
        refine x_get fdX11_62 hx rfl dX11_lists_30 ?_
        refine x_get fdX11_281 hR rfl dX11_lists_33 ?_
        refine x_cs2I mX11_isOneOf_ok lkX11_157 (Nat.le_of_ble_eq_true rfl) (Nat.le_of_ble_eq_true rfl) dX11_lists_36 (c_isOneOf (by omega)) ?_
        refine x_if_ne (tgt := 45) dX11_lists_39 rfl (fun q39 => ?_) (fun q39 => ?_)
        · skip
          first | (simp only [cmp_lt, cmp_gt, cmp_eq, zN_cge, zN_cle, Decidable.not_not] at q39) | (simp (disch := omega) only [zN_le, zN_lt, zN_0, zN_1, nI_toInt, zN_eq, zN_eq0, b2_z, b2_nz, Decidable.not_not, Int.not_lt, Int.not_le, zK0, zK1, zK2, zK3, zK5, zK7, zK8, zK9, zK10, zK19, zK20, zK40, zK99, zK100, zK199] at q39) | skip
          unfold lsQ
          rw [if_pos q39]
          obtain ⟨row, hr, rfl⟩ := oneOf_ex q39
          rw [show tn (nI row) = row from nI_clamp (by omega)]
          refine x_al3 rfl dX11_lists_45 ?_
          refine x_get fdX11_231 ht rfl dX11_lists_46 ?_
          refine x_al0 rfl dX11_lists_49 ?_
          refine x_get fdX11_106 hx rfl dX11_lists_50 ?_
          refine x_get fdX11_143 hd rfl dX11_lists_53 ?_
          refine x_mmin kjX11_410 (Nat.le_of_ble_eq_true rfl) (mnn_n (by omega) (by omega)) dX11_lists_56 ?_
          refine x_is4 rfl dX11_lists_59 ?_
          refine x_iconst (v := nI 0) dX11_lists_61 rfl ?_
          refine x_is5 rfl dX11_lists_62 ?_
          have mle : min q.2.length dk.1 ≤ q.2.length := Nat.min_le_left _ _
          have mle2 : min q.2.length dk.1 ≤ dk.1 := Nat.min_le_right _ _
          generalize hmm : min q.2.length dk.1 = m at mle mle2 ⊢
          refine x_for (e := m) (fun i => [some (.ref 0), some (.int (nI k)), some (.int (nI row)), some (.ref (44 + 2 * k)), some (.int (nI m)), some (.int (nI i))]) (fun i h' => ∃ l, h' = h.set (45 + 2 * k) (lnA 40 l) ∧ ∀ j, l j = if j < i then lN (nm dk.1 row j) else f j) 0 (by omega) ⟨f, (hs_same ha).symm, fun j => by rw [if_neg (by omega)]⟩ (fun h' hI => ?_) (fun i h' hi hI ih => ?_)
          · obtain ⟨l, rfl, hl⟩ := hI
            refine x_il5 dX11_lists_64 ?_
            refine x_il4 dX11_lists_66 ?_
            refine x_icmp_ge (tgt := 95) dX11_lists_68 rfl (fun q68 => ?_) (fun q68 => ?_)
            · skip
              first | (simp only [cmp_lt, cmp_gt, cmp_eq, zN_cge, zN_cle, Decidable.not_not] at q68) | (simp (disch := omega) only [zN_le, zN_lt, zN_0, zN_1, nI_toInt, zN_eq, zN_eq0, b2_z, b2_nz, Decidable.not_not, Int.not_lt, Int.not_le, zK0, zK1, zK2, zK3, zK5, zK7, zK8, zK9, zK10, zK19, zK20, zK40, zK99, zK100, zK199] at q68) | skip
              refine x_il4 dX11_lists_95 ?_
              refine x_iret rfl rfl dX11_lists_97 ⟨_, rfl, rfl, I.tr2 hk hT (fun j hj => ?_)⟩
              rw [hl j]
              by_cases c : j < m
              · rw [if_pos c, if_pos c]
              · rw [if_neg c, if_neg c]; exact hf j hj
            · skip
              first | (simp only [cmp_lt, cmp_gt, cmp_eq, zN_cge, zN_cle, Decidable.not_not] at q68) | (simp (disch := omega) only [zN_le, zN_lt, zN_0, zN_1, nI_toInt, zN_eq, zN_eq0, b2_z, b2_nz, Decidable.not_not, Int.not_lt, Int.not_le, zK0, zK1, zK2, zK3, zK5, zK7, zK8, zK9, zK10, zK19, zK20, zK40, zK99, zK100, zK199] at q68) | skip
              omega
          · obtain ⟨l, rfl, hl⟩ := hI
            have nl := nm_lt d2 hr (show i < dk.1 by omega)
            have I2 := I.tr2 (f := l) (v := l) hk hT (fun j hj => rfl)
            obtain ⟨rt, rn, rs, sw, rmv, rmk, moc, len, fre, fc, fr, vn, vs, qd, wst, wqu, wwe, wla, hx, hn, hd, hR, hv, hw, hs⟩ := I2.o
            have ht2 : (h.set (45 + 2 * k) (lnA 40 l))[44 + 2 * k]? = _ := (hs_ne (by omega)).trans ht
            have ha2 := hs_eq (e := lnA 40 l) ha
            refine x_il5 dX11_lists_64 ?_
            refine x_il4 dX11_lists_66 ?_
            refine x_icmp_ge (tgt := 95) dX11_lists_68 rfl (fun q68 => ?_) (fun q68 => ?_)
            · skip
              first | (simp only [cmp_lt, cmp_gt, cmp_eq, zN_cge, zN_cle, Decidable.not_not] at q68) | (simp (disch := omega) only [zN_le, zN_lt, zN_0, zN_1, nI_toInt, zN_eq, zN_eq0, b2_z, b2_nz, Decidable.not_not, Int.not_lt, Int.not_le, zK0, zK1, zK2, zK3, zK5, zK7, zK8, zK9, zK10, zK19, zK20, zK40, zK99, zK100, zK199] at q68) | skip
              omega
            · skip
              first | (simp only [cmp_lt, cmp_gt, cmp_eq, zN_cge, zN_cle, Decidable.not_not] at q68) | (simp (disch := omega) only [zN_le, zN_lt, zN_0, zN_1, nI_toInt, zN_eq, zN_eq0, b2_z, b2_nz, Decidable.not_not, Int.not_lt, Int.not_le, zK0, zK1, zK2, zK3, zK5, zK7, zK8, zK9, zK10, zK19, zK20, zK40, zK99, zK100, zK199] at q68) | skip
              refine x_al3 rfl dX11_lists_71 ?_
              refine x_il5 dX11_lists_72 ?_
              refine x_al0 rfl dX11_lists_74 ?_
              refine x_get fdX11_62 hx rfl dX11_lists_75 ?_
              refine x_il2 dX11_lists_78 ?_
              refine x_il5 dX11_lists_79 ?_
              refine x_cv2I mX5_nameIn_ok lkX11_164 rfl (Nat.le_of_ble_eq_true rfl) (Nat.le_of_ble_eq_true rfl) dX11_lists_81 hR  (k_nameIn I2 hr (by omega)) ?_
              refine x_i2l (nI_l (by omega)) dX11_lists_84 ?_
              refine x_cv2Lp mX8_put_ok lkX11_406 rfl (Nat.le_of_ble_eq_true rfl) (Nat.le_of_ble_eq_true rfl) dX11_lists_85 ht2  (c_put ht2 ha2 a1 (by omega)) (fun r h hq => ?_)
              obtain ⟨rfl, rfl⟩ := hq
              rw [cutS_n (by omega), hs_hs]
              refine x_pop2 rfl dX11_lists_88 ?_
              first | refine x_ii5 rfl (nI_1 _) dX11_lists_89 ?_ | refine x_ii5 rfl rfl dX11_lists_89 ?_
              refine x_goto (tgt := 64) dX11_lists_92 rfl ?_
              refine ih _ ⟨_, rfl, fun j => ?_⟩
              unfold vp_updL
              by_cases c : j = i
              · rw [if_pos c, c, if_pos (by omega)]
              · rw [if_neg c, hl j]
                by_cases c2 : j < i
                · rw [if_pos c2, if_pos (by omega)]
                · rw [if_neg c2, if_neg (by omega)]
        · skip
          first | (simp only [cmp_lt, cmp_gt, cmp_eq, zN_cge, zN_cle, Decidable.not_not] at q39) | (simp (disch := omega) only [zN_le, zN_lt, zN_0, zN_1, nI_toInt, zN_eq, zN_eq0, b2_z, b2_nz, Decidable.not_not, Int.not_lt, Int.not_le, zK0, zK1, zK2, zK3, zK5, zK7, zK8, zK9, zK10, zK19, zK20, zK40, zK99, zK100, zK199] at q39) | skip
          refine x_bipush (v := (-3)) dX11_lists_42 rfl ?_
          exact x_iret rfl rfl dX11_lists_44 ⟨_, rfl, by rw [show lsQ dk tr k q y = (-3, tr) from if_neg q39], by rw [show lsQ dk tr k q y = (-3, tr) from if_neg q39]; exact I⟩
      · skip
        first | (simp only [cmp_lt, cmp_gt, cmp_eq, zN_cge, zN_cle, Decidable.not_not] at q22) | (simp (disch := omega) only [zN_le, zN_lt, zN_0, zN_1, nI_toInt, zN_eq, zN_eq0, b2_z, b2_nz, Decidable.not_not, Int.not_lt, Int.not_le, zK0, zK1, zK2, zK3, zK5, zK7, zK8, zK9, zK10, zK19, zK20, zK40, zK99, zK100, zK199] at q22) | skip
        omega
  · skip
    first | (simp only [cmp_lt, cmp_gt, cmp_eq, zN_cge, zN_cle, Decidable.not_not] at q5) | (simp (disch := omega) only [zN_le, zN_lt, zN_0, zN_1, nI_toInt, zN_eq, zN_eq0, b2_z, b2_nz, Decidable.not_not, Int.not_lt, Int.not_le, zK0, zK1, zK2, zK3, zK5, zK7, zK8, zK9, zK10, zK19, zK20, zK40, zK99, zK100, zK199] at q5) | skip
    refine x_bipush (v := (-2)) dX11_lists_8 rfl ?_
    exact x_iret rfl rfl dX11_lists_10 ⟨_, rfl, by rw [D_lists, if_neg q5], by rw [D_lists, if_neg q5]; exact I⟩
end ZCt

