/-! the class's image -/
theorem EWk.ds {h : zH} {dk : zDk} {rt : Nat} {ds : List (Nat × zDk)} {ln : zLn} (W : EWk h dk rt ds ln) : EWk h dk rt ((rt, dk) :: ds) ln := by
  obtain ⟨av, stk, rn, rs, sw, rmv, rmk, rkn, rks, wst, wqu, wwe, wla, hV, E⟩ := W
  refine ⟨av, stk, rn, rs, sw, rmv, rmk, rkn, rks, wst, wqu, wwe, wla, hV, E.1, fun q hq => ?_, E.2.2⟩
  rcases List.mem_cons.mp hq with z | z
  · rw [z]; exact ⟨rkn, rks, E.1⟩
  · exact E.2.1 q z
theorem PiJ.mo {Z : Nat → Option va_E} {ds ds' : List (Nat × zDk)} {t : Nat} {q : zPi} (a : PiJ Z ds t q) (h : ∀ x ∈ ds, x ∈ ds') : PiJ Z ds' t q := by
  cases q with
  | none => exact a
  | some q =>
    obtain ⟨r, a1, a2, a3⟩ := a
    exact ⟨r, a1, h _ a2, a3⟩
section ZCi
variable {g : zG} {d : Nat} {h0 h h' : zH} {dk : zDk} {st : zSt} {un : List zSt} {tp : List Nat} {tr : Nat → zTr} {pi : Nat → zPi} {fl : Nat × Nat} {ln : zLn} {sb sj : zS3} {dr : Int32}
theorem CI.pis (I : CI h0 h dk st un tp tr pi fl ln sb sj dr) : ∃ u, h[14]? = some (rfA 6 2 u) ∧ ∀ t, t < 2 → u t = some (52 + 2 * t) := by
  obtain ⟨Z, rt, ds, C, W, J⟩ := I
  obtain ⟨⟨u, a1, a2⟩, -⟩ := J.2.2.2.2.2.2.2.1
  exact ⟨u, C.get a1, a2⟩
theorem CI.pic {i : Nat} (I : CI h0 h dk st un tp tr pi fl ln sb sj dr) (hi : i < 2) : ∃ v t, h[52 + 2 * i]? = some (.inr (3, [v, .ref (53 + 2 * i)])) ∧ h[53 + 2 * i]? = some (s3E t) := by
  obtain ⟨Z, rt, ds, C, W, J⟩ := I
  have a := J.2.2.2.2.2.2.2.1.2 i hi
  cases e : pi i with
  | none =>
    rw [e] at a
    obtain ⟨t, a1, a2⟩ := a
    exact ⟨_, t, C.get a1, C.get a2⟩
  | some q =>
    rw [e] at a
    obtain ⟨r, a1, a2, a3, a4⟩ := a
    exact ⟨_, _, C.get a1, C.get a3⟩
theorem CI.img {i rt : Nat} {tl ud dd : Int32} (I : CI h0 h dk st un tp tr pi fl ln sb sj dr) (hi : i < 2) (hx : h[0]? = some (xE tl rt ud dd)) : CI h0 ((h.set (52 + 2 * i) (.inr (3, [.ref rt, .ref (53 + 2 * i)]))).set (53 + 2 * i) (s3E (s3 st))) dk st un tp tr (piU pi i (some (dk, st))) fl ln sb sj dr := by
  obtain ⟨Z, rt', ds, C, W, J⟩ := I
  obtain ⟨a1, a2, a3, a4, a5, a6, a7, a8, a9, a10⟩ := id J
  have er : rt' = rt := by
    have := C.get a1
    rw [hx] at this
    have z := Option.some.inj this
    simp only [xE, Sum.inr.injEq, Prod.mk.injEq, List.cons.injEq, Value.ref.injEq] at z
    exact z.2.2.2.2.1.symm
  subst er
  obtain ⟨v, t, z1, z2⟩ : ∃ v t, Z (52 + 2 * i) = some (.inr (3, [v, .ref (53 + 2 * i)])) ∧ Z (53 + 2 * i) = some (s3E t) := by
    have a := a8.2 i hi
    cases e : pi i with
    | none =>
      rw [e] at a
      obtain ⟨t, b1, b2⟩ := a
      exact ⟨_, t, b1, b2⟩
    | some q =>
      rw [e] at a
      obtain ⟨r, b1, b2, b3, b4⟩ := a
      exact ⟨_, _, b1, b3⟩
  have C1 := C.set (e := .inr (3, [.ref rt', .ref (53 + 2 * i)])) z1 rfl
  have z2' : upM Z (52 + 2 * i) (some (.inr (3, [.ref rt', .ref (53 + 2 * i)]))) (53 + 2 * i) = some (s3E t) := (upM_ne (by omega)).trans z2
  have C2 := C1.set (e := s3E (s3 st)) z2' rfl
  have W1 : EWk (h.set (52 + 2 * i) (.inr (3, [.ref rt', .ref (53 + 2 * i)]))) dk rt' ds ln := EW.set W C z1
  have W2 : EWk ((h.set (52 + 2 * i) (.inr (3, [.ref rt', .ref (53 + 2 * i)]))).set (53 + 2 * i) (s3E (s3 st))) dk rt' ds ln := EW.set W1 C1 z2'
  have un : ∀ j, j ≠ 52 + 2 * i → j ≠ 53 + 2 * i → upM (upM Z (52 + 2 * i) (some (.inr (3, [.ref rt', .ref (53 + 2 * i)])))) (53 + 2 * i) (some (s3E (s3 st))) j = Z j := fun j b1 b2 => (upM_ne b2).trans (upM_ne b1)
  refine ⟨_, rt', (rt', dk) :: ds, C2, W2.ds, ?_⟩
  refine ⟨(un 0 (by omega) (by omega)).trans a1, ⟨(un 9 (by omega) (by omega)).trans a2.1, a2.2⟩, (un 10 (by omega) (by omega)).trans a3, (un 11 (by omega) (by omega)).trans a4, a5.c (un 1 (by omega) (by omega)), a6.c (un 12 (by omega) (by omega)) (fun j _ _ => un j (by omega) (by omega)), a7.c (un 13 (by omega) (by omega)) (fun j _ _ => un j (by omega) (by omega)), ⟨?_, fun t' ht' => ?_⟩, a9.c (un 32 (by omega) (by omega)) (un 33 (by omega) (by omega)), a10.c (fun j _ _ => un j (by omega) (by omega))⟩
  · rw [un 14 (by omega) (by omega)]; exact a8.1
  · by_cases z : t' = i
    · rw [show piU pi i (some (dk, st)) t' = some (dk, st) from if_pos z, z]
      exact ⟨rt', (upM_ne (by omega)).trans upM_eq, List.mem_cons_self .., upM_eq, a2.2⟩
    · rw [show piU pi i (some (dk, st)) t' = pi t' from if_neg z]
      exact (PiJ.c (a8.2 t' ht') (un _ (by omega) (by omega)) (un _ (by omega) (by omega))).mo (fun x hx => List.mem_cons_of_mem _ hx)
theorem k_image {x : Int32} (I : CI h0 h dk st un tp tr pi fl ln sb sj dr) : Zm g (d + 1) 0 0 mX11_image [.ref 0, .int x] h (rIp (fun r h' => r = A_image x ∧ CI h0 h' dk st un tp tr (P_image dk st pi x) fl ln sb sj dr)) := by
  obtain ⟨rt, rn, rs, sw, rmv, rmk, moc, len, fre, fc, fr, vn, vs, qd, wst, wqu, wwe, wla, hx, hn, hd, hR, hv, hw, hs⟩ := I.o
  obtain ⟨u, h14, hu⟩ := I.pis
  show Zw g (d + 1) 0 0 mX11_image 0 [some (.ref 0), some (.int x)] [] h _
  refine x_il1 dX11_image_0 ?_
  refine x_iconst (v := nI 2) dX11_image_1 rfl ?_
  refine x_cs2I mX11_isOneOf_ok lkX11_157 (Nat.le_of_ble_eq_true rfl) (Nat.le_of_ble_eq_true rfl) dX11_image_2 (c_isOneOf (by decide)) ?_
  refine x_if_ne (tgt := 11) dX11_image_5 rfl (fun q5 => ?_) (fun q5 => ?_)
  · skip
    first | (simp only [cmp_lt, cmp_gt, cmp_eq, zN_cge, zN_cle, Decidable.not_not] at q5) | (simp (disch := omega) only [zN_le, zN_lt, zN_0, zN_1, nI_toInt, zN_eq, zN_eq0, b2_z, b2_nz, Decidable.not_not, Int.not_lt, Int.not_le, zK0, zK1, zK2, zK3, zK5, zK7, zK8, zK9, zK10, zK19, zK20, zK40, zK99, zK100, zK199] at q5) | skip
    unfold A_image P_image
    rw [if_pos q5, if_pos q5]
    obtain ⟨i, hi, rfl⟩ := oneOf_ex q5
    rw [show tn (nI i) = i from nI_clamp (by omega)]
    obtain ⟨v, t, z1, z2⟩ := I.pic hi
    refine x_al0 rfl dX11_image_11 ?_
    refine x_get fdX11_55 hx rfl dX11_image_12 ?_
    refine x_il1 dX11_image_15 ?_
    refine x_aald rfl h14 (vp_in_nI (by omega) (by decide)) (by rw [nI_clamp (by omega)]; exact hu i hi) dX11_image_16 ?_
    refine x_al0 rfl dX11_image_17 ?_
    refine x_get fdX11_106 hx rfl dX11_image_18 ?_
    refine x_put fdX11_413 z1 (by first | exact zf_o | exact zf_on) (by simp) dX11_image_21 ?_
    rw [show ([v, .ref (53 + 2 * i)] : List Value).set 0 (.ref rt) = [.ref rt, .ref (53 + 2 * i)] from rfl]
    have N : ∀ {j : Nat} {e : va_E}, h[j]? = some e → j ≠ 52 + 2 * i → (h.set (52 + 2 * i) (.inr (3, [.ref rt, .ref (53 + 2 * i)])))[j]? = some e := fun q z => by rw [hs_ne (Ne.symm z)]; exact q
    refine x_al0 rfl dX11_image_24 ?_
    refine x_get fdX11_55 (N hx (by omega)) rfl dX11_image_25 ?_
    refine x_il1 dX11_image_28 ?_
    refine x_aald rfl (N h14 (by omega)) (vp_in_nI (by omega) (by decide)) (by rw [nI_clamp (by omega)]; exact hu i hi) dX11_image_29 ?_
    refine x_get fdX11_414 (hs_eq z1) rfl dX11_image_30 ?_
    refine x_al0 rfl dX11_image_33 ?_
    refine x_get fdX11_27 (N hx (by omega)) rfl dX11_image_34 ?_
    refine x_cv1Vp mX7_become_ok lkX11_217 rfl (Nat.le_of_ble_eq_true rfl) (Nat.le_of_ble_eq_true rfl) dX11_image_37 (N  z2 (by omega)) (c_become (N z2 (by omega)) (N hn (by omega)) (by omega)) (fun h hq => ?_)
    obtain rfl := hq
    refine x_iconst (v := nI 0) dX11_image_40 rfl ?_
    exact x_iret rfl rfl dX11_image_41 ⟨_, rfl, rfl, I.img hi hx⟩
  · skip
    first | (simp only [cmp_lt, cmp_gt, cmp_eq, zN_cge, zN_cle, Decidable.not_not] at q5) | (simp (disch := omega) only [zN_le, zN_lt, zN_0, zN_1, nI_toInt, zN_eq, zN_eq0, b2_z, b2_nz, Decidable.not_not, Int.not_lt, Int.not_le, zK0, zK1, zK2, zK3, zK5, zK7, zK8, zK9, zK10, zK19, zK20, zK40, zK99, zK100, zK199] at q5) | skip
    refine x_bipush (v := (-2)) dX11_image_8 rfl ?_
    exact x_iret rfl rfl dX11_image_10 ⟨_, rfl, by rw [A_image, if_neg q5], by rw [P_image, if_neg q5]; exact I⟩
end ZCi

