/-! the class's restore -/
def L_restore (dk : zDk) (pi : Nat → zPi) (ln : zLn) (x : Int32) : zLn := if oneOf x 2 then (match pi (tn x) with
  | none => ln
  | some q => pD dk q.1 ln) else ln
def C_restore (dk : zDk) (pi : Nat → zPi) (ln : zLn) (x : Int32) : Nat := if oneOf x 2 then (match pi (tn x) with
  | none => 0
  | some q => sD dk q.1 ln) else 0
section ZRs
variable {g : zG} {d : Nat} {h0 h h' : zH} {dk : zDk} {st : zSt} {un : List zSt} {tp : List Nat} {tr : Nat → zTr} {pi : Nat → zPi} {fl : Nat × Nat} {ln : zLn} {sb sj : zS3} {dr : Int32}
theorem k_restore {x : Int32} (I : CI h0 h dk st un tp tr pi fl ln sb sj dr) : Zm g (d + 5) 3 (C_restore dk pi ln x) mX11_restore [.ref 0, .int x] h (rIp (fun r h' => r = A_restore pi x ∧ CI h0 h' (S_restore dk st un pi x).1 (S_restore dk st un pi x).2.1 (S_restore dk st un pi x).2.2 tp tr pi fl (L_restore dk pi ln x) sb sj dr)) := by
  obtain ⟨rt, rn, rs, sw, rmv, rmk, moc, len, fre, fc, fr, vn, vs, qd, wst, wqu, wwe, wla, hx, hn, hd, hR, hv, hw, hs⟩ := I.o
  obtain ⟨u, h14, hu⟩ := I.pis
  show Zw g (d + 5) 3 (C_restore dk pi ln x) mX11_restore 0 [some (.ref 0), some (.int x), none] [] h _
  refine x_il1 dX11_restore_0 ?_
  refine x_iconst (v := nI 2) dX11_restore_1 rfl ?_
  refine x_cs2I mX11_isOneOf_ok lkX11_157 (Nat.le_of_ble_eq_true rfl) (Nat.le_of_ble_eq_true rfl) dX11_restore_2 (c_isOneOf (by decide)) ?_
  refine x_if_ne (tgt := 11) dX11_restore_5 rfl (fun q5 => ?_) (fun q5 => ?_)
  · skip
    first | (simp only [cmp_lt, cmp_gt, cmp_eq, zN_cge, zN_cle, Decidable.not_not] at q5) | (simp (disch := omega) only [zN_le, zN_lt, zN_0, zN_1, nI_toInt, zN_eq, zN_eq0, b2_z, b2_nz, Decidable.not_not, Int.not_lt, Int.not_le, zK0, zK1, zK2, zK3, zK5, zK7, zK8, zK9, zK10, zK19, zK20, zK40, zK99, zK100, zK199] at q5) | skip
    unfold A_restore S_restore L_restore C_restore
    simp only [if_pos q5]
    obtain ⟨i, hi, rfl⟩ := oneOf_ex q5
    rw [show tn (nI i) = i from nI_clamp (by omega)]
    obtain ⟨Z, rt9, ds, C, W, J⟩ := id I
    have p := J.2.2.2.2.2.2.2.1.2 i hi
    refine x_al0 rfl dX11_restore_11 ?_
    refine x_get fdX11_55 hx rfl dX11_restore_12 ?_
    refine x_il1 dX11_restore_15 ?_
    refine x_aald rfl h14 (vp_in_nI (by omega) (by decide)) (by rw [nI_clamp (by omega)]; exact hu i hi) dX11_restore_16 ?_
    cases ep : pi i with
    | none =>
      rw [ep] at p
      obtain ⟨t, p1, p2⟩ := p
      have c1 := C.get p1
      refine x_get fdX11_413 c1 rfl dX11_restore_17 ?_
      refine x_as2 rfl rfl dX11_restore_20 ?_
      refine x_al2 rfl dX11_restore_21 ?_
      refine x_ifnonnullN dX11_restore_22 ?_
      refine x_bipush (v := (-5)) dX11_restore_25 rfl ?_
      exact x_iret rfl rfl dX11_restore_27 ⟨_, rfl, rfl, I⟩
    | some q =>
      rw [ep] at p
      obtain ⟨r, p1, p2, p3, p4⟩ := p
      have c1 := C.get p1
      refine x_get fdX11_413 c1 rfl dX11_restore_17 ?_
      refine x_as2 rfl rfl dX11_restore_20 ?_
      refine x_al2 rfl dX11_restore_21 ?_
      refine x_ifnonnull (tgt := 28) dX11_restore_22 rfl ?_
      refine x_al0 rfl dX11_restore_28 ?_
      refine x_al2 rfl dX11_restore_29 ?_
      refine x_cv1Vr (κ2 := 0) (σ2 := 0) mX11_sitAt_ok lkX11_110 rfl (Nat.le_of_ble_eq_true rfl) (Nat.le_of_ble_eq_true rfl) dX11_restore_30 hx (Nat.le_refl _) (Nat.le_refl _) (e_sitAt C W J.1 p2) (fun h hq => ?_)
      obtain ⟨C, W, -⟩ := hq
      have o0 := C.get (i := 0) upM_eq
      have o9 := C.get (i := 9) ((upM_ne (by decide)).trans J.2.1.1)
      obtain ⟨⟨u, u1, u2⟩, -⟩ := J.2.2.2.2.2.2.2.1
      have o14 := C.get (i := 14) ((upM_ne (by decide)).trans u1)
      have o52 := C.get (i := 52 + 2 * i) ((upM_ne (by omega)).trans p1)
      have o53 := C.get (i := 53 + 2 * i) ((upM_ne (by omega)).trans p3)
      refine x_al0 rfl dX11_restore_33 ?_
      refine x_get fdX11_27 o0 rfl dX11_restore_34 ?_
      refine x_al0 rfl dX11_restore_37 ?_
      refine x_get fdX11_55 o0 rfl dX11_restore_38 ?_
      refine x_il1 dX11_restore_41 ?_
      refine x_aald rfl o14 (vp_in_nI (by omega) (by decide)) (by rw [nI_clamp (by omega)]; exact u2 i hi) dX11_restore_42 ?_
      refine x_get fdX11_414 o52 rfl dX11_restore_43 ?_
      refine x_cv1Vp mX7_become_ok lkX11_217 rfl (Nat.le_of_ble_eq_true rfl) (Nat.le_of_ble_eq_true rfl) dX11_restore_46 o9  (c_become o9 o53 (by omega)) (fun h hq => ?_)
      obtain rfl := hq
      refine x_al0 rfl dX11_restore_49 ?_
      refine x_iconst (v := nI 0) dX11_restore_50 rfl ?_
      refine x_put fdX11_41 (by rw [hs_ne (by decide)]; exact o0) zf_i (by simp) dX11_restore_51 ?_
      refine x_iconst (v := nI 0) dX11_restore_54 rfl ?_
      have hz9 : upM Z 0 (some (xE (nI tp.length) r (nI un.length) dr)) 9 = some (s3E (s3 st)) := (upM_ne (by decide)).trans J.2.1.1
      have C1 := C.set (e := s3E (s3 q.2)) hz9 rfl
      have W1 : EWk (h.set 9 (s3E (s3 q.2))) q.1 r ds (pD dk q.1 ln) := EW.set W C hz9
      have hz0 : upM (upM Z 0 (some (xE (nI tp.length) r (nI un.length) dr))) 9 (some (s3E (s3 q.2))) 0 = some (xE (nI tp.length) r (nI un.length) dr) := (upM_ne (by decide)).trans upM_eq
      have C2 := C1.set (e := xE (nI tp.length) r (nI 0) dr) hz0 rfl
      have W2 : EWk ((h.set 9 (s3E (s3 q.2))).set 0 (xE (nI tp.length) r (nI 0) dr)) q.1 r ds (pD dk q.1 ln) := EW.set W1 C1 hz0
      have un9 : ∀ j, j ≠ 0 → j ≠ 9 → upM (upM (upM Z 0 (some (xE (nI tp.length) r (nI un.length) dr))) 9 (some (s3E (s3 q.2)))) 0 (some (xE (nI tp.length) r (nI 0) dr)) j = Z j := fun j b1 b2 => ((upM_ne b1).trans (upM_ne b2)).trans (upM_ne b1)
      obtain ⟨a1, a2, a3, a4, a5, ⟨-, off, uu, x1, x2, x3, -⟩, a7, a8, a9, a10⟩ := id J
      have J2 : CJ (upM (upM (upM Z 0 (some (xE (nI tp.length) r (nI un.length) dr))) 9 (some (s3E (s3 q.2)))) 0 (some (xE (nI tp.length) r (nI 0) dr))) r ds q.1 q.2 [] tp tr pi fl sb sj dr := ⟨upM_eq, ⟨(upM_ne (by decide)).trans upM_eq, p4⟩, (un9 10 (by omega) (by omega)).trans a3, (un9 11 (by omega) (by omega)).trans a4, a5.c (un9 1 (by omega) (by omega)), ⟨Nat.zero_le _, off, uu, (un9 12 (by omega) (by omega)).trans x1, x2, fun j hj => by rw [un9 _ (by omega) (by omega)]; exact x3 j hj, fun j hj => absurd hj (Nat.not_lt_zero _)⟩, a7.c (un9 13 (by omega) (by omega)) (fun j _ _ => un9 j (by omega) (by omega)), a8.c (un9 14 (by omega) (by omega)) (fun j _ _ => un9 j (by omega) (by omega)), a9.c (un9 32 (by omega) (by omega)) (un9 33 (by omega) (by omega)), a10.c (fun j _ _ => un9 j (by omega) (by omega))⟩
      exact x_iret rfl rfl dX11_restore_55 ⟨_, rfl, rfl, _, r, ds, C2, W2, J2⟩
  · skip
    first | (simp only [cmp_lt, cmp_gt, cmp_eq, zN_cge, zN_cle, Decidable.not_not] at q5) | (simp (disch := omega) only [zN_le, zN_lt, zN_0, zN_1, nI_toInt, zN_eq, zN_eq0, b2_z, b2_nz, Decidable.not_not, Int.not_lt, Int.not_le, zK0, zK1, zK2, zK3, zK5, zK7, zK8, zK9, zK10, zK19, zK20, zK40, zK99, zK100, zK199] at q5) | skip
    refine x_bipush (v := (-2)) dX11_restore_8 rfl ?_
    exact x_iret rfl rfl dX11_restore_10 ⟨_, rfl, by rw [A_restore, if_neg q5], by rw [S_restore, L_restore, if_neg q5, if_neg q5]; exact I⟩
end ZRs

