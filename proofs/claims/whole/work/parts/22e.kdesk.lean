/-! the class's desk, whole -/
section ZKe
variable {g : zG} {d : Nat} {h0 h h1 h' : zH} {r r' : Nat → Value} {A A' : Nat → Nat → Int32} {Q Q' : Nat → zS3} {Z Z' : Nat → Option va_E} {rt : Nat} {ds : List (Nat × zDk)} {dk : zDk} {st : zSt} {un : List zSt} {tp : List Nat} {tr : Nat → zTr} {pi : Nat → zPi} {fl : Nat × Nat} {ln : zLn} {sb sj : zS3} {dr : Int32} {fl' : Nat × Nat}
/-- the cells of a desk are engine's cells -/
theorem Ex.app {l : zH} : Ex h (h ++ l) := ⟨by simp, fun j hj _ => List.getElem?_append_left hj⟩
def QK (h0 : zH) (dk : zDk) (st : zSt) (un : List zSt) (tr : Nat → zTr) (pi : Nat → zPi) (ln : zLn) (sb sj : zS3) (dr : Int32) (S : Sum (Nat × Nat) (Nat × zDd)) : Option Value → zH → Prop := rIp (fun r h' => match S with
  | .inl e => r = (-30) - nI e.1 ∧ CI h0 h' dk st un [] tr pi e ln sb sj dr
  | .inr q => r = nI q.1 ∧ CI h0 h' (dkOf q) (rnk q.2.1 q.2.2.2.1, q.2.2.2.2.2.1, 0) [] [] tr pi (0, 0) (pD dk (dkOf q) ln) sb sj dr)
theorem kd32e {X : zX} {e : Nat × Nat} {x : Int32} {S : Sum (Nat × Nat) (Nat × zDd)} (C : CW h0 h1 Z) (W : EWk h1 dk rt ds ln) (J : CJ Z rt ds dk st un [] tr pi fl sb sj dr) (a : LE X h1 h' r A Q e) (hS : S = .inl e) : Zw g (d + 1) 0 0 mX11_desk 32 [some (.ref 0), some (.int x), none] [] h' (QK h0 dk st un tr pi ln sb sj dr S) := by
  have R := a.1
  have o0 : h'[0]? = some (xE (nI 0) rt (nI un.length) dr) := (R.2.2.2.2.2.2.2 0 (Or.inl (by decide))).trans (C.get J.1)
  have e0 := a.2.1.1
  have n0 := nI_n05 a.2.1.2.2.2.1 a.2.1.2.2.2.2
  obtain ⟨C2, W2⟩ := C.rd W J.2.2.2.2.2.2.2.2.2 R
  have J2 := J.rd (fl' := e) R e0 (fun _ => a.2.1.2.1) a.2.1.2.2.2.2 a.2.2.1 a.2.2.2.2
  subst hS
  refine x_al0 rfl dX11_desk_32 ?_
  refine x_get fdX11_20 o0 rfl dX11_desk_33 ?_
  refine x_rg R fdX11_122 (by decide) (by first | assumption | rfl) dX11_desk_36 ?_
  refine x_if_eq (tgt := 53) dX11_desk_39 rfl (fun q39 => ?_) (fun q39 => ?_)
  · skip
    exact absurd q39 n0
  · skip
    refine x_bipush (v := (-30)) dX11_desk_42 rfl ?_
    refine x_al0 rfl dX11_desk_44 ?_
    refine x_get fdX11_20 o0 rfl dX11_desk_45 ?_
    refine x_rg R fdX11_122 (by decide) (by first | assumption | rfl) dX11_desk_48 ?_
    refine x_isub (rfl) dX11_desk_51 ?_
    exact x_iret rfl rfl dX11_desk_52 ⟨_, rfl, rfl, _, rt, ds, C2, W2, J2⟩
theorem kd32o {X : zX} {D : zDd} {p li : Nat} {x : Int32} {S : Sum (Nat × Nat) (Nat × zDd)} (C : CW h0 h1 Z) (W : EWk h1 dk rt ds ln) (J : CJ Z rt ds dk st un [] tr pi fl sb sj dr) (a : LC X h1 h' r A Q p D li) (hD : zDok D) (hl : li < 2 ^ 31) (w1 : whl D.1 D.2.2.1) (w2 : whl D.1 D.2.2.2.1) (hS : S = .inr (li, D)) : Zw g (d + 5) 10 (3610 + sD dk (dkOf (li, D)) ln) mX11_desk 32 [some (.ref 0), some (.int x), none] [] h' (QK h0 dk st un tr pi ln sb sj dr S) := by
  have R := a.1
  have o0 : h'[0]? = some (xE (nI 0) rt (nI un.length) dr) := (R.2.2.2.2.2.2.2 0 (Or.inl (by decide))).trans (C.get J.1)
  have e0 := a.2.2.1.1
  obtain ⟨C2, W2⟩ := C.rd W J.2.2.2.2.2.2.2.2.2 R
  have J2 := J.rd (fl' := (0, 0)) R e0 (fun z => absurd rfl z) (by decide) a.2.1.1 a.2.2.2.2.1
  obtain ⟨d1, d2, d3, d4, d5, d6, d7, d8, d9⟩ := id hD
  have b1 := lwN_le d8
  have b2 := lwN_le d9
  have r1 := whl_row d1 d2 d5 w1
  have r2 := whl_row d1 d2 d6 w2
  subst hS
  refine Zw.room (κ' := (lwK D.2.2.2.2.2.1 + lwK D.2.2.2.2.2.2 + 3) + 1) (σ' := (lwN D.2.2.2.2.2.1 + lwN D.2.2.2.2.2.2 + sD dk (dkOf (li, D)) ln) + 8) ?_ (by omega) (by omega)
  refine x_al0 rfl dX11_desk_32 ?_
  refine x_get fdX11_20 o0 rfl dX11_desk_33 ?_
  refine x_rg R fdX11_122 (by decide) (by first | assumption | rfl) dX11_desk_36 ?_
  refine x_if_eq (tgt := 53) dX11_desk_39 rfl (fun q39 => ?_) (fun q39 => ?_)
  · skip
    first | (simp only [cmp_lt, cmp_gt, cmp_eq, zN_cge, zN_cle, Decidable.not_not] at q39) | (simp (disch := omega) only [zN_le, zN_lt, zN_0, zN_1, nI_toInt, zN_eq, zN_eq0, b2_z, b2_nz, Decidable.not_not, Int.not_lt, Int.not_le, zK0, zK1, zK2, zK3, zK5, zK7, zK8, zK9, zK10, zK19, zK20, zK40, zK99, zK100, zK199] at q39) | skip
    refine x_new (ci := 0) (fs := [.int 0, .int 0, .int 0, .int 0, .int 0, .int 0, .null, .null]) rfl inX0 tyX0_ok klX11_101 kiX0 knX0 (fun j hj => by match j, hj with | 0, _ => rfl | 1, _ => rfl | 2, _ => rfl | 3, _ => rfl | 4, _ => rfl | 5, _ => rfl | 6, _ => rfl | 7, _ => rfl | _ + 8, h9 => exact absurd h9 (by omega)) (fun _ => rfl) (by simp) dX11_desk_53 ?_
    refine x_dup rfl dX11_desk_56 ?_
    have o0 := hp_old (e := .inr (0, [.int 0, .int 0, .int 0, .int 0, .int 0, .int 0, .null, .null])) o0
    refine x_al0 rfl dX11_desk_57 ?_
    refine x_get fdX11_20 o0 rfl dX11_desk_58 ?_
    refine x_ci1 (κ1 := lwK D.2.2.2.2.2.1 + lwK D.2.2.2.2.2.2) (κ2 := 3) (σ1 := lwN D.2.2.2.2.2.1 + lwN D.2.2.2.2.2.2) (σ2 := sD dk (dkOf (li, D)) ln) mX0_init_ok rfl lkX11_103 (Nat.le_of_ble_eq_true rfl) (Nat.le_of_ble_eq_true rfl) dX11_desk_61 (Nat.le_refl _) (Nat.le_refl _) (c_deskI (d := d + 1) a hD) (fun v h2 q => ?_)
    obtain ⟨rfl, f1, f2, rfl, hf1, hf2⟩ := q
    have C3 := C2.ex (Ex.app (l := dkC h'.length D li f1 f2))
    have W3 : EWk (h' ++ dkC h'.length D li f1 f2) dk rt (ds ++ [(h'.length, dkOf (li, D))]) ln := EW.add (li' := li) W2 C2.2.1 hD hl r2.1 hf1 hf2
    have o0 := C3.get J2.1
    refine x_as2 rfl rfl dX11_desk_64 ?_
    refine x_al0 rfl dX11_desk_65 ?_
    refine x_al2 rfl dX11_desk_66 ?_
    refine x_cv1Vr (κ1 := 3) (κ2 := 0) (σ2 := 0) mX11_sitAt_ok lkX11_110 rfl (Nat.le_of_ble_eq_true rfl) (Nat.le_of_ble_eq_true rfl) dX11_desk_67 o0 (Nat.le_refl _) (Nat.le_refl _) (e_sitAt (d := d) (q := dkOf (li, D)) C3 W3 J2.1 (List.mem_append.mpr (Or.inr (List.mem_singleton.mpr rfl)))) (fun h4 hq => ?_)
    obtain ⟨C4, W4, hk⟩ := hq
    change CW _ _ (upM (rdZ r A Q Z) 0 (some (xE (nI 0) h'.length (nI un.length) dr))) at C4
    have oB := hk h'.length _ rfl (dk_get (h := h') rfl)
    have o0 := C4.get (i := 0) upM_eq
    have hz9 : upM (rdZ r A Q Z) 0 (some (xE (nI 0) h'.length (nI un.length) dr)) 9 = some (s3E (s3 st)) := (upM_ne (by decide)).trans J2.2.1.1
    have o9 := C4.get hz9
    have B9 : h'.length ≠ 9 := fun z => by have := C2.2.1; omega
    refine x_al0 rfl dX11_desk_70 ?_
    refine x_get fdX11_27 o0 rfl dX11_desk_71 ?_
    refine x_al2 rfl dX11_desk_74 ?_
    refine x_get fdX11_125 oB rfl dX11_desk_75 ?_
    refine x_put fdX11_128 o9 zf_i (by simp) dX11_desk_78 ?_
    refine x_al0 rfl dX11_desk_81 ?_
    refine x_get fdX11_27 (by rw [hs_ne (by decide)]; exact o0) rfl dX11_desk_82 ?_
    refine x_al2 rfl dX11_desk_85 ?_
    refine x_get fdX11_131 (by rw [hs_ne (Ne.symm B9)]; exact oB) rfl dX11_desk_86 ?_
    refine x_put fdX11_134 (hs_eq o9) zf_i (by simp) dX11_desk_89 ?_
    refine x_al0 rfl dX11_desk_92 ?_
    refine x_get fdX11_27 (by rw [hs_ne (by decide), hs_ne (by decide)]; exact o0) rfl dX11_desk_93 ?_
    refine x_iconst (v := nI 0) dX11_desk_96 rfl ?_
    refine x_put fdX11_137 (hs_eq (hs_eq o9)) zf_i (by simp) dX11_desk_97 ?_
    rw [List.set_set, List.set_set]
    refine x_al0 rfl dX11_desk_100 ?_
    refine x_iconst (v := nI 0) dX11_desk_101 rfl ?_
    refine x_put fdX11_41 (by rw [hs_ne (by decide)]; exact o0) zf_i (by simp) dX11_desk_102 ?_
    refine x_al2 rfl dX11_desk_105 ?_
    refine x_get fdX11_140 (by rw [hs_ne (by have := C2.2.1; omega), hs_ne (Ne.symm B9)]; exact oB) rfl dX11_desk_106 ?_
    have C5 := C4.set (e := s3E (nI (rnk D.1 D.2.2.1), nI D.2.2.2.2.1, 0)) hz9 rfl
    have W5 : EWk (h4.set 9 (s3E (nI (rnk D.1 D.2.2.1), nI D.2.2.2.2.1, 0))) (dkOf (li, D)) h'.length (ds ++ [(h'.length, dkOf (li, D))]) (pD dk (dkOf (li, D)) ln) := EW.set W4 C4 hz9
    have hz0 : upM (upM (rdZ r A Q Z) 0 (some (xE (nI 0) h'.length (nI un.length) dr))) 9 (some (s3E (nI (rnk D.1 D.2.2.1), nI D.2.2.2.2.1, 0))) 0 = some (xE (nI 0) h'.length (nI un.length) dr) := (upM_ne (by decide)).trans upM_eq
    have C6 := C5.set (e := xE (nI 0) h'.length (nI 0) dr) hz0 rfl
    have W6 : EWk ((h4.set 9 (s3E (nI (rnk D.1 D.2.2.1), nI D.2.2.2.2.1, 0))).set 0 (xE (nI 0) h'.length (nI 0) dr)) (dkOf (li, D)) h'.length (ds ++ [(h'.length, dkOf (li, D))]) (pD dk (dkOf (li, D)) ln) := EW.set W5 C5 hz0
    have un9 : ∀ j, j ≠ 0 → j ≠ 9 → upM (upM (upM (rdZ r A Q Z) 0 (some (xE (nI 0) h'.length (nI un.length) dr))) 9 (some (s3E (nI (rnk D.1 D.2.2.1), nI D.2.2.2.2.1, 0)))) 0 (some (xE (nI 0) h'.length (nI 0) dr)) j = rdZ r A Q Z j := fun j b1 b2 => ((upM_ne b1).trans (upM_ne b2)).trans (upM_ne b1)
    obtain ⟨a1, a2, a3, a4, a5, ⟨-, off, uu, x1, x2, x3, -⟩, a7, ⟨a8, a8'⟩, a9, a10⟩ := id J2
    refine x_iret rfl rfl dX11_desk_109 ⟨_, rfl, rfl, _, h'.length, _, C6, W6, upM_eq, ⟨(upM_ne (by decide)).trans upM_eq, r1.1, d7⟩, (un9 10 (by decide) (by decide)).trans a3, (un9 11 (by decide) (by decide)).trans a4, a5.c (un9 1 (by decide) (by decide)), ⟨Nat.zero_le _, off, uu, (un9 12 (by decide) (by decide)).trans x1, x2, fun j hj => by rw [un9 _ (by omega) (by omega)]; exact x3 j hj, fun j hj => absurd hj (Nat.not_lt_zero _)⟩, a7.c (un9 13 (by decide) (by decide)) (fun j _ _ => un9 j (by omega) (by omega)), ⟨by rw [un9 14 (by decide) (by decide)]; exact a8, fun t ht => ?_⟩, a9.c (un9 32 (by decide) (by decide)) (un9 33 (by decide) (by decide)), a10.c (fun j _ _ => un9 j (by omega) (by omega))⟩
    have z := a8' t ht
    unfold PiJ at z ⊢
    rw [un9 (52 + 2 * t) (by omega) (by omega), un9 (53 + 2 * t) (by omega) (by omega)]
    cases hp : pi t with
    | none => rw [hp] at z; exact z
    | some q =>
      rw [hp] at z
      obtain ⟨rr, z1, z2, z3⟩ := z
      exact ⟨rr, z1, List.mem_append.mpr (Or.inl z2), z3⟩
  · skip
    first | (simp only [cmp_lt, cmp_gt, cmp_eq, zN_cge, zN_cle, Decidable.not_not] at q39) | (simp (disch := omega) only [zN_le, zN_lt, zN_0, zN_1, nI_toInt, zN_eq, zN_eq0, b2_z, b2_nz, Decidable.not_not, Int.not_lt, Int.not_le, zK0, zK1, zK2, zK3, zK5, zK7, zK8, zK9, zK10, zK19, zK20, zK40, zK99, zK100, zK199] at q39) | skip
    exact absurd trivial q39
theorem k_desk {x : Int32} (I : CI h0 h dk st un tp tr pi fl ln sb sj dr) : Zm g (d + 68) 10 (K_desk dk tp ln x) mX11_desk [.ref 0, .int x] h (rIp (fun r h' => r = A_desk tp x ∧ CI h0 h' (S_desk dk st un tp fl x).1 (S_desk dk st un tp fl x).2.1 (S_desk dk st un tp fl x).2.2.1 (S_desk dk st un tp fl x).2.2.2.1 tr pi (S_desk dk st un tp fl x).2.2.2.2 (L_desk dk tp ln x) sb sj dr)) := by
  obtain ⟨Z, rt, ds, C, W, J⟩ := id I
  have hx := C.get J.1
  obtain ⟨tl9, fT, hT, tx⟩ := J.2.2.2.2.1
  show Zw g (d + 68) 10 (K_desk dk tp ln x) mX11_desk 0 [some (.ref 0), some (.int x), none] [] h _
  refine x_il1 dX11_desk_0 ?_
  refine x_if_lt (tgt := 12) dX11_desk_1 rfl (fun q1 => ?_) (fun q1 => ?_)
  · skip
    refine x_bipush (v := (-3)) dX11_desk_12 rfl ?_
    have nR' : ¬ inR tp x := fun z => by rw [Int32.lt_iff_toInt_lt, show (0 : Int32).toInt = 0 from rfl] at q1; have := z.1; omega
    exact x_iret rfl rfl dX11_desk_14 ⟨_, rfl, by rw [A_desk, if_neg nR'], by rw [S_desk, L_desk, if_neg nR', if_neg nR']; exact I⟩
  · skip
    refine x_il1 dX11_desk_4 ?_
    refine x_al0 rfl dX11_desk_5 ?_
    refine x_get fdX11_13 hx rfl dX11_desk_6 ?_
    refine x_icmp_le (tgt := 15) dX11_desk_9 rfl (fun q9 => ?_) (fun q9 => ?_)
    · skip
      have hR : inR tp x := ⟨by rw [Int32.lt_iff_toInt_lt, show (0 : Int32).toInt = 0 from rfl] at q1; omega, by rw [Int32.le_iff_toInt_le, nI_toInt (by omega)] at q9; exact q9⟩
      obtain ⟨k1, k2⟩ := oneOf_n (x := x) (n := tp.length + 1) ⟨hR.1, by have := hR.2; omega⟩
      have eQ : (rIp (fun r h' => r = A_desk tp x ∧ CI h0 h' (S_desk dk st un tp fl x).1 (S_desk dk st un tp fl x).2.1 (S_desk dk st un tp fl x).2.2.1 (S_desk dk st un tp fl x).2.2.2.1 tr pi (S_desk dk st un tp fl x).2.2.2.2 (L_desk dk tp ln x) sb sj dr)) = QK h0 dk st un tr pi ln sb sj dr (fDk (zTx tp (tn x))) := by
        unfold QK A_desk S_desk L_desk
        rw [if_pos hR, if_pos hR, if_pos hR]
        cases fDk (zTx tp (tn x)) <;> rfl
      have eK : K_desk dk tp ln x = match fDk (zTx tp (tn x)) with
          | .inl _ => 0
          | .inr q => 3610 + sD dk (dkOf q) ln := by unfold K_desk; rw [if_pos hR]; cases fDk (zTx tp (tn x)) <;> rfl
      rw [eQ, eK]
      generalize hk : tn x = k at k1 k2 ⊢
      subst k2
      have fo := fDk_o (X := zTx tp k) (show k ≤ 900 by omega)
      refine x_al0 rfl dX11_desk_15 ?_
      refine x_iconst (v := nI 0) dX11_desk_16 rfl ?_
      refine x_put fdX11_13 hx zf_i (by simp) dX11_desk_17 ?_
      change Zw _ _ _ _ _ _ _ _ (h.set 0 (xE (nI 0) rt (nI un.length) dr)) _
      have C1 := C.set (e := xE (nI 0) rt (nI un.length) dr) J.1 rfl
      have W1 : EWk (h.set 0 (xE (nI 0) rt (nI un.length) dr)) dk rt ds ln := EW.set W C J.1
      have J1 := J.tp0
      have hT1 := C1.get (i := 1) ((upM_ne (by decide)).trans hT)
      generalize h.set 0 (xE (nI 0) rt (nI un.length) dr) = h1 at C1 W1 hT1 ⊢
      have hx := C1.get J1.1
      obtain ⟨r, A, Q, R, e17⟩ := C1.rw J1.2.2.2.2.2.2.2.2.2
      refine x_al0 rfl dX11_desk_20 ?_
      refine x_get fdX11_20 hx rfl dX11_desk_21 ?_
      refine x_al0 rfl dX11_desk_24 ?_
      refine x_get fdX11_9 hx rfl dX11_desk_25 ?_
      refine x_il1 dX11_desk_28 ?_
      refine x_cv2Vp mX4_read_ok lkX11_118 rfl (Nat.le_of_ble_eq_true rfl) (Nat.le_of_ble_eq_true rfl) dX11_desk_29 R.get  (c_read (X := zTx tp k) (n := k) R e17 rfl (by omega) hT1 (fun i hi => tx i (by omega))) (fun h hq => ?_)
      cases e : fDk (zTx tp k) with
      | inl e9 =>
        rw [e] at hq
        obtain ⟨r2, A2, Q2, a⟩ := hq
        exact (kd32e (d := d + 67) C1 W1 J1 a rfl).room (Nat.zero_le _) (Nat.zero_le _)
      | inr q =>
        rw [e] at hq fo
        obtain ⟨r2, A2, Q2, p, a⟩ := hq
        exact (kd32o (d := d + 63) C1 W1 J1 a fo.1 (by have := fo.2.1; have : (zTx tp k).2 = k := rfl; omega) fo.2.2.1 fo.2.2.2 rfl)
    · skip
      refine x_bipush (v := (-3)) dX11_desk_12 rfl ?_
      have nR' : ¬ inR tp x := fun z => by rw [Int32.le_iff_toInt_le, nI_toInt (by omega)] at q9; exact q9 z.2
      exact x_iret rfl rfl dX11_desk_14 ⟨_, rfl, by rw [A_desk, if_neg nR'], by rw [S_desk, L_desk, if_neg nR', if_neg nR']; exact I⟩
end ZKe

