/-! images: the model's and the class's image -/
def piU (pi : Nat → zPi) (i : Nat) (q : zPi) : Nat → zPi := fun t => if t = i then q else pi t
def A_image (x : Int32) : Int32 := if oneOf x 2 then 0 else -2
def P_image (dk : zDk) (st : zSt) (pi : Nat → zPi) (x : Int32) : Nat → zPi := if oneOf x 2 then piU pi (tn x) (some (dk, st)) else pi
def cpy (al : Nat → Int32) (i k : Nat) : Nat → Int32 := fun t => if 956 * (i + 1) ≤ t ∧ t < 956 * (i + 1) + k then al (t - 956 * (i + 1)) else al t
theorem cpy_0 {al : Nat → Int32} {i : Nat} : cpy al i 0 = al := by
  funext t
  exact if_neg (by omega)
theorem cpy_lo {al : Nat → Int32} {i k t : Nat} (h : t < 956) : cpy al i k t = al t := if_neg (by omega)
theorem cpy_in {al : Nat → Int32} {i k t : Nat} (h : t < k) : cpy al i k (956 * (i + 1) + t) = al t := by
  unfold cpy
  rw [if_pos (by omega), show 956 * (i + 1) + t - 956 * (i + 1) = t by omega]
theorem cpy_no {al : Nat → Int32} {i j k t : Nat} (h : j ≠ i) (hk : k ≤ 956) (ht : t < 956) : cpy al i k (956 * (j + 1) + t) = al (956 * (j + 1) + t) := by
  refine if_neg ?_
  rcases Nat.lt_or_ge j i with z | z
  · have : 956 * (j + 1) + 956 ≤ 956 * (i + 1) := by omega
    omega
  · have : 956 * (i + 1) + 956 ≤ 956 * (j + 1) := by omega
    omega
theorem cpy_s {al : Nat → Int32} {i k : Nat} : upd (cpy al i k) (956 * (i + 1) + k) (al k) = cpy al i (k + 1) := by
  funext t
  unfold upd
  by_cases z : t = 956 * (i + 1) + k
  · rw [if_pos z, z, cpy_in (by omega)]
  · rw [if_neg z]
    unfold cpy
    by_cases c : 956 * (i + 1) ≤ t ∧ t < 956 * (i + 1) + k
    · rw [if_pos c, if_pos (by omega)]
    · rw [if_neg c, if_neg (by omega)]
section ZIm
variable {g : zG} {d : Nat} {h0 h : zH} {s : Nat → Value} {M : Nat → Nat → Int32} {L : Nat → Nat → Int64} {dk : zDk} {st : zSt} {un : List zSt} {tp : List Nat} {tr : Nat → zTr} {pi : Nat → zPi} {fl : Nat × Nat}
theorem M3.c {al al' : Nat → Int32} {n : Nat} (a : M3 al 21 n st) (h : ∀ k, k < 956 → al' k = al k) : M3 al' 21 n st := by
  obtain ⟨a1, a2, a3, a4⟩ := a
  exact ⟨by rw [h _ (by omega)]; exact a1, by rw [h _ (by omega)]; exact a2, by rw [h _ (by omega)]; exact a3, a4⟩
theorem MJ.img {i : Nat} (J : MJ s M L dk st un tp tr pi fl) : MJ s (upM (upM M 60 (cpy (M 60) i 956)) 61 (upd (M 61) i 1)) L dk st un tp tr (piU pi i (some (dk, st))) fl := by
  obtain ⟨a1, a2, a3, a4, a5, a6, a7⟩ := J
  have e60 : upM (upM M 60 (cpy (M 60) i 956)) 61 (upd (M 61) i 1) 60 = cpy (M 60) i 956 := rfl
  have e61 : upM (upM M 60 (cpy (M 60) i 956)) 61 (upd (M 61) i 1) 61 = upd (M 61) i 1 := rfl
  have da := a1.da
  refine ⟨MDk.of (by rw [e60]; exact da.c (fun k hk => cpy_lo (by omega))) a1.2.2.2.2.2.2.2.1 a1.2.2.2.2.2.2.2.2, by rw [e60]; exact a2.c (fun k hk => cpy_lo hk), by rw [e60]; exact a3.c (fun k _ hk => cpy_lo (by omega)), a4, a5, fun t ht => ?_, a7⟩
  rw [e60, e61]
  by_cases z : t = i
  · rw [show piU pi i (some (dk, st)) t = some (dk, st) from if_pos z]
    refine ⟨if_pos z, ?_, ?_⟩
    · rw [z]; exact da.c (fun k hk => cpy_in (by omega))
    · rw [z]; exact a2.c (fun k hk => cpy_in hk)
  · rw [show piU pi i (some (dk, st)) t = pi t from if_neg z]
    have p := a6 t ht
    cases e : pi t with
    | none => rw [e] at p; exact (if_neg z).trans p
    | some q =>
      rw [e] at p
      obtain ⟨p1, p2, p3⟩ := p
      exact ⟨(if_neg z).trans p1, p2.c (fun k hk => cpy_no z (Nat.le_refl _) (by omega)), p3.c (fun k hk => cpy_no z (Nat.le_refl _) hk)⟩
theorem w_image {x : Int32} (I : MI h0 h dk st un tp tr pi fl) : Zm g (d + 1) 0 0 mX12_image [.ref 59, .int x] h (rIp (fun r h' => r = A_image x ∧ MI h0 h' dk st un tp tr (P_image dk st pi x) fl)) := by
  obtain ⟨s, M, L, W, J⟩ := I
  obtain ⟨D, hn0, hn6, ho0, ho9, hng, hli, e0, e1, e2, m1, m2, m3, m4, m5, u1, u2, t1, t2, r1, hf⟩ := MJ.o J
  have e2 : oneOf x 2 ↔ 0 ≤ x.toInt ∧ x.toInt ≤ 1 := by
    unfold oneOf
    omega
  show Zw g (d + 1) 0 0 mX12_image 0 [some (.ref 59), some (.int x), none] [] h _
  refine x_al0 rfl dX12_image_0 ?_
  refine x_iconst (v := nI 0) dX12_image_1 rfl ?_
  refine x_mpfJ W J fdX12_1 (by decide) rfl rfl zf_i dX12_image_2 (fun h W J => ?_)
  refine x_il1 dX12_image_5 ?_
  refine x_i2l (rfl) dX12_image_6 ?_
  refine x_lconst (v := 0) dX12_image_7 rfl ?_
  refine x_lconst (v := 1) dX12_image_8 rfl ?_
  refine x_cs3I mX12_within_ok lkX12_157 (Nat.le_of_ble_eq_true rfl) (Nat.le_of_ble_eq_true rfl) dX12_image_9 j_within ?_
  refine x_if_ne (tgt := 18) dX12_image_12 rfl (fun q12 => ?_) (fun q12 => ?_)
  · skip
    first | (simp only [cmp_lt, cmp_gt, cmp_eq, zN_cge, zN_cle, Decidable.not_not] at q12) | (simp (disch := omega) only [zN_le, zN_lt, zN_0, zN_1, nI_toInt, zN_eq, zN_eq0, b2_z, b2_nz, Decidable.not_not, Int.not_lt, Int.not_le, zK0, zK1, zK2, zK3, zK5, zK7, zK8, zK9, zK10, zK19, zK20, zK40, zK99, zK100, zK199] at q12) | skip
    have c : oneOf x 2 := e2.mpr q12
    unfold A_image P_image
    rw [if_pos c, if_pos c]
    obtain ⟨i, hi, rfl⟩ := oneOf_ex c
    rw [show tn (nI i) = i from nI_clamp (by omega)]
    refine x_iconst (v := nI 0) dX12_image_18 rfl ?_
    refine x_is2 rfl dX12_image_19 ?_
    have W := W.u 60
    refine x_for (e := 956) (fun k => [some (.ref 59), some (.int (nI i)), some (.int (nI k))]) (fun k h => MW h0 h _ (upM M 60 (cpy (M 60) i k)) L) 0 (by omega) (by rw [cpy_0]; exact W) (fun h W => ?_) (fun k h hk W ih => ?_)
    · refine x_il2 dX12_image_20 ?_
      refine x_sipush (v := nI 956) dX12_image_21 (by decide) ?_
      refine x_icmp_ge (tgt := 53) dX12_image_24 rfl (fun q24 => ?_) (fun q24 => ?_)
      · skip
        first | (simp only [cmp_lt, cmp_gt, cmp_eq, zN_cge, zN_cle, Decidable.not_not] at q24) | (simp (disch := omega) only [zN_le, zN_lt, zN_0, zN_1, nI_toInt, zN_eq, zN_eq0, b2_z, b2_nz, Decidable.not_not, Int.not_lt, Int.not_le, zK0, zK1, zK2, zK3, zK5, zK7, zK8, zK9, zK10, zK19, zK20, zK40, zK99, zK100, zK199] at q24) | skip
        refine x_al0 rfl dX12_image_53 ?_
        refine x_gm fdX12_17 W.hM (by decide) W.hF.f2 dX12_image_54 ?_
        refine x_il1 dX12_image_57 ?_
        refine x_iconst (v := nI 1) dX12_image_58 rfl ?_
        refine x_zast  W.g61 (vp_in_nI (by omega) (by omega)) dX12_image_59 ?_
        rw [nI_clamp (by omega)]
        refine x_iconst (v := nI 0) dX12_image_60 rfl ?_
        exact x_iret rfl rfl dX12_image_61 ⟨_, rfl, rfl, _, _, _, W.s61, J.img⟩
      · skip
        first | (simp only [cmp_lt, cmp_gt, cmp_eq, zN_cge, zN_cle, Decidable.not_not] at q24) | (simp (disch := omega) only [zN_le, zN_lt, zN_0, zN_1, nI_toInt, zN_eq, zN_eq0, b2_z, b2_nz, Decidable.not_not, Int.not_lt, Int.not_le, zK0, zK1, zK2, zK3, zK5, zK7, zK8, zK9, zK10, zK19, zK20, zK40, zK99, zK100, zK199] at q24) | skip
        omega
    · refine x_il2 dX12_image_20 ?_
      refine x_sipush (v := nI 956) dX12_image_21 (by decide) ?_
      refine x_icmp_ge (tgt := 53) dX12_image_24 rfl (fun q24 => ?_) (fun q24 => ?_)
      · skip
        first | (simp only [cmp_lt, cmp_gt, cmp_eq, zN_cge, zN_cle, Decidable.not_not] at q24) | (simp (disch := omega) only [zN_le, zN_lt, zN_0, zN_1, nI_toInt, zN_eq, zN_eq0, b2_z, b2_nz, Decidable.not_not, Int.not_lt, Int.not_le, zK0, zK1, zK2, zK3, zK5, zK7, zK8, zK9, zK10, zK19, zK20, zK40, zK99, zK100, zK199] at q24) | skip
        omega
      · skip
        first | (simp only [cmp_lt, cmp_gt, cmp_eq, zN_cge, zN_cle, Decidable.not_not] at q24) | (simp (disch := omega) only [zN_le, zN_lt, zN_0, zN_1, nI_toInt, zN_eq, zN_eq0, b2_z, b2_nz, Decidable.not_not, Int.not_lt, Int.not_le, zK0, zK1, zK2, zK3, zK5, zK7, zK8, zK9, zK10, zK19, zK20, zK40, zK99, zK100, zK199] at q24) | skip
        refine x_al0 rfl dX12_image_27 ?_
        refine x_gm fdX12_13 W.hM (by decide) W.hF.f1 dX12_image_28 ?_
        refine x_sipush (v := nI 956) dX12_image_31 (by decide) ?_
        refine x_il1 dX12_image_34 ?_
        refine x_iconst (v := nI 1) dX12_image_35 rfl ?_
        first | refine x_iadd (nI_add _ _) dX12_image_36 ?_ | refine x_iadd rfl dX12_image_36 ?_
        first | refine x_imul (pk_mul _ _) dX12_image_37 ?_ | refine x_imul rfl dX12_image_37 ?_
        refine x_il2 dX12_image_38 ?_
        first | refine x_iadd (nI_add _ _) dX12_image_39 ?_ | refine x_iadd rfl dX12_image_39 ?_
        refine x_al0 rfl dX12_image_40 ?_
        refine x_gm fdX12_13 W.hM (by decide) W.hF.f1 dX12_image_41 ?_
        refine x_il2 dX12_image_44 ?_
        refine x_mld (len := 2868) W rfl rfl (by decide) (by omega) ((congrFun upM_eq _).trans (cpy_lo hk)) dX12_image_45 ?_
        refine x_mstU (len := 2868) W rfl rfl (by decide) (by omega) dX12_image_46 (fun h W => ?_)
        rw [cpy_s] at W
        first | refine x_ii2 rfl (nI_1 _) dX12_image_47 ?_ | refine x_ii2 rfl rfl dX12_image_47 ?_
        refine x_goto (tgt := 20) dX12_image_50 rfl ?_
        exact ih _ W
  · skip
    first | (simp only [cmp_lt, cmp_gt, cmp_eq, zN_cge, zN_cle, Decidable.not_not] at q12) | (simp (disch := omega) only [zN_le, zN_lt, zN_0, zN_1, nI_toInt, zN_eq, zN_eq0, b2_z, b2_nz, Decidable.not_not, Int.not_lt, Int.not_le, zK0, zK1, zK2, zK3, zK5, zK7, zK8, zK9, zK10, zK19, zK20, zK40, zK99, zK100, zK199] at q12) | skip
    refine x_bipush (v := (-2)) dX12_image_15 rfl ?_
    exact x_iret rfl rfl dX12_image_17 ⟨_, rfl, by rw [A_image, if_neg (fun c => q12 (e2.mp c))], by rw [P_image, if_neg (fun c => q12 (e2.mp c))]; exact ⟨_, _, _, W, J⟩⟩
end ZIm

