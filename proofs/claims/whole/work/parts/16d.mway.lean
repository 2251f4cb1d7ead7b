/-! the model's fewest, way -/
def A_fewest (dk : zDk) (st : zSt) (x r : Int32) : Prop := (oneOf x 2 ∧ isA dk.1 (soB dk st.2.1 (tn x)) st.1 r) ∨ (¬ oneOf x 2 ∧ r = -2)
theorem A_fewest_u {dk : zDk} {st : zSt} {x r r' : Int32} (a : A_fewest dk st x r) (b : A_fewest dk st x r') : r = r' := by
  rcases a with ⟨a1, a2⟩ | ⟨a1, a2⟩
  · rcases b with ⟨b1, b2⟩ | ⟨b1, b2⟩
    · exact isA_u a2 b2
    · exact absurd a1 b1
  · rcases b with ⟨b1, b2⟩ | ⟨b1, b2⟩
    · exact absurd b1 a1
    · rw [a2, b2]
/-- k is the first swap by which one comes nearer -/
def fstK (n : Nat) (B : Nat → Bool) (s k : Nat) : Prop := ∃ m, isD n B s (m + 1) ∧ k < np n ∧ isD n B (swp n s k) m ∧ ∀ j, j < k → ¬ isD n B (swp n s j) m
theorem fstK_u {n : Nat} {B : Nat → Bool} {s k k' : Nat} (a : fstK n B s k) (b : fstK n B s k') : k = k' := by
  obtain ⟨m, a1, a2, a3, a4⟩ := a
  obtain ⟨m', b1, b2, b3, b4⟩ := b
  have e : m = m' := by have := isD_u a1 b1; omega
  subst e
  rcases Nat.lt_trichotomy k k' with h | h | h
  · exact absurd a3 (b4 k h)
  · exact h
  · exact absurd b3 (a4 k' h)
/-- the way's end is here -/
def endW (n : Nat) (B : Nat → Bool) (s : Nat) : Prop := isD n B s 0 ∨ noD n B s
theorem endW_no {n : Nat} {B : Nat → Bool} {s k : Nat} (a : endW n B s) (b : fstK n B s k) : False := by
  obtain ⟨m, b1, -⟩ := b
  rcases a with a | a
  · have := isD_u a b1; omega
  · exact isD_no b1 a
def wy (n : Nat) (B : Nat → Bool) : Nat → Nat → Int32 → Prop
  | 0, s, r => (∃ k, fstK n B s k ∧ r = nI (10 * pr1 n k + pr2 n k)) ∨ (endW n B s ∧ r = -1)
  | i + 1, s, r => (∃ k, fstK n B s k ∧ wy n B i (swp n s k) r) ∨ (endW n B s ∧ r = -1)
theorem wy_u {n : Nat} {B : Nat → Bool} : ∀ i s r r', wy n B i s r → wy n B i s r' → r = r' := by
  intro i
  induction i with
  | zero =>
    rintro s r r' (⟨k, a1, a2⟩ | ⟨a1, a2⟩) (⟨k', b1, b2⟩ | ⟨b1, b2⟩)
    · rw [a2, b2, fstK_u a1 b1]
    · exact (endW_no b1 a1).elim
    · exact (endW_no a1 b1).elim
    · rw [a2, b2]
  | succ i ih =>
    rintro s r r' (⟨k, a1, a2⟩ | ⟨a1, a2⟩) (⟨k', b1, b2⟩ | ⟨b1, b2⟩)
    · obtain rfl := fstK_u a1 b1
      exact ih _ _ _ a2 b2
    · exact (endW_no b1 a1).elim
    · exact (endW_no a1 b1).elim
    · rw [a2, b2]
theorem wy_end {n : Nat} {B : Nat → Bool} {i s : Nat} (h : endW n B s) : wy n B i s (-1) := by
  cases i with
  | zero => exact Or.inr ⟨h, rfl⟩
  | succ i => exact Or.inr ⟨h, rfl⟩
def A_way (dk : zDk) (st : zSt) (x y r : Int32) : Prop := (oneOf x 2 ∧ ((y < 0 ∧ r = -3) ∨ (¬ y < 0 ∧ wy dk.1 (soB dk st.2.1 (tn x)) (tn y) st.1 r))) ∨ (¬ oneOf x 2 ∧ r = -2)
theorem A_way_u {dk : zDk} {st : zSt} {x y r r' : Int32} (a : A_way dk st x y r) (b : A_way dk st x y r') : r = r' := by
  rcases a with ⟨a1, ⟨a2, a3⟩ | ⟨a2, a3⟩⟩ | ⟨a1, a2⟩ <;> rcases b with ⟨b1, ⟨b2, b3⟩ | ⟨b2, b3⟩⟩ | ⟨b1, b2⟩
  · rw [a3, b3]
  · exact absurd a2 b2
  · exact absurd a1 b1
  · exact absurd b2 a2
  · exact wy_u _ _ _ _ a3 b3
  · exact absurd a1 b1
  · exact absurd b1 a1
  · exact absurd b1 a1
  · rw [a2, b2]
section ZFb
variable {g : zG} {d : Nat} {h0 h : zH} {s : Nat → Value} {M : Nat → Nat → Int32} {L : Nat → Nat → Int64} {dk : zDk} {st : zSt} {un : List zSt} {tp : List Nat} {tr : Nat → zTr} {pi : Nat → zPi} {fl : Nat × Nat}
theorem fr_d {n : Nat} {B : Nat → Bool} {f : Nat → Option Nat} (h0 : 0 < n) (hn : n ≤ 6) (a : Snd n B f) (b : Fix n f) (hb : ∀ q, q < fct n → ∀ m, f q = some m → m < cf f (fct n)) {t : Nat} (ht : t < fct n) : (fr (f t) = 268435456 ∧ noD n B t) ∨ (fr (f t) < 720 ∧ isD n B t (fr (f t))) := by
  have z := fix_d h0 hn a b ht
  have cl : cf f (fct n) ≤ fct n := cnt_le _
  have := fct_le hn
  cases e : f t with
  | none => exact Or.inl ⟨rfl, z.2 e⟩
  | some m =>
    have := hb t ht m e
    exact Or.inr ⟨by show m < 720; omega, z.1 m e⟩
theorem c_toldFar {x : Int32} : Zm g d 0 0 mX12_toldFar [.int x] h (rI (if x = 268435456 then -1 else x) h) := by
  show Zw g d 0 0 mX12_toldFar 0 [some (.int x)] [] h _
  refine x_il0 dX12_toldFar_0 ?_
  refine x_ldcw kcX12_368 dX12_toldFar_1 ?_
  refine x_icmp_ne (tgt := 11) dX12_toldFar_4 rfl (fun q4 => ?_) (fun q4 => ?_)
  · skip
    refine x_il0 dX12_toldFar_11 ?_
    exact x_iret rfl rfl dX12_toldFar_12 ⟨by rw [if_neg q4], rfl⟩
  · skip
    refine x_iconst (v := (-1)) dX12_toldFar_7 rfl ?_
    refine x_goto (tgt := 12) dX12_toldFar_8 rfl ?_
    exact x_iret rfl rfl dX12_toldFar_12 ⟨by rw [if_pos q4], rfl⟩
theorem w_fewest {x : Int32} (I : MI h0 h dk st un tp tr pi fl) : Zm g (d + 7) 0 0 mX12_fewest [.ref 59, .int x] h (rIp (fun r h' => A_fewest dk st x r ∧ MI h0 h' dk st un tp tr pi fl)) := by
  obtain ⟨s, M, L, W, J⟩ := I
  obtain ⟨D, hn0, hn6, ho0, ho9, hng, hli, e0, e1, e2, m1, m2, m3, m4, m5, u1, u2, t1, t2, r1, hf⟩ := MJ.o J
  show Zw g (d + 7) 0 0 mX12_fewest 0 [some (.ref 59), some (.int x)] [] h _
  refine x_al0 rfl dX12_fewest_0 ?_
  refine x_iconst (v := nI 0) dX12_fewest_1 rfl ?_
  refine x_mpfJ W J fdX12_1 (by decide) rfl rfl zf_i dX12_fewest_2 (fun h W J => ?_)
  refine x_il1 dX12_fewest_5 ?_
  refine x_cs1I mX12_isAim_ok lkX12_369 (Nat.le_of_ble_eq_true rfl) (Nat.le_of_ble_eq_true rfl) dX12_fewest_6 j_isAim ?_
  refine x_if_eq (tgt := 23) dX12_fewest_9 rfl (fun q9 => ?_) (fun q9 => ?_)
  · skip
    first | (simp only [cmp_lt, cmp_gt, cmp_eq, zN_cge, zN_cle, Decidable.not_not] at q9) | (simp (disch := omega) only [zN_le, zN_lt, zN_0, zN_1, nI_toInt, zN_eq, zN_eq0, b2_z, b2_nz, Decidable.not_not, Int.not_lt, Int.not_le, zK0, zK1, zK2, zK3, zK5, zK7, zK8, zK9, zK10, zK19, zK20, zK40, zK99, zK100, zK199] at q9) | skip
    refine x_bipush (v := (-2)) dX12_fewest_23 rfl ?_
    exact x_iret rfl rfl dX12_fewest_25 ⟨_, rfl, Or.inr ⟨q9, rfl⟩, _, _, _, W, J⟩
  · skip
    first | (simp only [cmp_lt, cmp_gt, cmp_eq, zN_cge, zN_cle, Decidable.not_not] at q9) | (simp (disch := omega) only [zN_le, zN_lt, zN_0, zN_1, nI_toInt, zN_eq, zN_eq0, b2_z, b2_nz, Decidable.not_not, Int.not_lt, Int.not_le, zK0, zK1, zK2, zK3, zK5, zK7, zK8, zK9, zK10, zK19, zK20, zK40, zK99, zK100, zK199] at q9) | skip
    obtain ⟨k, hk, rfl⟩ := oneOf_ex q9
    refine x_al0 rfl dX12_fewest_12 ?_
    refine x_il1 dX12_fewest_13 ?_
    refine x_cv1Ip mX12_laysFar_ok lkX12_372 rfl (Nat.le_of_ble_eq_true rfl) (Nat.le_of_ble_eq_true rfl) dX12_fewest_14 W.hM  (j_laysFar W J hk) (fun r h hq => ?_)
    obtain ⟨f, ⟨s2, M2, L2, W, J, hT, hF, hb⟩, hS, hX, rfl⟩ := hq
    refine x_cs1I mX12_toldFar_ok lkX12_375 (Nat.le_of_ble_eq_true rfl) (Nat.le_of_ble_eq_true rfl) dX12_fewest_17 c_toldFar ?_
    refine x_goto (tgt := 25) dX12_fewest_20 rfl ?_
    refine x_iret rfl rfl dX12_fewest_25 ⟨_, rfl, Or.inl ⟨q9, ?_⟩, _, _, _, W, J⟩
    rw [show tn (nI k) = k from nI_clamp (by omega)]
    rcases fr_d hn0 hn6 hS hX hb m4 with ⟨c1, c2⟩ | ⟨c1, c2⟩
    · rw [c1, if_pos (show nI 268435456 = 268435456 from rfl)]; exact Or.inr ⟨c2, rfl⟩
    · rw [if_neg (fun z => by rw [show (268435456 : Int32) = nI 268435456 from rfl, nI_eq (by omega) (by decide)] at z; omega)]
      exact Or.inl ⟨_, c2, rfl⟩
theorem w_way {x y : Int32} (I : MI h0 h dk st un tp tr pi fl) : Zm g (d + 7) 0 0 mX12_way [.ref 59, .int x, .int y] h (rIp (fun r h' => A_way dk st x y r ∧ MI h0 h' dk st un tp tr pi fl)) := by
  obtain ⟨s, M, L, W, J⟩ := I
  obtain ⟨D, hn0, hn6, ho0, ho9, hng, hli, e0, e1, e2, m1, m2, m3, m4, m5, u1, u2, t1, t2, r1, hf⟩ := MJ.o J
  have npl := np_le hn6
  show Zw g (d + 7) 0 0 mX12_way 0 [some (.ref 59), some (.int x), some (.int y), none, none, none] [] h _
  refine x_al0 rfl dX12_way_0 ?_
  refine x_iconst (v := nI 0) dX12_way_1 rfl ?_
  refine x_mpfJ W J fdX12_1 (by decide) rfl rfl zf_i dX12_way_2 (fun h W J => ?_)
  refine x_il1 dX12_way_5 ?_
  refine x_cs1I mX12_isAim_ok lkX12_369 (Nat.le_of_ble_eq_true rfl) (Nat.le_of_ble_eq_true rfl) dX12_way_6 j_isAim ?_
  refine x_if_ne (tgt := 15) dX12_way_9 rfl (fun q9 => ?_) (fun q9 => ?_)
  · skip
    first | (simp only [cmp_lt, cmp_gt, cmp_eq, zN_cge, zN_cle, Decidable.not_not] at q9) | (simp (disch := omega) only [zN_le, zN_lt, zN_0, zN_1, nI_toInt, zN_eq, zN_eq0, b2_z, b2_nz, Decidable.not_not, Int.not_lt, Int.not_le, zK0, zK1, zK2, zK3, zK5, zK7, zK8, zK9, zK10, zK19, zK20, zK40, zK99, zK100, zK199] at q9) | skip
    refine x_il2 dX12_way_15 ?_
    refine x_if_ge (tgt := 22) dX12_way_16 rfl (fun q16 => ?_) (fun q16 => ?_)
    · skip
      obtain ⟨k, hk, rfl⟩ := oneOf_ex q9
      have y0 : ¬ y < 0 := fun z => absurd q16 (Int32.not_le.mpr z)
      obtain ⟨i, hi, rfl⟩ := nI_of y0
      have fin : ∀ r, wy dk.1 (soB dk st.2.1 k) i st.1 r → A_way dk st (nI k) (nI i) r := fun r z => Or.inl ⟨q9, Or.inr ⟨y0, by rw [show tn (nI k) = k from nI_clamp (by omega), show tn (nI i) = i from nI_clamp hi]; exact z⟩⟩
      refine x_al0 rfl dX12_way_22 ?_
      refine x_il1 dX12_way_23 ?_
      refine x_cv1Ip mX12_laysFar_ok lkX12_372 rfl (Nat.le_of_ble_eq_true rfl) (Nat.le_of_ble_eq_true rfl) dX12_way_24 W.hM  (j_laysFar W J hk) (fun r h hq => ?_)
      obtain ⟨f, ⟨s2, M2, L2, W, J, hT, hF, hb⟩, hS, hX, -⟩ := hq
      obtain ⟨D, hn0, hn6, ho0, ho9, hng, hli, e0, e1, e2, m1, m2, m3, m4, m5, u1, u2, t1, t2, r1, hf⟩ := MJ.o J
      refine x_pop rfl dX12_way_27 ?_
      refine x_al0 rfl dX12_way_28 ?_
      refine x_gm fdX12_13 W.hM (by decide) W.hF.f1 dX12_way_29 ?_
      refine x_bipush (v := nI 21) dX12_way_32 rfl ?_
      refine x_mld (len := 2868) W rfl rfl (by decide) (by omega) (by first | assumption | rfl) dX12_way_34 ?_
      refine x_is3 rfl dX12_way_35 ?_
      refine x_iconst (v := nI 0) dX12_way_36 rfl ?_
      refine x_is4 rfl dX12_way_37 ?_
      obtain ⟨hlet, hsm, hso, hth⟩ := id hT
      refine x_wh (fun (a : Nat × Nat × Option Value) => [some (.ref 59), some (.int (nI k)), some (.int (nI i)), some (.int (nI a.1)), some (.int (nI a.2.1)), a.2.2]) (fun a h' => h' = h ∧ a.1 < fct dk.1 ∧ a.2.1 ≤ i ∧ ∀ r, wy dk.1 (soB dk st.2.1 k) (i - a.2.1) a.1 r → wy dk.1 (soB dk st.2.1 k) i st.1 r) (fun a => fr (f a.1)) (st.1, 0, none) ⟨rfl, m4, Nat.zero_le _, fun r z => z⟩ (fun a h' hI ih => ?_)
      obtain ⟨q, nn, lv⟩ := a
      obtain ⟨rfl, hq, hnn, hw⟩ := hI
      simp only at hq hnn hw
      dsimp only
      have fd := fr_d hn0 hn6 hS hX hb hq
      refine x_al0 rfl dX12_way_39 ?_
      refine x_gm fdX12_61 W.hM (by decide) W.hF.f30 dX12_way_40 ?_
      refine x_il3 dX12_way_43 ?_
      refine x_mld (len := 720) W rfl rfl (by decide) (by omega) (hF q hq) dX12_way_44 ?_
      refine x_if_le (tgt := 130) dX12_way_45 rfl (fun q45 => ?_) (fun q45 => ?_)
      · skip
        first | (simp only [cmp_lt, cmp_gt, cmp_eq, zN_cge, zN_cle, Decidable.not_not] at q45) | (simp (disch := omega) only [zN_le, zN_lt, zN_0, zN_1, nI_toInt, zN_eq, zN_eq0, b2_z, b2_nz, Decidable.not_not, Int.not_lt, Int.not_le, zK0, zK1, zK2, zK3, zK5, zK7, zK8, zK9, zK10, zK19, zK20, zK40, zK99, zK100, zK199] at q45) | skip
        refine x_iconst (v := (-1)) dX12_way_130 rfl ?_
        refine x_iret rfl rfl dX12_way_131 ⟨_, rfl, fin _ (hw _ (wy_end ?_)), _, _, _, W, J⟩
        rcases fd with ⟨c1, c2⟩ | ⟨c1, c2⟩
        · exact Or.inr c2
        · rw [show fr (f q) = 0 by omega] at c2; exact Or.inl c2
      · skip
        first | (simp only [cmp_lt, cmp_gt, cmp_eq, zN_cge, zN_cle, Decidable.not_not] at q45) | (simp (disch := omega) only [zN_le, zN_lt, zN_0, zN_1, nI_toInt, zN_eq, zN_eq0, b2_z, b2_nz, Decidable.not_not, Int.not_lt, Int.not_le, zK0, zK1, zK2, zK3, zK5, zK7, zK8, zK9, zK10, zK19, zK20, zK40, zK99, zK100, zK199] at q45) | skip
        refine x_al0 rfl dX12_way_48 ?_
        refine x_gm fdX12_61 W.hM (by decide) W.hF.f30 dX12_way_49 ?_
        refine x_il3 dX12_way_52 ?_
        refine x_mld (len := 720) W rfl rfl (by decide) (by omega) (hF q hq) dX12_way_53 ?_
        refine x_ldcw kcX12_368 dX12_way_54 ?_
        rw [show (268435456 : Int32) = nI 268435456 from rfl]
        refine x_icmp_ge (tgt := 130) dX12_way_57 rfl (fun q57 => ?_) (fun q57 => ?_)
        · skip
          first | (simp only [cmp_lt, cmp_gt, cmp_eq, zN_cge, zN_cle, Decidable.not_not] at q57) | (simp (disch := omega) only [zN_le, zN_lt, zN_0, zN_1, nI_toInt, zN_eq, zN_eq0, b2_z, b2_nz, Decidable.not_not, Int.not_lt, Int.not_le, zK0, zK1, zK2, zK3, zK5, zK7, zK8, zK9, zK10, zK19, zK20, zK40, zK99, zK100, zK199] at q57) | skip
          refine x_iconst (v := (-1)) dX12_way_130 rfl ?_
          refine x_iret rfl rfl dX12_way_131 ⟨_, rfl, fin _ (hw _ (wy_end ?_)), _, _, _, W, J⟩
          rcases fd with ⟨c1, c2⟩ | ⟨c1, c2⟩
          · exact Or.inr c2
          · omega
        · skip
          first | (simp only [cmp_lt, cmp_gt, cmp_eq, zN_cge, zN_cle, Decidable.not_not] at q57) | (simp (disch := omega) only [zN_le, zN_lt, zN_0, zN_1, nI_toInt, zN_eq, zN_eq0, b2_z, b2_nz, Decidable.not_not, Int.not_lt, Int.not_le, zK0, zK1, zK2, zK3, zK5, zK7, zK8, zK9, zK10, zK19, zK20, zK40, zK99, zK100, zK199] at q57) | skip
          obtain ⟨m, em, dm⟩ : ∃ m, fr (f q) = m + 1 ∧ isD dk.1 (soB dk st.2.1 k) q (m + 1) := by
            rcases fd with ⟨c1, c2⟩ | ⟨c1, c2⟩
            · omega
            · exact ⟨fr (f q) - 1, by omega, by rw [show fr (f q) - 1 + 1 = fr (f q) by omega]; exact c2⟩
          have m720 : m < 720 := by rcases fd with ⟨c1, c2⟩ | ⟨c1, c2⟩ <;> omega
          obtain ⟨k1, hk1, dk1⟩ := isD_step hn0 hn6 hq dm
          refine x_iconst (v := nI 0) dX12_way_60 rfl ?_
          refine x_is5 rfl dX12_way_61 ?_
          refine x_wh (fun (j : Nat) => [some (.ref 59), some (.int (nI k)), some (.int (nI i)), some (.int (nI q)), some (.int (nI nn)), some (.int (nI j))]) (fun j h'' => h'' = h' ∧ j ≤ k1 ∧ ∀ j', j' < j → ¬ isD dk.1 (soB dk st.2.1 k) (swp dk.1 q j') m) (fun j => np dk.1 - j) 0 ⟨rfl, Nat.zero_le _, fun j' hj' => absurd hj' (Nat.not_lt_zero _)⟩ (fun j h'' hI ih2 => ?_)
          obtain ⟨rfl, hj, hno⟩ := hI
          have jl : j < np dk.1 := by omega
          have sl := swp_lt hn0 hn6 hq jl
          have fd2 := fr_d hn0 hn6 hS hX hb sl
          refine x_al0 rfl dX12_way_63 ?_
          refine x_gm fdX12_61 W.hM (by decide) W.hF.f30 dX12_way_64 ?_
          refine x_al0 rfl dX12_way_67 ?_
          refine x_gm fdX12_58 W.hM (by decide) W.hF.f29 dX12_way_68 ?_
          refine x_bipush (v := nI 15) dX12_way_71 rfl ?_
          refine x_il3 dX12_way_73 ?_
          first | refine x_imul (pk_mul _ _) dX12_way_74 ?_ | refine x_imul rfl dX12_way_74 ?_
          refine x_il5 dX12_way_75 ?_
          first | refine x_iadd (nI_add _ _) dX12_way_77 ?_ | refine x_iadd rfl dX12_way_77 ?_
          refine x_mld (len := 10800) W rfl rfl (by decide) (by omega) (hth q hq j jl) dX12_way_78 ?_
          refine x_mld (len := 720) W rfl rfl (by decide) (by omega) (hF _ sl) dX12_way_79 ?_
          refine x_al0 rfl dX12_way_80 ?_
          refine x_gm fdX12_61 W.hM (by decide) W.hF.f30 dX12_way_81 ?_
          refine x_il3 dX12_way_84 ?_
          refine x_mld (len := 720) W rfl rfl (by decide) (by omega) ((hF q hq).trans (congrArg nI em)) dX12_way_85 ?_
          refine x_iconst (v := nI 1) dX12_way_86 rfl ?_
          refine x_isub (pk_sub (by omega)) dX12_way_87 ?_
          rw [show m + 1 - 1 = m by omega]
          have f268 : fr (f (swp dk.1 q j)) ≤ 268435456 := by rcases fd2 with ⟨c1, c2⟩ | ⟨c1, c2⟩ <;> omega
          refine x_icmp_eq (tgt := 97) dX12_way_88 rfl (fun q88 => ?_) (fun q88 => ?_)
          · skip
            first | (simp only [cmp_lt, cmp_gt, cmp_eq, zN_cge, zN_cle, Decidable.not_not] at q88) | (simp (disch := omega) only [zN_le, zN_lt, zN_0, zN_1, nI_toInt, zN_eq, zN_eq0, b2_z, b2_nz, Decidable.not_not, Int.not_lt, Int.not_le, zK0, zK1, zK2, zK3, zK5, zK7, zK8, zK9, zK10, zK19, zK20, zK40, zK99, zK100, zK199] at q88) | skip
            have dj : isD dk.1 (soB dk st.2.1 k) (swp dk.1 q j) m := by
              rcases fd2 with ⟨c1, c2⟩ | ⟨c1, c2⟩
              · omega
              · rw [q88] at c2; exact c2
            have fk : fstK dk.1 (soB dk st.2.1 k) q j := ⟨m, dm, jl, dj, hno⟩
            refine x_il4 dX12_way_97 ?_
            refine x_il2 dX12_way_99 ?_
            refine x_icmp_ne (tgt := 111) dX12_way_100 rfl (fun q100 => ?_) (fun q100 => ?_)
            · skip
              first | (simp only [cmp_lt, cmp_gt, cmp_eq, zN_cge, zN_cle, Decidable.not_not] at q100) | (simp (disch := omega) only [zN_le, zN_lt, zN_0, zN_1, nI_toInt, zN_eq, zN_eq0, b2_z, b2_nz, Decidable.not_not, Int.not_lt, Int.not_le, zK0, zK1, zK2, zK3, zK5, zK7, zK8, zK9, zK10, zK19, zK20, zK40, zK99, zK100, zK199] at q100) | skip
              refine x_al0 rfl dX12_way_111 ?_
              refine x_gm fdX12_58 W.hM (by decide) W.hF.f29 dX12_way_112 ?_
              refine x_bipush (v := nI 15) dX12_way_115 rfl ?_
              refine x_il3 dX12_way_117 ?_
              first | refine x_imul (pk_mul _ _) dX12_way_118 ?_ | refine x_imul rfl dX12_way_118 ?_
              refine x_il5 dX12_way_119 ?_
              first | refine x_iadd (nI_add _ _) dX12_way_121 ?_ | refine x_iadd rfl dX12_way_121 ?_
              refine x_mld (len := 10800) W rfl rfl (by decide) (by omega) (hth q hq j jl) dX12_way_122 ?_
              refine x_is3 rfl dX12_way_123 ?_
              first | refine x_ii4 rfl (nI_1 _) dX12_way_124 ?_ | refine x_ii4 rfl rfl dX12_way_124 ?_
              refine x_goto (tgt := 39) dX12_way_127 rfl ?_
              refine ih (swp dk.1 q j, nn + 1, _) _ (by simp only; omega) ⟨rfl, sl, by simp only; omega, fun r z => hw r ?_⟩
              rw [show i - nn = i - (nn + 1) + 1 by omega]
              exact Or.inl ⟨j, fk, z⟩
            · skip
              first | (simp only [cmp_lt, cmp_gt, cmp_eq, zN_cge, zN_cle, Decidable.not_not] at q100) | (simp (disch := omega) only [zN_le, zN_lt, zN_0, zN_1, nI_toInt, zN_eq, zN_eq0, b2_z, b2_nz, Decidable.not_not, Int.not_lt, Int.not_le, zK0, zK1, zK2, zK3, zK5, zK7, zK8, zK9, zK10, zK19, zK20, zK40, zK99, zK100, zK199] at q100) | skip
              refine x_al0 rfl dX12_way_103 ?_
              refine x_gm fdX12_52 W.hM (by decide) W.hF.f27 dX12_way_104 ?_
              refine x_il5 dX12_way_107 ?_
              refine x_mld (len := 15) W rfl rfl (by decide) (by omega) (hso j jl) dX12_way_109 ?_
              exact x_iret rfl rfl dX12_way_110 ⟨_, rfl, fin _ (hw _ (by rw [show i - nn = 0 by omega]; exact Or.inl ⟨j, fk, rfl⟩)), _, _, _, W, J⟩
          · skip
            first | (simp only [cmp_lt, cmp_gt, cmp_eq, zN_cge, zN_cle, Decidable.not_not] at q88) | (simp (disch := omega) only [zN_le, zN_lt, zN_0, zN_1, nI_toInt, zN_eq, zN_eq0, b2_z, b2_nz, Decidable.not_not, Int.not_lt, Int.not_le, zK0, zK1, zK2, zK3, zK5, zK7, zK8, zK9, zK10, zK19, zK20, zK40, zK99, zK100, zK199] at q88) | skip
            first | refine x_ii5 rfl (nI_1 _) dX12_way_91 ?_ | refine x_ii5 rfl rfl dX12_way_91 ?_
            refine x_goto (tgt := 63) dX12_way_94 rfl ?_
            have dj : ¬ isD dk.1 (soB dk st.2.1 k) (swp dk.1 q j) m := fun z => by
              rcases fd2 with ⟨c1, c2⟩ | ⟨c1, c2⟩
              · exact isD_no z c2
              · exact q88 (isD_u c2 z)
            refine ih2 (j + 1) _ (by omega) ⟨rfl, ?_, fun j' hj' => ?_⟩
            · rcases Nat.lt_or_ge j k1 with c | c
              · omega
              · exact absurd dk1 (by rw [show k1 = j by omega]; exact dj)
            · by_cases c : j' = j
              · rw [c]; exact dj
              · exact hno j' (by omega)
    · skip
      refine x_bipush (v := (-3)) dX12_way_19 rfl ?_
      exact x_iret rfl rfl dX12_way_21 ⟨_, rfl, Or.inl ⟨q9, Or.inl ⟨Int32.not_le.mp q16, rfl⟩⟩, _, _, _, W, J⟩
  · skip
    first | (simp only [cmp_lt, cmp_gt, cmp_eq, zN_cge, zN_cle, Decidable.not_not] at q9) | (simp (disch := omega) only [zN_le, zN_lt, zN_0, zN_1, nI_toInt, zN_eq, zN_eq0, b2_z, b2_nz, Decidable.not_not, Int.not_lt, Int.not_le, zK0, zK1, zK2, zK3, zK5, zK7, zK8, zK9, zK10, zK19, zK20, zK40, zK99, zK100, zK199] at q9) | skip
    refine x_bipush (v := (-2)) dX12_way_12 rfl ?_
    exact x_iret rfl rfl dX12_way_14 ⟨_, rfl, Or.inr ⟨q9, rfl⟩, _, _, _, W, J⟩
end ZFb

