/-! trays: numbers, write, lists on both sides -/
def mkL (n : Nat) (f : Nat → Int64) : List Int64 := (List.range n).map f
theorem mkL_len {n : Nat} {f : Nat → Int64} : (mkL n f).length = n := by simp [mkL]
theorem mkL_get {n i : Nat} {f : Nat → Int64} (h : i < n) : (mkL n f).getD i 0 = f i := by simp [mkL, List.getD_eq_getElem?_getD, h]
def upT (tr : Nat → zTr) (k : Nat) (q : zTr) : Nat → zTr := fun t => if t = k then q else tr t
def cutS (so : Nat) (v : Int64) : Int64 := if so = 0 then v.toInt32.toInt8.toInt32.toInt64 else if so = 1 then v.toInt32.toInt16.toInt32.toInt64 else if so = 2 then v.toInt32.toInt64 else v
theorem cutS_n {so k : Nat} (hk : k < 6) : cutS so (lN k) = lN k := by
  have : ∀ k, k < 6 → (lN k).toInt32.toInt8.toInt32.toInt64 = lN k ∧ (lN k).toInt32.toInt16.toInt32.toInt64 = lN k ∧ (lN k).toInt32.toInt64 = lN k := by decide
  obtain ⟨a, b, c⟩ := this k hk
  unfold cutS
  split
  · exact a
  · split
    · exact b
    · split
      · exact c
      · rfl
def D_numbers (tr : Nat → zTr) (x y z : Int32) : Int32 × (Nat → zTr) := if oneOf x 4 ∧ oneOf y 4 then (if 0 ≤ z.toInt ∧ z.toInt ≤ 40 then (0, upT tr (tn x) (some (tn y, mkL (tn z) (fun _ => 0)))) else (-3, tr)) else (-2, tr)
def wrQ (tr : Nat → zTr) (k : Nat) (q : Nat × List Int64) (y : Int32) (v : Int64) : Int64 × (Nat → zTr) := if oneOf y q.2.length then (cutS q.1 v, upT tr k (some (q.1, mkL q.2.length (fun i => if i = tn y then cutS q.1 v else q.2.getD i 0)))) else (-7, tr)
def D_write (tr : Nat → zTr) (x y : Int32) (v : Int64) : Int64 × (Nat → zTr) := if oneOf x 4 then (match tr (tn x) with | none => (-6, tr) | some q => wrQ tr (tn x) q y v) else (-2, tr)
def lsQ (dk : zDk) (tr : Nat → zTr) (k : Nat) (q : Nat × List Int64) (y : Int32) : Int32 × (Nat → zTr) := if oneOf y (fct dk.1) then (nI (min q.2.length dk.1), upT tr k (some (q.1, mkL q.2.length (fun i => if i < min q.2.length dk.1 then lN (nm dk.1 (tn y) i) else q.2.getD i 0)))) else (-3, tr)
def D_lists (dk : zDk) (tr : Nat → zTr) (x y : Int32) : Int32 × (Nat → zTr) := if oneOf x 4 then (match tr (tn x) with | none => (-6, tr) | some q => lsQ dk tr (tn x) q y) else (-2, tr)
section ZMt
variable {g : zG} {d : Nat} {h0 h : zH} {s : Nat → Value} {M M' : Nat → Nat → Int32} {L L' : Nat → Nat → Int64} {dk : zDk} {st : zSt} {un : List zSt} {tp : List Nat} {tr : Nat → zTr} {pi : Nat → zPi} {fl : Nat × Nat}
theorem MJ.trs {tr' : Nat → zTr} (J : MJ s M L dk st un tp tr pi fl) (hM : ∀ i, i ≠ 80 → i ≠ 81 → M' i = M i) (hT : MTr M' L' tr') : MJ s M' L' dk st un tp tr' pi fl := by
  obtain ⟨a1, a2, a3, a4, -, a6, a7⟩ := J
  refine ⟨?_, ?_, ?_, ?_, hT, ?_, a7⟩
  · unfold MDk at a1 ⊢
    rw [hM 60 (by decide) (by decide), hM 64 (by decide) (by decide)]
    exact a1
  · rw [hM 60 (by decide) (by decide)]; exact a2
  · rw [hM 60 (by decide) (by decide)]; exact a3
  · unfold MTp; rw [hM 62 (by decide) (by decide)]; exact a4
  · unfold MPi; rw [hM 60 (by decide) (by decide), hM 61 (by decide) (by decide)]; exact a6
/-- one tray has changed -/
theorem MTr.up {k so n : Nat} {f : Nat → Int64} (J : MTr M L tr) (hk : k < 4) (h80 : M' 80 k = nI so) (hs : so < 4) (h81 : M' 81 k = nI n) (hn : n ≤ 40) (hv : ∀ i, i < n → L' 82 (40 * k + i) = f i) (o80 : ∀ t, t ≠ k → M' 80 t = M 80 t) (o81 : ∀ t, t ≠ k → M' 81 t = M 81 t) (oL : ∀ t i, t < 4 → t ≠ k → i < 40 → L' 82 (40 * t + i) = L 82 (40 * t + i)) : MTr M' L' (upT tr k (some (so, mkL n f))) := by
  intro t ht
  unfold upT
  by_cases z : t = k
  · rw [if_pos z]
    subst z
    exact ⟨h80, hs, by rw [mkL_len]; exact h81, by rw [mkL_len]; exact hn, fun i hi => by rw [mkL_len] at hi; rw [mkL_get hi]; exact hv i hi⟩
  · rw [if_neg z]
    have b := J t ht
    split
    · next q => rw [q] at b; rw [o80 t z]; exact b
    · next p q =>
      rw [q] at b
      exact ⟨by rw [o80 t z]; exact b.1, b.2.1, by rw [o81 t z]; exact b.2.2.1, b.2.2.2.1, fun i hi => by rw [oL t i ht z (by have := b.2.2.2.1; omega)]; exact b.2.2.2.2 i hi⟩
theorem c_cut {so : Nat} {v : Int64} (hs : so < 4) : Zm g d 0 0 mX12_cut [.long v, .int (nI so)] h (rL (cutS so v) h) := by
  show Zw g d 0 0 mX12_cut 0 [some (.long v), none, some (.int (nI so))] [] h _
  refine x_il2 dX12_cut_0 ?_
  refine x_if_ne (tgt := 11) dX12_cut_1 rfl (fun q1 => ?_) (fun q1 => ?_)
  · skip
    first | (simp only [cmp_lt, cmp_gt, cmp_eq, zN_cge, zN_cle, Decidable.not_not] at q1) | (simp (disch := omega) only [zN_le, zN_lt, zN_0, zN_1, nI_toInt, zN_eq, zN_eq0, b2_z, b2_nz, Decidable.not_not, Int.not_lt, Int.not_le, zK0, zK1, zK2, zK3, zK5, zK7, zK8, zK9, zK10, zK19, zK20, zK40, zK99, zK100, zK199] at q1) | skip
    refine x_il2 dX12_cut_11 ?_
    refine x_iconst (v := nI 1) dX12_cut_12 rfl ?_
    refine x_icmp_ne (tgt := 23) dX12_cut_13 rfl (fun q13 => ?_) (fun q13 => ?_)
    · skip
      first | (simp only [cmp_lt, cmp_gt, cmp_eq, zN_cge, zN_cle, Decidable.not_not] at q13) | (simp (disch := omega) only [zN_le, zN_lt, zN_0, zN_1, nI_toInt, zN_eq, zN_eq0, b2_z, b2_nz, Decidable.not_not, Int.not_lt, Int.not_le, zK0, zK1, zK2, zK3, zK5, zK7, zK8, zK9, zK10, zK19, zK20, zK40, zK99, zK100, zK199] at q13) | skip
      refine x_il2 dX12_cut_23 ?_
      refine x_iconst (v := nI 2) dX12_cut_24 rfl ?_
      refine x_icmp_ne (tgt := 34) dX12_cut_25 rfl (fun q25 => ?_) (fun q25 => ?_)
      · skip
        first | (simp only [cmp_lt, cmp_gt, cmp_eq, zN_cge, zN_cle, Decidable.not_not] at q25) | (simp (disch := omega) only [zN_le, zN_lt, zN_0, zN_1, nI_toInt, zN_eq, zN_eq0, b2_z, b2_nz, Decidable.not_not, Int.not_lt, Int.not_le, zK0, zK1, zK2, zK3, zK5, zK7, zK8, zK9, zK10, zK19, zK20, zK40, zK99, zK100, zK199] at q25) | skip
        refine x_ll0 dX12_cut_34 ?_
        exact x_lret rfl dX12_cut_35 ⟨by rw [cutS, if_neg q1, if_neg q13, if_neg q25], rfl⟩
      · skip
        first | (simp only [cmp_lt, cmp_gt, cmp_eq, zN_cge, zN_cle, Decidable.not_not] at q25) | (simp (disch := omega) only [zN_le, zN_lt, zN_0, zN_1, nI_toInt, zN_eq, zN_eq0, b2_z, b2_nz, Decidable.not_not, Int.not_lt, Int.not_le, zK0, zK1, zK2, zK3, zK5, zK7, zK8, zK9, zK10, zK19, zK20, zK40, zK99, zK100, zK199] at q25) | skip
        refine x_ll0 dX12_cut_28 ?_
        refine x_l2i (rfl) dX12_cut_29 ?_
        refine x_i2l (rfl) dX12_cut_30 ?_
        refine x_goto (tgt := 35) dX12_cut_31 rfl ?_
        exact x_lret rfl dX12_cut_35 ⟨by rw [cutS, if_neg q1, if_neg q13, if_pos q25], rfl⟩
    · skip
      first | (simp only [cmp_lt, cmp_gt, cmp_eq, zN_cge, zN_cle, Decidable.not_not] at q13) | (simp (disch := omega) only [zN_le, zN_lt, zN_0, zN_1, nI_toInt, zN_eq, zN_eq0, b2_z, b2_nz, Decidable.not_not, Int.not_lt, Int.not_le, zK0, zK1, zK2, zK3, zK5, zK7, zK8, zK9, zK10, zK19, zK20, zK40, zK99, zK100, zK199] at q13) | skip
      refine x_ll0 dX12_cut_16 ?_
      refine x_l2i (rfl) dX12_cut_17 ?_
      refine x_i2s (rfl) dX12_cut_18 ?_
      refine x_i2l (rfl) dX12_cut_19 ?_
      refine x_goto (tgt := 35) dX12_cut_20 rfl ?_
      exact x_lret rfl dX12_cut_35 ⟨by rw [cutS, if_neg q1, if_pos q13], rfl⟩
  · skip
    first | (simp only [cmp_lt, cmp_gt, cmp_eq, zN_cge, zN_cle, Decidable.not_not] at q1) | (simp (disch := omega) only [zN_le, zN_lt, zN_0, zN_1, nI_toInt, zN_eq, zN_eq0, b2_z, b2_nz, Decidable.not_not, Int.not_lt, Int.not_le, zK0, zK1, zK2, zK3, zK5, zK7, zK8, zK9, zK10, zK19, zK20, zK40, zK99, zK100, zK199] at q1) | skip
    refine x_ll0 dX12_cut_4 ?_
    refine x_l2i (rfl) dX12_cut_5 ?_
    refine x_i2b (rfl) dX12_cut_6 ?_
    refine x_i2l (rfl) dX12_cut_7 ?_
    refine x_goto (tgt := 35) dX12_cut_8 rfl ?_
    exact x_lret rfl dX12_cut_35 ⟨by rw [cutS, if_pos q1], rfl⟩
theorem w_numbers {x y z : Int32} (I : MI h0 h dk st un tp tr pi fl) : Zm g (d + 2) 0 0 mX12_numbers [.ref 59, .int x, .int y, .int z] h (rIp (fun r h' => r = (D_numbers tr x y z).1 ∧ MI h0 h' dk st un tp (D_numbers tr x y z).2 pi fl)) := by
  obtain ⟨s, M, L, W, J⟩ := I
  have e4 : ∀ x : Int32, oneOf x 4 ↔ 0 ≤ x.toInt ∧ x.toInt ≤ 3 := fun x => by
    unfold oneOf
    omega
  show Zw g (d + 2) 0 0 mX12_numbers 0 [some (.ref 59), some (.int x), some (.int y), some (.int z), none] [] h _
  refine x_al0 rfl dX12_numbers_0 ?_
  refine x_iconst (v := nI 0) dX12_numbers_1 rfl ?_
  refine x_mpfJ W J fdX12_1 (by decide) rfl rfl zf_i dX12_numbers_2 (fun h W J => ?_)
  refine x_il1 dX12_numbers_5 ?_
  refine x_i2l (rfl) dX12_numbers_6 ?_
  refine x_lconst (v := 0) dX12_numbers_7 rfl ?_
  refine x_ldc2 kcX12_312 dX12_numbers_8 ?_
  refine x_cs3I mX12_within_ok lkX12_157 (Nat.le_of_ble_eq_true rfl) (Nat.le_of_ble_eq_true rfl) dX12_numbers_11 j_within ?_
  refine x_if_eq (tgt := 29) dX12_numbers_14 rfl (fun q14 => ?_) (fun q14 => ?_)
  · skip
    first | (simp only [cmp_lt, cmp_gt, cmp_eq, zN_cge, zN_cle, Decidable.not_not] at q14) | (simp (disch := omega) only [zN_le, zN_lt, zN_0, zN_1, nI_toInt, zN_eq, zN_eq0, b2_z, b2_nz, Decidable.not_not, Int.not_lt, Int.not_le, zK0, zK1, zK2, zK3, zK5, zK7, zK8, zK9, zK10, zK19, zK20, zK40, zK99, zK100, zK199] at q14) | skip
    refine x_bipush (v := (-2)) dX12_numbers_29 rfl ?_
    exact x_iret rfl rfl dX12_numbers_31 ⟨_, rfl, by rw [D_numbers, if_neg (fun c => q14 ((e4 _).mp c.1))], by rw [D_numbers, if_neg (fun c => q14 ((e4 _).mp c.1))]; exact ⟨_, _, _, W, J⟩⟩
  · skip
    first | (simp only [cmp_lt, cmp_gt, cmp_eq, zN_cge, zN_cle, Decidable.not_not] at q14) | (simp (disch := omega) only [zN_le, zN_lt, zN_0, zN_1, nI_toInt, zN_eq, zN_eq0, b2_z, b2_nz, Decidable.not_not, Int.not_lt, Int.not_le, zK0, zK1, zK2, zK3, zK5, zK7, zK8, zK9, zK10, zK19, zK20, zK40, zK99, zK100, zK199] at q14) | skip
    refine x_il2 dX12_numbers_17 ?_
    refine x_i2l (rfl) dX12_numbers_18 ?_
    refine x_lconst (v := 0) dX12_numbers_19 rfl ?_
    refine x_ldc2 kcX12_312 dX12_numbers_20 ?_
    refine x_cs3I mX12_within_ok lkX12_157 (Nat.le_of_ble_eq_true rfl) (Nat.le_of_ble_eq_true rfl) dX12_numbers_23 j_within ?_
    refine x_if_ne (tgt := 32) dX12_numbers_26 rfl (fun q26 => ?_) (fun q26 => ?_)
    · skip
      first | (simp only [cmp_lt, cmp_gt, cmp_eq, zN_cge, zN_cle, Decidable.not_not] at q26) | (simp (disch := omega) only [zN_le, zN_lt, zN_0, zN_1, nI_toInt, zN_eq, zN_eq0, b2_z, b2_nz, Decidable.not_not, Int.not_lt, Int.not_le, zK0, zK1, zK2, zK3, zK5, zK7, zK8, zK9, zK10, zK19, zK20, zK40, zK99, zK100, zK199] at q26) | skip
      have c : oneOf x 4 ∧ oneOf y 4 := ⟨(e4 _).mpr q14, (e4 _).mpr q26⟩
      refine x_il3 dX12_numbers_32 ?_
      refine x_i2l (rfl) dX12_numbers_33 ?_
      refine x_lconst (v := 0) dX12_numbers_34 rfl ?_
      refine x_ldc2 kcX12_330 dX12_numbers_35 ?_
      refine x_cs3I mX12_within_ok lkX12_157 (Nat.le_of_ble_eq_true rfl) (Nat.le_of_ble_eq_true rfl) dX12_numbers_38 j_within ?_
      refine x_if_ne (tgt := 47) dX12_numbers_41 rfl (fun q41 => ?_) (fun q41 => ?_)
      · skip
        first | (simp only [cmp_lt, cmp_gt, cmp_eq, zN_cge, zN_cle, Decidable.not_not] at q41) | (simp (disch := omega) only [zN_le, zN_lt, zN_0, zN_1, nI_toInt, zN_eq, zN_eq0, b2_z, b2_nz, Decidable.not_not, Int.not_lt, Int.not_le, zK0, zK1, zK2, zK3, zK5, zK7, zK8, zK9, zK10, zK19, zK20, zK40, zK99, zK100, zK199] at q41) | skip
        unfold D_numbers
        rw [if_pos c, if_pos q41]
        obtain ⟨k, hk, rfl⟩ := oneOf_ex c.1
        obtain ⟨so, hso, rfl⟩ := oneOf_ex c.2
        obtain ⟨n, -, hn, rfl⟩ := rng_ex (a := 0) (b := 40) q41 (by decide)
        rw [show tn (nI k) = k from nI_clamp (by omega), show tn (nI so) = so from nI_clamp (by omega), show tn (nI n) = n from nI_clamp (by omega)]
        replace W := W.u 80
        refine x_al0 rfl dX12_numbers_47 ?_
        refine x_gm fdX12_79 W.hM (by decide) W.hF.f38 dX12_numbers_48 ?_
        refine x_il1 dX12_numbers_51 ?_
        refine x_il2 dX12_numbers_52 ?_
        refine x_mstU (len := 4) W rfl rfl (by decide) (by omega) dX12_numbers_53 (fun h W => ?_)
        replace W := W.u 81
        refine x_al0 rfl dX12_numbers_54 ?_
        refine x_gm fdX12_82 W.hM (by decide) W.hF.f39 dX12_numbers_55 ?_
        refine x_il1 dX12_numbers_58 ?_
        refine x_il3 dX12_numbers_59 ?_
        refine x_mstU (len := 4) W rfl rfl (by decide) (by omega) dX12_numbers_60 (fun h W => ?_)
        refine x_iconst (v := nI 0) dX12_numbers_61 rfl ?_
        refine x_is4 rfl dX12_numbers_62 ?_
        refine x_for (e := n) (fun i => [some (.ref 59), some (.int (nI k)), some (.int (nI so)), some (.int (nI n)), some (.int (nI i))]) (fun i h => ∃ l, MW h0 h _ _ (upM L 82 l) ∧ ∀ j, j < 160 → l j = if 40 * k ≤ j ∧ j < 40 * k + i then 0 else L 82 j) 0 (by omega) ⟨L 82, by rw [upM_self]; exact W, fun j hj => by rw [if_neg (by omega)]⟩ (fun h hI => ?_) (fun i h hi hI ih => ?_)
        · obtain ⟨l, W, hl⟩ := hI
          refine x_il4 dX12_numbers_64 ?_
          refine x_il3 dX12_numbers_66 ?_
          refine x_icmp_ge (tgt := 89) dX12_numbers_67 rfl (fun q67 => ?_) (fun q67 => ?_)
          · skip
            first | (simp only [cmp_lt, cmp_gt, cmp_eq, zN_cge, zN_cle, Decidable.not_not] at q67) | (simp (disch := omega) only [zN_le, zN_lt, zN_0, zN_1, nI_toInt, zN_eq, zN_eq0, b2_z, b2_nz, Decidable.not_not, Int.not_lt, Int.not_le, zK0, zK1, zK2, zK3, zK5, zK7, zK8, zK9, zK10, zK19, zK20, zK40, zK99, zK100, zK199] at q67) | skip
            refine x_iconst (v := nI 0) dX12_numbers_89 rfl ?_
            refine x_iret rfl rfl dX12_numbers_90 ⟨_, rfl, rfl, _, _, _, W, ?_⟩
            refine J.trs (fun i a b => (upM_ne b).trans (upM_ne a)) (MTr.up J.2.2.2.2.1 hk pk_us hso pk_us hn (fun i hi => (hl _ (by omega)).trans (if_pos (by omega))) (fun t ht => pk_un ht) (fun t ht => pk_un ht) (fun t i h4 ht hi => ?_))
            show l (40 * t + i) = _
            rw [hl _ (by omega), if_neg (by omega)]
          · skip
            first | (simp only [cmp_lt, cmp_gt, cmp_eq, zN_cge, zN_cle, Decidable.not_not] at q67) | (simp (disch := omega) only [zN_le, zN_lt, zN_0, zN_1, nI_toInt, zN_eq, zN_eq0, b2_z, b2_nz, Decidable.not_not, Int.not_lt, Int.not_le, zK0, zK1, zK2, zK3, zK5, zK7, zK8, zK9, zK10, zK19, zK20, zK40, zK99, zK100, zK199] at q67) | skip
            omega
        · obtain ⟨l, W, hl⟩ := hI
          refine x_il4 dX12_numbers_64 ?_
          refine x_il3 dX12_numbers_66 ?_
          refine x_icmp_ge (tgt := 89) dX12_numbers_67 rfl (fun q67 => ?_) (fun q67 => ?_)
          · skip
            first | (simp only [cmp_lt, cmp_gt, cmp_eq, zN_cge, zN_cle, Decidable.not_not] at q67) | (simp (disch := omega) only [zN_le, zN_lt, zN_0, zN_1, nI_toInt, zN_eq, zN_eq0, b2_z, b2_nz, Decidable.not_not, Int.not_lt, Int.not_le, zK0, zK1, zK2, zK3, zK5, zK7, zK8, zK9, zK10, zK19, zK20, zK40, zK99, zK100, zK199] at q67) | skip
            omega
          · skip
            first | (simp only [cmp_lt, cmp_gt, cmp_eq, zN_cge, zN_cle, Decidable.not_not] at q67) | (simp (disch := omega) only [zN_le, zN_lt, zN_0, zN_1, nI_toInt, zN_eq, zN_eq0, b2_z, b2_nz, Decidable.not_not, Int.not_lt, Int.not_le, zK0, zK1, zK2, zK3, zK5, zK7, zK8, zK9, zK10, zK19, zK20, zK40, zK99, zK100, zK199] at q67) | skip
            refine x_al0 rfl dX12_numbers_70 ?_
            refine x_gm fdX12_85 W.hM (by decide) W.hF.f40 dX12_numbers_71 ?_
            refine x_bipush (v := nI 40) dX12_numbers_74 rfl ?_
            refine x_il1 dX12_numbers_76 ?_
            first | refine x_imul (pk_mul _ _) dX12_numbers_77 ?_ | refine x_imul rfl dX12_numbers_77 ?_
            refine x_il4 dX12_numbers_78 ?_
            first | refine x_iadd (nI_add _ _) dX12_numbers_80 ?_ | refine x_iadd rfl dX12_numbers_80 ?_
            refine x_lconst (v := 0) dX12_numbers_81 rfl ?_
            refine x_mstl (len := 160) W rfl rfl (by decide) (by omega) dX12_numbers_82 (fun h W => ?_)
            first | refine x_ii4 rfl (nI_1 _) dX12_numbers_83 ?_ | refine x_ii4 rfl rfl dX12_numbers_83 ?_
            refine x_goto (tgt := 64) dX12_numbers_86 rfl ?_
            refine ih _ ⟨_, by rw [upM_upM, upM_eq] at W; exact W, fun j hj => ?_⟩
            by_cases c : j = 40 * k + i
            · rw [c, pk_uLs, if_pos (by omega)]
            · rw [pk_uLn c, hl j hj]
              by_cases c2 : 40 * k ≤ j ∧ j < 40 * k + i
              · rw [if_pos c2, if_pos (by omega)]
              · rw [if_neg c2, if_neg (by omega)]
      · skip
        first | (simp only [cmp_lt, cmp_gt, cmp_eq, zN_cge, zN_cle, Decidable.not_not] at q41) | (simp (disch := omega) only [zN_le, zN_lt, zN_0, zN_1, nI_toInt, zN_eq, zN_eq0, b2_z, b2_nz, Decidable.not_not, Int.not_lt, Int.not_le, zK0, zK1, zK2, zK3, zK5, zK7, zK8, zK9, zK10, zK19, zK20, zK40, zK99, zK100, zK199] at q41) | skip
        refine x_bipush (v := (-3)) dX12_numbers_44 rfl ?_
        exact x_iret rfl rfl dX12_numbers_46 ⟨_, rfl, by rw [D_numbers, if_pos c, if_neg q41], by rw [D_numbers, if_pos c, if_neg q41]; exact ⟨_, _, _, W, J⟩⟩
    · skip
      first | (simp only [cmp_lt, cmp_gt, cmp_eq, zN_cge, zN_cle, Decidable.not_not] at q26) | (simp (disch := omega) only [zN_le, zN_lt, zN_0, zN_1, nI_toInt, zN_eq, zN_eq0, b2_z, b2_nz, Decidable.not_not, Int.not_lt, Int.not_le, zK0, zK1, zK2, zK3, zK5, zK7, zK8, zK9, zK10, zK19, zK20, zK40, zK99, zK100, zK199] at q26) | skip
      refine x_bipush (v := (-2)) dX12_numbers_29 rfl ?_
      exact x_iret rfl rfl dX12_numbers_31 ⟨_, rfl, by rw [D_numbers, if_neg (fun c => q26 ((e4 _).mp c.2))], by rw [D_numbers, if_neg (fun c => q26 ((e4 _).mp c.2))]; exact ⟨_, _, _, W, J⟩⟩
theorem noT_eq {x : Int32} {α : Type} {a : α} {f : Nat × List Int64 → α} {b : α} (q7 : ¬ noT tr x = 0) : (noT tr x = -2 ∧ (if oneOf x 4 then (match tr (tn x) with | none => a | some q => f q) else b) = b) ∨ (noT tr x = -6 ∧ (if oneOf x 4 then (match tr (tn x) with | none => a | some q => f q) else b) = a) := by
  unfold noT at q7 ⊢
  by_cases z : oneOf x 4
  · rw [if_pos z] at q7 ⊢
    rw [if_pos z]
    cases z2 : tr (tn x) with
    | none => exact Or.inr ⟨rfl, rfl⟩
    | some q => rw [z2] at q7; exact absurd rfl q7
  · rw [if_neg z, if_neg z]
    exact Or.inl ⟨rfl, rfl⟩
theorem w_write {x y : Int32} {v : Int64} (I : MI h0 h dk st un tp tr pi fl) : Zm g (d + 2) 0 0 mX12_write [.ref 59, .int x, .int y, .long v] h (rLp (fun r h' => r = (D_write tr x y v).1 ∧ MI h0 h' dk st un tp (D_write tr x y v).2 pi fl)) := by
  obtain ⟨s, M, L, W, J⟩ := I
  show Zw g (d + 2) 0 0 mX12_write 0 [some (.ref 59), some (.int x), some (.int y), some (.long v), none, none] [] h _
  refine x_al0 rfl dX12_write_0 ?_
  refine x_iconst (v := nI 0) dX12_write_1 rfl ?_
  refine x_mpfJ W J fdX12_1 (by decide) rfl rfl zf_i dX12_write_2 (fun h W J => ?_)
  refine x_al0 rfl dX12_write_5 ?_
  refine x_il1 dX12_write_6 ?_
  refine x_cv1I mX12_noTray_ok lkX12_314 rfl (Nat.le_of_ble_eq_true rfl) (Nat.le_of_ble_eq_true rfl) dX12_write_7 W.hM  (j_noTray W J) ?_
  refine x_is5 rfl dX12_write_10 ?_
  refine x_il5 dX12_write_12 ?_
  refine x_if_eq (tgt := 21) dX12_write_14 rfl (fun q14 => ?_) (fun q14 => ?_)
  · skip
    obtain ⟨x4, q, hq0⟩ := noT_0 q14
    have eD : D_write tr x y v = wrQ tr (tn x) q y v := by rw [D_write, if_pos x4, hq0]
    rw [eD]
    obtain ⟨k, hk, rfl⟩ := oneOf_ex x4
    rw [show tn (nI k) = k from nI_clamp (by omega)] at hq0 ⊢
    obtain ⟨b1, b2', b3, b4, b5⟩ := J.tray hk hq0
    have ey : oneOf y q.2.length ↔ (0 ≤ y.toInt ∧ y.toInt ≤ (nI q.2.length - nI 1).toInt64.toInt) := by
      rcases Nat.eq_zero_or_pos q.2.length with z | z
      · rw [z]
        have : (nI 0 - nI 1).toInt64.toInt = -1 := by decide
        rw [this]
        unfold oneOf
        omega
      · rw [show (nI q.2.length - nI 1).toInt64.toInt = (q.2.length : Int) - 1 from i64_nm1 z (by omega)]
        unfold oneOf
        omega
    refine x_il2 dX12_write_21 ?_
    refine x_i2l (rfl) dX12_write_22 ?_
    refine x_lconst (v := 0) dX12_write_23 rfl ?_
    refine x_al0 rfl dX12_write_24 ?_
    refine x_gm fdX12_82 W.hM (by decide) W.hF.f39 dX12_write_25 ?_
    refine x_il1 dX12_write_28 ?_
    refine x_mld (len := 4) W rfl rfl (by decide) (by omega) (by first | assumption | rfl) dX12_write_29 ?_
    refine x_iconst (v := nI 1) dX12_write_30 rfl ?_
    refine x_isub (rfl) dX12_write_31 ?_
    refine x_i2l (rfl) dX12_write_32 ?_
    refine x_cs3I mX12_within_ok lkX12_157 (Nat.le_of_ble_eq_true rfl) (Nat.le_of_ble_eq_true rfl) dX12_write_33 j_within ?_
    refine x_if_ne (tgt := 43) dX12_write_36 rfl (fun q36 => ?_) (fun q36 => ?_)
    · skip
      first | (simp only [cmp_lt, cmp_gt, cmp_eq, zN_cge, zN_cle, Decidable.not_not] at q36) | (simp (disch := omega) only [zN_le, zN_lt, zN_0, zN_1, nI_toInt, zN_eq, zN_eq0, b2_z, b2_nz, Decidable.not_not, Int.not_lt, Int.not_le, zK0, zK1, zK2, zK3, zK5, zK7, zK8, zK9, zK10, zK19, zK20, zK40, zK99, zK100, zK199] at q36) | skip
      have oy := ey.mpr q36
      unfold wrQ
      rw [if_pos oy]
      obtain ⟨i, hi, rfl⟩ := oneOf_ex oy
      rw [show tn (nI i) = i from nI_clamp (by omega)]
      refine x_al0 rfl dX12_write_43 ?_
      refine x_gm fdX12_85 W.hM (by decide) W.hF.f40 dX12_write_44 ?_
      refine x_bipush (v := nI 40) dX12_write_47 rfl ?_
      refine x_il1 dX12_write_49 ?_
      first | refine x_imul (pk_mul _ _) dX12_write_50 ?_ | refine x_imul rfl dX12_write_50 ?_
      refine x_il2 dX12_write_51 ?_
      first | refine x_iadd (nI_add _ _) dX12_write_52 ?_ | refine x_iadd rfl dX12_write_52 ?_
      refine x_ll3 dX12_write_53 ?_
      refine x_al0 rfl dX12_write_54 ?_
      refine x_gm fdX12_79 W.hM (by decide) W.hF.f38 dX12_write_55 ?_
      refine x_il1 dX12_write_58 ?_
      refine x_mld (len := 4) W rfl rfl (by decide) (by omega) (by first | assumption | rfl) dX12_write_59 ?_
      refine x_cs2L mX12_cut_ok lkX12_440 (Nat.le_of_ble_eq_true rfl) (Nat.le_of_ble_eq_true rfl) dX12_write_60 (c_cut b2') ?_
      refine x_mstl (len := 160) W rfl rfl (by decide) (by omega) dX12_write_63 (fun h W => ?_)
      refine x_al0 rfl dX12_write_64 ?_
      refine x_gm fdX12_85 W.hM (by decide) W.hF.f40 dX12_write_65 ?_
      refine x_bipush (v := nI 40) dX12_write_68 rfl ?_
      refine x_il1 dX12_write_70 ?_
      first | refine x_imul (pk_mul _ _) dX12_write_71 ?_ | refine x_imul rfl dX12_write_71 ?_
      refine x_il2 dX12_write_72 ?_
      first | refine x_iadd (nI_add _ _) dX12_write_73 ?_ | refine x_iadd rfl dX12_write_73 ?_
      refine x_mldl (len := 160) W rfl rfl (by decide) (by omega) (show vp_updL (L 82) (40 * k + i) (cutS q.1 v) (40 * k + i) = _ from pk_uLs) dX12_write_74 ?_
      refine x_lret rfl dX12_write_75 ⟨_, rfl, rfl, _, _, _, W, ?_⟩
      refine J.trs (fun i a b => rfl) (MTr.up J.2.2.2.2.1 hk b1 b2' b3 b4 (fun j hj => ?_) (fun t ht => rfl) (fun t ht => rfl) (fun t j h4 ht hj => ?_))
      · show vp_updL (L 82) (40 * k + i) (cutS q.1 v) (40 * k + j) = _
        by_cases c : j = i
        · rw [if_pos c, c, pk_uLs]
        · rw [if_neg c, pk_uLn (by omega)]; exact b5 j hj
      · exact pk_uLn (by omega)
    · skip
      first | (simp only [cmp_lt, cmp_gt, cmp_eq, zN_cge, zN_cle, Decidable.not_not] at q36) | (simp (disch := omega) only [zN_le, zN_lt, zN_0, zN_1, nI_toInt, zN_eq, zN_eq0, b2_z, b2_nz, Decidable.not_not, Int.not_lt, Int.not_le, zK0, zK1, zK2, zK3, zK5, zK7, zK8, zK9, zK10, zK19, zK20, zK40, zK99, zK100, zK199] at q36) | skip
      refine x_ldc2 kcX12_438 dX12_write_39 ?_
      exact x_lret rfl dX12_write_42 ⟨_, rfl, by rw [wrQ, if_neg (fun c => q36 (ey.mp c))], by rw [wrQ, if_neg (fun c => q36 (ey.mp c))]; exact ⟨_, _, _, W, J⟩⟩
  · skip
    refine x_il5 dX12_write_17 ?_
    refine x_i2l (rfl) dX12_write_19 ?_
    refine x_lret rfl dX12_write_20 ⟨_, rfl, ?_, ?_⟩
    · rcases noT_eq (a := (-6, tr)) (f := fun q => wrQ tr (tn x) q y v) (b := (-2, tr)) q14 with ⟨c1, c2⟩ | ⟨c1, c2⟩
      · rw [c1, show D_write tr x y v = (-2, tr) from c2]; rfl
      · rw [c1, show D_write tr x y v = (-6, tr) from c2]; rfl
    · rcases noT_eq (a := (-6, tr)) (f := fun q => wrQ tr (tn x) q y v) (b := (-2, tr)) q14 with ⟨c1, c2⟩ | ⟨c1, c2⟩
      · rw [show D_write tr x y v = (-2, tr) from c2]; exact ⟨_, _, _, W, J⟩
      · rw [show D_write tr x y v = (-6, tr) from c2]; exact ⟨_, _, _, W, J⟩
theorem w_lists {x y : Int32} (I : MI h0 h dk st un tp tr pi fl) : Zm g (d + 2) 0 0 mX12_lists [.ref 59, .int x, .int y] h (rIp (fun r h' => r = (D_lists dk tr x y).1 ∧ MI h0 h' dk st un tp (D_lists dk tr x y).2 pi fl)) := by
  obtain ⟨s, M, L, W, J⟩ := I
  obtain ⟨D, hn0, hn6, ho0, ho9, hng, hli, e0, e1, e2, m1, m2, m3, m4, m5, u1, u2, t1, t2, r1, hf⟩ := MJ.o J
  have f0 : 0 < fct dk.1 := by omega
  show Zw g (d + 2) 0 0 mX12_lists 0 [some (.ref 59), some (.int x), some (.int y), none, none, none] [] h _
  refine x_al0 rfl dX12_lists_0 ?_
  refine x_iconst (v := nI 0) dX12_lists_1 rfl ?_
  refine x_mpfJ W J fdX12_1 (by decide) rfl rfl zf_i dX12_lists_2 (fun h W J => ?_)
  refine x_al0 rfl dX12_lists_5 ?_
  refine x_il1 dX12_lists_6 ?_
  refine x_cv1I mX12_noTray_ok lkX12_314 rfl (Nat.le_of_ble_eq_true rfl) (Nat.le_of_ble_eq_true rfl) dX12_lists_7 W.hM  (j_noTray W J) ?_
  refine x_is3 rfl dX12_lists_10 ?_
  refine x_il3 dX12_lists_11 ?_
  refine x_if_eq (tgt := 17) dX12_lists_12 rfl (fun q12 => ?_) (fun q12 => ?_)
  · skip
    obtain ⟨x4, q, hq0⟩ := noT_0 q12
    have eD : D_lists dk tr x y = lsQ dk tr (tn x) q y := by rw [D_lists, if_pos x4, hq0]
    rw [eD]
    obtain ⟨k, hk, rfl⟩ := oneOf_ex x4
    rw [show tn (nI k) = k from nI_clamp (by omega)] at hq0 ⊢
    obtain ⟨b1, b2', b3, b4, b5⟩ := J.tray hk hq0
    have ey : oneOf y (fct dk.1) ↔ (0 ≤ y.toInt ∧ y.toInt ≤ (nI (fct dk.1) - nI 1).toInt64.toInt) := by
      rw [show (nI (fct dk.1) - nI 1).toInt64.toInt = (fct dk.1 : Int) - 1 from i64_nm1 f0 (by omega)]
      unfold oneOf
      omega
    refine x_il2 dX12_lists_17 ?_
    refine x_i2l (rfl) dX12_lists_18 ?_
    refine x_lconst (v := 0) dX12_lists_19 rfl ?_
    refine x_al0 rfl dX12_lists_20 ?_
    refine x_gm fdX12_223 W.hM (by decide) (by first | assumption | rfl) dX12_lists_21 ?_
    refine x_iconst (v := nI 1) dX12_lists_24 rfl ?_
    refine x_isub (rfl) dX12_lists_25 ?_
    refine x_i2l (rfl) dX12_lists_26 ?_
    refine x_cs3I mX12_within_ok lkX12_157 (Nat.le_of_ble_eq_true rfl) (Nat.le_of_ble_eq_true rfl) dX12_lists_27 j_within ?_
    refine x_if_ne (tgt := 36) dX12_lists_30 rfl (fun q30 => ?_) (fun q30 => ?_)
    · skip
      first | (simp only [cmp_lt, cmp_gt, cmp_eq, zN_cge, zN_cle, Decidable.not_not] at q30) | (simp (disch := omega) only [zN_le, zN_lt, zN_0, zN_1, nI_toInt, zN_eq, zN_eq0, b2_z, b2_nz, Decidable.not_not, Int.not_lt, Int.not_le, zK0, zK1, zK2, zK3, zK5, zK7, zK8, zK9, zK10, zK19, zK20, zK40, zK99, zK100, zK199] at q30) | skip
      have oy := ey.mpr q30
      unfold lsQ
      rw [if_pos oy]
      obtain ⟨row, hr, rfl⟩ := oneOf_ex oy
      rw [show tn (nI row) = row from nI_clamp (by omega)]
      refine x_al0 rfl dX12_lists_36 ?_
      refine x_gm fdX12_13 W.hM (by decide) W.hF.f1 dX12_lists_37 ?_
      refine x_iconst (v := nI 1) dX12_lists_40 rfl ?_
      refine x_mld (len := 2868) W rfl rfl (by decide) (by omega) (by first | assumption | rfl) dX12_lists_41 ?_
      refine x_al0 rfl dX12_lists_42 ?_
      refine x_gm fdX12_82 W.hM (by decide) W.hF.f39 dX12_lists_43 ?_
      refine x_il1 dX12_lists_46 ?_
      refine x_mld (len := 4) W rfl rfl (by decide) (by omega) (by first | assumption | rfl) dX12_lists_47 ?_
      refine x_icmp_ge (tgt := 60) dX12_lists_48 rfl (fun q48 => ?_) (fun q48 => ?_)
      · skip
        first | (simp only [cmp_lt, cmp_gt, cmp_eq, zN_cge, zN_cle, Decidable.not_not] at q48) | (simp (disch := omega) only [zN_le, zN_lt, zN_0, zN_1, nI_toInt, zN_eq, zN_eq0, b2_z, b2_nz, Decidable.not_not, Int.not_lt, Int.not_le, zK0, zK1, zK2, zK3, zK5, zK7, zK8, zK9, zK10, zK19, zK20, zK40, zK99, zK100, zK199] at q48) | skip
        refine x_al0 rfl dX12_lists_60 ?_
        refine x_gm fdX12_82 W.hM (by decide) W.hF.f39 dX12_lists_61 ?_
        refine x_il1 dX12_lists_64 ?_
        refine x_mld (len := 4) W rfl rfl (by decide) (by omega) (by first | assumption | rfl) dX12_lists_65 ?_
        rw [show nI q.2.length = nI (min q.2.length dk.1) by rw [Nat.min_eq_left (by omega)]]
        refine x_is4 rfl dX12_lists_66 ?_
        refine x_iconst (v := nI 0) dX12_lists_68 rfl ?_
        refine x_is5 rfl dX12_lists_69 ?_
        have mle : min q.2.length dk.1 ≤ q.2.length := Nat.min_le_left _ _
        have mle2 : min q.2.length dk.1 ≤ dk.1 := Nat.min_le_right _ _
        generalize hmm : min q.2.length dk.1 = m at mle mle2 ⊢
        refine x_for (e := m) (fun i => [some (.ref 59), some (.int (nI k)), some (.int (nI row)), some (.int (noT tr (nI k))), some (.int (nI m)), some (.int (nI i))]) (fun i h => ∃ l, MW h0 h _ _ (upM L 82 l) ∧ ∀ j, j < 160 → l j = if 40 * k ≤ j ∧ j < 40 * k + i then lN (nm dk.1 row (j - 40 * k)) else L 82 j) 0 (by omega) ⟨L 82, by rw [upM_self]; exact W, fun j hj => by rw [if_neg (by omega)]⟩ (fun h hI => ?_) (fun i h hi hI ih => ?_)
        · obtain ⟨l, W, hl⟩ := hI
          refine x_il5 dX12_lists_71 ?_
          refine x_il4 dX12_lists_73 ?_
          refine x_icmp_ge (tgt := 104) dX12_lists_75 rfl (fun q75 => ?_) (fun q75 => ?_)
          · skip
            first | (simp only [cmp_lt, cmp_gt, cmp_eq, zN_cge, zN_cle, Decidable.not_not] at q75) | (simp (disch := omega) only [zN_le, zN_lt, zN_0, zN_1, nI_toInt, zN_eq, zN_eq0, b2_z, b2_nz, Decidable.not_not, Int.not_lt, Int.not_le, zK0, zK1, zK2, zK3, zK5, zK7, zK8, zK9, zK10, zK19, zK20, zK40, zK99, zK100, zK199] at q75) | skip
            refine x_il4 dX12_lists_104 ?_
            refine x_iret rfl rfl dX12_lists_106 ⟨_, rfl, rfl, _, _, _, W, ?_⟩
            refine J.trs (fun i a b => rfl) (MTr.up J.2.2.2.2.1 hk b1 b2' b3 b4 (fun j hj => ?_) (fun t ht => rfl) (fun t ht => rfl) (fun t j h4 ht hj => ?_))
            · show l (40 * k + j) = _
              rw [hl _ (by omega)]
              by_cases c : j < m
              · rw [if_pos (by omega), if_pos c, show 40 * k + j - 40 * k = j by omega]
              · rw [if_neg (by omega), if_neg c]; exact b5 j hj
            · show l (40 * t + j) = _
              rw [hl _ (by omega), if_neg (by omega)]
          · skip
            first | (simp only [cmp_lt, cmp_gt, cmp_eq, zN_cge, zN_cle, Decidable.not_not] at q75) | (simp (disch := omega) only [zN_le, zN_lt, zN_0, zN_1, nI_toInt, zN_eq, zN_eq0, b2_z, b2_nz, Decidable.not_not, Int.not_lt, Int.not_le, zK0, zK1, zK2, zK3, zK5, zK7, zK8, zK9, zK10, zK19, zK20, zK40, zK99, zK100, zK199] at q75) | skip
            omega
        · obtain ⟨l, W, hl⟩ := hI
          have nl := nm_lt hn6 hr (show i < dk.1 by omega)
          have D2 := J.1
          refine x_il5 dX12_lists_71 ?_
          refine x_il4 dX12_lists_73 ?_
          refine x_icmp_ge (tgt := 104) dX12_lists_75 rfl (fun q75 => ?_) (fun q75 => ?_)
          · skip
            first | (simp only [cmp_lt, cmp_gt, cmp_eq, zN_cge, zN_cle, Decidable.not_not] at q75) | (simp (disch := omega) only [zN_le, zN_lt, zN_0, zN_1, nI_toInt, zN_eq, zN_eq0, b2_z, b2_nz, Decidable.not_not, Int.not_lt, Int.not_le, zK0, zK1, zK2, zK3, zK5, zK7, zK8, zK9, zK10, zK19, zK20, zK40, zK99, zK100, zK199] at q75) | skip
            omega
          · skip
            first | (simp only [cmp_lt, cmp_gt, cmp_eq, zN_cge, zN_cle, Decidable.not_not] at q75) | (simp (disch := omega) only [zN_le, zN_lt, zN_0, zN_1, nI_toInt, zN_eq, zN_eq0, b2_z, b2_nz, Decidable.not_not, Int.not_lt, Int.not_le, zK0, zK1, zK2, zK3, zK5, zK7, zK8, zK9, zK10, zK19, zK20, zK40, zK99, zK100, zK199] at q75) | skip
            refine x_al0 rfl dX12_lists_78 ?_
            refine x_gm fdX12_85 W.hM (by decide) W.hF.f40 dX12_lists_79 ?_
            refine x_bipush (v := nI 40) dX12_lists_82 rfl ?_
            refine x_il1 dX12_lists_84 ?_
            first | refine x_imul (pk_mul _ _) dX12_lists_85 ?_ | refine x_imul rfl dX12_lists_85 ?_
            refine x_il5 dX12_lists_86 ?_
            first | refine x_iadd (nI_add _ _) dX12_lists_88 ?_ | refine x_iadd rfl dX12_lists_88 ?_
            refine x_al0 rfl dX12_lists_89 ?_
            refine x_il2 dX12_lists_90 ?_
            refine x_il5 dX12_lists_91 ?_
            refine x_cv2I mX12_nameIn_ok lkX12_251 rfl (Nat.le_of_ble_eq_true rfl) (Nat.le_of_ble_eq_true rfl) dX12_lists_93 W.hM  (m_nameIn (W.mt D2) hr (by omega)) ?_
            refine x_i2l (nI_l (by omega)) dX12_lists_96 ?_
            refine x_mstl (len := 160) W rfl rfl (by decide) (by omega) dX12_lists_97 (fun h W => ?_)
            first | refine x_ii5 rfl (nI_1 _) dX12_lists_98 ?_ | refine x_ii5 rfl rfl dX12_lists_98 ?_
            refine x_goto (tgt := 71) dX12_lists_101 rfl ?_
            refine ih _ ⟨_, by rw [upM_upM, upM_eq] at W; exact W, fun j hj => ?_⟩
            by_cases c : j = 40 * k + i
            · rw [c, pk_uLs, if_pos (by omega), show 40 * k + i - 40 * k = i by omega]
            · rw [pk_uLn c, hl j hj]
              by_cases c2 : 40 * k ≤ j ∧ j < 40 * k + i
              · rw [if_pos c2, if_pos (by omega)]
              · rw [if_neg c2, if_neg (by omega)]
      · skip
        first | (simp only [cmp_lt, cmp_gt, cmp_eq, zN_cge, zN_cle, Decidable.not_not] at q48) | (simp (disch := omega) only [zN_le, zN_lt, zN_0, zN_1, nI_toInt, zN_eq, zN_eq0, b2_z, b2_nz, Decidable.not_not, Int.not_lt, Int.not_le, zK0, zK1, zK2, zK3, zK5, zK7, zK8, zK9, zK10, zK19, zK20, zK40, zK99, zK100, zK199] at q48) | skip
        refine x_al0 rfl dX12_lists_51 ?_
        refine x_gm fdX12_13 W.hM (by decide) W.hF.f1 dX12_lists_52 ?_
        refine x_iconst (v := nI 1) dX12_lists_55 rfl ?_
        refine x_mld (len := 2868) W rfl rfl (by decide) (by omega) (by first | assumption | rfl) dX12_lists_56 ?_
        refine x_goto (tgt := 66) dX12_lists_57 rfl ?_
        rw [show nI dk.1 = nI (min q.2.length dk.1) by rw [Nat.min_eq_right (by omega)]]
        refine x_is4 rfl dX12_lists_66 ?_
        refine x_iconst (v := nI 0) dX12_lists_68 rfl ?_
        refine x_is5 rfl dX12_lists_69 ?_
        have mle : min q.2.length dk.1 ≤ q.2.length := Nat.min_le_left _ _
        have mle2 : min q.2.length dk.1 ≤ dk.1 := Nat.min_le_right _ _
        generalize hmm : min q.2.length dk.1 = m at mle mle2 ⊢
        refine x_for (e := m) (fun i => [some (.ref 59), some (.int (nI k)), some (.int (nI row)), some (.int (noT tr (nI k))), some (.int (nI m)), some (.int (nI i))]) (fun i h => ∃ l, MW h0 h _ _ (upM L 82 l) ∧ ∀ j, j < 160 → l j = if 40 * k ≤ j ∧ j < 40 * k + i then lN (nm dk.1 row (j - 40 * k)) else L 82 j) 0 (by omega) ⟨L 82, by rw [upM_self]; exact W, fun j hj => by rw [if_neg (by omega)]⟩ (fun h hI => ?_) (fun i h hi hI ih => ?_)
        · obtain ⟨l, W, hl⟩ := hI
          refine x_il5 dX12_lists_71 ?_
          refine x_il4 dX12_lists_73 ?_
          refine x_icmp_ge (tgt := 104) dX12_lists_75 rfl (fun q75 => ?_) (fun q75 => ?_)
          · skip
            first | (simp only [cmp_lt, cmp_gt, cmp_eq, zN_cge, zN_cle, Decidable.not_not] at q75) | (simp (disch := omega) only [zN_le, zN_lt, zN_0, zN_1, nI_toInt, zN_eq, zN_eq0, b2_z, b2_nz, Decidable.not_not, Int.not_lt, Int.not_le, zK0, zK1, zK2, zK3, zK5, zK7, zK8, zK9, zK10, zK19, zK20, zK40, zK99, zK100, zK199] at q75) | skip
            refine x_il4 dX12_lists_104 ?_
            refine x_iret rfl rfl dX12_lists_106 ⟨_, rfl, rfl, _, _, _, W, ?_⟩
            refine J.trs (fun i a b => rfl) (MTr.up J.2.2.2.2.1 hk b1 b2' b3 b4 (fun j hj => ?_) (fun t ht => rfl) (fun t ht => rfl) (fun t j h4 ht hj => ?_))
            · show l (40 * k + j) = _
              rw [hl _ (by omega)]
              by_cases c : j < m
              · rw [if_pos (by omega), if_pos c, show 40 * k + j - 40 * k = j by omega]
              · rw [if_neg (by omega), if_neg c]; exact b5 j hj
            · show l (40 * t + j) = _
              rw [hl _ (by omega), if_neg (by omega)]
          · skip
            first | (simp only [cmp_lt, cmp_gt, cmp_eq, zN_cge, zN_cle, Decidable.not_not] at q75) | (simp (disch := omega) only [zN_le, zN_lt, zN_0, zN_1, nI_toInt, zN_eq, zN_eq0, b2_z, b2_nz, Decidable.not_not, Int.not_lt, Int.not_le, zK0, zK1, zK2, zK3, zK5, zK7, zK8, zK9, zK10, zK19, zK20, zK40, zK99, zK100, zK199] at q75) | skip
            omega
        · obtain ⟨l, W, hl⟩ := hI
          have nl := nm_lt hn6 hr (show i < dk.1 by omega)
          have D2 := J.1
          refine x_il5 dX12_lists_71 ?_
          refine x_il4 dX12_lists_73 ?_
          refine x_icmp_ge (tgt := 104) dX12_lists_75 rfl (fun q75 => ?_) (fun q75 => ?_)
          · skip
            first | (simp only [cmp_lt, cmp_gt, cmp_eq, zN_cge, zN_cle, Decidable.not_not] at q75) | (simp (disch := omega) only [zN_le, zN_lt, zN_0, zN_1, nI_toInt, zN_eq, zN_eq0, b2_z, b2_nz, Decidable.not_not, Int.not_lt, Int.not_le, zK0, zK1, zK2, zK3, zK5, zK7, zK8, zK9, zK10, zK19, zK20, zK40, zK99, zK100, zK199] at q75) | skip
            omega
          · skip
            first | (simp only [cmp_lt, cmp_gt, cmp_eq, zN_cge, zN_cle, Decidable.not_not] at q75) | (simp (disch := omega) only [zN_le, zN_lt, zN_0, zN_1, nI_toInt, zN_eq, zN_eq0, b2_z, b2_nz, Decidable.not_not, Int.not_lt, Int.not_le, zK0, zK1, zK2, zK3, zK5, zK7, zK8, zK9, zK10, zK19, zK20, zK40, zK99, zK100, zK199] at q75) | skip
            refine x_al0 rfl dX12_lists_78 ?_
            refine x_gm fdX12_85 W.hM (by decide) W.hF.f40 dX12_lists_79 ?_
            refine x_bipush (v := nI 40) dX12_lists_82 rfl ?_
            refine x_il1 dX12_lists_84 ?_
            first | refine x_imul (pk_mul _ _) dX12_lists_85 ?_ | refine x_imul rfl dX12_lists_85 ?_
            refine x_il5 dX12_lists_86 ?_
            first | refine x_iadd (nI_add _ _) dX12_lists_88 ?_ | refine x_iadd rfl dX12_lists_88 ?_
            refine x_al0 rfl dX12_lists_89 ?_
            refine x_il2 dX12_lists_90 ?_
            refine x_il5 dX12_lists_91 ?_
            refine x_cv2I mX12_nameIn_ok lkX12_251 rfl (Nat.le_of_ble_eq_true rfl) (Nat.le_of_ble_eq_true rfl) dX12_lists_93 W.hM  (m_nameIn (W.mt D2) hr (by omega)) ?_
            refine x_i2l (nI_l (by omega)) dX12_lists_96 ?_
            refine x_mstl (len := 160) W rfl rfl (by decide) (by omega) dX12_lists_97 (fun h W => ?_)
            first | refine x_ii5 rfl (nI_1 _) dX12_lists_98 ?_ | refine x_ii5 rfl rfl dX12_lists_98 ?_
            refine x_goto (tgt := 71) dX12_lists_101 rfl ?_
            refine ih _ ⟨_, by rw [upM_upM, upM_eq] at W; exact W, fun j hj => ?_⟩
            by_cases c : j = 40 * k + i
            · rw [c, pk_uLs, if_pos (by omega), show 40 * k + i - 40 * k = i by omega]
            · rw [pk_uLn c, hl j hj]
              by_cases c2 : 40 * k ≤ j ∧ j < 40 * k + i
              · rw [if_pos c2, if_pos (by omega)]
              · rw [if_neg c2, if_neg (by omega)]
    · skip
      first | (simp only [cmp_lt, cmp_gt, cmp_eq, zN_cge, zN_cle, Decidable.not_not] at q30) | (simp (disch := omega) only [zN_le, zN_lt, zN_0, zN_1, nI_toInt, zN_eq, zN_eq0, b2_z, b2_nz, Decidable.not_not, Int.not_lt, Int.not_le, zK0, zK1, zK2, zK3, zK5, zK7, zK8, zK9, zK10, zK19, zK20, zK40, zK99, zK100, zK199] at q30) | skip
      refine x_bipush (v := (-3)) dX12_lists_33 rfl ?_
      exact x_iret rfl rfl dX12_lists_35 ⟨_, rfl, by rw [lsQ, if_neg (fun c => q30 (ey.mp c))], by rw [lsQ, if_neg (fun c => q30 (ey.mp c))]; exact ⟨_, _, _, W, J⟩⟩
  · skip
    refine x_il3 dX12_lists_15 ?_
    refine x_iret rfl rfl dX12_lists_16 ⟨_, rfl, ?_, ?_⟩
    · rcases noT_eq (a := (-6, tr)) (f := fun q => lsQ dk tr (tn x) q y) (b := (-2, tr)) q12 with ⟨c1, c2⟩ | ⟨c1, c2⟩
      · rw [c1, show D_lists dk tr x y = (-2, tr) from c2]
      · rw [c1, show D_lists dk tr x y = (-6, tr) from c2]
    · rcases noT_eq (a := (-6, tr)) (f := fun q => lsQ dk tr (tn x) q y) (b := (-2, tr)) q12 with ⟨c1, c2⟩ | ⟨c1, c2⟩
      · rw [show D_lists dk tr x y = (-2, tr) from c2]; exact ⟨_, _, _, W, J⟩
      · rw [show D_lists dk tr x y = (-6, tr) from c2]; exact ⟨_, _, _, W, J⟩
end ZMt

