/-! feed on both sides -/
def byt (a : Int32) (k : Nat) : Nat := (a >>> (nI (24 - 8 * k) &&& 31) &&& nI 255).toBitVec.toNat
theorem nI_bv (x : Int32) : nI x.toBitVec.toNat = x := by
  apply Int32.toBitVec_inj.mp
  apply BitVec.eq_of_toNat_eq
  rw [pk_tn x.toBitVec.isLt]
theorem byt_e {a : Int32} {k : Nat} : a >>> (nI (24 - 8 * k) &&& 31) &&& nI 255 = nI (byt a k) := (nI_bv _).symm
theorem byt_lt {a : Int32} {k : Nat} : byt a k < 256 := by
  unfold byt
  have e : (a >>> (nI (24 - 8 * k) &&& 31) &&& nI 255) = nI ((a >>> (nI (24 - 8 * k) &&& 31)).toBitVec.toNat % 2 ^ 8) := pk_and _ 8 (by decide)
  rw [e, pk_tn (by have := Nat.mod_lt (a >>> (nI (24 - 8 * k) &&& 31)).toBitVec.toNat (show 0 < 2 ^ 8 by decide); omega)]
  exact Nat.mod_lt _ (by decide)
theorem i8_low {x y : Int32} (h : x.toBitVec.toNat % 256 = y.toBitVec.toNat % 256) : x.toInt8 = y.toInt8 := by
  apply Int8.toBitVec_inj.mp
  apply BitVec.eq_of_toNat_eq
  rw [Int32.toBitVec_toInt8, Int32.toBitVec_toInt8, BitVec.signExtend_eq_setWidth_of_le _ (by decide), BitVec.signExtend_eq_setWidth_of_le _ (by decide), BitVec.toNat_setWidth, BitVec.toNat_setWidth]
  exact h
theorem byt_s {a : Int32} {k : Nat} : bsg (byt a k) = (a >>> (nI (24 - 8 * k) &&& 31)).toInt8.toInt32 := by
  unfold bsg
  rw [← byt_e]
  refine congrArg Int8.toInt32 (i8_low ?_)
  have e : (a >>> (nI (24 - 8 * k) &&& 31) &&& nI 255) = nI ((a >>> (nI (24 - 8 * k) &&& 31)).toBitVec.toNat % 2 ^ 8) := pk_and _ 8 (by decide)
  rw [e, pk_tn (by have := Nat.mod_lt (a >>> (nI (24 - 8 * k) &&& 31)).toBitVec.toNat (show 0 < 2 ^ 8 by decide); omega), show (2 : Nat) ^ 8 = 256 from rfl, Nat.mod_mod]
def l4 (a : Int32) : List Nat := [byt a 0, byt a 1, byt a 2, byt a 3]
def l20 (a b c d e : Int32) : List Nat := l4 a ++ l4 b ++ l4 c ++ l4 d ++ l4 e
def v20 (a b c d e : Int32) (k : Nat) : Int32 := if k < 4 then a else if k < 8 then b else if k < 12 then c else if k < 16 then d else e
theorem l20_get {a b c d e : Int32} {k : Nat} (hk : k < 20) : (l20 a b c d e).getD k 0 = byt (v20 a b c d e k) (k % 4) := by
  match k, hk with
  | 0, _ => rfl
  | 1, _ => rfl
  | 2, _ => rfl
  | 3, _ => rfl
  | 4, _ => rfl
  | 5, _ => rfl
  | 6, _ => rfl
  | 7, _ => rfl
  | 8, _ => rfl
  | 9, _ => rfl
  | 10, _ => rfl
  | 11, _ => rfl
  | 12, _ => rfl
  | 13, _ => rfl
  | 14, _ => rfl
  | 15, _ => rfl
  | 16, _ => rfl
  | 17, _ => rfl
  | 18, _ => rfl
  | 19, _ => rfl
  | _ + 20, h => exact absurd h (by omega)
def D_feed (tp : List Nat) (a b c d e : Int32) : Int32 × List Nat := if tp.length + 20 ≤ 900 then (nI (tp.length + 20), tp ++ l20 a b c d e) else (-5, tp)
section ZMfe
variable {g : zG} {d : Nat} {h0 h : zH} {s s' : Nat → Value} {M M' : Nat → Nat → Int32} {L : Nat → Nat → Int64} {dk : zDk} {st : zSt} {un : List zSt} {tp : List Nat} {tr : Nat → zTr} {pi : Nat → zPi} {fl : Nat × Nat}
theorem MJ.tpU {tp' : List Nat} (J : MJ s M L dk st un tp tr pi fl) (hs : ∀ k, k ≠ 5 → s' k = s k) (hM : ∀ i, i ≠ 62 → M' i = M i) (hT : MTp s' M' tp') : MJ s' M' L dk st un tp' tr pi fl := by
  obtain ⟨a1, a2, a3, -, a5, a6, a7⟩ := J
  refine ⟨?_, ?_, ?_, hT, ?_, ?_, ?_⟩
  · unfold MDk at a1 ⊢
    rw [hM 60 (by decide), hM 64 (by decide), hs 17 (by decide)]
    exact a1
  · rw [hM 60 (by decide)]; exact a2
  · rw [hM 60 (by decide)]; exact a3
  · unfold MTr; rw [hM 80 (by decide), hM 81 (by decide)]; exact a5
  · unfold MPi; rw [hM 60 (by decide), hM 61 (by decide)]; exact a6
  · unfold MFl; rw [hs 13 (by decide), hs 14 (by decide), hs 10 (by decide)]; exact a7
theorem w_feed {a b c e f : Int32} (I : MI h0 h dk st un tp tr pi fl) : Zm g (d + 1) 0 0 mX12_feed [.ref 59, .int a, .int b, .int c, .int e, .int f] h (rIp (fun r h' => r = (D_feed tp a b c e f).1 ∧ MI h0 h' dk st un (D_feed tp a b c e f).2 tr pi fl)) := by
  obtain ⟨s, M, L, W, J⟩ := I
  obtain ⟨D, hn0, hn6, ho0, ho9, hng, hli, e0, e1, e2, m1, m2, m3, m4, m5, u1, u2, t1, t2, r1, hf⟩ := MJ.o J
  show Zw g (d + 1) 0 0 mX12_feed 0 [some (.ref 59), some (.int a), some (.int b), some (.int c), some (.int e), some (.int f), none, none] [] h _
  refine x_al0 rfl dX12_feed_0 ?_
  refine x_iconst (v := nI 0) dX12_feed_1 rfl ?_
  refine x_mpfJ W J fdX12_1 (by decide) rfl rfl zf_i dX12_feed_2 (fun h W J => ?_)
  refine x_al0 rfl dX12_feed_5 ?_
  refine x_gm fdX12_95 W.hM (by decide) (by first | assumption | rfl) dX12_feed_6 ?_
  refine x_bipush (v := nI 20) dX12_feed_9 rfl ?_
  first | refine x_iadd (nI_add _ _) dX12_feed_11 ?_ | refine x_iadd rfl dX12_feed_11 ?_
  refine x_sipush (v := nI 900) dX12_feed_12 (by decide) ?_
  refine x_icmp_le (tgt := 21) dX12_feed_15 rfl (fun q15 => ?_) (fun q15 => ?_)
  · skip
    first | (simp only [cmp_lt, cmp_gt, cmp_eq, zN_cge, zN_cle, Decidable.not_not] at q15) | (simp (disch := omega) only [zN_le, zN_lt, zN_0, zN_1, nI_toInt, zN_eq, zN_eq0, b2_z, b2_nz, Decidable.not_not, Int.not_lt, Int.not_le, zK0, zK1, zK2, zK3, zK5, zK7, zK8, zK9, zK10, zK19, zK20, zK40, zK99, zK100, zK199] at q15) | skip
    unfold D_feed
    rw [if_pos (by omega)]
    dsimp only
    refine x_iconst (v := nI 0) dX12_feed_21 rfl ?_
    refine x_is6 rfl dX12_feed_22 ?_
    obtain ⟨-, -, tq⟩ := J.2.2.2.1
    refine x_wh (fun (w : Nat × Option Value) => [some (.ref 59), some (.int a), some (.int b), some (.int c), some (.int e), some (.int f), some (.int (nI w.1)), w.2]) (fun w h => w.1 ≤ 20 ∧ ∃ s' t, MW h0 h s' (upM M 62 t) L ∧ (∀ k, k ≠ 5 → s' k = va_up s 0 (.int (nI 0)) k) ∧ s' 5 = .int (nI (tp.length + w.1)) ∧ (∀ i, i < tp.length → t i = nI (tp.getD i 0)) ∧ ∀ i, i < w.1 → t (tp.length + i) = nI (byt (v20 a b c e f i) (i % 4))) (fun w => 20 - w.1) (0, none) ⟨Nat.zero_le _, _, M 62, W.u 62, fun _ _ => rfl, t1, fun i hi => (tq i hi).1, fun i hi => absurd hi (Nat.not_lt_zero _)⟩ (fun w h hI ih => ?_)
    obtain ⟨k, lv⟩ := w
    obtain ⟨hk, s', t, W, ho, h5, ht1, ht2⟩ := hI
    simp only at hk h5 ht2
    dsimp only
    have ml := Nat.mod_lt k (show 0 < 4 by decide)
    have key : k < 20 → Zw g (d + 1) 0 0 mX12_feed 77 [some (.ref 59), some (.int a), some (.int b), some (.int c), some (.int e), some (.int f), some (.int (nI k)), lv] [.int (v20 a b c e f k)] h (rIp (fun r h' => r = nI (tp.length + 20) ∧ MI h0 h' dk st un (tp ++ l20 a b c e f) tr pi fl)) := fun kl => by
      refine x_is7 rfl dX12_feed_77 ?_
      refine x_al0 rfl dX12_feed_79 ?_
      refine x_gm fdX12_21 W.hM (by decide) W.hF.f3 dX12_feed_80 ?_
      refine x_al0 rfl dX12_feed_83 ?_
      refine x_gm fdX12_95 W.hM (by decide) (h5) dX12_feed_84 ?_
      refine x_il7 dX12_feed_87 ?_
      refine x_bipush (v := nI 24) dX12_feed_89 rfl ?_
      refine x_bipush (v := nI 8) dX12_feed_91 rfl ?_
      refine x_il6 dX12_feed_93 ?_
      refine x_iconst (v := nI 4) dX12_feed_95 rfl ?_
      refine x_irem (by decide) (pk_rem (by omega) (by decide) (by decide)) dX12_feed_96 ?_
      first | refine x_imul (pk_mul _ _) dX12_feed_97 ?_ | refine x_imul rfl dX12_feed_97 ?_
      refine x_isub (pk_sub (by omega)) dX12_feed_98 ?_
      refine x_ishr (rfl) dX12_feed_99 ?_
      refine x_sipush (v := nI 255) dX12_feed_100 (by decide) ?_
      refine x_iand (byt_e) dX12_feed_103 ?_
      refine x_mstU (len := 900) W rfl rfl (by decide) (by omega) dX12_feed_104 (fun h W => ?_)
      refine x_al0 rfl dX12_feed_105 ?_
      refine x_dup rfl dX12_feed_106 ?_
      refine x_gm fdX12_95 W.hM (by decide) (h5) dX12_feed_107 ?_
      refine x_iconst (v := nI 1) dX12_feed_110 rfl ?_
      first | refine x_iadd (nI_add _ _) dX12_feed_111 ?_ | refine x_iadd rfl dX12_feed_111 ?_
      refine x_mpf W fdX12_95 (by decide) rfl zf_i dX12_feed_112 (fun h W => ?_)
      first | refine x_ii6 rfl (nI_1 _) dX12_feed_115 ?_ | refine x_ii6 rfl rfl dX12_feed_115 ?_
      refine x_goto (tgt := 24) dX12_feed_118 rfl ?_
      refine ih (k + 1, _) _ (by simp only; omega) ⟨kl, _, _, W, fun j hj => ?_, rfl, fun i hi => ?_, fun i hi => ?_⟩
      · show (if j = 5 then _ else s' j) = _
        rw [if_neg hj]; exact ho j hj
      · rw [pk_un (by omega)]; exact ht1 i hi
      · by_cases z : i = k
        · rw [z]; exact pk_us
        · rw [pk_un (by omega)]; exact ht2 i (by simp only at hi; omega)
    refine x_il6 dX12_feed_24 ?_
    refine x_bipush (v := nI 20) dX12_feed_26 rfl ?_
    refine x_icmp_ge (tgt := 121) dX12_feed_28 rfl (fun q28 => ?_) (fun q28 => ?_)
    · skip
      first | (simp only [cmp_lt, cmp_gt, cmp_eq, zN_cge, zN_cle, Decidable.not_not] at q28) | (simp (disch := omega) only [zN_le, zN_lt, zN_0, zN_1, nI_toInt, zN_eq, zN_eq0, b2_z, b2_nz, Decidable.not_not, Int.not_lt, Int.not_le, zK0, zK1, zK2, zK3, zK5, zK7, zK8, zK9, zK10, zK19, zK20, zK40, zK99, zK100, zK199] at q28) | skip
      have k9 : k = 20 := by omega
      subst k9
      refine x_al0 rfl dX12_feed_121 ?_
      refine x_gm fdX12_95 W.hM (by decide) (h5) dX12_feed_122 ?_
      refine x_iret rfl rfl dX12_feed_125 ⟨_, rfl, rfl, _, _, _, W, J.tpU (fun k hk => ho k hk) (fun i hi => upM_ne hi) ⟨?_, ?_, fun i hi => ?_⟩⟩
      · rw [h5, List.length_append]; rfl
      · rw [List.length_append]; show tp.length + 20 ≤ 900; omega
      · rw [List.length_append] at hi
        rw [upM_eq]
        by_cases z : i < tp.length
        · rw [gD_l z]; exact ⟨ht1 i z, (tq i z).2⟩
        · have hi2 : i < tp.length + 20 := hi
          obtain ⟨j, rfl⟩ : ∃ j, i = tp.length + j := ⟨i - tp.length, by omega⟩
          have e1 : (tp ++ l20 a b c e f).getD (tp.length + j) 0 = byt (v20 a b c e f j) (j % 4) := by rw [List.getD_eq_getElem?_getD, List.getElem?_append_right (by omega), Nat.add_sub_cancel_left, ← List.getD_eq_getElem?_getD, l20_get (by omega)]
          rw [e1]
          exact ⟨ht2 j (by omega), byt_lt⟩
    · skip
      first | (simp only [cmp_lt, cmp_gt, cmp_eq, zN_cge, zN_cle, Decidable.not_not] at q28) | (simp (disch := omega) only [zN_le, zN_lt, zN_0, zN_1, nI_toInt, zN_eq, zN_eq0, b2_z, b2_nz, Decidable.not_not, Int.not_lt, Int.not_le, zK0, zK1, zK2, zK3, zK5, zK7, zK8, zK9, zK10, zK19, zK20, zK40, zK99, zK100, zK199] at q28) | skip
      refine x_il6 dX12_feed_31 ?_
      refine x_iconst (v := nI 4) dX12_feed_33 rfl ?_
      refine x_icmp_ge (tgt := 41) dX12_feed_34 rfl (fun q34 => ?_) (fun q34 => ?_)
      · skip
        first | (simp only [cmp_lt, cmp_gt, cmp_eq, zN_cge, zN_cle, Decidable.not_not] at q34) | (simp (disch := omega) only [zN_le, zN_lt, zN_0, zN_1, nI_toInt, zN_eq, zN_eq0, b2_z, b2_nz, Decidable.not_not, Int.not_lt, Int.not_le, zK0, zK1, zK2, zK3, zK5, zK7, zK8, zK9, zK10, zK19, zK20, zK40, zK99, zK100, zK199] at q34) | skip
        refine x_il6 dX12_feed_41 ?_
        refine x_bipush (v := nI 8) dX12_feed_43 rfl ?_
        refine x_icmp_ge (tgt := 52) dX12_feed_45 rfl (fun q45 => ?_) (fun q45 => ?_)
        · skip
          first | (simp only [cmp_lt, cmp_gt, cmp_eq, zN_cge, zN_cle, Decidable.not_not] at q45) | (simp (disch := omega) only [zN_le, zN_lt, zN_0, zN_1, nI_toInt, zN_eq, zN_eq0, b2_z, b2_nz, Decidable.not_not, Int.not_lt, Int.not_le, zK0, zK1, zK2, zK3, zK5, zK7, zK8, zK9, zK10, zK19, zK20, zK40, zK99, zK100, zK199] at q45) | skip
          refine x_il6 dX12_feed_52 ?_
          refine x_bipush (v := nI 12) dX12_feed_54 rfl ?_
          refine x_icmp_ge (tgt := 63) dX12_feed_56 rfl (fun q56 => ?_) (fun q56 => ?_)
          · skip
            first | (simp only [cmp_lt, cmp_gt, cmp_eq, zN_cge, zN_cle, Decidable.not_not] at q56) | (simp (disch := omega) only [zN_le, zN_lt, zN_0, zN_1, nI_toInt, zN_eq, zN_eq0, b2_z, b2_nz, Decidable.not_not, Int.not_lt, Int.not_le, zK0, zK1, zK2, zK3, zK5, zK7, zK8, zK9, zK10, zK19, zK20, zK40, zK99, zK100, zK199] at q56) | skip
            refine x_il6 dX12_feed_63 ?_
            refine x_bipush (v := nI 16) dX12_feed_65 rfl ?_
            refine x_icmp_ge (tgt := 75) dX12_feed_67 rfl (fun q67 => ?_) (fun q67 => ?_)
            · skip
              first | (simp only [cmp_lt, cmp_gt, cmp_eq, zN_cge, zN_cle, Decidable.not_not] at q67) | (simp (disch := omega) only [zN_le, zN_lt, zN_0, zN_1, nI_toInt, zN_eq, zN_eq0, b2_z, b2_nz, Decidable.not_not, Int.not_lt, Int.not_le, zK0, zK1, zK2, zK3, zK5, zK7, zK8, zK9, zK10, zK19, zK20, zK40, zK99, zK100, zK199] at q67) | skip
              refine x_il5 dX12_feed_75 ?_
              rw [show v20 a b c e f k = f by unfold v20; rw [if_neg (by omega), if_neg (by omega), if_neg (by omega), if_neg (by omega)]] at key
              exact key (by omega)
            · skip
              first | (simp only [cmp_lt, cmp_gt, cmp_eq, zN_cge, zN_cle, Decidable.not_not] at q67) | (simp (disch := omega) only [zN_le, zN_lt, zN_0, zN_1, nI_toInt, zN_eq, zN_eq0, b2_z, b2_nz, Decidable.not_not, Int.not_lt, Int.not_le, zK0, zK1, zK2, zK3, zK5, zK7, zK8, zK9, zK10, zK19, zK20, zK40, zK99, zK100, zK199] at q67) | skip
              refine x_il4 dX12_feed_70 ?_
              refine x_goto (tgt := 77) dX12_feed_72 rfl ?_
              rw [show v20 a b c e f k = e by unfold v20; rw [if_neg (by omega), if_neg (by omega), if_neg (by omega), if_pos (by omega)]] at key
              exact key (by omega)
          · skip
            first | (simp only [cmp_lt, cmp_gt, cmp_eq, zN_cge, zN_cle, Decidable.not_not] at q56) | (simp (disch := omega) only [zN_le, zN_lt, zN_0, zN_1, nI_toInt, zN_eq, zN_eq0, b2_z, b2_nz, Decidable.not_not, Int.not_lt, Int.not_le, zK0, zK1, zK2, zK3, zK5, zK7, zK8, zK9, zK10, zK19, zK20, zK40, zK99, zK100, zK199] at q56) | skip
            refine x_il3 dX12_feed_59 ?_
            refine x_goto (tgt := 77) dX12_feed_60 rfl ?_
            rw [show v20 a b c e f k = c by unfold v20; rw [if_neg (by omega), if_neg (by omega), if_pos (by omega)]] at key
            exact key (by omega)
        · skip
          first | (simp only [cmp_lt, cmp_gt, cmp_eq, zN_cge, zN_cle, Decidable.not_not] at q45) | (simp (disch := omega) only [zN_le, zN_lt, zN_0, zN_1, nI_toInt, zN_eq, zN_eq0, b2_z, b2_nz, Decidable.not_not, Int.not_lt, Int.not_le, zK0, zK1, zK2, zK3, zK5, zK7, zK8, zK9, zK10, zK19, zK20, zK40, zK99, zK100, zK199] at q45) | skip
          refine x_il2 dX12_feed_48 ?_
          refine x_goto (tgt := 77) dX12_feed_49 rfl ?_
          rw [show v20 a b c e f k = b by unfold v20; rw [if_neg (by omega), if_pos (by omega)]] at key
          exact key (by omega)
      · skip
        first | (simp only [cmp_lt, cmp_gt, cmp_eq, zN_cge, zN_cle, Decidable.not_not] at q34) | (simp (disch := omega) only [zN_le, zN_lt, zN_0, zN_1, nI_toInt, zN_eq, zN_eq0, b2_z, b2_nz, Decidable.not_not, Int.not_lt, Int.not_le, zK0, zK1, zK2, zK3, zK5, zK7, zK8, zK9, zK10, zK19, zK20, zK40, zK99, zK100, zK199] at q34) | skip
        refine x_il1 dX12_feed_37 ?_
        refine x_goto (tgt := 77) dX12_feed_38 rfl ?_
        rw [show v20 a b c e f k = a by unfold v20; rw [if_pos (by omega)]] at key
        exact key (by omega)
  · skip
    first | (simp only [cmp_lt, cmp_gt, cmp_eq, zN_cge, zN_cle, Decidable.not_not] at q15) | (simp (disch := omega) only [zN_le, zN_lt, zN_0, zN_1, nI_toInt, zN_eq, zN_eq0, b2_z, b2_nz, Decidable.not_not, Int.not_lt, Int.not_le, zK0, zK1, zK2, zK3, zK5, zK7, zK8, zK9, zK10, zK19, zK20, zK40, zK99, zK100, zK199] at q15) | skip
    refine x_bipush (v := (-5)) dX12_feed_18 rfl ?_
    exact x_iret rfl rfl dX12_feed_20 ⟨_, rfl, by rw [D_feed, if_neg (by omega)], by rw [D_feed, if_neg (by omega)]; exact ⟨_, _, _, W, J⟩⟩
end ZMfe
section ZCfe
variable {g : zG} {d : Nat} {h0 h h' : zH} {dk : zDk} {st : zSt} {un : List zSt} {tp : List Nat} {tr : Nat → zTr} {pi : Nat → zPi} {fl : Nat × Nat} {ln : zLn} {sb sj : zS3} {dr : Int32}
theorem CI.tape (I : CI h0 h dk st un tp tr pi fl ln sb sj dr) : tp.length ≤ 900 ∧ ∃ f, h[1]? = some (.inl (1, 900, .inl f)) ∧ ∀ i, i < tp.length → f i = bsg (tp.getD i 0) ∧ tp.getD i 0 < 256 := by
  obtain ⟨Z, rt, ds, C, W, J⟩ := I
  obtain ⟨a, f, b, c⟩ := J.2.2.2.2.1
  exact ⟨a, f, C.get b, c⟩
theorem CI.put1 {b : Nat} {rt : Nat} {a1 a2 a3 : Int32} {f : Nat → Int32} (I : CI h0 h dk st un tp tr pi fl ln sb sj dr) (hl : tp.length < 900) (hb : b < 256) (hx : h[0]? = some (xE a1 rt a2 a3)) (hf : h[1]? = some (.inl (1, 900, .inl f))) : CI h0 ((h.set 1 (.inl (1, 900, .inl (upd f tp.length (bsg b))))).set 0 (xE (nI (tp.length + 1)) rt a2 a3)) dk st un (tp ++ [b]) tr pi fl ln sb sj dr := by
  obtain ⟨Z, rt', ds, C, W, J⟩ := I
  have e := C.get J.1
  rw [hx] at e
  simp only [Option.some.injEq, Sum.inr.injEq, Prod.mk.injEq, List.cons.injEq, Value.int.injEq, Value.ref.injEq] at e
  obtain ⟨-, -, rfl, -, rfl, -, -, -, -, rfl, rfl, -⟩ := e
  obtain ⟨a, f', z1, c⟩ := id J.2.2.2.2.1
  have e2 := C.get z1
  rw [hf] at e2
  simp only [Option.some.injEq, Sum.inl.injEq, Prod.mk.injEq, true_and] at e2
  subst e2
  have C2 := C.set (e := .inl (1, 900, .inl (upd f tp.length (bsg b)))) z1 rfl
  have W2 := EW.set (e := .inl (1, 900, .inl (upd f tp.length (bsg b)))) W C z1
  have z0 : upM Z 1 (some (.inl (1, 900, .inl (upd f tp.length (bsg b))))) 0 = _ := (upM_ne (by decide)).trans J.1
  obtain ⟨b1, b2, b3, b4, b5, b6, b7, b8, b9, b10⟩ := J
  have o : ∀ {e1 e2 : Option va_E} (i : Nat), i ≠ 0 → i ≠ 1 → upM (upM Z 1 e1) 0 e2 i = Z i := fun i p q => (upM_ne p).trans (upM_ne q)
  refine ⟨_, rt, ds, C2.set z0 rfl, EW.set W2 C2 z0, ?_, by rw [o 9 (by decide) (by decide)]; exact b2, by rw [o 10 (by decide) (by decide)]; exact b3, by rw [o 11 (by decide) (by decide)]; exact b4, ⟨?_, _, (upM_ne (by decide)).trans upM_eq, fun i hi => ?_⟩, b6.c (o _ (by decide) (by decide)) (fun i _ _ => o i (by omega) (by omega)), b7.c (o _ (by decide) (by decide)) (fun i _ _ => o i (by omega) (by omega)), b8.c (o _ (by decide) (by decide)) (fun i _ _ => o i (by omega) (by omega)), b9.c (o _ (by decide) (by decide)) (o _ (by decide) (by decide)), b10.c (fun i _ _ => o i (by omega) (by omega))⟩
  · rw [upM_eq, List.length_append]; rfl
  · rw [List.length_append]; exact hl
  · rw [List.length_append] at hi
    have hi : i < tp.length + 1 := hi
    by_cases q : i = tp.length
    · subst q
      rw [gD_n]
      exact ⟨pk_us, hb⟩
    · rw [gD_l (by omega), pk_un q]
      exact c i (by omega)
theorem lp_put {x : Int32} {k : Nat} (I : CI h0 h dk st un tp tr pi fl ln sb sj dr) (hl : tp.length < 900) (hk : k < 4) {Q : Option Value → zH → Prop} (kk : ∀ h', CI h0 h' dk st un (tp ++ [byt x k]) tr pi fl ln sb sj dr → Zw g d 0 0 mX11_putOnTape 40 [some (.ref 0), some (.int x), some (.int (nI (24 - 8 * k)))] [] h' Q) : Zw g d 0 0 mX11_putOnTape 3 [some (.ref 0), some (.int x), some (.int (nI (24 - 8 * k)))] [] h Q := by
  obtain ⟨rt, rn, rs, sw, rmv, rmk, moc, len, fre, fc, fr, vn, vs, qd, wst, wqu, wwe, wla, hx, hn, hd, hR, hv, hw, hs⟩ := I.o
  obtain ⟨tl, f, hf, tf⟩ := I.tape
  refine x_il2 dX11_putOnTape_3 ?_
  refine x_if_lt (tgt := 46) dX11_putOnTape_4 rfl (fun q4 => ?_) (fun q4 => ?_)
  · skip
    first | (simp only [cmp_lt, cmp_gt, cmp_eq, zN_cge, zN_cle, Decidable.not_not] at q4) | (simp (disch := omega) only [zN_le, zN_lt, zN_0, zN_1, nI_toInt, zN_eq, zN_eq0, b2_z, b2_nz, Decidable.not_not, Int.not_lt, Int.not_le, zK0, zK1, zK2, zK3, zK5, zK7, zK8, zK9, zK10, zK19, zK20, zK40, zK99, zK100, zK199] at q4) | skip
    omega
  · skip
    first | (simp only [cmp_lt, cmp_gt, cmp_eq, zN_cge, zN_cle, Decidable.not_not] at q4) | (simp (disch := omega) only [zN_le, zN_lt, zN_0, zN_1, nI_toInt, zN_eq, zN_eq0, b2_z, b2_nz, Decidable.not_not, Int.not_lt, Int.not_le, zK0, zK1, zK2, zK3, zK5, zK7, zK8, zK9, zK10, zK19, zK20, zK40, zK99, zK100, zK199] at q4) | skip
    refine x_al0 rfl dX11_putOnTape_7 ?_
    refine x_get fdX11_13 hx rfl dX11_putOnTape_8 ?_
    refine x_sipush (v := nI 900) dX11_putOnTape_11 (by decide) ?_
    refine x_icmp_ge (tgt := 46) dX11_putOnTape_14 rfl (fun q14 => ?_) (fun q14 => ?_)
    · skip
      first | (simp only [cmp_lt, cmp_gt, cmp_eq, zN_cge, zN_cle, Decidable.not_not] at q14) | (simp (disch := omega) only [zN_le, zN_lt, zN_0, zN_1, nI_toInt, zN_eq, zN_eq0, b2_z, b2_nz, Decidable.not_not, Int.not_lt, Int.not_le, zK0, zK1, zK2, zK3, zK5, zK7, zK8, zK9, zK10, zK19, zK20, zK40, zK99, zK100, zK199] at q14) | skip
      omega
    · skip
      first | (simp only [cmp_lt, cmp_gt, cmp_eq, zN_cge, zN_cle, Decidable.not_not] at q14) | (simp (disch := omega) only [zN_le, zN_lt, zN_0, zN_1, nI_toInt, zN_eq, zN_eq0, b2_z, b2_nz, Decidable.not_not, Int.not_lt, Int.not_le, zK0, zK1, zK2, zK3, zK5, zK7, zK8, zK9, zK10, zK19, zK20, zK40, zK99, zK100, zK199] at q14) | skip
      refine x_al0 rfl dX11_putOnTape_17 ?_
      refine x_get fdX11_9 hx rfl dX11_putOnTape_18 ?_
      refine x_al0 rfl dX11_putOnTape_21 ?_
      refine x_get fdX11_13 hx rfl dX11_putOnTape_22 ?_
      refine x_il1 dX11_putOnTape_25 ?_
      refine x_il2 dX11_putOnTape_26 ?_
      refine x_ishr (rfl) dX11_putOnTape_27 ?_
      refine x_i2b (byt_s.symm) dX11_putOnTape_28 ?_
      refine x_bast hf (vp_in_nI (by omega) (by decide)) dX11_putOnTape_29 ?_
      rw [nI_clamp (by omega), show vp_nar .byte (bsg (byt x k)) = bsg (byt x k) from pk_vb _]
      have hx2 := (hs_ne (e := .inl (1, 900, .inl (upd f tp.length (bsg (byt x k))))) (show (1 : Nat) ≠ 0 by decide)).trans hx
      refine x_al0 rfl dX11_putOnTape_30 ?_
      refine x_dup rfl dX11_putOnTape_31 ?_
      refine x_get fdX11_13 hx2 rfl dX11_putOnTape_32 ?_
      refine x_iconst (v := nI 1) dX11_putOnTape_35 rfl ?_
      first | refine x_iadd (nI_add _ _) dX11_putOnTape_36 ?_ | refine x_iadd rfl dX11_putOnTape_36 ?_
      refine x_put fdX11_13 hx2 zf_i (by simp) dX11_putOnTape_37 ?_
      exact kk _ (I.put1 hl byt_lt hx hf)
theorem k_putOnTape {x : Int32} (I : CI h0 h dk st un tp tr pi fl ln sb sj dr) (hl : tp.length + 4 ≤ 900) : Zm g d 0 0 mX11_putOnTape [.ref 0, .int x] h (rVp (fun h' => CI h0 h' dk st un (tp ++ l4 x) tr pi fl ln sb sj dr)) := by
  show Zw g d 0 0 mX11_putOnTape 0 [some (.ref 0), some (.int x), none] [] h _
  refine x_bipush (v := nI 24) dX11_putOnTape_0 rfl ?_
  refine x_is2 rfl dX11_putOnTape_2 ?_
  refine lp_put (k := 0) I (by omega) (by decide) (fun h I => ?_)
  refine x_ii2 rfl ((show nI 24 + Int32.ofInt (-8) = nI 16 by decide)) dX11_putOnTape_40 ?_
  refine x_goto (tgt := 3) dX11_putOnTape_43 rfl ?_
  refine lp_put (k := 1) I (by rw [List.length_append]; show tp.length + 1 < 900; omega) (by decide) (fun h I => ?_)
  refine x_ii2 rfl ((show nI 16 + Int32.ofInt (-8) = nI 8 by decide)) dX11_putOnTape_40 ?_
  refine x_goto (tgt := 3) dX11_putOnTape_43 rfl ?_
  refine lp_put (k := 2) I (by rw [List.length_append, List.length_append]; show tp.length + 1 + 1 < 900; omega) (by decide) (fun h I => ?_)
  refine x_ii2 rfl ((show nI 8 + Int32.ofInt (-8) = nI 0 by decide)) dX11_putOnTape_40 ?_
  refine x_goto (tgt := 3) dX11_putOnTape_43 rfl ?_
  refine lp_put (k := 3) I (by rw [List.length_append, List.length_append, List.length_append]; show tp.length + 1 + 1 + 1 < 900; omega) (by decide) (fun h I => ?_)
  refine x_ii2 rfl ((show nI 0 + Int32.ofInt (-8) = -8 by decide)) dX11_putOnTape_40 ?_
  refine x_goto (tgt := 3) dX11_putOnTape_43 rfl ?_
  refine x_il2 dX11_putOnTape_3 ?_
  refine x_if_lt (tgt := 46) dX11_putOnTape_4 rfl (fun q4 => ?_) (fun q4 => ?_)
  · skip
    exact x_vret rfl dX11_putOnTape_46 ⟨rfl, by rw [List.append_assoc, List.append_assoc, List.append_assoc] at I; exact I⟩
  · skip
    exact absurd (show (-8 : Int32) < 0 by decide) q4
theorem k_feed {a b c e f : Int32} (I : CI h0 h dk st un tp tr pi fl ln sb sj dr) : Zm g (d + 1) 0 0 mX11_feed [.ref 0, .int a, .int b, .int c, .int e, .int f] h (rIp (fun r h' => r = (D_feed tp a b c e f).1 ∧ CI h0 h' dk st un (D_feed tp a b c e f).2 tr pi fl ln sb sj dr)) := by
  obtain ⟨rt, rn, rs, sw, rmv, rmk, moc, len, fre, fc, fr, vn, vs, qd, wst, wqu, wwe, wla, hx, hn, hd, hR, hv, hw, hs⟩ := I.o
  obtain ⟨tl, -⟩ := I.tape
  show Zw g (d + 1) 0 0 mX11_feed 0 [some (.ref 0), some (.int a), some (.int b), some (.int c), some (.int e), some (.int f)] [] h _
  refine x_al0 rfl dX11_feed_0 ?_
  refine x_get fdX11_13 hx rfl dX11_feed_1 ?_
  refine x_bipush (v := nI 20) dX11_feed_4 rfl ?_
  first | refine x_iadd (nI_add _ _) dX11_feed_6 ?_ | refine x_iadd rfl dX11_feed_6 ?_
  refine x_sipush (v := nI 900) dX11_feed_7 (by decide) ?_
  refine x_icmp_le (tgt := 16) dX11_feed_10 rfl (fun q10 => ?_) (fun q10 => ?_)
  · skip
    first | (simp only [cmp_lt, cmp_gt, cmp_eq, zN_cge, zN_cle, Decidable.not_not] at q10) | (simp (disch := omega) only [zN_le, zN_lt, zN_0, zN_1, nI_toInt, zN_eq, zN_eq0, b2_z, b2_nz, Decidable.not_not, Int.not_lt, Int.not_le, zK0, zK1, zK2, zK3, zK5, zK7, zK8, zK9, zK10, zK19, zK20, zK40, zK99, zK100, zK199] at q10) | skip
    unfold D_feed
    rw [if_pos (by omega)]
    refine x_al0 rfl dX11_feed_16 ?_
    refine x_il1 dX11_feed_17 ?_
    refine x_cv1Vp mX11_putOnTape_ok lkX11_114 rfl (Nat.le_of_ble_eq_true rfl) (Nat.le_of_ble_eq_true rfl) dX11_feed_18 hx  (k_putOnTape I (by first | omega | (simp only [List.length_append, l4, List.length_cons, List.length_nil]; omega))) (fun h hq => ?_)
    have I := hq
    obtain ⟨rt, rn, rs, sw, rmv, rmk, moc, len, fre, fc, fr, vn, vs, qd, wst, wqu, wwe, wla, hx, hn, hd, hR, hv, hw, hs⟩ := I.o
    refine x_al0 rfl dX11_feed_21 ?_
    refine x_il2 dX11_feed_22 ?_
    refine x_cv1Vp mX11_putOnTape_ok lkX11_114 rfl (Nat.le_of_ble_eq_true rfl) (Nat.le_of_ble_eq_true rfl) dX11_feed_23 hx  (k_putOnTape I (by first | omega | (simp only [List.length_append, l4, List.length_cons, List.length_nil]; omega))) (fun h hq => ?_)
    have I := hq
    obtain ⟨rt, rn, rs, sw, rmv, rmk, moc, len, fre, fc, fr, vn, vs, qd, wst, wqu, wwe, wla, hx, hn, hd, hR, hv, hw, hs⟩ := I.o
    refine x_al0 rfl dX11_feed_26 ?_
    refine x_il3 dX11_feed_27 ?_
    refine x_cv1Vp mX11_putOnTape_ok lkX11_114 rfl (Nat.le_of_ble_eq_true rfl) (Nat.le_of_ble_eq_true rfl) dX11_feed_28 hx  (k_putOnTape I (by first | omega | (simp only [List.length_append, l4, List.length_cons, List.length_nil]; omega))) (fun h hq => ?_)
    have I := hq
    obtain ⟨rt, rn, rs, sw, rmv, rmk, moc, len, fre, fc, fr, vn, vs, qd, wst, wqu, wwe, wla, hx, hn, hd, hR, hv, hw, hs⟩ := I.o
    refine x_al0 rfl dX11_feed_31 ?_
    refine x_il4 dX11_feed_32 ?_
    refine x_cv1Vp mX11_putOnTape_ok lkX11_114 rfl (Nat.le_of_ble_eq_true rfl) (Nat.le_of_ble_eq_true rfl) dX11_feed_34 hx  (k_putOnTape I (by first | omega | (simp only [List.length_append, l4, List.length_cons, List.length_nil]; omega))) (fun h hq => ?_)
    have I := hq
    obtain ⟨rt, rn, rs, sw, rmv, rmk, moc, len, fre, fc, fr, vn, vs, qd, wst, wqu, wwe, wla, hx, hn, hd, hR, hv, hw, hs⟩ := I.o
    refine x_al0 rfl dX11_feed_37 ?_
    refine x_il5 dX11_feed_38 ?_
    refine x_cv1Vp mX11_putOnTape_ok lkX11_114 rfl (Nat.le_of_ble_eq_true rfl) (Nat.le_of_ble_eq_true rfl) dX11_feed_40 hx  (k_putOnTape I (by first | omega | (simp only [List.length_append, l4, List.length_cons, List.length_nil]; omega))) (fun h hq => ?_)
    have I := hq
    obtain ⟨rt, rn, rs, sw, rmv, rmk, moc, len, fre, fc, fr, vn, vs, qd, wst, wqu, wwe, wla, hx, hn, hd, hR, hv, hw, hs⟩ := I.o
    refine x_al0 rfl dX11_feed_43 ?_
    refine x_get fdX11_13 hx rfl dX11_feed_44 ?_
    refine x_iret rfl rfl dX11_feed_47 ⟨_, rfl, ?_, ?_⟩
    · simp only [List.length_append, l4, List.length_cons, List.length_nil]
    · show CI h0 h dk st un (tp ++ (l4 a ++ l4 b ++ l4 c ++ l4 e ++ l4 f)) tr pi fl ln sb sj dr
      rw [← List.append_assoc, ← List.append_assoc, ← List.append_assoc, ← List.append_assoc]
      exact I
  · skip
    first | (simp only [cmp_lt, cmp_gt, cmp_eq, zN_cge, zN_cle, Decidable.not_not] at q10) | (simp (disch := omega) only [zN_le, zN_lt, zN_0, zN_1, nI_toInt, zN_eq, zN_eq0, b2_z, b2_nz, Decidable.not_not, Int.not_lt, Int.not_le, zK0, zK1, zK2, zK3, zK5, zK7, zK8, zK9, zK10, zK19, zK20, zK40, zK99, zK100, zK199] at q10) | skip
    refine x_bipush (v := (-5)) dX11_feed_13 rfl ?_
    exact x_iret rfl rfl dX11_feed_15 ⟨_, rfl, by rw [D_feed, if_neg (by omega)], by rw [D_feed, if_neg (by omega)]; exact I⟩
end ZCfe

