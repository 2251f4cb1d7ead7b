/-! the class's Rows, on: powers, rounds; the JDK's bitCount, numberOfTrailingZeros -/
theorem x_ixor {g : zG} {d κ σ : Nat} {m : zMe} {pc : Nat} {ls : zL} {st : List Value} {h : zH} {Q : Option Value → zH → Prop} {x y v : Int32} (hv : x ^^^ y = v) (hd : decode m.2.1 pc = .ok (.ixor, 1)) (k : Zw g d κ σ m (pc + 1) ls (.int v :: st) h Q) : Zw g d κ σ m pc ls (.int y :: .int x :: st) h Q := by
  subst hv
  intro p e R s mid args below meth c H locs cells slots mc ms Z A ad lsC O T L S r1 r2 r3 r4 r5 r6 K
  exact lv_ixor O.1 O.2.1 hd (k p e R s mid args below meth c H locs cells slots mc ms Z A ad lsC O T L (z_pu z_wi (z_tl (z_tl S))) r1 r2 r3 r4 r5 r6 K)
theorem mx_n {a b : Nat} (ha : a < 2 ^ 31) (hb : b < 2 ^ 31) : (if nI a < nI b then nI b else nI a) = nI (max a b) := by
  by_cases h : a < b
  · rw [if_pos (nI_lt h hb), Nat.max_eq_right (by omega)]
  · rw [if_neg (nI_nlt (by omega) ha), Nat.max_eq_left (by omega)]
theorem mn_n {a b : Nat} (ha : a < 2 ^ 31) (hb : b < 2 ^ 31) : (if nI b < nI a then nI b else nI a) = nI (min a b) := by
  by_cases h : b < a
  · rw [if_pos (nI_lt h ha), Nat.min_eq_right (by omega)]
  · rw [if_neg (nI_nlt (by omega) hb), Nat.min_eq_left (by omega)]
section ZF
variable {g : zG} {d : Nat} {h : zH}
theorem c_bitCount {u : Nat} (hu : u < 64) : Zm g d 0 0 mJ6_bitCount_0f7a4 [.int (nI u)] h (rI (nI (popc u)) h) := by
  show Zw g d 0 0 mJ6_bitCount_0f7a4 0 [some (.int (nI u))] [] h _
  refine x_il0 dJ6_bitCount_0f7a4_0 ?_
  refine x_il0 dJ6_bitCount_0f7a4_1 ?_
  refine x_iconst (v := nI 1) dJ6_bitCount_0f7a4_2 rfl ?_
  refine x_iushr (rfl) dJ6_bitCount_0f7a4_3 ?_
  refine x_ldcw kcJ6_265 dJ6_bitCount_0f7a4_4 ?_
  refine x_iand (rfl) dJ6_bitCount_0f7a4_7 ?_
  refine x_isub (rfl) dJ6_bitCount_0f7a4_8 ?_
  refine x_is0 dJ6_bitCount_0f7a4_9 ?_
  refine x_il0 dJ6_bitCount_0f7a4_10 ?_
  refine x_ldcw kcJ6_266 dJ6_bitCount_0f7a4_11 ?_
  refine x_iand (rfl) dJ6_bitCount_0f7a4_14 ?_
  refine x_il0 dJ6_bitCount_0f7a4_15 ?_
  refine x_iconst (v := nI 2) dJ6_bitCount_0f7a4_16 rfl ?_
  refine x_iushr (rfl) dJ6_bitCount_0f7a4_17 ?_
  refine x_ldcw kcJ6_266 dJ6_bitCount_0f7a4_18 ?_
  refine x_iand (rfl) dJ6_bitCount_0f7a4_21 ?_
  refine x_iadd rfl dJ6_bitCount_0f7a4_22 ?_
  refine x_is0 dJ6_bitCount_0f7a4_23 ?_
  refine x_il0 dJ6_bitCount_0f7a4_24 ?_
  refine x_il0 dJ6_bitCount_0f7a4_25 ?_
  refine x_iconst (v := nI 4) dJ6_bitCount_0f7a4_26 rfl ?_
  refine x_iushr (rfl) dJ6_bitCount_0f7a4_27 ?_
  refine x_iadd rfl dJ6_bitCount_0f7a4_28 ?_
  refine x_ldcw kcJ6_267 dJ6_bitCount_0f7a4_29 ?_
  refine x_iand (rfl) dJ6_bitCount_0f7a4_32 ?_
  refine x_is0 dJ6_bitCount_0f7a4_33 ?_
  refine x_il0 dJ6_bitCount_0f7a4_34 ?_
  refine x_il0 dJ6_bitCount_0f7a4_35 ?_
  refine x_bipush (v := nI 8) dJ6_bitCount_0f7a4_36 rfl ?_
  refine x_iushr (rfl) dJ6_bitCount_0f7a4_38 ?_
  refine x_iadd rfl dJ6_bitCount_0f7a4_39 ?_
  refine x_is0 dJ6_bitCount_0f7a4_40 ?_
  refine x_il0 dJ6_bitCount_0f7a4_41 ?_
  refine x_il0 dJ6_bitCount_0f7a4_42 ?_
  refine x_bipush (v := nI 16) dJ6_bitCount_0f7a4_43 rfl ?_
  refine x_iushr (rfl) dJ6_bitCount_0f7a4_45 ?_
  refine x_iadd rfl dJ6_bitCount_0f7a4_46 ?_
  refine x_is0 dJ6_bitCount_0f7a4_47 ?_
  refine x_il0 dJ6_bitCount_0f7a4_48 ?_
  refine x_bipush (v := nI 63) dJ6_bitCount_0f7a4_49 rfl ?_
  refine x_iand (rfl) dJ6_bitCount_0f7a4_51 ?_
  exact x_iret rfl rfl dJ6_bitCount_0f7a4_52 ⟨congrArg (fun z => some (Value.int z)) (by revert u; decide +kernel), rfl⟩
def tzv (u : Nat) : Nat := [0, 1, 3, 7, 15, 31].getD (tz u) 0
theorem tzv_eq {u : Nat} (hu : u < 64) (h0 : 0 < u) : (nI u ^^^ (-1)) &&& (nI u - nI 1) = nI (tzv u) := by
  revert u
  decide +kernel
theorem tz_lt {u : Nat} : tz u < 6 := by
  unfold tz
  repeat' split
  all_goals decide
theorem ntz1 : Zw g d 0 0 mJ6_numberOfTrailingZeros_0f7a4 17 [some (.int (nI 1)), none] [] h (rI (nI 1) h) := by
  refine x_iconst (v := nI 1) dJ6_numberOfTrailingZeros_0f7a4_17 rfl ?_
  refine x_is1 rfl dJ6_numberOfTrailingZeros_0f7a4_18 ?_
  refine x_il0 dJ6_numberOfTrailingZeros_0f7a4_19 ?_
  refine x_ldcw kcJ6_264 dJ6_numberOfTrailingZeros_0f7a4_20 ?_
  refine x_icmp_le (tgt := 34) dJ6_numberOfTrailingZeros_0f7a4_23 rfl (fun _ => ?_) (fun q => absurd (by decide) q)
  refine x_il0 dJ6_numberOfTrailingZeros_0f7a4_34 ?_
  refine x_sipush (v := nI 256) dJ6_numberOfTrailingZeros_0f7a4_35 rfl ?_
  refine x_icmp_le (tgt := 49) dJ6_numberOfTrailingZeros_0f7a4_38 rfl (fun _ => ?_) (fun q => absurd (by decide) q)
  refine x_il0 dJ6_numberOfTrailingZeros_0f7a4_49 ?_
  refine x_bipush (v := nI 16) dJ6_numberOfTrailingZeros_0f7a4_50 rfl ?_
  refine x_icmp_le (tgt := 62) dJ6_numberOfTrailingZeros_0f7a4_52 rfl (fun _ => ?_) (fun q => absurd (by decide) q)
  refine x_il0 dJ6_numberOfTrailingZeros_0f7a4_62 ?_
  refine x_iconst (v := nI 4) dJ6_numberOfTrailingZeros_0f7a4_63 rfl ?_
  refine x_icmp_le (tgt := 74) dJ6_numberOfTrailingZeros_0f7a4_64 rfl (fun _ => ?_) (fun q => absurd (by decide) q)
  refine x_il1 dJ6_numberOfTrailingZeros_0f7a4_74 ?_
  refine x_il0 dJ6_numberOfTrailingZeros_0f7a4_75 ?_
  refine x_iconst (v := nI 1) dJ6_numberOfTrailingZeros_0f7a4_76 rfl ?_
  refine x_iushr (v := nI 0) (by decide) dJ6_numberOfTrailingZeros_0f7a4_77 ?_
  refine x_iadd (v := nI 1) (by decide) dJ6_numberOfTrailingZeros_0f7a4_78 ?_
  exact x_iret rfl rfl dJ6_numberOfTrailingZeros_0f7a4_79 ⟨rfl, rfl⟩
theorem ntz2 : Zw g d 0 0 mJ6_numberOfTrailingZeros_0f7a4 17 [some (.int (nI 3)), none] [] h (rI (nI 2) h) := by
  refine x_iconst (v := nI 1) dJ6_numberOfTrailingZeros_0f7a4_17 rfl ?_
  refine x_is1 rfl dJ6_numberOfTrailingZeros_0f7a4_18 ?_
  refine x_il0 dJ6_numberOfTrailingZeros_0f7a4_19 ?_
  refine x_ldcw kcJ6_264 dJ6_numberOfTrailingZeros_0f7a4_20 ?_
  refine x_icmp_le (tgt := 34) dJ6_numberOfTrailingZeros_0f7a4_23 rfl (fun _ => ?_) (fun q => absurd (by decide) q)
  refine x_il0 dJ6_numberOfTrailingZeros_0f7a4_34 ?_
  refine x_sipush (v := nI 256) dJ6_numberOfTrailingZeros_0f7a4_35 rfl ?_
  refine x_icmp_le (tgt := 49) dJ6_numberOfTrailingZeros_0f7a4_38 rfl (fun _ => ?_) (fun q => absurd (by decide) q)
  refine x_il0 dJ6_numberOfTrailingZeros_0f7a4_49 ?_
  refine x_bipush (v := nI 16) dJ6_numberOfTrailingZeros_0f7a4_50 rfl ?_
  refine x_icmp_le (tgt := 62) dJ6_numberOfTrailingZeros_0f7a4_52 rfl (fun _ => ?_) (fun q => absurd (by decide) q)
  refine x_il0 dJ6_numberOfTrailingZeros_0f7a4_62 ?_
  refine x_iconst (v := nI 4) dJ6_numberOfTrailingZeros_0f7a4_63 rfl ?_
  refine x_icmp_le (tgt := 74) dJ6_numberOfTrailingZeros_0f7a4_64 rfl (fun _ => ?_) (fun q => absurd (by decide) q)
  refine x_il1 dJ6_numberOfTrailingZeros_0f7a4_74 ?_
  refine x_il0 dJ6_numberOfTrailingZeros_0f7a4_75 ?_
  refine x_iconst (v := nI 1) dJ6_numberOfTrailingZeros_0f7a4_76 rfl ?_
  refine x_iushr (v := nI 1) (by decide) dJ6_numberOfTrailingZeros_0f7a4_77 ?_
  refine x_iadd (v := nI 2) (by decide) dJ6_numberOfTrailingZeros_0f7a4_78 ?_
  exact x_iret rfl rfl dJ6_numberOfTrailingZeros_0f7a4_79 ⟨rfl, rfl⟩
theorem ntz3 : Zw g d 0 0 mJ6_numberOfTrailingZeros_0f7a4 17 [some (.int (nI 7)), none] [] h (rI (nI 3) h) := by
  refine x_iconst (v := nI 1) dJ6_numberOfTrailingZeros_0f7a4_17 rfl ?_
  refine x_is1 rfl dJ6_numberOfTrailingZeros_0f7a4_18 ?_
  refine x_il0 dJ6_numberOfTrailingZeros_0f7a4_19 ?_
  refine x_ldcw kcJ6_264 dJ6_numberOfTrailingZeros_0f7a4_20 ?_
  refine x_icmp_le (tgt := 34) dJ6_numberOfTrailingZeros_0f7a4_23 rfl (fun _ => ?_) (fun q => absurd (by decide) q)
  refine x_il0 dJ6_numberOfTrailingZeros_0f7a4_34 ?_
  refine x_sipush (v := nI 256) dJ6_numberOfTrailingZeros_0f7a4_35 rfl ?_
  refine x_icmp_le (tgt := 49) dJ6_numberOfTrailingZeros_0f7a4_38 rfl (fun _ => ?_) (fun q => absurd (by decide) q)
  refine x_il0 dJ6_numberOfTrailingZeros_0f7a4_49 ?_
  refine x_bipush (v := nI 16) dJ6_numberOfTrailingZeros_0f7a4_50 rfl ?_
  refine x_icmp_le (tgt := 62) dJ6_numberOfTrailingZeros_0f7a4_52 rfl (fun _ => ?_) (fun q => absurd (by decide) q)
  refine x_il0 dJ6_numberOfTrailingZeros_0f7a4_62 ?_
  refine x_iconst (v := nI 4) dJ6_numberOfTrailingZeros_0f7a4_63 rfl ?_
  refine x_icmp_le (tgt := 74) dJ6_numberOfTrailingZeros_0f7a4_64 rfl (fun q => absurd q (by decide)) (fun _ => ?_)
  refine x_ii1 rfl (v := nI 3) (by decide) dJ6_numberOfTrailingZeros_0f7a4_67 ?_
  refine x_il0 dJ6_numberOfTrailingZeros_0f7a4_70 ?_
  refine x_iconst (v := nI 2) dJ6_numberOfTrailingZeros_0f7a4_71 rfl ?_
  refine x_iushr (v := nI 1) (by decide) dJ6_numberOfTrailingZeros_0f7a4_72 ?_
  refine x_is0 dJ6_numberOfTrailingZeros_0f7a4_73 ?_
  refine x_il1 dJ6_numberOfTrailingZeros_0f7a4_74 ?_
  refine x_il0 dJ6_numberOfTrailingZeros_0f7a4_75 ?_
  refine x_iconst (v := nI 1) dJ6_numberOfTrailingZeros_0f7a4_76 rfl ?_
  refine x_iushr (v := nI 0) (by decide) dJ6_numberOfTrailingZeros_0f7a4_77 ?_
  refine x_iadd (v := nI 3) (by decide) dJ6_numberOfTrailingZeros_0f7a4_78 ?_
  exact x_iret rfl rfl dJ6_numberOfTrailingZeros_0f7a4_79 ⟨rfl, rfl⟩
theorem ntz4 : Zw g d 0 0 mJ6_numberOfTrailingZeros_0f7a4 17 [some (.int (nI 15)), none] [] h (rI (nI 4) h) := by
  refine x_iconst (v := nI 1) dJ6_numberOfTrailingZeros_0f7a4_17 rfl ?_
  refine x_is1 rfl dJ6_numberOfTrailingZeros_0f7a4_18 ?_
  refine x_il0 dJ6_numberOfTrailingZeros_0f7a4_19 ?_
  refine x_ldcw kcJ6_264 dJ6_numberOfTrailingZeros_0f7a4_20 ?_
  refine x_icmp_le (tgt := 34) dJ6_numberOfTrailingZeros_0f7a4_23 rfl (fun _ => ?_) (fun q => absurd (by decide) q)
  refine x_il0 dJ6_numberOfTrailingZeros_0f7a4_34 ?_
  refine x_sipush (v := nI 256) dJ6_numberOfTrailingZeros_0f7a4_35 rfl ?_
  refine x_icmp_le (tgt := 49) dJ6_numberOfTrailingZeros_0f7a4_38 rfl (fun _ => ?_) (fun q => absurd (by decide) q)
  refine x_il0 dJ6_numberOfTrailingZeros_0f7a4_49 ?_
  refine x_bipush (v := nI 16) dJ6_numberOfTrailingZeros_0f7a4_50 rfl ?_
  refine x_icmp_le (tgt := 62) dJ6_numberOfTrailingZeros_0f7a4_52 rfl (fun _ => ?_) (fun q => absurd (by decide) q)
  refine x_il0 dJ6_numberOfTrailingZeros_0f7a4_62 ?_
  refine x_iconst (v := nI 4) dJ6_numberOfTrailingZeros_0f7a4_63 rfl ?_
  refine x_icmp_le (tgt := 74) dJ6_numberOfTrailingZeros_0f7a4_64 rfl (fun q => absurd q (by decide)) (fun _ => ?_)
  refine x_ii1 rfl (v := nI 3) (by decide) dJ6_numberOfTrailingZeros_0f7a4_67 ?_
  refine x_il0 dJ6_numberOfTrailingZeros_0f7a4_70 ?_
  refine x_iconst (v := nI 2) dJ6_numberOfTrailingZeros_0f7a4_71 rfl ?_
  refine x_iushr (v := nI 3) (by decide) dJ6_numberOfTrailingZeros_0f7a4_72 ?_
  refine x_is0 dJ6_numberOfTrailingZeros_0f7a4_73 ?_
  refine x_il1 dJ6_numberOfTrailingZeros_0f7a4_74 ?_
  refine x_il0 dJ6_numberOfTrailingZeros_0f7a4_75 ?_
  refine x_iconst (v := nI 1) dJ6_numberOfTrailingZeros_0f7a4_76 rfl ?_
  refine x_iushr (v := nI 1) (by decide) dJ6_numberOfTrailingZeros_0f7a4_77 ?_
  refine x_iadd (v := nI 4) (by decide) dJ6_numberOfTrailingZeros_0f7a4_78 ?_
  exact x_iret rfl rfl dJ6_numberOfTrailingZeros_0f7a4_79 ⟨rfl, rfl⟩
theorem ntz5 : Zw g d 0 0 mJ6_numberOfTrailingZeros_0f7a4 17 [some (.int (nI 31)), none] [] h (rI (nI 5) h) := by
  refine x_iconst (v := nI 1) dJ6_numberOfTrailingZeros_0f7a4_17 rfl ?_
  refine x_is1 rfl dJ6_numberOfTrailingZeros_0f7a4_18 ?_
  refine x_il0 dJ6_numberOfTrailingZeros_0f7a4_19 ?_
  refine x_ldcw kcJ6_264 dJ6_numberOfTrailingZeros_0f7a4_20 ?_
  refine x_icmp_le (tgt := 34) dJ6_numberOfTrailingZeros_0f7a4_23 rfl (fun _ => ?_) (fun q => absurd (by decide) q)
  refine x_il0 dJ6_numberOfTrailingZeros_0f7a4_34 ?_
  refine x_sipush (v := nI 256) dJ6_numberOfTrailingZeros_0f7a4_35 rfl ?_
  refine x_icmp_le (tgt := 49) dJ6_numberOfTrailingZeros_0f7a4_38 rfl (fun _ => ?_) (fun q => absurd (by decide) q)
  refine x_il0 dJ6_numberOfTrailingZeros_0f7a4_49 ?_
  refine x_bipush (v := nI 16) dJ6_numberOfTrailingZeros_0f7a4_50 rfl ?_
  refine x_icmp_le (tgt := 62) dJ6_numberOfTrailingZeros_0f7a4_52 rfl (fun q => absurd q (by decide)) (fun _ => ?_)
  refine x_ii1 rfl (v := nI 5) (by decide) dJ6_numberOfTrailingZeros_0f7a4_55 ?_
  refine x_il0 dJ6_numberOfTrailingZeros_0f7a4_58 ?_
  refine x_iconst (v := nI 4) dJ6_numberOfTrailingZeros_0f7a4_59 rfl ?_
  refine x_iushr (v := nI 1) (by decide) dJ6_numberOfTrailingZeros_0f7a4_60 ?_
  refine x_is0 dJ6_numberOfTrailingZeros_0f7a4_61 ?_
  refine x_il0 dJ6_numberOfTrailingZeros_0f7a4_62 ?_
  refine x_iconst (v := nI 4) dJ6_numberOfTrailingZeros_0f7a4_63 rfl ?_
  refine x_icmp_le (tgt := 74) dJ6_numberOfTrailingZeros_0f7a4_64 rfl (fun _ => ?_) (fun q => absurd (by decide) q)
  refine x_il1 dJ6_numberOfTrailingZeros_0f7a4_74 ?_
  refine x_il0 dJ6_numberOfTrailingZeros_0f7a4_75 ?_
  refine x_iconst (v := nI 1) dJ6_numberOfTrailingZeros_0f7a4_76 rfl ?_
  refine x_iushr (v := nI 0) (by decide) dJ6_numberOfTrailingZeros_0f7a4_77 ?_
  refine x_iadd (v := nI 5) (by decide) dJ6_numberOfTrailingZeros_0f7a4_78 ?_
  exact x_iret rfl rfl dJ6_numberOfTrailingZeros_0f7a4_79 ⟨rfl, rfl⟩
theorem c_ntz {u : Nat} (hu : u < 64) (h0 : 0 < u) : Zm g d 0 0 mJ6_numberOfTrailingZeros_0f7a4 [.int (nI u)] h (rI (nI (tz u)) h) := by
  have hv := tzv_eq hu h0
  show Zw g d 0 0 mJ6_numberOfTrailingZeros_0f7a4 0 [some (.int (nI u)), none] [] h _
  refine x_il0 dJ6_numberOfTrailingZeros_0f7a4_0 ?_
  refine x_iconst (v := -1) dJ6_numberOfTrailingZeros_0f7a4_1 rfl ?_
  refine x_ixor rfl dJ6_numberOfTrailingZeros_0f7a4_2 ?_
  refine x_il0 dJ6_numberOfTrailingZeros_0f7a4_3 ?_
  refine x_iconst (v := nI 1) dJ6_numberOfTrailingZeros_0f7a4_4 rfl ?_
  refine x_isub rfl dJ6_numberOfTrailingZeros_0f7a4_5 ?_
  refine x_iand hv dJ6_numberOfTrailingZeros_0f7a4_6 ?_
  unfold tzv
  have ht := tz_lt (u := u)
  generalize tz u = k at ht ⊢
  have hk : k = 0 ∨ k = 1 ∨ k = 2 ∨ k = 3 ∨ k = 4 ∨ k = 5 := by omega
  rcases hk with rfl | rfl | rfl | rfl | rfl | rfl
  · refine x_is0 dJ6_numberOfTrailingZeros_0f7a4_7 ?_
    refine x_il0 dJ6_numberOfTrailingZeros_0f7a4_8 ?_
    refine x_if_gt (tgt := 17) dJ6_numberOfTrailingZeros_0f7a4_9 rfl (fun q1 => ?_) (fun q1 => ?_)
    · exact absurd q1 (by decide)
    · refine x_il0 dJ6_numberOfTrailingZeros_0f7a4_12 ?_
      refine x_bipush (v := nI 32) dJ6_numberOfTrailingZeros_0f7a4_13 rfl ?_
      refine x_iand ((show _ = nI 0 by decide)) dJ6_numberOfTrailingZeros_0f7a4_15 ?_
      exact x_iret rfl rfl dJ6_numberOfTrailingZeros_0f7a4_16 ⟨rfl, rfl⟩
  · refine x_is0 dJ6_numberOfTrailingZeros_0f7a4_7 ?_
    refine x_il0 dJ6_numberOfTrailingZeros_0f7a4_8 ?_
    refine x_if_gt (tgt := 17) dJ6_numberOfTrailingZeros_0f7a4_9 rfl (fun q1 => ?_) (fun q1 => ?_)
    · exact ntz1
    · exact absurd (by decide) q1
  · refine x_is0 dJ6_numberOfTrailingZeros_0f7a4_7 ?_
    refine x_il0 dJ6_numberOfTrailingZeros_0f7a4_8 ?_
    refine x_if_gt (tgt := 17) dJ6_numberOfTrailingZeros_0f7a4_9 rfl (fun q1 => ?_) (fun q1 => ?_)
    · exact ntz2
    · exact absurd (by decide) q1
  · refine x_is0 dJ6_numberOfTrailingZeros_0f7a4_7 ?_
    refine x_il0 dJ6_numberOfTrailingZeros_0f7a4_8 ?_
    refine x_if_gt (tgt := 17) dJ6_numberOfTrailingZeros_0f7a4_9 rfl (fun q1 => ?_) (fun q1 => ?_)
    · exact ntz3
    · exact absurd (by decide) q1
  · refine x_is0 dJ6_numberOfTrailingZeros_0f7a4_7 ?_
    refine x_il0 dJ6_numberOfTrailingZeros_0f7a4_8 ?_
    refine x_if_gt (tgt := 17) dJ6_numberOfTrailingZeros_0f7a4_9 rfl (fun q1 => ?_) (fun q1 => ?_)
    · exact ntz4
    · exact absurd (by decide) q1
  · refine x_is0 dJ6_numberOfTrailingZeros_0f7a4_7 ?_
    refine x_il0 dJ6_numberOfTrailingZeros_0f7a4_8 ?_
    refine x_if_gt (tgt := 17) dJ6_numberOfTrailingZeros_0f7a4_9 rfl (fun q1 => ?_) (fun q1 => ?_)
    · exact ntz5
    · exact absurd (by decide) q1
theorem lN_rem {K c : Nat} (hK : K < 2 ^ 63) (h0 : 0 < c) (hc : c < 2 ^ 31) : (lN K - lN K / (nI c).toInt64 * (nI c).toInt64).toInt32 = nI (K % c) := by
  rw [nI_l hc, pk_lRem hK h0 (by omega), lN_i]
def pwk (n s K j : Nat) : Nat := nbk n s (K % popc (rb n s j)) j
theorem lp_X5_powerOf {n s K rn rs : Nat} {sw : Int32} (hs : s < fct n) (hK : K < 2 ^ 63) : ∀ (k j : Nat) (x : Option Value) (h : zH) (fm : Nat → Int32), j + k = n → RT h n rn rs sw → h[19]? = some (.inl (0, 6, .inl fm)) → (∀ i, i < j → fm i = nI (pwk n s K i)) →
    Zw g (d + 2) 0 0 mX5_powerOf 3 [some (.ref 15), some (.int (nI s)), some (.long (lN K)), none, some (.int (nI j)), x] [] h (rIp (fun r h' => r = nI (rnk n (pwk n s K)) ∧ Md h h')) := by
  intro k
  induction k with
  | zero =>
    intro j x h fm hj hT hm hp
    have hn := hT.2.1
    have hR := hT.2.2.2.2.1
    obtain rfl : j = n := by omega
    refine x_il4 dX5_powerOf_3 ?_
    refine x_al0 rfl dX5_powerOf_5 ?_
    refine x_get fdX5_9 hR rfl dX5_powerOf_6 ?_
    refine x_icmp_ge (tgt := 54) dX5_powerOf_9 rfl (fun q1 => ?_) (fun q1 => ?_)
    · refine x_al0 rfl dX5_powerOf_54 ?_
      refine x_get fdX5_36 hR rfl dX5_powerOf_55 ?_
      refine x_al0 rfl dX5_powerOf_58 ?_
      refine x_get fdX5_9 hR rfl dX5_powerOf_59 ?_
      refine x_cs2I mX5_numberOf_ok lkX5_53 (Nat.le_of_ble_eq_true rfl) (Nat.le_of_ble_eq_true rfl) dX5_powerOf_62 (c_X5_numberOf (p := pwk j s K) hm hn (by decide) (fun i hi => ⟨hp i hi, Nat.lt_trans (nbk_lt hn hs _ _ hi) (by omega)⟩)) ?_
      exact x_iret rfl rfl dX5_powerOf_65 ⟨_, rfl, rfl, fm, (hs_same hm).symm⟩
    · exact absurd (nI_le (Nat.le_refl _) (by omega)) q1
  | succ k ih =>
    intro j x h fm hj hT hm hp
    have hn := hT.2.1
    have hR := hT.2.2.2.2.1
    have hjn : j < n := by omega
    obtain ⟨b0, b1, b2⟩ := rb_facts hn hs hjn
    have b3 := popc_le (u := rb n s j)
    have hml : K % popc (rb n s j) < 2 ^ 31 := Nat.lt_trans (Nat.mod_lt K b2) (by omega)
    refine x_il4 dX5_powerOf_3 ?_
    refine x_al0 rfl dX5_powerOf_5 ?_
    refine x_get fdX5_9 hR rfl dX5_powerOf_6 ?_
    refine x_icmp_ge (tgt := 54) dX5_powerOf_9 rfl (fun q1 => ?_) (fun q1 => ?_)
    · exact absurd q1 (nI_ge (by omega) (by omega))
    · refine x_iconst (v := nI 1) dX5_powerOf_12 rfl ?_
      refine x_al0 rfl dX5_powerOf_13 ?_
      refine x_il1 dX5_powerOf_14 ?_
      refine x_il4 dX5_powerOf_15 ?_
      refine x_cv2I mX5_roundBits_ok lkX5_57 rfl (Nat.le_of_ble_eq_true rfl) (Nat.le_of_ble_eq_true rfl) dX5_powerOf_17 hR  (c_X5_roundBits hT hs hjn) ?_
      refine x_cs1I mJ6_bitCount_0f7a4_ok lkX5_60 (Nat.le_of_ble_eq_true rfl) (Nat.le_of_ble_eq_true rfl) dX5_powerOf_20 (c_bitCount b1) ?_
      refine x_mmax kjX5_66 (Nat.le_of_ble_eq_true rfl) (mx_n (by omega) (by omega)) dX5_powerOf_23 ?_
      rw [show max 1 (popc (rb n s j)) = popc (rb n s j) by omega]
      refine x_is5 rfl dX5_powerOf_26 ?_
      refine x_al0 rfl dX5_powerOf_28 ?_
      refine x_get fdX5_36 hR rfl dX5_powerOf_29 ?_
      refine x_il4 dX5_powerOf_32 ?_
      refine x_al0 rfl dX5_powerOf_34 ?_
      refine x_il1 dX5_powerOf_35 ?_
      refine x_il4 dX5_powerOf_36 ?_
      refine x_ll2 dX5_powerOf_38 ?_
      refine x_il5 dX5_powerOf_39 ?_
      refine x_i2l (rfl) dX5_powerOf_41 ?_
      refine x_lrem (show ¬ (nI (popc (rb n s j))).toInt64 = 0 by rw [nI_l (by omega)]; exact fun z => absurd ((lN_eq (b := 0) (by omega) (by omega)).mp z) (by omega)) rfl dX5_powerOf_42 ?_
      refine x_l2i (lN_rem hK b2 (by omega)) dX5_powerOf_43 ?_
      refine x_cv3I mX5_nameBehind_ok lkX5_71 rfl (Nat.le_of_ble_eq_true rfl) (Nat.le_of_ble_eq_true rfl) dX5_powerOf_44 hR  (c_X5_nameBehind hT hs hjn hml) ?_
      refine x_iast hm (vp_in_nI (by omega) (by decide)) dX5_powerOf_47 ?_
      first | refine x_ii4 rfl (nI_1 _) dX5_powerOf_48 ?_ | refine x_ii4 rfl rfl dX5_powerOf_48 ?_
      refine x_goto (tgt := 3) dX5_powerOf_51 rfl ?_
      rw [nI_clamp (by omega)]
      refine Zw.mono (ih (j + 1) _ _ _ (by omega) hT.made (hs_eq hm) (fun a ha => ?_)) (fun v h' hq => ?_)
      · unfold upd
        split
        · next q => rw [q]; rfl
        · exact hp a (by omega)
      · obtain ⟨r, rfl, h1, h2⟩ := hq
        exact ⟨r, rfl, h1, h2.set⟩
theorem c_X5_powerOf {n s K rn rs : Nat} {sw : Int32} (hT : RT h n rn rs sw) (hs : s < fct n) (hK : K < 2 ^ 63) : Zm g (d + 2) 0 0 mX5_powerOf [.ref 15, .int (nI s), .long (lN K)] h (rIp (fun r h' => r = nI (rnk n (pwk n s K)) ∧ Md h h')) := by
  obtain ⟨fm, hm⟩ := hT.2.2.2.2.2.2
  show Zw g (d + 2) 0 0 mX5_powerOf 0 [some (.ref 15), some (.int (nI s)), some (.long (lN K)), none, none, none] [] h _
  refine x_iconst (v := nI 0) dX5_powerOf_0 rfl ?_
  refine x_is4 rfl dX5_powerOf_1 ?_
  exact lp_X5_powerOf hs hK n 0 none h fm (by omega) hT hm (fun i hi => absurd hi (by omega))
end ZF

