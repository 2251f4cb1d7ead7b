/-! the class's Visits.sitAt -/
section ZSi
variable {g : zG} {d : Nat} {h : zH}
theorem lp_sit80 {n r rmv rmk rn rs lk : Nat} {sw moc len fr : Int32} {x : Option Value} {fk : Nat → Int32} (hn : n ≤ 6) (hv : h[20]? = some (visE r rmv rmk moc len fr)) (hR : h[15]? = some (rowsE n sw rn rs)) (hk : h[rmk]? = some (.inl (1, lk, .inl fk))) (hl : lk < 2 ^ 31) : Zw g d 1 (grw lk (10 * fct n)) mX9_sitAt 80 [some (.ref 20), some (.ref r), x] [] h (rVp (fun h' => ∃ rmk' fk', Fr [20] h h' ∧ h'[20]? = some (visE r rmv rmk' moc len fr) ∧ h'[rmk']? = some (.inl (1, max lk (10 * fct n), .inl fk')) ∧ (rmk' = rmk ∨ rmk' = h.length) ∧ h'.length ≤ h.length + 1)) := by
  have hf := fct_le hn
  refine x_al0 rfl dX9_sitAt_80 ?_
  refine x_get fdX9_19 hv rfl dX9_sitAt_81 ?_
  refine x_alen rfl hk rfl dX9_sitAt_84 ?_
  refine x_bipush (v := nI 10) dX9_sitAt_85 rfl ?_
  refine x_al0 rfl dX9_sitAt_87 ?_
  refine x_get fdX9_46 hv rfl dX9_sitAt_88 ?_
  refine x_get fdX9_58 hR rfl dX9_sitAt_91 ?_
  first | refine x_imul (pk_mul _ _) dX9_sitAt_94 ?_ | refine x_imul rfl dX9_sitAt_94 ?_
  rw [show Int32.ofNat lk = nI lk from rfl]
  refine x_icmp_ge (tgt := 114) dX9_sitAt_95 rfl (fun q95 => ?_) (fun q95 => ?_)
  · skip
    first | (simp only [cmp_lt, cmp_gt, cmp_eq, zN_cge, zN_cle, Decidable.not_not] at q95) | (simp (disch := omega) only [zN_le, zN_lt, zN_0, zN_1, nI_toInt, zN_eq, zN_eq0, b2_z, b2_nz, Decidable.not_not, Int.not_lt, Int.not_le, zK0, zK1, zK2, zK3, zK5, zK7, zK8, zK9, zK10, zK19, zK20, zK40, zK99, zK100, zK199] at q95) | skip
    exact x_vret rfl dX9_sitAt_114 ⟨rfl, rmk, fk, Fr.rf, hv, by rw [show max lk (10 * fct n) = lk by omega]; exact hk, Or.inl rfl, by omega⟩
  · skip
    first | (simp only [cmp_lt, cmp_gt, cmp_eq, zN_cge, zN_cle, Decidable.not_not] at q95) | (simp (disch := omega) only [zN_le, zN_lt, zN_0, zN_1, nI_toInt, zN_eq, zN_eq0, b2_z, b2_nz, Decidable.not_not, Int.not_lt, Int.not_le, zK0, zK1, zK2, zK3, zK5, zK7, zK8, zK9, zK10, zK19, zK20, zK40, zK99, zK100, zK199] at q95) | skip
    have ql : lk < 10 * fct n := by omega
    rw [show grw lk (10 * fct n) = 0 + 10 * fct n from by unfold grw; rw [if_pos ql]; omega]
    refine x_al0 rfl dX9_sitAt_98 ?_
    refine x_bipush (v := nI 10) dX9_sitAt_99 rfl ?_
    refine x_al0 rfl dX9_sitAt_101 ?_
    refine x_get fdX9_46 hv rfl dX9_sitAt_102 ?_
    refine x_get fdX9_58 hR rfl dX9_sitAt_105 ?_
    first | refine x_imul (pk_mul _ _) dX9_sitAt_108 ?_ | refine x_imul rfl dX9_sitAt_108 ?_
    refine x_newa_byte ka_byte (nI_pos (by omega)) (nI_clamp (by omega)) (by omega) dX9_sitAt_109 ?_
    refine x_put fdX9_19 (hp_old hv) (by first | exact zf_a | exact zf_an) (by simp) dX9_sitAt_111 ?_
    have l20 := hp_lt hv
    exact x_vret rfl dX9_sitAt_114 ⟨rfl, h.length, _, Fr.push.tr (Fr.set (by simp)), hs_eq (hp_old hv), by rw [hs_ne (by omega), show max lk (10 * fct n) = 10 * fct n by omega]; exact hp_new, Or.inr rfl, by simp⟩
theorem lp_sit52 {n op r rmv rmk rn rs lk lm : Nat} {sw len fr : Int32} {x : Option Value} {fk fm : Nat → Int32} (hn : n ≤ 6) (ho : op ≤ 9) (hv : h[20]? = some (visE r rmv rmk (nI (n * n * n * op)) len fr)) (hR : h[15]? = some (rowsE n sw rn rs)) (hm : h[rmv]? = some (.inl (1, lm, .inl fm))) (hk : h[rmk]? = some (.inl (1, lk, .inl fk))) (hlm : lm < 2 ^ 31) (hl : lk < 2 ^ 31) : Zw g d 2 (grw lm (10 * (n * n * n * op)) + grw lk (10 * fct n)) mX9_sitAt 52 [some (.ref 20), some (.ref r), x] [] h (rVp (fun h' => ∃ rmv' rmk' fm' fk', Fr [20] h h' ∧ h'[20]? = some (visE r rmv' rmk' (nI (n * n * n * op)) len fr) ∧ h'[rmv']? = some (.inl (1, max lm (10 * (n * n * n * op)), .inl fm')) ∧ h'[rmk']? = some (.inl (1, max lk (10 * fct n), .inl fk')) ∧ (rmv' = rmv ∨ rmv' = h.length) ∧ (rmk' = rmk ∨ (h.length ≤ rmk' ∧ rmk' ≠ rmv')) ∧ h'.length ≤ h.length + 2)) := by
  have hf := fct_le hn
  have n3 : n * n * n * op ≤ 1944 := by
    have a1 : n * n ≤ 6 * 6 := Nat.mul_le_mul hn hn
    have a2 : n * n * n ≤ 6 * 6 * 6 := Nat.mul_le_mul a1 hn
    exact Nat.mul_le_mul a2 ho
  have r20 : rmv ≠ 20 := fun z => by rw [z, hv] at hm; cases hm
  have k20 : rmk ≠ 20 := fun z => by rw [z, hv] at hk; cases hk
  generalize n * n * n * op = P at *
  refine x_al0 rfl dX9_sitAt_52 ?_
  refine x_get fdX9_15 hv rfl dX9_sitAt_53 ?_
  refine x_alen rfl hm rfl dX9_sitAt_56 ?_
  refine x_bipush (v := nI 10) dX9_sitAt_57 rfl ?_
  refine x_al0 rfl dX9_sitAt_59 ?_
  refine x_get fdX9_22 hv rfl dX9_sitAt_60 ?_
  first | refine x_imul (pk_mul _ _) dX9_sitAt_63 ?_ | refine x_imul rfl dX9_sitAt_63 ?_
  rw [show Int32.ofNat lm = nI lm from rfl]
  refine x_icmp_ge (tgt := 80) dX9_sitAt_64 rfl (fun q64 => ?_) (fun q64 => ?_)
  · skip
    first | (simp only [cmp_lt, cmp_gt, cmp_eq, zN_cge, zN_cle, Decidable.not_not] at q64) | (simp (disch := omega) only [zN_le, zN_lt, zN_0, zN_1, nI_toInt, zN_eq, zN_eq0, b2_z, b2_nz, Decidable.not_not, Int.not_lt, Int.not_le, zK0, zK1, zK2, zK3, zK5, zK7, zK8, zK9, zK10, zK19, zK20, zK40, zK99, zK100, zK199] at q64) | skip
    refine Zw.mono (Zw.room (lp_sit80 hn hv hR hk hl) (by omega) (by omega)) (fun v h' hq => ?_)
    obtain ⟨rfl, rmk', fk', q1, q2, q3, q4, q5⟩ := hq
    have lv := hp_lt hm
    exact ⟨rfl, rmv, rmk', fm, fk', q1, q2, by rw [show max lm (10 * P) = lm by omega]; exact q1.get hm (by simpa using r20), q3, Or.inl rfl, q4.imp_right (fun z => ⟨by omega, by omega⟩), by omega⟩
  · skip
    first | (simp only [cmp_lt, cmp_gt, cmp_eq, zN_cge, zN_cle, Decidable.not_not] at q64) | (simp (disch := omega) only [zN_le, zN_lt, zN_0, zN_1, nI_toInt, zN_eq, zN_eq0, b2_z, b2_nz, Decidable.not_not, Int.not_lt, Int.not_le, zK0, zK1, zK2, zK3, zK5, zK7, zK8, zK9, zK10, zK19, zK20, zK40, zK99, zK100, zK199] at q64) | skip
    have ql : lm < 10 * P := by omega
    rw [show grw lm (10 * P) + grw lk (10 * fct n) = grw lk (10 * fct n) + 10 * P from by unfold grw; rw [if_pos ql]; omega]
    refine x_al0 rfl dX9_sitAt_67 ?_
    refine x_bipush (v := nI 10) dX9_sitAt_68 rfl ?_
    refine x_al0 rfl dX9_sitAt_70 ?_
    refine x_get fdX9_22 hv rfl dX9_sitAt_71 ?_
    first | refine x_imul (pk_mul _ _) dX9_sitAt_74 ?_ | refine x_imul rfl dX9_sitAt_74 ?_
    refine x_newa_byte ka_byte (nI_pos (by omega)) (nI_clamp (by omega)) (by omega) dX9_sitAt_75 ?_
    refine x_put fdX9_15 (hp_old hv) (by first | exact zf_a | exact zf_an) (by simp) dX9_sitAt_77 ?_
    have l20 := hp_lt hv
    have lk' := hp_lt hk
    have a20 : ((h ++ [newB (10 * P)]).set 20 (visE r h.length rmk (nI P) len fr))[20]? = some (visE r h.length rmk (nI P) len fr) := hs_eq (hp_old hv)
    have aF : Fr [20] h ((h ++ [newB (10 * P)]).set 20 (visE r h.length rmk (nI P) len fr)) := Fr.push.tr (Fr.set (by simp))
    have aN : ((h ++ [newB (10 * P)]).set 20 (visE r h.length rmk (nI P) len fr))[h.length]? = some (newB (10 * P)) := by rw [hs_ne (by omega)]; exact hp_new
    have aL : ((h ++ [newB (10 * P)]).set 20 (visE r h.length rmk (nI P) len fr)).length = h.length + 1 := by simp
    show Zw g d 1 _ mX9_sitAt 80 [some (.ref 20), some (.ref r), x] [] ((h ++ [newB (10 * P)]).set 20 (visE r h.length rmk (nI P) len fr)) _
    generalize (h ++ [newB (10 * P)]).set 20 (visE r h.length rmk (nI P) len fr) = h1 at a20 aF aN aL ⊢
    refine Zw.mono (lp_sit80 hn a20 (aF.get hR (by simp)) (aF.get hk (by simpa using k20)) hl) (fun v h' hq => ?_)
    obtain ⟨rfl, rmk', fk', q1, q2, q3, q4, q5⟩ := hq
    exact ⟨rfl, h.length, rmk', _, fk', aF.tr q1, q2, by rw [show max lm (10 * P) = 10 * P by omega]; exact q1.get aN (by simp only [List.mem_cons, List.mem_nil_iff, or_false]; omega), q3, Or.inr rfl, q4.imp_right (fun z => ⟨by omega, by omega⟩), by omega⟩
theorem c_sitAt9 {n op r rmv rmk rn rs lk lm : Nat} {v0 vn vs : Value} {sw moc len fr c1 c2 c3 c4 : Int32} {fk fm kp : Nat → Int32} (hn : n ≤ 6) (ho : op ≤ 9) (hv : h[20]? = some (.inr (9, [.ref 15, v0, .ref rmv, .ref rmk, .int moc, .ref 23, .ref 24, .ref 25, .int len, .int fr]))) (hd : h[r]? = some (deskE n op c1 c2 c3 c4 vn vs)) (hR : h[15]? = some (rowsE n sw rn rs)) (h23 : h[23]? = some (.inl (3, 10, .inl kp))) (hm : h[rmv]? = some (.inl (1, lm, .inl fm))) (hk : h[rmk]? = some (.inl (1, lk, .inl fk))) (hlm : lm < 2 ^ 31) (hl : lk < 2 ^ 31) : Zm g d 2 (grw lm (10 * (n * n * n * op)) + grw lk (10 * fct n)) mX9_sitAt [.ref 20, .ref r] h (rVp (fun h' => ∃ rmv' rmk' fm' fk' kp', Fr [20, 23] h h' ∧ h'[20]? = some (visE r rmv' rmk' (nI (n * n * n * op)) len fr) ∧ h'[23]? = some (.inl (3, 10, .inl kp')) ∧ (∀ c, c < 10 → kp' c = 0) ∧ h'[rmv']? = some (.inl (1, max lm (10 * (n * n * n * op)), .inl fm')) ∧ h'[rmk']? = some (.inl (1, max lk (10 * fct n), .inl fk')) ∧ (rmv' = rmv ∨ rmv' = h.length) ∧ (rmk' = rmk ∨ (h.length ≤ rmk' ∧ rmk' ≠ rmv')) ∧ h'.length ≤ h.length + 2)) := by
  have r20 : r ≠ 20 := fun z => by rw [z, hv] at hd; cases hd
  have m20 : rmv ≠ 20 := fun z => by rw [z, hv] at hm; cases hm
  have k20 : rmk ≠ 20 := fun z => by rw [z, hv] at hk; cases hk
  have m23 : rmv ≠ 23 := fun z => by rw [z, h23] at hm; cases hm
  have k23 : rmk ≠ 23 := fun z => by rw [z, h23] at hk; cases hk
  show Zw g d 2 _ mX9_sitAt 0 [some (.ref 20), some (.ref r), none] [] h _
  refine x_al0 rfl dX9_sitAt_0 ?_
  refine x_al1 rfl dX9_sitAt_1 ?_
  refine x_put fdX9_9 hv (by first | exact zf_o | exact zf_on) (by simp) dX9_sitAt_2 ?_
  have N : ∀ {j : Nat} {e e' : va_E}, h[j]? = some e → j ≠ 20 → (h.set 20 e')[j]? = some e := fun q z => by rw [hs_ne (Ne.symm z)]; exact q
  refine x_al0 rfl dX9_sitAt_5 ?_
  refine x_al1 rfl dX9_sitAt_6 ?_
  refine x_get fdX9_50 (N hd r20) rfl dX9_sitAt_7 ?_
  refine x_al1 rfl dX9_sitAt_10 ?_
  refine x_get fdX9_50 (N hd r20) rfl dX9_sitAt_11 ?_
  first | refine x_imul (pk_mul _ _) dX9_sitAt_14 ?_ | refine x_imul rfl dX9_sitAt_14 ?_
  refine x_al1 rfl dX9_sitAt_15 ?_
  refine x_get fdX9_50 (N hd r20) rfl dX9_sitAt_16 ?_
  first | refine x_imul (pk_mul _ _) dX9_sitAt_19 ?_ | refine x_imul rfl dX9_sitAt_19 ?_
  refine x_al1 rfl dX9_sitAt_20 ?_
  refine x_get fdX9_55 (N hd r20) rfl dX9_sitAt_21 ?_
  first | refine x_imul (pk_mul _ _) dX9_sitAt_24 ?_ | refine x_imul rfl dX9_sitAt_24 ?_
  refine x_put fdX9_22 (hs_eq hv) zf_i (by simp) dX9_sitAt_25 ?_
  rw [List.set_set]
  show Zw g d 2 _ mX9_sitAt 28 [some (.ref 20), some (.ref r), none] [] (h.set 20 (visE r rmv rmk (nI (n * n * n * op)) len fr)) _
  have b20 : (h.set 20 (visE r rmv rmk (nI (n * n * n * op)) len fr))[20]? = some (visE r rmv rmk (nI (n * n * n * op)) len fr) := hs_eq hv
  have bR := N (e' := visE r rmv rmk (nI (n * n * n * op)) len fr) hR (by decide)
  have b23 := N (e' := visE r rmv rmk (nI (n * n * n * op)) len fr) h23 (by decide)
  have bm := N (e' := visE r rmv rmk (nI (n * n * n * op)) len fr) hm m20
  have bk := N (e' := visE r rmv rmk (nI (n * n * n * op)) len fr) hk k20
  have bF : Fr [20, 23] h (h.set 20 (visE r rmv rmk (nI (n * n * n * op)) len fr)) := Fr.set (by simp)
  have bL : (h.set 20 (visE r rmv rmk (nI (n * n * n * op)) len fr)).length = h.length := by simp
  generalize h.set 20 (visE r rmv rmk (nI (n * n * n * op)) len fr) = h1 at b20 bR b23 bm bk bF bL ⊢
  refine x_iconst (v := nI 0) dX9_sitAt_28 rfl ?_
  refine x_is2 rfl dX9_sitAt_29 ?_
  refine x_for (e := 10) (fun i => [some (.ref 20), some (.ref r), some (.int (nI i))]) (fun i h2 => h2[20]? = some (visE r rmv rmk (nI (n * n * n * op)) len fr) ∧ Fr [23] h1 h2 ∧ h2.length = h1.length ∧ ∃ kp, h2[23]? = some (.inl (3, 10, .inl kp)) ∧ ∀ c, c < i → kp c = 0) 0 (by omega) ⟨b20, Fr.rf, rfl, kp, b23, fun c hc => absurd hc (Nat.not_lt_zero _)⟩ (fun h2 hI => ?_) (fun i h2 hi hI ih => ?_)
  · obtain ⟨hv, F, hL, kp, k23', kz⟩ := hI
    refine x_il2 dX9_sitAt_30 ?_
    refine x_al0 rfl dX9_sitAt_31 ?_
    refine x_get fdX9_26 hv rfl dX9_sitAt_32 ?_
    refine x_alen rfl k23' rfl dX9_sitAt_35 ?_
    refine x_icmp_ge (tgt := 52) dX9_sitAt_36 rfl (fun q36 => ?_) (fun q36 => ?_)
    · skip
      first | (simp only [cmp_lt, cmp_gt, cmp_eq, zN_cge, zN_cle, Decidable.not_not] at q36) | (simp (disch := omega) only [zN_le, zN_lt, zN_0, zN_1, nI_toInt, zN_eq, zN_eq0, b2_z, b2_nz, Decidable.not_not, Int.not_lt, Int.not_le, zK0, zK1, zK2, zK3, zK5, zK7, zK8, zK9, zK10, zK19, zK20, zK40, zK99, zK100, zK199] at q36) | skip
      refine Zw.mono (lp_sit52 hn ho hv (F.get bR (by decide)) (F.get bm (by simpa using m23)) (F.get bk (by simpa using k23)) hlm hl) (fun v h' hq => ?_)
      obtain ⟨rfl, rmv', rmk', fm', fk', q1, q2, q3, q4, q5, q6, q7⟩ := hq
      exact ⟨rfl, rmv', rmk', fm', fk', kp, (bF.tr (F.mono (by simp))).tr (q1.mono (by simp)), q2, q1.get k23' (by decide), kz, q3, q4, by omega, by omega, by omega⟩
    · skip
      first | (simp only [cmp_lt, cmp_gt, cmp_eq, zN_cge, zN_cle, Decidable.not_not] at q36) | (simp (disch := omega) only [zN_le, zN_lt, zN_0, zN_1, nI_toInt, zN_eq, zN_eq0, b2_z, b2_nz, Decidable.not_not, Int.not_lt, Int.not_le, zK0, zK1, zK2, zK3, zK5, zK7, zK8, zK9, zK10, zK19, zK20, zK40, zK99, zK100, zK199] at q36) | skip
      exact absurd q36 (by decide)
  · obtain ⟨hv, F, hL, kp, k23', kz⟩ := hI
    refine x_il2 dX9_sitAt_30 ?_
    refine x_al0 rfl dX9_sitAt_31 ?_
    refine x_get fdX9_26 hv rfl dX9_sitAt_32 ?_
    refine x_alen rfl k23' rfl dX9_sitAt_35 ?_
    rw [show Int32.ofNat 10 = nI 10 from rfl]
    refine x_icmp_ge (tgt := 52) dX9_sitAt_36 rfl (fun q36 => ?_) (fun q36 => ?_)
    · skip
      first | (simp only [cmp_lt, cmp_gt, cmp_eq, zN_cge, zN_cle, Decidable.not_not] at q36) | (simp (disch := omega) only [zN_le, zN_lt, zN_0, zN_1, nI_toInt, zN_eq, zN_eq0, b2_z, b2_nz, Decidable.not_not, Int.not_lt, Int.not_le, zK0, zK1, zK2, zK3, zK5, zK7, zK8, zK9, zK10, zK19, zK20, zK40, zK99, zK100, zK199] at q36) | skip
      omega
    · skip
      first | (simp only [cmp_lt, cmp_gt, cmp_eq, zN_cge, zN_cle, Decidable.not_not] at q36) | (simp (disch := omega) only [zN_le, zN_lt, zN_0, zN_1, nI_toInt, zN_eq, zN_eq0, b2_z, b2_nz, Decidable.not_not, Int.not_lt, Int.not_le, zK0, zK1, zK2, zK3, zK5, zK7, zK8, zK9, zK10, zK19, zK20, zK40, zK99, zK100, zK199] at q36) | skip
      refine x_al0 rfl dX9_sitAt_39 ?_
      refine x_get fdX9_26 hv rfl dX9_sitAt_40 ?_
      refine x_il2 dX9_sitAt_43 ?_
      refine x_iconst (v := nI 0) dX9_sitAt_44 rfl ?_
      refine x_zast  k23' (vp_in_nI (by omega) (by omega)) dX9_sitAt_45 ?_
      first | refine x_ii2 rfl (nI_1 _) dX9_sitAt_46 ?_ | refine x_ii2 rfl rfl dX9_sitAt_46 ?_
      refine x_goto (tgt := 30) dX9_sitAt_49 rfl ?_
      refine ih _ ⟨by rw [hs_ne (by decide)]; exact hv, F.tr (Fr.set (by simp)), by rw [List.length_set]; exact hL, _, hs_eq k23', fun c hc => ?_⟩
      rw [nI_clamp (by omega)]
      by_cases z : c = i
      · exact if_pos z
      · exact (if_neg z).trans (kz c (by omega))
end ZSi

