/-! count, fault on both sides -/
def F_count (dk : zDk) (st : zSt) (un : List zSt) (tp : List Nat) (x : Int32) : Int32 := if x = 0 then nI dk.1 else if x = nI 1 then nI dk.2.1 else if x = nI 2 then nI st.2.1 else if x = nI 3 then st.2.2 else if x = nI 4 then nI (popc (mskK dk st.1 st.2.1)) else if x = nI 5 then nI un.length else if x = nI 6 then nI tp.length else if x = nI 7 then nI dk.2.2.2.1 else if x = nI 8 then nI (fct dk.1) else -1
theorem F_count_o {dk : zDk} {st : zSt} {un : List zSt} {tp : List Nat} {x : Int32} (h : ¬ (0 ≤ x.toInt ∧ x.toInt ≤ 8)) : F_count dk st un tp x = -1 := by
  have t1 : ∀ k : Nat, k ≤ 8 → ¬ x = nI k := fun k hk z => h (by rw [zN_x (by omega)] at z; omega)
  rw [F_count, if_neg (show ¬ x = 0 from t1 0 (by decide)), if_neg (t1 1 (by decide)), if_neg (t1 2 (by decide)), if_neg (t1 3 (by decide)), if_neg (t1 4 (by decide)), if_neg (t1 5 (by decide)), if_neg (t1 6 (by decide)), if_neg (t1 7 (by decide)), if_neg (t1 8 (by decide))]
def F_fault (fl : Nat × Nat) (x : Int32) : Int32 := if x = 0 then nI fl.1 else if x = nI 1 then (if fl.1 = 0 then -1 else nI fl.2) else -1
section ZMs
variable {g : zG} {d : Nat} {h0 h : zH} {s : Nat → Value} {M : Nat → Nat → Int32} {L : Nat → Nat → Int64} {dk : zDk} {st : zSt} {un : List zSt} {tp : List Nat} {tr : Nat → zTr} {pi : Nat → zPi} {fl : Nat × Nat}
theorem w_count {x : Int32} (I : MI h0 h dk st un tp tr pi fl) : Zm g (d + 5) 0 0 mX12_count [.ref 59, .int x] h (rIp (fun r h' => r = F_count dk st un tp x ∧ MI h0 h' dk st un tp tr pi fl)) := by
  obtain ⟨s, M, L, W, J⟩ := I
  obtain ⟨D, hn0, hn6, ho0, ho9, hng, hli, e0, e1, e2, m1, m2, m3, m4, m5, u1, u2, t1, t2, r1, hf⟩ := MJ.o J
  show Zw g (d + 5) 0 0 mX12_count 0 [some (.ref 59), some (.int x)] [] h _
  refine x_al0 rfl dX12_count_0 ?_
  refine x_iconst (v := nI 0) dX12_count_1 rfl ?_
  refine x_mpfJ W J fdX12_1 (by decide) rfl rfl zf_i dX12_count_2 (fun h W J => ?_)
  refine x_il1 dX12_count_5 ?_
  by_cases s6 : 0 ≤ x.toInt ∧ x.toInt ≤ 8
  · obtain ⟨k, -, hk, rfl⟩ := rng_ex (a := 0) (b := 8) s6 (by decide)
    rcases (show k = 0 ∨ k = 1 ∨ k = 2 ∨ k = 3 ∨ k = 4 ∨ k = 5 ∨ k = 6 ∨ k = 7 ∨ k = 8 by omega) with rfl | rfl | rfl | rfl | rfl | rfl | rfl | rfl | rfl
    · refine x_tabIn (tgt := 56) dX12_count_6 (by decide) (by decide) rfl rfl ?_
      refine x_al0 rfl dX12_count_56 ?_
      refine x_gm fdX12_13 W.hM (by decide) W.hF.f1 dX12_count_57 ?_
      refine x_iconst (v := nI 1) dX12_count_60 rfl ?_
      refine x_mld (len := 2868) W rfl rfl (by decide) (by omega) (by first | assumption | rfl) dX12_count_61 ?_
      exact x_iret rfl rfl dX12_count_62 ⟨_, rfl, rfl, _, _, _, W, J⟩
    · refine x_tabIn (tgt := 63) dX12_count_6 (by decide) (by decide) rfl rfl ?_
      refine x_al0 rfl dX12_count_63 ?_
      refine x_gm fdX12_13 W.hM (by decide) W.hF.f1 dX12_count_64 ?_
      refine x_iconst (v := nI 2) dX12_count_67 rfl ?_
      refine x_mld (len := 2868) W rfl rfl (by decide) (by omega) (by first | assumption | rfl) dX12_count_68 ?_
      exact x_iret rfl rfl dX12_count_69 ⟨_, rfl, rfl, _, _, _, W, J⟩
    · refine x_tabIn (tgt := 70) dX12_count_6 (by decide) (by decide) rfl rfl ?_
      refine x_al0 rfl dX12_count_70 ?_
      refine x_gm fdX12_13 W.hM (by decide) W.hF.f1 dX12_count_71 ?_
      refine x_bipush (v := nI 22) dX12_count_74 rfl ?_
      refine x_mld (len := 2868) W rfl rfl (by decide) (by omega) (by first | assumption | rfl) dX12_count_76 ?_
      exact x_iret rfl rfl dX12_count_77 ⟨_, rfl, rfl, _, _, _, W, J⟩
    · refine x_tabIn (tgt := 78) dX12_count_6 (by decide) (by decide) rfl rfl ?_
      refine x_al0 rfl dX12_count_78 ?_
      refine x_gm fdX12_13 W.hM (by decide) W.hF.f1 dX12_count_79 ?_
      refine x_bipush (v := nI 23) dX12_count_82 rfl ?_
      refine x_mld (len := 2868) W rfl rfl (by decide) (by omega) (by first | assumption | rfl) dX12_count_84 ?_
      exact x_iret rfl rfl dX12_count_85 ⟨_, rfl, rfl, _, _, _, W, J⟩
    · refine x_tabIn (tgt := 86) dX12_count_6 (by decide) (by decide) rfl rfl ?_
      refine x_al0 rfl dX12_count_86 ?_
      refine x_cv0Ip mX12_letNow_ok lkX12_265 rfl (Nat.le_of_ble_eq_true rfl) (Nat.le_of_ble_eq_true rfl) dX12_count_87 W.hM  (j_letNow W J) (fun r h hq => ?_)
      obtain ⟨rfl, s, M, L, W, J, U⟩ := hq
      obtain ⟨D, hn0, hn6, ho0, ho9, hng, hli, e0, e1, e2, m1, m2, m3, m4, m5, u1, u2, t1, t2, r1, hf⟩ := MJ.o J
      refine x_cs1I mX12_bitsOf_ok lkX12_284 (Nat.le_of_ble_eq_true rfl) (Nat.le_of_ble_eq_true rfl) dX12_count_90 (m_bitsOf (msk_lt hn6)) ?_
      exact x_iret rfl rfl dX12_count_93 ⟨_, rfl, rfl, _, _, _, W, J⟩
    · refine x_tabIn (tgt := 94) dX12_count_6 (by decide) (by decide) rfl rfl ?_
      refine x_al0 rfl dX12_count_94 ?_
      refine x_gm fdX12_13 W.hM (by decide) W.hF.f1 dX12_count_95 ?_
      refine x_bipush (v := nI 24) dX12_count_98 rfl ?_
      refine x_mld (len := 2868) W rfl rfl (by decide) (by omega) (by first | assumption | rfl) dX12_count_100 ?_
      exact x_iret rfl rfl dX12_count_101 ⟨_, rfl, rfl, _, _, _, W, J⟩
    · refine x_tabIn (tgt := 102) dX12_count_6 (by decide) (by decide) rfl rfl ?_
      refine x_al0 rfl dX12_count_102 ?_
      refine x_gm fdX12_95 W.hM (by decide) (by first | assumption | rfl) dX12_count_103 ?_
      exact x_iret rfl rfl dX12_count_106 ⟨_, rfl, rfl, _, _, _, W, J⟩
    · refine x_tabIn (tgt := 107) dX12_count_6 (by decide) (by decide) rfl rfl ?_
      refine x_al0 rfl dX12_count_107 ?_
      refine x_gm fdX12_13 W.hM (by decide) W.hF.f1 dX12_count_108 ?_
      refine x_iconst (v := nI 0) dX12_count_111 rfl ?_
      refine x_mld (len := 2868) W rfl rfl (by decide) (by omega) (by first | assumption | rfl) dX12_count_112 ?_
      exact x_iret rfl rfl dX12_count_113 ⟨_, rfl, rfl, _, _, _, W, J⟩
    · refine x_tabIn (tgt := 114) dX12_count_6 (by decide) (by decide) rfl rfl ?_
      refine x_al0 rfl dX12_count_114 ?_
      refine x_gm fdX12_223 W.hM (by decide) (by first | assumption | rfl) dX12_count_115 ?_
      exact x_iret rfl rfl dX12_count_118 ⟨_, rfl, rfl, _, _, _, W, J⟩
  · refine x_tabOut (tgt := 119) dX12_count_6 (by omega) rfl ?_
    refine x_iconst (v := (-1)) dX12_count_119 rfl ?_
    exact x_iret rfl rfl dX12_count_120 ⟨_, rfl, by rw [F_count_o s6], _, _, _, W, J⟩
theorem w_fault {x : Int32} (I : MI h0 h dk st un tp tr pi fl) : Zm g (d + 5) 0 0 mX12_fault [.ref 59, .int x] h (rIp (fun r h' => r = F_fault fl x ∧ MI h0 h' dk st un tp tr pi fl)) := by
  obtain ⟨s, M, L, W, J⟩ := I
  obtain ⟨f1, f2, f3, f4⟩ := J.2.2.2.2.2.2
  show Zw g (d + 5) 0 0 mX12_fault 0 [some (.ref 59), some (.int x)] [] h _
  refine x_al0 rfl dX12_fault_0 ?_
  refine x_iconst (v := nI 0) dX12_fault_1 rfl ?_
  refine x_mpfJ W J fdX12_1 (by decide) rfl rfl zf_i dX12_fault_2 (fun h W J => ?_)
  refine x_il1 dX12_fault_5 ?_
  refine x_if_ne (tgt := 16) dX12_fault_6 rfl (fun q6 => ?_) (fun q6 => ?_)
  · skip
    first | (simp only [cmp_lt, cmp_gt, cmp_eq, zN_cge, zN_cle, Decidable.not_not] at q6) | (simp (disch := omega) only [zN_le, zN_lt, zN_0, zN_1, nI_toInt, zN_eq, zN_eq0, b2_z, b2_nz, Decidable.not_not, Int.not_lt, Int.not_le, zK0, zK1, zK2, zK3, zK5, zK7, zK8, zK9, zK10, zK19, zK20, zK40, zK99, zK100, zK199] at q6) | skip
    refine x_il1 dX12_fault_16 ?_
    refine x_iconst (v := nI 1) dX12_fault_17 rfl ?_
    refine x_icmp_ne (tgt := 28) dX12_fault_18 rfl (fun q18 => ?_) (fun q18 => ?_)
    · skip
      first | (simp only [cmp_lt, cmp_gt, cmp_eq, zN_cge, zN_cle, Decidable.not_not] at q18) | (simp (disch := omega) only [zN_le, zN_lt, zN_0, zN_1, nI_toInt, zN_eq, zN_eq0, b2_z, b2_nz, Decidable.not_not, Int.not_lt, Int.not_le, zK0, zK1, zK2, zK3, zK5, zK7, zK8, zK9, zK10, zK19, zK20, zK40, zK99, zK100, zK199] at q18) | skip
      refine x_iconst (v := (-1)) dX12_fault_28 rfl ?_
      exact x_iret rfl rfl dX12_fault_29 ⟨_, rfl, by rw [F_fault, if_neg q6, if_neg q18], _, _, _, W, J⟩
    · skip
      first | (simp only [cmp_lt, cmp_gt, cmp_eq, zN_cge, zN_cle, Decidable.not_not] at q18) | (simp (disch := omega) only [zN_le, zN_lt, zN_0, zN_1, nI_toInt, zN_eq, zN_eq0, b2_z, b2_nz, Decidable.not_not, Int.not_lt, Int.not_le, zK0, zK1, zK2, zK3, zK5, zK7, zK8, zK9, zK10, zK19, zK20, zK40, zK99, zK100, zK199] at q18) | skip
      refine x_al0 rfl dX12_fault_21 ?_
      refine x_gm fdX12_27 W.hM (by decide) (by first | assumption | rfl) dX12_fault_22 ?_
      refine x_goto (tgt := 29) dX12_fault_25 rfl ?_
      exact x_iret rfl rfl dX12_fault_29 ⟨_, rfl, by rw [F_fault, if_neg q6, if_pos q18], _, _, _, W, J⟩
  · skip
    first | (simp only [cmp_lt, cmp_gt, cmp_eq, zN_cge, zN_cle, Decidable.not_not] at q6) | (simp (disch := omega) only [zN_le, zN_lt, zN_0, zN_1, nI_toInt, zN_eq, zN_eq0, b2_z, b2_nz, Decidable.not_not, Int.not_lt, Int.not_le, zK0, zK1, zK2, zK3, zK5, zK7, zK8, zK9, zK10, zK19, zK20, zK40, zK99, zK100, zK199] at q6) | skip
    refine x_al0 rfl dX12_fault_9 ?_
    refine x_gm fdX12_217 W.hM (by decide) (by first | assumption | rfl) dX12_fault_10 ?_
    refine x_goto (tgt := 29) dX12_fault_13 rfl ?_
    exact x_iret rfl rfl dX12_fault_29 ⟨_, rfl, by rw [F_fault, if_pos q6], _, _, _, W, J⟩
end ZMs
section ZCs
variable {g : zG} {d : Nat} {h0 h h' : zH} {dk : zDk} {st : zSt} {un : List zSt} {tp : List Nat} {tr : Nat → zTr} {pi : Nat → zPi} {fl : Nat × Nat} {ln : zLn} {sb sj : zS3} {dr : Int32}
theorem k_count {x : Int32} (I : CI h0 h dk st un tp tr pi fl ln sb sj dr) : Zm g (d + 7) 0 0 mX11_count [.ref 0, .int x] h (rIp (fun r h' => r = F_count dk st un tp x ∧ CI h0 h' dk st un tp tr pi fl ln sb sj dr)) := by
  obtain ⟨rt, rn, rs, sw, rmv, rmk, moc, len, fre, fc, fr, vn, vs, qd, wst, wqu, wwe, wla, hx, hn, hd, hR, hv, hw, hs⟩ := I.o
  show Zw g (d + 7) 0 0 mX11_count 0 [some (.ref 0), some (.int x)] [] h _
  refine x_il1 dX11_count_0 ?_
  by_cases s6 : 0 ≤ x.toInt ∧ x.toInt ≤ 8
  · obtain ⟨k, -, hk, rfl⟩ := rng_ex (a := 0) (b := 8) s6 (by decide)
    rcases (show k = 0 ∨ k = 1 ∨ k = 2 ∨ k = 3 ∨ k = 4 ∨ k = 5 ∨ k = 6 ∨ k = 7 ∨ k = 8 by omega) with rfl | rfl | rfl | rfl | rfl | rfl | rfl | rfl | rfl
    · refine x_tabIn (tgt := 52) dX11_count_1 (by decide) (by decide) rfl rfl ?_
      refine x_al0 rfl dX11_count_52 ?_
      refine x_get fdX11_106 hx rfl dX11_count_53 ?_
      refine x_get fdX11_143 hd rfl dX11_count_56 ?_
      exact x_iret rfl rfl dX11_count_59 ⟨_, rfl, rfl, I⟩
    · refine x_tabIn (tgt := 60) dX11_count_1 (by decide) (by decide) rfl rfl ?_
      refine x_al0 rfl dX11_count_60 ?_
      refine x_get fdX11_106 hx rfl dX11_count_61 ?_
      refine x_get fdX11_417 hd rfl dX11_count_64 ?_
      exact x_iret rfl rfl dX11_count_67 ⟨_, rfl, rfl, I⟩
    · refine x_tabIn (tgt := 68) dX11_count_1 (by decide) (by decide) rfl rfl ?_
      refine x_al0 rfl dX11_count_68 ?_
      refine x_get fdX11_27 hx rfl dX11_count_69 ?_
      refine x_get fdX11_134 hn rfl dX11_count_72 ?_
      exact x_iret rfl rfl dX11_count_75 ⟨_, rfl, rfl, I⟩
    · refine x_tabIn (tgt := 76) dX11_count_1 (by decide) (by decide) rfl rfl ?_
      refine x_al0 rfl dX11_count_76 ?_
      refine x_get fdX11_27 hx rfl dX11_count_77 ?_
      refine x_get fdX11_137 hn rfl dX11_count_80 ?_
      exact x_iret rfl rfl dX11_count_83 ⟨_, rfl, rfl, I⟩
    · refine x_tabIn (tgt := 84) dX11_count_1 (by decide) (by decide) rfl rfl ?_
      refine x_al0 rfl dX11_count_84 ?_
      refine x_cv0Ip mX11_howManyFree_ok lkX11_202 rfl (Nat.le_of_ble_eq_true rfl) (Nat.le_of_ble_eq_true rfl) dX11_count_85 hx  (k_howManyFree I) (fun r h hq => ?_)
      obtain ⟨rfl, I⟩ := hq
      obtain ⟨rt, rn, rs, sw, rmv, rmk, moc, len, fre, fc, fr, vn, vs, qd, wst, wqu, wwe, wla, hx, hn, hd, hR, hv, hw, hs⟩ := I.o
      exact x_iret rfl rfl dX11_count_88 ⟨_, rfl, rfl, I⟩
    · refine x_tabIn (tgt := 89) dX11_count_1 (by decide) (by decide) rfl rfl ?_
      refine x_al0 rfl dX11_count_89 ?_
      refine x_get fdX11_41 hx rfl dX11_count_90 ?_
      exact x_iret rfl rfl dX11_count_93 ⟨_, rfl, rfl, I⟩
    · refine x_tabIn (tgt := 94) dX11_count_1 (by decide) (by decide) rfl rfl ?_
      refine x_al0 rfl dX11_count_94 ?_
      refine x_get fdX11_13 hx rfl dX11_count_95 ?_
      exact x_iret rfl rfl dX11_count_98 ⟨_, rfl, rfl, I⟩
    · refine x_tabIn (tgt := 99) dX11_count_1 (by decide) (by decide) rfl rfl ?_
      refine x_al0 rfl dX11_count_99 ?_
      refine x_get fdX11_106 hx rfl dX11_count_100 ?_
      refine x_get fdX11_140 hd rfl dX11_count_103 ?_
      exact x_iret rfl rfl dX11_count_106 ⟨_, rfl, rfl, I⟩
    · refine x_tabIn (tgt := 107) dX11_count_1 (by decide) (by decide) rfl rfl ?_
      refine x_al0 rfl dX11_count_107 ?_
      refine x_get fdX11_62 hx rfl dX11_count_108 ?_
      refine x_get fdX11_281 hR rfl dX11_count_111 ?_
      exact x_iret rfl rfl dX11_count_114 ⟨_, rfl, rfl, I⟩
  · refine x_tabOut (tgt := 115) dX11_count_1 (by omega) rfl ?_
    refine x_iconst (v := (-1)) dX11_count_115 rfl ?_
    exact x_iret rfl rfl dX11_count_116 ⟨_, rfl, by rw [F_count_o s6], I⟩
theorem CI.rd (I : CI h0 h dk st un tp tr pi fl ln sb sj dr) : ∃ pl dw op cu li tx le hd tk sa va de dx, h[2]? = some (rdE (nI fl.1) pl dw op cu li tx le hd tk sa va de dx) ∧ (fl.1 ≠ 0 → pl = nI fl.2) ∧ fl.1 < 5 := by
  obtain ⟨Z, rt, ds, C, W, J⟩ := I
  obtain ⟨⟨pl, dw, op, cu, li, tx, le, hd, tk, sa, va, de, dx, a1, a2, a3, a4, a5⟩, -⟩ := J.2.2.2.2.2.2.2.2.2
  exact ⟨pl, dw, op, cu, li, tx, le, hd, tk, sa, va, de, dx, C.get a1, a4, a5⟩
theorem k_fault {x : Int32} (I : CI h0 h dk st un tp tr pi fl ln sb sj dr) : Zm g (d + 7) 0 0 mX11_fault [.ref 0, .int x] h (rIp (fun r h' => r = F_fault fl x ∧ CI h0 h' dk st un tp tr pi fl ln sb sj dr)) := by
  obtain ⟨rt, rn, rs, sw, rmv, rmk, moc, len, fre, fc, fr, vn, vs, qd, wst, wqu, wwe, wla, hx, hn, hd, hR, hv, hw, hs⟩ := I.o
  obtain ⟨pl, dw, op, cu, li, tx, le, hd', tk, sa, va, de, dx, h2, hp, f5⟩ := I.rd
  show Zw g (d + 7) 0 0 mX11_fault 0 [some (.ref 0), some (.int x)] [] h _
  refine x_il1 dX11_fault_0 ?_
  refine x_if_ne (tgt := 12) dX11_fault_1 rfl (fun q1 => ?_) (fun q1 => ?_)
  · skip
    first | (simp only [cmp_lt, cmp_gt, cmp_eq, zN_cge, zN_cle, Decidable.not_not] at q1) | (simp (disch := omega) only [zN_le, zN_lt, zN_0, zN_1, nI_toInt, zN_eq, zN_eq0, b2_z, b2_nz, Decidable.not_not, Int.not_lt, Int.not_le, zK0, zK1, zK2, zK3, zK5, zK7, zK8, zK9, zK10, zK19, zK20, zK40, zK99, zK100, zK199] at q1) | skip
    refine x_il1 dX11_fault_12 ?_
    refine x_iconst (v := nI 1) dX11_fault_13 rfl ?_
    refine x_icmp_ne (tgt := 35) dX11_fault_14 rfl (fun q14 => ?_) (fun q14 => ?_)
    · skip
      first | (simp only [cmp_lt, cmp_gt, cmp_eq, zN_cge, zN_cle, Decidable.not_not] at q14) | (simp (disch := omega) only [zN_le, zN_lt, zN_0, zN_1, nI_toInt, zN_eq, zN_eq0, b2_z, b2_nz, Decidable.not_not, Int.not_lt, Int.not_le, zK0, zK1, zK2, zK3, zK5, zK7, zK8, zK9, zK10, zK19, zK20, zK40, zK99, zK100, zK199] at q14) | skip
      refine x_iconst (v := (-1)) dX11_fault_35 rfl ?_
      exact x_iret rfl rfl dX11_fault_36 ⟨_, rfl, by rw [F_fault, if_neg q1, if_neg q14], I⟩
    · skip
      first | (simp only [cmp_lt, cmp_gt, cmp_eq, zN_cge, zN_cle, Decidable.not_not] at q14) | (simp (disch := omega) only [zN_le, zN_lt, zN_0, zN_1, nI_toInt, zN_eq, zN_eq0, b2_z, b2_nz, Decidable.not_not, Int.not_lt, Int.not_le, zK0, zK1, zK2, zK3, zK5, zK7, zK8, zK9, zK10, zK19, zK20, zK40, zK99, zK100, zK199] at q14) | skip
      refine x_al0 rfl dX11_fault_17 ?_
      refine x_get fdX11_20 hx rfl dX11_fault_18 ?_
      refine x_get fdX11_122 h2 rfl dX11_fault_21 ?_
      refine x_if_eq (tgt := 35) dX11_fault_24 rfl (fun q24 => ?_) (fun q24 => ?_)
      · skip
        first | (simp only [cmp_lt, cmp_gt, cmp_eq, zN_cge, zN_cle, Decidable.not_not] at q24) | (simp (disch := omega) only [zN_le, zN_lt, zN_0, zN_1, nI_toInt, zN_eq, zN_eq0, b2_z, b2_nz, Decidable.not_not, Int.not_lt, Int.not_le, zK0, zK1, zK2, zK3, zK5, zK7, zK8, zK9, zK10, zK19, zK20, zK40, zK99, zK100, zK199] at q24) | skip
        refine x_iconst (v := (-1)) dX11_fault_35 rfl ?_
        exact x_iret rfl rfl dX11_fault_36 ⟨_, rfl, by rw [F_fault, if_neg q1, if_pos q14, if_pos q24], I⟩
      · skip
        first | (simp only [cmp_lt, cmp_gt, cmp_eq, zN_cge, zN_cle, Decidable.not_not] at q24) | (simp (disch := omega) only [zN_le, zN_lt, zN_0, zN_1, nI_toInt, zN_eq, zN_eq0, b2_z, b2_nz, Decidable.not_not, Int.not_lt, Int.not_le, zK0, zK1, zK2, zK3, zK5, zK7, zK8, zK9, zK10, zK19, zK20, zK40, zK99, zK100, zK199] at q24) | skip
        refine x_al0 rfl dX11_fault_27 ?_
        refine x_get fdX11_20 hx rfl dX11_fault_28 ?_
        refine x_get fdX11_150 h2 rfl dX11_fault_31 ?_
        exact x_iret rfl rfl dX11_fault_34 ⟨_, rfl, by rw [F_fault, if_neg q1, if_pos q14, if_neg q24, hp q24], I⟩
  · skip
    first | (simp only [cmp_lt, cmp_gt, cmp_eq, zN_cge, zN_cle, Decidable.not_not] at q1) | (simp (disch := omega) only [zN_le, zN_lt, zN_0, zN_1, nI_toInt, zN_eq, zN_eq0, b2_z, b2_nz, Decidable.not_not, Int.not_lt, Int.not_le, zK0, zK1, zK2, zK3, zK5, zK7, zK8, zK9, zK10, zK19, zK20, zK40, zK99, zK100, zK199] at q1) | skip
    refine x_al0 rfl dX11_fault_4 ?_
    refine x_get fdX11_20 hx rfl dX11_fault_5 ?_
    refine x_get fdX11_122 h2 rfl dX11_fault_8 ?_
    exact x_iret rfl rfl dX11_fault_11 ⟨_, rfl, by rw [F_fault, if_pos q1], I⟩
end ZCs

