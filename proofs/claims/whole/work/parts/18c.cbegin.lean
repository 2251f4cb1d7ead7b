/-! the class's begin, rows -/
abbrev newL (N : Nat) : va_E := .inl (2, N, .inr (.inl (fun _ => (0 : Int64))))
def pV (n : Nat) (ln : zLn) : zLn := (ln.1, ln.2.1, ln.2.2.1, ln.2.2.2.1, ln.2.2.2.2.1, ln.2.2.2.2.2.1, max ln.2.2.2.2.2.2 (fct n))
def sV (n : Nat) (ln : zLn) : Nat := 2 * grw ln.2.2.2.2.2.2 (fct n)
section ZBe
variable {g : zG} {d : Nat} {h0 h h' : zH} {dk : zDk} {st : zSt} {un : List zSt} {tp : List Nat} {tr : Nat → zTr} {pi : Nat → zPi} {fl : Nat × Nat} {ln : zLn} {sb sj : zS3} {dr : Int32} {wst wqu wwe wla : Nat} {qd : Int32} {fs fq : Nat → Int32} {fw fa : Nat → Int64}
theorem SpQ.ci {w : Nat → Nat} (P : SpQ h0 h dk st un tp tr pi fl ln sb sj dr w) : CI h0 h dk st un tp tr pi fl ln sb sj dr := by
  obtain ⟨wst, wqu, wwe, wla, qd, fs, fq, fw, fa, G, -⟩ := P
  exact G.ci
theorem g_begin2 {row : Nat} (G : GE h0 h dk st un tp tr pi fl ln sb sj dr wst wqu wwe wla qd fs fq fw fa) (hs : ln.2.2.1 = true) (hl : fct dk.1 ≤ ln.2.2.2.2.2.2) (hr : row < fct dk.1) : Zw g (d + 4) 0 0 mX6_begin 48 [some (.ref 29), some (.int (nI row))] [] h (rVp (fun h' => SpQ h0 h' dk st un tp tr pi fl ln sb sj dr (w0 row))) := by
  obtain ⟨d1, d2, d3, d4, d5, d6, d7, d8⟩ := G.ci.dkB
  have fl6 := fct_le d2
  obtain ⟨o1, o2, o3, o4, o5, o6, o7, o8, o9, o10, p1, p2, p3, p4, p5, p6, p7, p8⟩ := G.o
  refine x_al0 rfl dX6_begin_48 ?_
  refine x_get fdX6_9 o2 rfl dX6_begin_49 ?_
  refine x_lconst (v := 0) dX6_begin_52 rfl ?_
  refine x_cs2Vp mJ7_fill_d0a16_ok lkX6_31 (Nat.le_of_ble_eq_true rfl) (Nat.le_of_ble_eq_true rfl) dX6_begin_53 (c_fillL o5 o8) (fun h hq => ?_)
  obtain ⟨fw2, rfl, hz⟩ := hq
  have G := G.sfw (fw' := fw2)
  generalize h.set wwe _ = h at G ⊢
  obtain ⟨o1, o2, o3, o4, o5, o6, o7, o8, o9, o10, p1, p2, p3, p4, p5, p6, p7, p8⟩ := G.o
  refine x_il1 dX6_begin_56 ?_
  refine x_if_lt (tgt := 76) dX6_begin_57 rfl (fun q57 => ?_) (fun q57 => ?_)
  · skip
    first | (simp only [cmp_lt, cmp_gt, cmp_eq, zN_cge, zN_cle, Decidable.not_not] at q57) | (simp (disch := omega) only [zN_le, zN_lt, zN_0, zN_1, nI_toInt, zN_eq, zN_eq0, b2_z, b2_nz, Decidable.not_not, Int.not_lt, Int.not_le, zK0, zK1, zK2, zK3, zK5, zK7, zK8, zK9, zK10, zK19, zK20, zK40, zK99, zK100, zK199] at q57) | skip
    omega
  · skip
    first | (simp only [cmp_lt, cmp_gt, cmp_eq, zN_cge, zN_cle, Decidable.not_not] at q57) | (simp (disch := omega) only [zN_le, zN_lt, zN_0, zN_1, nI_toInt, zN_eq, zN_eq0, b2_z, b2_nz, Decidable.not_not, Int.not_lt, Int.not_le, zK0, zK1, zK2, zK3, zK5, zK7, zK8, zK9, zK10, zK19, zK20, zK40, zK99, zK100, zK199] at q57) | skip
    refine x_il1 dX6_begin_60 ?_
    refine x_al0 rfl dX6_begin_61 ?_
    refine x_get fdX6_9 o2 rfl dX6_begin_62 ?_
    refine x_alen rfl o5 rfl dX6_begin_65 ?_
    rw [show Int32.ofNat ln.2.2.2.2.2.2 = nI ln.2.2.2.2.2.2 from rfl]
    refine x_icmp_ge (tgt := 76) dX6_begin_66 rfl (fun q66 => ?_) (fun q66 => ?_)
    · skip
      first | (simp only [cmp_lt, cmp_gt, cmp_eq, zN_cge, zN_cle, Decidable.not_not] at q66) | (simp (disch := omega) only [zN_le, zN_lt, zN_0, zN_1, nI_toInt, zN_eq, zN_eq0, b2_z, b2_nz, Decidable.not_not, Int.not_lt, Int.not_le, zK0, zK1, zK2, zK3, zK5, zK7, zK8, zK9, zK10, zK19, zK20, zK40, zK99, zK100, zK199] at q66) | skip
      omega
    · skip
      first | (simp only [cmp_lt, cmp_gt, cmp_eq, zN_cge, zN_cle, Decidable.not_not] at q66) | (simp (disch := omega) only [zN_le, zN_lt, zN_0, zN_1, nI_toInt, zN_eq, zN_eq0, b2_z, b2_nz, Decidable.not_not, Int.not_lt, Int.not_le, zK0, zK1, zK2, zK3, zK5, zK7, zK8, zK9, zK10, zK19, zK20, zK40, zK99, zK100, zK199] at q66) | skip
      refine x_al0 rfl dX6_begin_69 ?_
      refine x_get fdX6_9 o2 rfl dX6_begin_70 ?_
      refine x_il1 dX6_begin_73 ?_
      refine x_lconst (v := 1) dX6_begin_74 rfl ?_
      refine x_last o5 (vp_in_nI (by omega) (by omega)) dX6_begin_75 ?_
      rw [nI_clamp (by omega)]
      refine x_vret rfl dX6_begin_76 ⟨rfl, _, _, _, _, _, _, _, _, _, G.sfw, hs, hl, fun t ht => ?_⟩
      by_cases z : t = row
      · rw [show w0 row t = 1 from if_pos z]; exact if_pos z
      · rw [show w0 row t = 0 from if_neg z]; exact (if_neg z).trans (hz t (by omega))
theorem k_begin {row : Nat} (I : CI h0 h dk st un tp tr pi fl ln sb sj dr) (hr : row < fct dk.1) : Zm g (d + 4) 3 (sS dk.1 ln + sV dk.1 ln) mX6_begin [.ref 29, .int (nI row)] h (rVp (fun h' => SpQ h0 h' dk st un tp tr pi fl (pV dk.1 (pS dk.1 ln)) sb sj dr (w0 row))) := by
  obtain ⟨rt, rn, rs, sw, rmv, rmk, moc, len, fre, fc, fr, vn, vs, qd, wst, wqu, wwe, wla, hx, hn, hd, hR, hv, hw, hs⟩ := I.o
  obtain ⟨d1, d2, d3, d4, d5, d6, d7, d8⟩ := I.dkB
  have fl6 := fct_le d2
  show Zw g (d + 4) 3 (sS dk.1 ln + sV dk.1 ln) mX6_begin 0 [some (.ref 29), some (.int (nI row))] [] h _
  refine x_al0 rfl dX6_begin_0 ?_
  refine x_get fdX6_18 hs rfl dX6_begin_1 ?_
  refine x_cv0Vr (κ1 := 1) (κ2 := 2) (σ2 := sV dk.1 ln) mX5_prepareSwaps_ok lkX6_22 rfl (Nat.le_of_ble_eq_true rfl) (Nat.le_of_ble_eq_true rfl) dX6_begin_4 hR (Nat.le_refl _) (Nat.le_refl _) (k_prepareSwaps I) (fun h I => ?_)
  have hS : (pS dk.1 ln).2.2.1 = true := rfl
  rw [show sV dk.1 ln = sV dk.1 (pS dk.1 ln) from rfl]
  generalize pS dk.1 ln = ln at I hS ⊢
  clear hx hn hd hR hv hw hs
  obtain ⟨wst, wqu, wwe, wla, qd, fs, fq, fw, fa, G⟩ := I.ge
  obtain ⟨rn, rs, sw, rt, rmv, rmk, moc, len, fre, hR, hv⟩ := G.r
  obtain ⟨o1, o2, o3, o4, o5, o6, o7, o8, o9, o10, p1, p2, p3, p4, p5, p6, p7, p8⟩ := G.o
  refine x_al0 rfl dX6_begin_7 ?_
  refine x_get fdX6_9 o2 rfl dX6_begin_8 ?_
  refine x_alen rfl o5 rfl dX6_begin_11 ?_
  refine x_al0 rfl dX6_begin_12 ?_
  refine x_get fdX6_18 o2 rfl dX6_begin_13 ?_
  refine x_get fdX6_27 hR rfl dX6_begin_16 ?_
  rw [show Int32.ofNat ln.2.2.2.2.2.2 = nI ln.2.2.2.2.2.2 from rfl]
  refine x_icmp_ge (tgt := 48) dX6_begin_19 rfl (fun q19 => ?_) (fun q19 => ?_)
  · skip
    first | (simp only [cmp_lt, cmp_gt, cmp_eq, zN_cge, zN_cle, Decidable.not_not] at q19) | (simp (disch := omega) only [zN_le, zN_lt, zN_0, zN_1, nI_toInt, zN_eq, zN_eq0, b2_z, b2_nz, Decidable.not_not, Int.not_lt, Int.not_le, zK0, zK1, zK2, zK3, zK5, zK7, zK8, zK9, zK10, zK19, zK20, zK40, zK99, zK100, zK199] at q19) | skip
    have pe : pV dk.1 ln = ln := by unfold pV; rw [show max ln.2.2.2.2.2.2 (fct dk.1) = ln.2.2.2.2.2.2 by omega]
    rw [pe]
    exact (g_begin2 G hS (by omega) hr).room (Nat.zero_le _) (Nat.zero_le _)
  · skip
    first | (simp only [cmp_lt, cmp_gt, cmp_eq, zN_cge, zN_cle, Decidable.not_not] at q19) | (simp (disch := omega) only [zN_le, zN_lt, zN_0, zN_1, nI_toInt, zN_eq, zN_eq0, b2_z, b2_nz, Decidable.not_not, Int.not_lt, Int.not_le, zK0, zK1, zK2, zK3, zK5, zK7, zK8, zK9, zK10, zK19, zK20, zK40, zK99, zK100, zK199] at q19) | skip
    have q19 : ln.2.2.2.2.2.2 < fct dk.1 := by omega
    rw [show sV dk.1 ln = 0 + fct dk.1 + fct dk.1 from by unfold sV grw; rw [if_pos q19]; omega]
    refine x_al0 rfl dX6_begin_22 ?_
    refine x_al0 rfl dX6_begin_23 ?_
    refine x_get fdX6_18 o2 rfl dX6_begin_24 ?_
    refine x_get fdX6_27 hR rfl dX6_begin_27 ?_
    refine x_newa_long ka_long (nI_pos (by omega)) (nI_clamp (by omega)) (by omega) dX6_begin_30 ?_
    refine x_put fdX6_9 (hp_old o2) (by first | exact zf_a | exact zf_an) (by simp) dX6_begin_32 ?_
    rw [show ([Value.ref 15, .ref wwe, .ref wla] : List Value).set 1 (.ref h.length) = [.ref 15, .ref h.length, .ref wla] from rfl]
    have n29 := hp_lt o2
    have a29 : ((h ++ [newL (fct dk.1)]).set 29 (sprE h.length wla))[29]? = some (sprE h.length wla) := hs_eq (hp_old o2)
    have aF : Fr [29] h ((h ++ [newL (fct dk.1)]).set 29 (sprE h.length wla)) := Fr.push.tr (Fr.set (by simp))
    have aN : ((h ++ [newL (fct dk.1)]).set 29 (sprE h.length wla))[h.length]? = some (newL (fct dk.1)) := by rw [hs_ne (by omega)]; exact hp_new
    have aL : ((h ++ [newL (fct dk.1)]).set 29 (sprE h.length wla)).length = h.length + 1 := by simp
    have aR := aF.get hR (by simp)
    generalize (h ++ [newL (fct dk.1)]).set 29 (sprE h.length wla) = h1 at a29 aF aN aL aR ⊢
    refine x_al0 rfl dX6_begin_35 ?_
    refine x_al0 rfl dX6_begin_36 ?_
    refine x_get fdX6_18 a29 rfl dX6_begin_37 ?_
    refine x_get fdX6_27 aR rfl dX6_begin_40 ?_
    refine x_newa_long ka_long (nI_pos (by omega)) (nI_clamp (by omega)) (by omega) dX6_begin_43 ?_
    refine x_put fdX6_15 (hp_old a29) (by first | exact zf_a | exact zf_an) (by simp) dX6_begin_45 ?_
    rw [show ([Value.ref 15, .ref h.length, .ref wla] : List Value).set 2 (.ref h1.length) = [.ref 15, .ref h.length, .ref h1.length] from rfl]
    have b29 : ((h1 ++ [newL (fct dk.1)]).set 29 (sprE h.length h1.length))[29]? = some (sprE h.length h1.length) := hs_eq (hp_old a29)
    have bF : Fr [29] h1 ((h1 ++ [newL (fct dk.1)]).set 29 (sprE h.length h1.length)) := Fr.push.tr (Fr.set (by simp))
    have bN : ((h1 ++ [newL (fct dk.1)]).set 29 (sprE h.length h1.length))[h1.length]? = some (newL (fct dk.1)) := by rw [hs_ne (by omega)]; exact hp_new
    generalize (h1 ++ [newL (fct dk.1)]).set 29 (sprE h.length h1.length) = h2 at b29 bF bN ⊢
    have F := aF.tr bF
    have pe : pV dk.1 ln = (ln.1, ln.2.1, ln.2.2.1, ln.2.2.2.1, ln.2.2.2.2.1, ln.2.2.2.2.2.1, fct dk.1) := by unfold pV; rw [show max ln.2.2.2.2.2.2 (fct dk.1) = fct dk.1 by omega]
    rw [pe]
    have p31 : (2 : Nat) ^ 31 = 2147483648 := rfl
    exact (g_begin2 (G.up (F.mono (by simp)) (F.get o1 (by simp)) (F.get o3 (by simpa using p2)) (F.get o4 (by simpa using p4)) b29 (bF.get aN (by simp only [List.mem_cons, List.mem_nil_iff, or_false]; omega)) bN (Or.inl rfl) (Or.inl rfl) o9 (Or.inr (Or.inr (Nat.le_refl _))) (Or.inr (Or.inr (by omega))) (by omega) o7 (by omega)) hS (Nat.le_refl _) hr).room (Nat.zero_le _) (Nat.zero_le _)
end ZBe

