/-! the cases of the law -/
def mL_law : zMe := (yL_law, cL_law, 4, some FieldType.boolean)
section ZCs
variable {g : zG} {d i κ σ : Nat} {h : zH} {ln : zLn} {Q : Option Value → zH → Prop}
theorem CI.obj {h0 : zH} {dk : zDk} {st : zSt} {un : List zSt} {tp : List Nat} {tr : Nat → zTr} {pi : Nat → zPi} {fl : Nat × Nat} {sb sj : zS3} {dr : Int32} (I : CI h0 h dk st un tp tr pi fl ln sb sj dr) : ∃ fs, h[0]? = some (.inr (11, fs)) := by
  obtain ⟨Z, rt, ds, C, W, J⟩ := I
  exact ⟨_, C.get J.1⟩
theorem MI.obj {h0 : zH} {dk : zDk} {st : zSt} {un : List zSt} {tp : List Nat} {tr : Nat → zTr} {pi : Nat → zPi} {fl : Nat × Nat} (I : MI h0 h dk st un tp tr pi fl) : ∃ fs, h[59]? = some (.inr (12, fs)) := by
  obtain ⟨s, M, L, W, J⟩ := I
  exact ⟨_, W.1⟩
abbrev lawL (i : Nat) : List (Option Value) := [some (.retAddr 1), some (.ref 0), some (.ref 59), some (.int (nI i))]
theorem in_le : ∀ n, n < 7 → fct n * np n ≤ 10800 ∧ fct n ≤ 720 := by decide
theorem sS_le {n : Nat} (h6 : n ≤ 6) : sS n ln ≤ 10800 := by
  have a := in_le n (by omega)
  unfold sS grw
  cases ln.2.2.1
  · simp only [cond_false]
    split <;> omega
  · simp only [cond_true]
    omega
theorem sW_le {n : Nat} (h6 : n ≤ 6) : sW n ln ≤ 1440 := by
  have a := in_le n (by omega)
  unfold sW grw
  split <;> omega
theorem sV_le {n : Nat} (h6 : n ≤ 6) : sV n ln ≤ 1440 := by
  have a := in_le n (by omega)
  unfold sV grw
  split <;> omega
theorem lw_drawer (hi : i + 6 ≤ g.2.2.2.2.1) (hg : g.2.2.2.2.1 < 2 ^ 31) (B : BI h ln) (kk : ∀ (h' : zH) (l2 : zLn), BI h' l2 → Zw g (d + 80) κ (σ + Phi l2) mL_law 1583 (lawL i) [] h' Q) : Zw g (d + 80) (κ + 16) (σ + 13000 + Phi ln) mL_law 329 (lawL i) [] h Q := by
  obtain ⟨h0, hh, dk, st, un, tp, tr, pi, fl, sb, sj, dr, J, I⟩ := B
  have I := I.mo J Mo.rf
  have J := J.co Co.rf
  obtain ⟨fs, hc⟩ := I.obj
  obtain ⟨n0, n6, -⟩ := I.dkB
  refine x_al1 rfl dL_law_329 ?_
  refine x_al0 rfl dL_law_330 ?_
  refine x_il3 dL_law_331 ?_
  refine x_iconst (v := nI 1) dL_law_332 rfl ?_
  refine x_iadd (nI_add _ _) dL_law_333 ?_
  refine x_scr (vp_in_nI (show i + 1 < g.2.2.2.2.1 by omega) hg) rfl dL_law_334 ?_
  refine x_al0 rfl dL_law_335 ?_
  refine x_il3 dL_law_336 ?_
  refine x_iconst (v := nI 2) dL_law_337 rfl ?_
  refine x_iadd (nI_add _ _) dL_law_338 ?_
  refine x_scr (vp_in_nI (show i + 2 < g.2.2.2.2.1 by omega) hg) rfl dL_law_339 ?_
  have ph : 0 + Phi ln ≤ Phi ln + 3610 := by omega
  refine x_callV (as := [.int _, .int _]) (κ1 := 0) (κ2 := κ) (σ1 := 0) (σ2 := σ + 13000 + Phi ln - (0)) mX11_drawer_ok lkL_27 rfl rfl (Nat.le_of_ble_eq_true rfl) (Nat.le_of_ble_eq_true rfl) dL_law_340 hc (by omega) (by omega) (k_drawer (d := d + 77) I) (fun v h1 hq => ?_)
  obtain ⟨r, rfl, e1, I2⟩ := hq
  have J := J.co I2.co
  obtain ⟨fm, hm⟩ := J.obj
  refine Zw.room (κ' := κ) (σ' := σ + Phi ln) ?_ (by omega) (by omega)
  refine x_al2 rfl dL_law_343 ?_
  refine x_al0 rfl dL_law_344 ?_
  refine x_il3 dL_law_345 ?_
  refine x_iconst (v := nI 1) dL_law_346 rfl ?_
  refine x_iadd (nI_add _ _) dL_law_347 ?_
  refine x_scr (vp_in_nI (show i + 1 < g.2.2.2.2.1 by omega) hg) rfl dL_law_348 ?_
  refine x_al0 rfl dL_law_349 ?_
  refine x_il3 dL_law_350 ?_
  refine x_iconst (v := nI 2) dL_law_351 rfl ?_
  refine x_iadd (nI_add _ _) dL_law_352 ?_
  refine x_scr (vp_in_nI (show i + 2 < g.2.2.2.2.1 by omega) hg) rfl dL_law_353 ?_
  refine x_callV (as := [.int _, .int _]) (κ1 := 0) (κ2 := κ) (σ1 := 0) (σ2 := σ + Phi ln) mX12_drawer_ok lkL_31 rfl rfl (Nat.le_of_ble_eq_true rfl) (Nat.le_of_ble_eq_true rfl) dL_law_354 hm (by omega) (by omega) (w_drawer (d := d + 77) J) (fun v h2 hq => ?_)
  obtain ⟨r2, rfl, e2, J2⟩ := hq
  have I2 := I2.mo J J2.mo
  have e : r = r2 := e1.trans e2.symm
  refine x_icmp_eq (tgt := 1583) dL_law_357 rfl (fun _ => kk h2 _ ⟨_, _, _, _, _, _, _, _, _, _, _, _, J2, I2⟩) (fun q => absurd e q)
theorem lw_swap (hi : i + 6 ≤ g.2.2.2.2.1) (hg : g.2.2.2.2.1 < 2 ^ 31) (B : BI h ln) (kk : ∀ (h' : zH) (l2 : zLn), BI h' l2 → Zw g (d + 80) κ (σ + Phi l2) mL_law 1583 (lawL i) [] h' Q) : Zw g (d + 80) (κ + 16) (σ + 13000 + Phi ln) mL_law 441 (lawL i) [] h Q := by
  obtain ⟨h0, hh, dk, st, un, tp, tr, pi, fl, sb, sj, dr, J, I⟩ := B
  have I := I.mo J Mo.rf
  have J := J.co Co.rf
  obtain ⟨fs, hc⟩ := I.obj
  obtain ⟨n0, n6, -⟩ := I.dkB
  refine x_al1 rfl dL_law_441 ?_
  refine x_al0 rfl dL_law_442 ?_
  refine x_il3 dL_law_443 ?_
  refine x_iconst (v := nI 1) dL_law_444 rfl ?_
  refine x_iadd (nI_add _ _) dL_law_445 ?_
  refine x_scr (vp_in_nI (show i + 1 < g.2.2.2.2.1 by omega) hg) rfl dL_law_446 ?_
  refine x_al0 rfl dL_law_447 ?_
  refine x_il3 dL_law_448 ?_
  refine x_iconst (v := nI 2) dL_law_449 rfl ?_
  refine x_iadd (nI_add _ _) dL_law_450 ?_
  refine x_scr (vp_in_nI (show i + 2 < g.2.2.2.2.1 by omega) hg) rfl dL_law_451 ?_
  have ph : 0 + Phi ln ≤ Phi ln + 3610 := by omega
  refine x_callV (as := [.int _, .int _]) (κ1 := 0) (κ2 := κ) (σ1 := 0) (σ2 := σ + 13000 + Phi ln - (0)) mX11_swap_ok lkL_45 rfl rfl (Nat.le_of_ble_eq_true rfl) (Nat.le_of_ble_eq_true rfl) dL_law_452 hc (by omega) (by omega) (k_swap (d := d + 72) I) (fun v h1 hq => ?_)
  obtain ⟨r, rfl, e1, I2⟩ := hq
  have J := J.co I2.co
  obtain ⟨fm, hm⟩ := J.obj
  refine Zw.room (κ' := κ) (σ' := σ + Phi ln) ?_ (by omega) (by omega)
  refine x_al2 rfl dL_law_455 ?_
  refine x_al0 rfl dL_law_456 ?_
  refine x_il3 dL_law_457 ?_
  refine x_iconst (v := nI 1) dL_law_458 rfl ?_
  refine x_iadd (nI_add _ _) dL_law_459 ?_
  refine x_scr (vp_in_nI (show i + 1 < g.2.2.2.2.1 by omega) hg) rfl dL_law_460 ?_
  refine x_al0 rfl dL_law_461 ?_
  refine x_il3 dL_law_462 ?_
  refine x_iconst (v := nI 2) dL_law_463 rfl ?_
  refine x_iadd (nI_add _ _) dL_law_464 ?_
  refine x_scr (vp_in_nI (show i + 2 < g.2.2.2.2.1 by omega) hg) rfl dL_law_465 ?_
  refine x_callV (as := [.int _, .int _]) (κ1 := 0) (κ2 := κ) (σ1 := 0) (σ2 := σ + Phi ln) mX12_swap_ok lkL_48 rfl rfl (Nat.le_of_ble_eq_true rfl) (Nat.le_of_ble_eq_true rfl) dL_law_466 hm (by omega) (by omega) (w_swap (d := d + 74) J) (fun v h2 hq => ?_)
  obtain ⟨r2, rfl, e2, J2⟩ := hq
  have I2 := I2.mo J J2.mo
  have e : r = r2 := e1.trans e2.symm
  refine x_icmp_eq (tgt := 1583) dL_law_469 rfl (fun _ => kk h2 _ ⟨_, _, _, _, _, _, _, _, _, _, _, _, J2, I2⟩) (fun q => absurd e q)
theorem lw_fewest (hi : i + 6 ≤ g.2.2.2.2.1) (hg : g.2.2.2.2.1 < 2 ^ 31) (B : BI h ln) (kk : ∀ (h' : zH) (l2 : zLn), BI h' l2 → Zw g (d + 80) κ (σ + Phi l2) mL_law 1583 (lawL i) [] h' Q) : Zw g (d + 80) (κ + 16) (σ + 13000 + Phi ln) mL_law 798 (lawL i) [] h Q := by
  obtain ⟨h0, hh, dk, st, un, tp, tr, pi, fl, sb, sj, dr, J, I⟩ := B
  have I := I.mo J Mo.rf
  have J := J.co Co.rf
  obtain ⟨fs, hc⟩ := I.obj
  obtain ⟨n0, n6, -⟩ := I.dkB
  refine x_al1 rfl dL_law_798 ?_
  refine x_al0 rfl dL_law_799 ?_
  refine x_il3 dL_law_800 ?_
  refine x_iconst (v := nI 1) dL_law_801 rfl ?_
  refine x_iadd (nI_add _ _) dL_law_802 ?_
  refine x_scr (vp_in_nI (show i + 1 < g.2.2.2.2.1 by omega) hg) rfl dL_law_803 ?_
  have ph := phi_SW (ln := ln) n0 n6
  refine x_callV (as := [.int _]) (κ1 := 3) (κ2 := κ) (σ1 := sS dk.1 ln + sW dk.1 ln) (σ2 := σ + 13000 + Phi ln - (sS dk.1 ln + sW dk.1 ln)) mX11_fewest_ok lkL_97 rfl rfl (Nat.le_of_ble_eq_true rfl) (Nat.le_of_ble_eq_true rfl) dL_law_804 hc (by omega) (by omega) (k_fewest (d := d + 72) I) (fun v h1 hq => ?_)
  obtain ⟨r, rfl, e1, I2⟩ := hq
  have s1 := sS_le (ln := ln) n6
  have s2 := sW_le (ln := ln) n6
  have s3 := sV_le (ln := ln) n6
  have I3 : ∃ l2, CI h h1 dk st un tp tr pi fl l2 sb sj dr ∧ (sS dk.1 ln + sW dk.1 ln) + Phi l2 ≤ Phi ln + 13000 := by
    rcases I2 with z | z
    · exact ⟨ln, z, by omega⟩
    · exact ⟨_, z, by omega⟩
  obtain ⟨l2, I2, ph⟩ := I3
  have J := J.co I2.co
  obtain ⟨fm, hm⟩ := J.obj
  refine Zw.room (κ' := κ) (σ' := σ + Phi l2) ?_ (by omega) (by omega)
  refine x_al2 rfl dL_law_807 ?_
  refine x_al0 rfl dL_law_808 ?_
  refine x_il3 dL_law_809 ?_
  refine x_iconst (v := nI 1) dL_law_810 rfl ?_
  refine x_iadd (nI_add _ _) dL_law_811 ?_
  refine x_scr (vp_in_nI (show i + 1 < g.2.2.2.2.1 by omega) hg) rfl dL_law_812 ?_
  refine x_callV (as := [.int _]) (κ1 := 0) (κ2 := κ) (σ1 := 0) (σ2 := σ + Phi l2) mX12_fewest_ok lkL_100 rfl rfl (Nat.le_of_ble_eq_true rfl) (Nat.le_of_ble_eq_true rfl) dL_law_813 hm (by omega) (by omega) (w_fewest (d := d + 72) J) (fun v h2 hq => ?_)
  obtain ⟨r2, rfl, e2, J2⟩ := hq
  have I2 := I2.mo J J2.mo
  have e : r = r2 := A_fewest_u e1 e2
  refine x_icmp_eq (tgt := 1583) dL_law_816 rfl (fun _ => kk h2 _ ⟨_, _, _, _, _, _, _, _, _, _, _, _, J2, I2⟩) (fun q => absurd e q)
theorem lw_rows (hi : i + 6 ≤ g.2.2.2.2.1) (hg : g.2.2.2.2.1 < 2 ^ 31) (B : BI h ln) (kk : ∀ (h' : zH) (l2 : zLn), BI h' l2 → Zw g (d + 80) κ (σ + Phi l2) mL_law 1583 (lawL i) [] h' Q) : Zw g (d + 80) (κ + 16) (σ + 13000 + Phi ln) mL_law 854 (lawL i) [] h Q := by
  obtain ⟨h0, hh, dk, st, un, tp, tr, pi, fl, sb, sj, dr, J, I⟩ := B
  have I := I.mo J Mo.rf
  have J := J.co Co.rf
  obtain ⟨fs, hc⟩ := I.obj
  obtain ⟨n0, n6, -⟩ := I.dkB
  refine x_al1 rfl dL_law_854 ?_
  refine x_al0 rfl dL_law_855 ?_
  refine x_il3 dL_law_856 ?_
  refine x_iconst (v := nI 1) dL_law_857 rfl ?_
  refine x_iadd (nI_add _ _) dL_law_858 ?_
  refine x_scr (vp_in_nI (show i + 1 < g.2.2.2.2.1 by omega) hg) rfl dL_law_859 ?_
  refine x_al0 rfl dL_law_860 ?_
  refine x_il3 dL_law_861 ?_
  refine x_iconst (v := nI 2) dL_law_862 rfl ?_
  refine x_iadd (nI_add _ _) dL_law_863 ?_
  refine x_scr (vp_in_nI (show i + 2 < g.2.2.2.2.1 by omega) hg) rfl dL_law_864 ?_
  have ph := phi_SV (ln := ln) n0 n6
  refine x_callV (as := [.int _, .int _]) (κ1 := 3) (κ2 := κ) (σ1 := sS dk.1 ln + sV dk.1 ln) (σ2 := σ + 13000 + Phi ln - (sS dk.1 ln + sV dk.1 ln)) mX11_rows_ok lkL_105 rfl rfl (Nat.le_of_ble_eq_true rfl) (Nat.le_of_ble_eq_true rfl) dL_law_865 hc (by omega) (by omega) (k_rows (d := d + 72) I) (fun v h1 hq => ?_)
  obtain ⟨r, rfl, e1, I2⟩ := hq
  have s1 := sS_le (ln := ln) n6
  have s2 := sW_le (ln := ln) n6
  have s3 := sV_le (ln := ln) n6
  have I3 : ∃ l2, CI h h1 dk st un tp tr pi fl l2 sb sj dr ∧ (sS dk.1 ln + sV dk.1 ln) + Phi l2 ≤ Phi ln + 13000 := by
    rcases I2 with z | z
    · exact ⟨ln, z, by omega⟩
    · exact ⟨_, z, by omega⟩
  obtain ⟨l2, I2, ph⟩ := I3
  have J := J.co I2.co
  obtain ⟨fm, hm⟩ := J.obj
  refine Zw.room (κ' := κ) (σ' := σ + Phi l2) ?_ (by omega) (by omega)
  refine x_al2 rfl dL_law_868 ?_
  refine x_al0 rfl dL_law_869 ?_
  refine x_il3 dL_law_870 ?_
  refine x_iconst (v := nI 1) dL_law_871 rfl ?_
  refine x_iadd (nI_add _ _) dL_law_872 ?_
  refine x_scr (vp_in_nI (show i + 1 < g.2.2.2.2.1 by omega) hg) rfl dL_law_873 ?_
  refine x_al0 rfl dL_law_874 ?_
  refine x_il3 dL_law_875 ?_
  refine x_iconst (v := nI 2) dL_law_876 rfl ?_
  refine x_iadd (nI_add _ _) dL_law_877 ?_
  refine x_scr (vp_in_nI (show i + 2 < g.2.2.2.2.1 by omega) hg) rfl dL_law_878 ?_
  refine x_callV (as := [.int _, .int _]) (κ1 := 0) (κ2 := κ) (σ1 := 0) (σ2 := σ + Phi l2) mX12_rows_ok lkL_108 rfl rfl (Nat.le_of_ble_eq_true rfl) (Nat.le_of_ble_eq_true rfl) dL_law_879 hm (by omega) (by omega) (w_rows (d := d + 72) J) (fun v h2 hq => ?_)
  obtain ⟨r2, rfl, e2, J2⟩ := hq
  have I2 := I2.mo J J2.mo
  have e : r = r2 := e1.trans e2.symm
  refine x_lcmp rfl dL_law_882 ?_
  refine x_if_eq (tgt := 1583) dL_law_883 rfl (fun _ => kk h2 _ ⟨_, _, _, _, _, _, _, _, _, _, _, _, J2, I2⟩) (fun q => absurd (cmp_eq.mpr e) q)
end ZCs

