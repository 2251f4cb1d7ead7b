/-! the loop of the law -/
section ZLo
variable {g : zG} {d : Nat}
def rT : Option Value → zH → Prop := fun v _ => v = some (.int 1)
theorem len6 {a i : Nat} (ha : a < 2 ^ 31) (hi : i < 2 ^ 31) : nI a - nI 6 < nI i ↔ a < i + 6 := by
  by_cases z : 6 ≤ a
  · rw [pk_sub z, zN_lt, nI_toInt (by omega), nI_toInt (by omega)]
    omega
  · have e : (nI a - nI 6).toInt = (a : Int) - 6 := by
      match a, z with | 0, _ => rfl | 1, _ => rfl | 2, _ => rfl | 3, _ => rfl | 4, _ => rfl | 5, _ => rfl | _ + 6, h9 => exact absurd h9 (by omega)
    rw [Int32.lt_iff_toInt_lt, e, nI_toInt hi]
    omega
theorem lw_sw {i κ σ : Nat} {h : zH} {ln : zLn} {x : Int32} {Q : Option Value → zH → Prop} (hi : i + 6 ≤ g.2.2.2.2.1) (hg : g.2.2.2.2.1 < 2 ^ 31) (B : BI h ln) (kk : ∀ (h' : zH) (l2 : zLn), BI h' l2 → Zw g (d + 80) κ (σ + Phi l2) mL_law 1583 (lawL i) [] h' Q) : Zw g (d + 80) (κ + 16) (σ + 13000 + Phi ln) mL_law 33 (lawL i) [.int x] h Q := by
  by_cases hx : x.toInt < 0 ∨ 42 < x.toInt
  · refine x_tabOut (tgt := 1583) dL_law_33 hx rfl ?_
    exact Zw.room (kk h ln B) (by omega) (by omega)
  have h1 : ¬ x.toInt < 0 := fun z => hx (Or.inl z)
  have h2 : ¬ 42 < x.toInt := fun z => hx (Or.inr z)
  obtain ⟨k, hk, hk2⟩ : ∃ k : Nat, x.toInt = (k : Int) ∧ k < 43 := ⟨x.toInt.toNat, by omega, by omega⟩
  match k, hk, hk2 with
  | 0, hk, _ => exact x_tabIn (off := 187) (tgt := 220) dL_law_33 h1 h2 (by rw [hk]; rfl) rfl (lw_feed hi hg B kk)
  | 1, hk, _ => exact x_tabIn (off := 250) (tgt := 283) dL_law_33 h1 h2 (by rw [hk]; rfl) rfl (lw_desk hi hg B kk)
  | 2, hk, _ => exact x_tabIn (off := 273) (tgt := 306) dL_law_33 h1 h2 (by rw [hk]; rfl) rfl (lw_fault hi hg B kk)
  | 3, hk, _ => exact x_tabIn (off := 296) (tgt := 329) dL_law_33 h1 h2 (by rw [hk]; rfl) rfl (lw_drawer hi hg B kk)
  | 4, hk, _ => exact x_tabIn (off := 329) (tgt := 362) dL_law_33 h1 h2 (by rw [hk]; rfl) rfl (lw_visit hi hg B kk)
  | 5, hk, _ => exact x_tabIn (off := 362) (tgt := 395) dL_law_33 h1 h2 (by rw [hk]; rfl) rfl (lw_opened hi hg B kk)
  | 6, hk, _ => exact x_tabIn (off := 395) (tgt := 428) dL_law_33 h1 h2 (by rw [hk]; rfl) rfl (lw_letOff hi hg B kk)
  | 7, hk, _ => exact x_tabIn (off := 408) (tgt := 441) dL_law_33 h1 h2 (by rw [hk]; rfl) rfl (lw_swap hi hg B kk)
  | 8, hk, _ => exact x_tabIn (off := 441) (tgt := 474) dL_law_33 h1 h2 (by rw [hk]; rfl) rfl (lw_nights hi hg B kk)
  | 9, hk, _ => exact x_tabIn (off := 464) (tgt := 497) dL_law_33 h1 h2 (by rw [hk]; rfl) rfl (lw_clue hi hg B kk)
  | 10, hk, _ => exact x_tabIn (off := 487) (tgt := 520) dL_law_33 h1 h2 (by rw [hk]; rfl) rfl (lw_undo hi hg B kk)
  | 11, hk, _ => exact x_tabIn (off := 510) (tgt := 543) dL_law_33 h1 h2 (by rw [hk]; rfl) rfl (lw_judge hi hg B kk)
  | 12, hk, _ => exact x_tabIn (off := 543) (tgt := 576) dL_law_33 h1 h2 (by rw [hk]; rfl) rfl (lw_perform hi hg B kk)
  | 13, hk, _ => exact x_tabIn (off := 566) (tgt := 599) dL_law_33 h1 h2 (by rw [hk]; rfl) rfl (lw_year hi hg B kk)
  | 14, hk, _ => exact x_tabIn (off := 599) (tgt := 632) dL_law_33 h1 h2 (by rw [hk]; rfl) rfl (lw_lies hi hg B kk)
  | 15, hk, _ => exact x_tabIn (off := 622) (tgt := 655) dL_law_33 h1 h2 (by rw [hk]; rfl) rfl (lw_round hi hg B kk)
  | 16, hk, _ => exact x_tabIn (off := 655) (tgt := 688) dL_law_33 h1 h2 (by rw [hk]; rfl) rfl (lw_power hi hg B kk)
  | 17, hk, _ => exact x_tabIn (off := 708) (tgt := 741) dL_law_33 h1 h2 (by rw [hk]; rfl) rfl (lw_roots hi hg B kk)
  | 18, hk, _ => exact x_tabIn (off := 731) (tgt := 764) dL_law_33 h1 h2 (by rw [hk]; rfl) rfl (lw_bounded hi hg B kk)
  | 19, hk, _ => exact x_tabIn (off := 765) (tgt := 798) dL_law_33 h1 h2 (by rw [hk]; rfl) rfl (lw_fewest hi hg B kk)
  | 20, hk, _ => exact x_tabIn (off := 788) (tgt := 821) dL_law_33 h1 h2 (by rw [hk]; rfl) rfl (lw_way hi hg B kk)
  | 21, hk, _ => exact x_tabIn (off := 821) (tgt := 854) dL_law_33 h1 h2 (by rw [hk]; rfl) rfl (lw_rows hi hg B kk)
  | 22, hk, _ => exact x_tabIn (off := 855) (tgt := 888) dL_law_33 h1 h2 (by rw [hk]; rfl) rfl (lw_ofAll hi hg B kk)
  | 23, hk, _ => exact x_tabIn (off := 878) (tgt := 911) dL_law_33 h1 h2 (by rw [hk]; rfl) rfl (lw_ofOne hi hg B kk)
  | 24, hk, _ => exact x_tabIn (off := 901) (tgt := 934) dL_law_33 h1 h2 (by rw [hk]; rfl) rfl (lw_just hi hg B kk)
  | 25, hk, _ => exact x_tabIn (off := 924) (tgt := 957) dL_law_33 h1 h2 (by rw [hk]; rfl) rfl (lw_at hi hg B kk)
  | 26, hk, _ => exact x_tabIn (off := 977) (tgt := 1010) dL_law_33 h1 h2 (by rw [hk]; rfl) rfl (lw_comesRound hi hg B kk)
  | 27, hk, _ => exact x_tabIn (off := 990) (tgt := 1023) dL_law_33 h1 h2 (by rw [hk]; rfl) rfl (lw_first hi hg B kk)
  | 28, hk, _ => exact x_tabIn (off := 1013) (tgt := 1046) dL_law_33 h1 h2 (by rw [hk]; rfl) rfl (lw_often hi hg B kk)
  | 29, hk, _ => exact x_tabIn (off := 1077) (tgt := 1110) dL_law_33 h1 h2 (by rw [hk]; rfl) rfl (lw_found hi hg B kk)
  | 30, hk, _ => exact x_tabIn (off := 1110) (tgt := 1143) dL_law_33 h1 h2 (by rw [hk]; rfl) rfl (lw_names hi hg B kk)
  | 31, hk, _ => exact x_tabIn (off := 1153) (tgt := 1186) dL_law_33 h1 h2 (by rw [hk]; rfl) rfl (lw_look hi hg B kk)
  | 32, hk, _ => exact x_tabIn (off := 1186) (tgt := 1219) dL_law_33 h1 h2 (by rw [hk]; rfl) rfl (lw_clues hi hg B kk)
  | 33, hk, _ => exact x_tabIn (off := 1209) (tgt := 1242) dL_law_33 h1 h2 (by rw [hk]; rfl) rfl (lw_forces hi hg B kk)
  | 34, hk, _ => exact x_tabIn (off := 1232) (tgt := 1265) dL_law_33 h1 h2 (by rw [hk]; rfl) rfl (lw_best hi hg B kk)
  | 35, hk, _ => exact x_tabIn (off := 1255) (tgt := 1288) dL_law_33 h1 h2 (by rw [hk]; rfl) rfl (lw_chance hi hg B kk)
  | 36, hk, _ => exact x_tabIn (off := 1298) (tgt := 1331) dL_law_33 h1 h2 (by rw [hk]; rfl) rfl (lw_mean hi hg B kk)
  | 37, hk, _ => exact x_tabIn (off := 1331) (tgt := 1364) dL_law_33 h1 h2 (by rw [hk]; rfl) rfl (lw_numbers hi hg B kk)
  | 38, hk, _ => exact x_tabIn (off := 1374) (tgt := 1407) dL_law_33 h1 h2 (by rw [hk]; rfl) rfl (lw_write hi hg B kk)
  | 39, hk, _ => exact x_tabIn (off := 1448) (tgt := 1481) dL_law_33 h1 h2 (by rw [hk]; rfl) rfl (lw_lists hi hg B kk)
  | 40, hk, _ => exact x_tabIn (off := 1481) (tgt := 1514) dL_law_33 h1 h2 (by rw [hk]; rfl) rfl (lw_image hi hg B kk)
  | 41, hk, _ => exact x_tabIn (off := 1504) (tgt := 1537) dL_law_33 h1 h2 (by rw [hk]; rfl) rfl (lw_restore hi hg B kk)
  | 42, hk, _ => exact x_tabIn (off := 1527) (tgt := 1560) dL_law_33 h1 h2 (by rw [hk]; rfl) rfl (lw_count hi hg B kk)
  | _ + 43, _, h9 => exact absurd h9 (by omega)
theorem lw_loop (hg : g.2.2.2.2.1 < 2 ^ 30) : ∀ (k i : Nat) (h : zH) (ln : zLn), i < 2 ^ 30 → g.2.2.2.2.1 < i + 6 + 6 * k → BI h ln → Zw g (d + 80) (16 * k) (13000 * k + Phi ln) mL_law 18 (lawL i) [] h rT := by
  intro k
  induction k with
  | zero =>
    intro i h ln hi hk B
    refine x_il3 dL_law_18 ?_
    refine x_al0 rfl dL_law_19 ?_
    refine x_scl (v := nI g.2.2.2.2.1) rfl dL_law_20 ?_
    refine x_bipush (v := nI 6) dL_law_21 rfl ?_
    refine x_isub rfl dL_law_23 ?_
    refine x_icmp_gt (tgt := 1589) dL_law_24 rfl (fun q => ?_) (fun q => absurd ((len6 (by omega) (by omega)).mpr (by omega)) q)
    refine x_iconst (v := nI 1) dL_law_1589 rfl ?_
    exact x_iret rfl rfl dL_law_1590 rfl
  | succ k ih =>
    intro i h ln hi hk B
    refine x_il3 dL_law_18 ?_
    refine x_al0 rfl dL_law_19 ?_
    refine x_scl (v := nI g.2.2.2.2.1) rfl dL_law_20 ?_
    refine x_bipush (v := nI 6) dL_law_21 rfl ?_
    refine x_isub rfl dL_law_23 ?_
    refine x_icmp_gt (tgt := 1589) dL_law_24 rfl (fun q => ?_) (fun q => ?_)
    · refine x_iconst (v := nI 1) dL_law_1589 rfl ?_
      exact x_iret rfl rfl dL_law_1590 rfl
    have q6 : i + 6 ≤ g.2.2.2.2.1 := by
      rcases Nat.lt_or_ge g.2.2.2.2.1 (i + 6) with z | z
      · exact absurd ((len6 (by omega) (by omega)).mpr z) q
      · exact z
    refine x_al0 rfl dL_law_27 ?_
    refine x_il3 dL_law_28 ?_
    refine x_scr (vp_in_nI (show i < g.2.2.2.2.1 by omega) (by omega)) rfl dL_law_29 ?_
    refine x_bipush (v := nI 63) dL_law_30 rfl ?_
    refine x_iand rfl dL_law_32 ?_
    refine Zw.room (κ' := 16 * k + 16) (σ' := 13000 * k + 13000 + Phi ln) ?_ (by omega) (by omega)
    refine lw_sw q6 (by omega) B (fun h' l2 B' => ?_)
    refine x_ii3 (n := 6) (v := nI (i + 6)) rfl (nI_add i 6) dL_law_1583 ?_
    refine x_goto (tgt := 18) dL_law_1586 rfl ?_
    exact ih (i + 6) h' l2 (by omega) (by omega) B'
end ZLo

