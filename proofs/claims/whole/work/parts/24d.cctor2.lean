/-! the class's constructor, to its end -/
section ZCd
variable {g : zG} {d : Nat} {h : zH}
theorem c_hold1 {n n0 rn rs len : Nat} {c0 p0 sw : Int32} {f fm : Nat → Int32} (hR : h[15]? = some (.inr (5, [.int (nI n0), .int c0, .int p0, .int sw, .ref rn, .ref rs, .ref 18, .ref 19]))) (hA : h[rn]? = some (.inl (1, len, .inl f))) (hl : len < 2 ^ 31) (hm : h[19]? = some (.inl (0, 6, .inl fm))) (hne : n0 ≠ n) (h0 : 0 < n) (hn : n ≤ 6) (hn0 : n0 ≤ 6) (hb : n * fct n ≤ len) : Zm g (d + 3) 0 0 mX5_hold [.ref 15, .int (nI n)] h (rVp (fun h' => RT h' n rn rs (nI 0) ∧ Fr [15, rn] h h' ∧ (∃ f', h'[rn]? = some (.inl (1, len, .inl f'))) ∧ h'.length = h.length)) := by
  have hf := fct_le hn
  have hnf := nfac hn
  have r15 : rn ≠ 15 := fun q => by rw [q, hR] at hA; cases hA
  have r19 : rn ≠ 19 := fun q => by rw [q, hm] at hA; cases hA
  show Zw g (d + 3) 0 0 mX5_hold 0 [some (.ref 15), some (.int (nI n)), none] [] h _
  refine x_il1 dX5_hold_0 ?_
  refine x_al0 rfl dX5_hold_1 ?_
  refine x_get fdX5_9 hR rfl dX5_hold_2 ?_
  refine x_icmp_eq (tgt := 19) dX5_hold_5 rfl (fun q1 => ?_) (fun q1 => ?_)
  · exact absurd ((nI_eq (by omega) (by omega)).mp q1) (fun q => hne q.symm)
  · refine x_il1 dX5_hold_8 ?_
    refine x_iconst (v := nI 1) dX5_hold_9 rfl ?_
    refine x_icmp_lt (tgt := 19) dX5_hold_10 rfl (fun q2 => ?_) (fun q2 => ?_)
    · exact absurd q2 (nI_nlt h0 (by omega))
    · refine x_il1 dX5_hold_13 ?_
      refine x_bipush (v := nI 6) dX5_hold_14 rfl ?_
      refine x_icmp_le (tgt := 20) dX5_hold_16 rfl (fun q3 => ?_) (fun q3 => ?_)
      · refine x_al0 rfl dX5_hold_20 ?_
        refine x_il1 dX5_hold_21 ?_
        refine x_put fdX5_9 hR zf_i (by simp) dX5_hold_22 ?_
        have g15 := hs_eq (e := .inr (5, [.int (nI n), .int c0, .int p0, .int sw, .ref rn, .ref rs, .ref 18, .ref 19])) hR
        refine x_al0 rfl dX5_hold_25 ?_
        refine x_gsF rfl dX5_hold_26 ?_
        refine x_il1 dX5_hold_29 ?_
        refine x_fac  rfl (by omega) (fac_n (by omega)) dX5_hold_30 ?_
        refine x_put fdX5_15 g15 zf_i (by simp) dX5_hold_31 ?_
        rw [show ([Value.int (nI n0), .int c0, .int p0, .int sw, .ref rn, .ref rs, .ref 18, .ref 19] : List Value).set 0 (.int (nI n)) = [.int (nI n), .int c0, .int p0, .int sw, .ref rn, .ref rs, .ref 18, .ref 19] from rfl, hs_hs]
        have g15 := hs_eq (e := .inr (5, [.int (nI n), .int (nI (fct n)), .int p0, .int sw, .ref rn, .ref rs, .ref 18, .ref 19])) hR
        refine x_al0 rfl dX5_hold_34 ?_
        refine x_il1 dX5_hold_35 ?_
        refine x_il1 dX5_hold_36 ?_
        refine x_iconst (v := nI 1) dX5_hold_37 rfl ?_
        refine x_isub (pk_sub (by omega)) dX5_hold_38 ?_
        first | refine x_imul (pk_mul _ _) dX5_hold_39 ?_ | refine x_imul rfl dX5_hold_39 ?_
        refine x_iconst (v := nI 2) dX5_hold_40 rfl ?_
        refine x_idiv (by decide) (pk_div (d := 2) (by have := Nat.mul_le_mul hn (show n - 1 ≤ 5 by omega); omega) (by decide) (by decide)) dX5_hold_41 ?_
        refine x_put fdX5_18 g15 zf_i (by simp) dX5_hold_42 ?_
        rw [show ([Value.int (nI n), .int c0, .int p0, .int sw, .ref rn, .ref rs, .ref 18, .ref 19] : List Value).set 1 (.int (nI (fct n))) = [.int (nI n), .int (nI (fct n)), .int p0, .int sw, .ref rn, .ref rs, .ref 18, .ref 19] from rfl, hs_hs]
        have g15 := hs_eq (e := .inr (5, [.int (nI n), .int (nI (fct n)), .int (nI (n * (n - 1) / 2)), .int sw, .ref rn, .ref rs, .ref 18, .ref 19])) hR
        refine x_al0 rfl dX5_hold_45 ?_
        refine x_iconst (v := nI 0) dX5_hold_46 rfl ?_
        refine x_put fdX5_21 g15 (zf_z (by first | exact Or.inl rfl | exact Or.inr rfl)) (by simp) dX5_hold_47 ?_
        rw [show ([Value.int (nI n), .int (nI (fct n)), .int p0, .int sw, .ref rn, .ref rs, .ref 18, .ref 19] : List Value).set 2 (.int (nI (n * (n - 1) / 2))) = [.int (nI n), .int (nI (fct n)), .int (nI (n * (n - 1) / 2)), .int sw, .ref rn, .ref rs, .ref 18, .ref 19] from rfl, hs_hs]
        rw [show ([Value.int (nI n), .int (nI (fct n)), .int (nI (n * (n - 1) / 2)), .int sw, .ref rn, .ref rs, .ref 18, .ref 19] : List Value).set 3 (.int (nI 0)) = [.int (nI n), .int (nI (fct n)), .int (nI (n * (n - 1) / 2)), .int (nI 0), .ref rn, .ref rs, .ref 18, .ref 19] from rfl]
        have g15 : (h.set 15 (rowsE n (nI 0) rn rs))[15]? = some (rowsE n (nI 0) rn rs) := hs_eq hR
        have gA : (h.set 15 (rowsE n (nI 0) rn rs))[rn]? = some (.inl (1, len, .inl f)) := by rw [hs_ne (Ne.symm r15)]; exact hA
        have gm : (h.set 15 (rowsE n (nI 0) rn rs))[19]? = some (.inl (0, 6, .inl fm)) := by rw [hs_ne (by decide)]; exact hm
        have gf : Fr [15, rn] h (h.set 15 (rowsE n (nI 0) rn rs)) := Fr.set (by simp)
        have gl : (h.set 15 (rowsE n (nI 0) rn rs)).length = h.length := List.length_set
        generalize h.set 15 (rowsE n (nI 0) rn rs) = h1 at g15 gA gm gf gl ⊢
        refine x_al0 rfl dX5_hold_50 ?_
        refine x_get fdX5_25 g15 rfl dX5_hold_51 ?_
        refine x_alen rfl gA rfl dX5_hold_54 ?_
        refine x_al0 rfl dX5_hold_55 ?_
        refine x_get fdX5_15 g15 rfl dX5_hold_56 ?_
        refine x_il1 dX5_hold_59 ?_
        first | refine x_imul (pk_mul _ _) dX5_hold_60 ?_ | refine x_imul rfl dX5_hold_60 ?_
        refine x_icmp_ge (tgt := 76) dX5_hold_61 rfl (fun q4 => ?_) (fun q4 => ?_)
        · have q4 : n * fct n ≤ len := by
            rcases Nat.lt_or_ge len (n * fct n) with z | z
            · exact absurd q4 (nI_ge (by rw [Nat.mul_comm]; exact z) (by rw [Nat.mul_comm]; omega))
            · exact z
          refine Zw.room (κ' := 0) (σ' := 0) ?_ (by omega) (by omega)
          refine x_iconst (v := nI 0) dX5_hold_76 rfl ?_
          refine x_is2 rfl dX5_hold_77 ?_
          refine Zw.mono (lp_X5_hold (d := d + 1) hn q4 hl r15 (fct n) 0 h1 f (by omega) (fun s hs => absurd hs (by omega)) g15 gA) (fun v h' hq => ?_)
          obtain ⟨rfl, f', rfl, hT⟩ := hq
          exact ⟨rfl, ⟨h0, hn, r15, r19, by rw [hs_ne r15]; exact g15, ⟨len, f', hs_eq gA, hT⟩, fm, by rw [hs_ne r19]; exact gm⟩, gf.tr (Fr.set (by simp)), ⟨f', hs_eq gA⟩, by rw [List.length_set]; exact gl⟩
        · exact absurd (nI_le (by rw [Nat.mul_comm]; exact hb) hl) q4
      · exact absurd (nI_le hn (by decide)) q3
def kD : zDd := (1, 1, fun _ => 0, fun _ => 0, 0, none, none)
def kz56 : va_E := deskE 1 1 (nI 0) (nI (rnk 1 (fun _ => 0))) (nI (rnk 1 (fun _ => 0))) (nI 0) .null .null
def kzA : zH := xE (nI 0) 56 (nI 0) 0 :: (kzH.drop 1 ++ [kz56])
theorem kzA_len : kzA.length = 57 := rfl
/-- what the class's constructor leaves -/
def K0 (h : zH) : Prop := h.length = 59 ∧ (∀ i, i < 57 → i ≠ 15 → i ≠ 16 → i ≠ 20 → i ≠ 23 → h[i]? = kzA[i]?) ∧ RT h 1 16 17 (nI 0) ∧ (∃ f, h[16]? = some (.inl (1, 1, .inl f))) ∧ h[20]? = some (visE 56 57 58 (nI (1 * 1 * 1 * 1)) 0 0) ∧ (∃ kp, h[23]? = some (.inl (3, 10, .inl kp)) ∧ ∀ c, c < 10 → kp c = 0) ∧ (∃ f, h[57]? = some (.inl (1, 10, .inl f))) ∧ ∃ f, h[58]? = some (.inl (1, 10, .inl f))
theorem c_sit0 : Zm g (d + 4) 2 20 mX11_sitAt [.ref 0, .ref 56] kzA (rVp K0) := by
  show Zw g (d + 4) 2 20 mX11_sitAt 0 [some (.ref 0), some (.ref 56)] [] kzA _
  refine x_al0 rfl dX11_sitAt_0 ?_
  refine x_al1 rfl dX11_sitAt_1 ?_
  refine x_put fdX11_106 (show kzA[0]? = some (xE (nI 0) 56 (nI 0) 0) from rfl) zf_o (by simp) dX11_sitAt_2 ?_
  show Zw g (d + 4) 2 20 mX11_sitAt 5 [some (.ref 0), some (.ref 56)] [] kzA _
  refine x_al0 rfl dX11_sitAt_5 ?_
  refine x_get fdX11_62 (show kzA[0]? = some (xE (nI 0) 56 (nI 0) 0) from rfl) rfl dX11_sitAt_6 ?_
  refine x_al1 rfl dX11_sitAt_9 ?_
  refine x_get fdX11_143 (show kzA[56]? = some kz56 from rfl) rfl dX11_sitAt_10 ?_
  refine x_cv1Vr (κ1 := 0) (κ2 := 2) (σ1 := 0) (σ2 := 20) mX5_hold_ok lkX11_146 rfl (Nat.le_of_ble_eq_true rfl) (Nat.le_of_ble_eq_true rfl) dX11_sitAt_13 (show kzA[15]? = some kz15 from rfl) (by decide) (by decide) (c_hold1 (n := 1) (n0 := 0) (len := 1) (show kzA[15]? = some kz15 from rfl) (show kzA[16]? = some kz16 from rfl) (by decide) (show kzA[19]? = some kz19 from rfl) (by decide) (by decide) (by decide) (by decide) (by decide)) (fun h1 hq1 => ?_)
  obtain ⟨t1, t2, ⟨f1, t3⟩, t4⟩ := hq1
  rw [kzA_len] at t4
  have ne : ∀ i, i < 57 → i ≠ 15 → i ≠ 16 → h1[i]? = kzA[i]? := fun i a b c => t2.2 i (by rw [kzA_len]; exact a) (by simp only [List.mem_cons, List.mem_nil_iff, or_false]; omega)
  have g0 : h1[0]? = some (xE (nI 0) 56 (nI 0) 0) := ne 0 (by decide) (by decide) (by decide)
  have g20 : h1[20]? = some kz20 := ne 20 (by decide) (by decide) (by decide)
  have g21 : h1[21]? = some kz21 := ne 21 (by decide) (by decide) (by decide)
  have g22 : h1[22]? = some kz22 := ne 22 (by decide) (by decide) (by decide)
  have g23 : h1[23]? = some kz23 := ne 23 (by decide) (by decide) (by decide)
  have g56 : h1[56]? = some kz56 := ne 56 (by decide) (by decide) (by decide)
  refine x_al0 rfl dX11_sitAt_16 ?_
  refine x_get fdX11_71 g0 rfl dX11_sitAt_17 ?_
  refine x_al1 rfl dX11_sitAt_20 ?_
  refine x_cv1Vr (κ1 := 2) (κ2 := 0) (σ1 := grw 1 (10 * (1 * 1 * 1 * 1)) + grw 1 (10 * fct 1)) (σ2 := 0) mX9_sitAt_ok lkX11_149 rfl (Nat.le_of_ble_eq_true rfl) (Nat.le_of_ble_eq_true rfl) dX11_sitAt_21 g20 (Nat.le_refl _) (by decide) (c_sitAt9 (n := 1) (op := 1) (by decide) (by decide) g20 g56 t1.2.2.2.2.1 g23 g21 g22 (by decide) (by decide)) (fun h2 hq2 => ?_)
  obtain ⟨rmv, rmk, fm, fk, kp, F, k20, k23, kz, k4, k5, w4, w5, w6⟩ := hq2
  have e10 : max 1 (10 * (1 * 1 * 1 * 1)) = 10 := by decide
  have e11 : max 1 (10 * fct 1) = 10 := by decide
  rw [e10] at k4
  rw [e11] at k5
  have m21 : h2[21]? = some kz21 := F.get g21 (by decide)
  have m22 : h2[22]? = some kz22 := F.get g22 (by decide)
  have a1 : rmv = 57 := by
    rcases w4 with z | z
    · rw [z, m21] at k4; cases k4
    · rw [z, t4]
  have a2 : rmk = 58 := by
    have l := hp_lt k5
    rcases w5 with z | ⟨z1, z2⟩
    · rw [z, m22] at k5; cases k5
    · omega
  subst a1 a2
  have l := hp_lt k5
  have t5 : 16 ∉ [20, 23] := by decide
  refine x_vret rfl dX11_sitAt_24 ⟨rfl, by omega, fun i a b c d e => ?_, t1.fr F (by decide) (by decide) (by decide), ⟨f1, F.get t3 t5⟩, k20, ⟨kp, k23, kz⟩, ⟨fm, k4⟩, ⟨fk, k5⟩⟩
  rw [F.2 i (by omega) (by simp only [List.mem_cons, List.mem_nil_iff, or_false]; omega)]
  exact ne i a b c
def kzQ (i : Nat) : zS3 := (0, 0, 0)
def kzF (k : Nat) : Value := ([.int 0, .int 0, .int 1, .int 1, .int 0, .int 0, .ref 3, .ref 4, .ref 5, .ref 7, .null, .int 0, .int 0, .int 2, .int 0, .int 0, .int 0, .ref 5] : List Value).getD k .null
theorem kzR : RW kzH kzH kzF (fun _ _ => 0) kzQ := by
  refine ⟨rfl, ⟨rfl, rfl, rfl, rfl, fun k hk => ?_⟩, rfl, rfl, ⟨rfl, rfl⟩, ⟨rfl, rfl⟩, rfl, fun _ _ => rfl⟩
  unfold rII at hk
  simp only [List.contains_eq_mem, List.mem_cons, List.mem_nil_iff, or_false, decide_eq_true_eq] at hk
  rcases hk with rfl | rfl | rfl | rfl | rfl | rfl | rfl | rfl | rfl | rfl | rfl | rfl <;> exact ⟨_, rfl⟩
theorem c_ctor : Zm g (d + 9) 65 7111 mX11_init [.ref 0] [.inr (11, [.null, .int 0, .null, .null, .null, .null, .null, .null, .int 0, .int 0, .null, .null, .null, .null, .null, .null, .null, .null])] (rVp K0) := by
  refine c_ctor1 ?_
  refine Zw.room (κ' := 2 + 1) (σ' := 20 + 8) ?_ (by decide) (by decide)
  refine x_al0 rfl dX11_init_263 ?_
  refine x_new (ci := 0) (fs := [.int 0, .int 0, .int 0, .int 0, .int 0, .int 0, .null, .null]) rfl inX0 tyX0_ok klX11_101 kiX0 knX0 (fun j hj => by match j, hj with | 0, _ => rfl | 1, _ => rfl | 2, _ => rfl | 3, _ => rfl | 4, _ => rfl | 5, _ => rfl | 6, _ => rfl | 7, _ => rfl | _ + 8, h9 => exact absurd h9 (by omega)) (fun _ => rfl) (by simp) dX11_init_264 ?_
  refine x_dup rfl dX11_init_267 ?_
  refine x_al0 rfl dX11_init_268 ?_
  refine x_get fdX11_20 (hp_old (show kzH[0]? = some kzX from rfl)) rfl dX11_init_269 ?_
  refine x_ci1 (κ1 := 0) (κ2 := 2) (σ1 := 0) (σ2 := 20) mX0_init_ok rfl lkX11_103 (Nat.le_of_ble_eq_true rfl) (Nat.le_of_ble_eq_true rfl) dX11_init_272 (by decide) (by decide) (c_deskP (d := d + 5) (D := kD) (li := 0) kzR ⟨rfl, rfl, rfl, fun j c q => by cases q⟩ ⟨rfl, rfl, rfl, fun j c q => by cases q⟩ rfl rfl rfl rfl (fun _ _ => rfl) (fun _ _ => rfl) ⟨by decide, by decide, by decide, by decide, fun _ _ => Nat.one_pos, fun _ _ => Nat.one_pos, by decide, trivial, trivial⟩) (fun v h' q => ?_)
  obtain ⟨rfl, f1, f2, rfl, -, -⟩ := q
  show Zw g (d + 9) 2 20 mX11_init 275 [some (.ref 0), none] [.ref 56, .ref 0] (kzX :: (kzH.drop 1 ++ [kz56])) _
  refine x_put fdX11_106 (show (kzX :: (kzH.drop 1 ++ [kz56]))[0]? = some kzX from rfl) zf_o (by simp) dX11_init_275 ?_
  show Zw g (d + 9) 2 20 mX11_init 278 [some (.ref 0), none] [] kzA _
  refine x_al0 rfl dX11_init_278 ?_
  refine x_al0 rfl dX11_init_279 ?_
  refine x_get fdX11_106 (show kzA[0]? = some (xE (nI 0) 56 (nI 0) 0) from rfl) rfl dX11_init_280 ?_
  refine x_cv1Vr (κ1 := 2) (κ2 := 0) (σ1 := 20) (σ2 := 0) mX11_sitAt_ok lkX11_110 rfl (Nat.le_of_ble_eq_true rfl) (Nat.le_of_ble_eq_true rfl) dX11_init_283 (show kzA[0]? = some (xE (nI 0) 56 (nI 0) 0) from rfl) (Nat.le_refl _) (Nat.le_refl _) (c_sit0 (d := d + 4)) (fun h4 hq => ?_)
  exact x_vret rfl dX11_init_286 ⟨rfl, hq⟩
end ZCd

