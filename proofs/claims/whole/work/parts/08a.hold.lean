/-! the class's Rows: hold -/
abbrev newI (N : Nat) : va_E := .inl (0, N, .inl (fun _ => (0 : Int32)))
abbrev newB (N : Nat) : va_E := .inl (1, N, .inl (fun _ => (0 : Int32)))
def grw (len need : Nat) : Nat := if len < need then need else 0
theorem grw_max {len need : Nat} : max len need = if len < need then need else len := by
  unfold max
  rw [Nat.instMax]
  simp only [maxOfLe]
  split <;> split <;> omega
theorem nfac {n : Nat} (hn : n ≤ 6) : n * fct n ≤ 4320 := by
  revert n
  decide
theorem hp_lt {h : zH} {i : Nat} {e0 : va_E} (he : h[i]? = some e0) : i < h.length := (List.getElem?_eq_some_iff.mp he).1
theorem hp_ne {h : zH} {i : Nat} {e0 : va_E} (he : h[i]? = some e0) : h.length ≠ i := by
  have := hp_lt he
  omega
section ZH
variable {g : zG} {d : Nat} {h : zH}
theorem c_hold_same {n rn rs : Nat} {c0 p0 sw : Int32} (hR : h[15]? = some (.inr (5, [.int (nI n), .int c0, .int p0, .int sw, .ref rn, .ref rs, .ref 18, .ref 19]))) : Zm g (d + 3) 0 0 mX5_hold [.ref 15, .int (nI n)] h (rVp (fun h' => h' = h)) := by
  show Zw g (d + 3) 0 0 mX5_hold 0 [some (.ref 15), some (.int (nI n)), none] [] h _
  refine x_il1 dX5_hold_0 ?_
  refine x_al0 rfl dX5_hold_1 ?_
  refine x_get fdX5_9 hR rfl dX5_hold_2 ?_
  refine x_icmp_eq (tgt := 19) dX5_hold_5 rfl (fun q1 => ?_) (fun q1 => ?_)
  · exact x_vret rfl dX5_hold_19 ⟨rfl, rfl⟩
  · exact absurd rfl q1
theorem c_hold {n n0 rn rs len : Nat} {c0 p0 sw : Int32} {f fm : Nat → Int32} (hR : h[15]? = some (.inr (5, [.int (nI n0), .int c0, .int p0, .int sw, .ref rn, .ref rs, .ref 18, .ref 19]))) (hA : h[rn]? = some (.inl (1, len, .inl f))) (hl : len < 2 ^ 31) (hm : h[19]? = some (.inl (0, 6, .inl fm))) (hne : n0 ≠ n) (h0 : 0 < n) (hn : n ≤ 6) (hn0 : n0 ≤ 6) : Zm g (d + 3) 1 (grw len (n * fct n)) mX5_hold [.ref 15, .int (nI n)] h (rVp (fun h' => ∃ rn', RT h' n rn' rs (nI 0) ∧ Fr [15, rn] h h' ∧ (∃ f', h'[rn']? = some (.inl (1, max len (n * fct n), .inl f'))) ∧ (rn' = rn ∨ rn' = h.length) ∧ h'.length ≤ h.length + 1)) := by
  have hf := fct_le hn
  have hnf := nfac hn
  have r15 : rn ≠ 15 := fun q => by rw [q, hR] at hA; cases hA
  have r19 : rn ≠ 19 := fun q => by rw [q, hm] at hA; cases hA
  have n15 := hp_ne hR
  have n19 := hp_ne hm
  show Zw g (d + 3) 1 _ mX5_hold 0 [some (.ref 15), some (.int (nI n)), none] [] h _
  refine x_il1 dX5_hold_0 ?_
  refine x_al0 rfl dX5_hold_1 ?_
  refine x_get fdX5_9 hR rfl dX5_hold_2 ?_
  refine x_icmp_eq (tgt := 19) dX5_hold_5 rfl (fun q1 => ?_) (fun q1 => ?_)
  · exact absurd ((nI_eq (by omega) (by omega)).mp q1) (fun q => hne q.symm)
  · refine x_il1 dX5_hold_8 ?_
    refine x_iconst (v := nI 1) dX5_hold_9 rfl ?_
    refine x_icmp_lt (tgt := 19) dX5_hold_10 rfl (fun q2 => ?_) (fun q2 => ?_)
    · exact absurd q2 (nI_nlt h0 (by omega))
    · refine x_il1 dX5_hold_13 ?_
      refine x_bipush (v := nI 6) dX5_hold_14 rfl ?_
      refine x_icmp_le (tgt := 20) dX5_hold_16 rfl (fun q3 => ?_) (fun q3 => ?_)
      · refine x_al0 rfl dX5_hold_20 ?_
        refine x_il1 dX5_hold_21 ?_
        refine x_put fdX5_9 hR zf_i (by simp) dX5_hold_22 ?_
        have g15 := hs_eq (e := .inr (5, [.int (nI n), .int c0, .int p0, .int sw, .ref rn, .ref rs, .ref 18, .ref 19])) hR
        refine x_al0 rfl dX5_hold_25 ?_
        refine x_gsF rfl dX5_hold_26 ?_
        refine x_il1 dX5_hold_29 ?_
        refine x_fac  rfl (by omega) (fac_n (by omega)) dX5_hold_30 ?_
        refine x_put fdX5_15 g15 zf_i (by simp) dX5_hold_31 ?_
        rw [show ([Value.int (nI n0), .int c0, .int p0, .int sw, .ref rn, .ref rs, .ref 18, .ref 19] : List Value).set 0 (.int (nI n)) = [.int (nI n), .int c0, .int p0, .int sw, .ref rn, .ref rs, .ref 18, .ref 19] from rfl, hs_hs]
        have g15 := hs_eq (e := .inr (5, [.int (nI n), .int (nI (fct n)), .int p0, .int sw, .ref rn, .ref rs, .ref 18, .ref 19])) hR
        refine x_al0 rfl dX5_hold_34 ?_
        refine x_il1 dX5_hold_35 ?_
        refine x_il1 dX5_hold_36 ?_
        refine x_iconst (v := nI 1) dX5_hold_37 rfl ?_
        refine x_isub (pk_sub (by omega)) dX5_hold_38 ?_
        first | refine x_imul (pk_mul _ _) dX5_hold_39 ?_ | refine x_imul rfl dX5_hold_39 ?_
        refine x_iconst (v := nI 2) dX5_hold_40 rfl ?_
        refine x_idiv (by decide) (pk_div (d := 2) (by have := Nat.mul_le_mul hn (show n - 1 ≤ 5 by omega); omega) (by decide) (by decide)) dX5_hold_41 ?_
        refine x_put fdX5_18 g15 zf_i (by simp) dX5_hold_42 ?_
        rw [show ([Value.int (nI n), .int c0, .int p0, .int sw, .ref rn, .ref rs, .ref 18, .ref 19] : List Value).set 1 (.int (nI (fct n))) = [.int (nI n), .int (nI (fct n)), .int p0, .int sw, .ref rn, .ref rs, .ref 18, .ref 19] from rfl, hs_hs]
        have g15 := hs_eq (e := .inr (5, [.int (nI n), .int (nI (fct n)), .int (nI (n * (n - 1) / 2)), .int sw, .ref rn, .ref rs, .ref 18, .ref 19])) hR
        refine x_al0 rfl dX5_hold_45 ?_
        refine x_iconst (v := nI 0) dX5_hold_46 rfl ?_
        refine x_put fdX5_21 g15 (zf_z (by first | exact Or.inl rfl | exact Or.inr rfl)) (by simp) dX5_hold_47 ?_
        rw [show ([Value.int (nI n), .int (nI (fct n)), .int p0, .int sw, .ref rn, .ref rs, .ref 18, .ref 19] : List Value).set 2 (.int (nI (n * (n - 1) / 2))) = [.int (nI n), .int (nI (fct n)), .int (nI (n * (n - 1) / 2)), .int sw, .ref rn, .ref rs, .ref 18, .ref 19] from rfl, hs_hs]
        rw [show ([Value.int (nI n), .int (nI (fct n)), .int (nI (n * (n - 1) / 2)), .int sw, .ref rn, .ref rs, .ref 18, .ref 19] : List Value).set 3 (.int (nI 0)) = [.int (nI n), .int (nI (fct n)), .int (nI (n * (n - 1) / 2)), .int (nI 0), .ref rn, .ref rs, .ref 18, .ref 19] from rfl]
        have g15 : (h.set 15 (rowsE n (nI 0) rn rs))[15]? = some (rowsE n (nI 0) rn rs) := hs_eq hR
        have gA : (h.set 15 (rowsE n (nI 0) rn rs))[rn]? = some (.inl (1, len, .inl f)) := by rw [hs_ne (Ne.symm r15)]; exact hA
        have gm : (h.set 15 (rowsE n (nI 0) rn rs))[19]? = some (.inl (0, 6, .inl fm)) := by rw [hs_ne (by decide)]; exact hm
        have gf : Fr [15, rn] h (h.set 15 (rowsE n (nI 0) rn rs)) := Fr.set (by simp)
        have gl : (h.set 15 (rowsE n (nI 0) rn rs)).length = h.length := List.length_set
        generalize h.set 15 (rowsE n (nI 0) rn rs) = h1 at g15 gA gm gf gl ⊢
        refine x_al0 rfl dX5_hold_50 ?_
        refine x_get fdX5_25 g15 rfl dX5_hold_51 ?_
        refine x_alen rfl gA rfl dX5_hold_54 ?_
        refine x_al0 rfl dX5_hold_55 ?_
        refine x_get fdX5_15 g15 rfl dX5_hold_56 ?_
        refine x_il1 dX5_hold_59 ?_
        first | refine x_imul (pk_mul _ _) dX5_hold_60 ?_ | refine x_imul rfl dX5_hold_60 ?_
        refine x_icmp_ge (tgt := 76) dX5_hold_61 rfl (fun q4 => ?_) (fun q4 => ?_)
        · have q4 : n * fct n ≤ len := by
            rcases Nat.lt_or_ge len (n * fct n) with z | z
            · exact absurd q4 (nI_ge (by rw [Nat.mul_comm]; exact z) (by rw [Nat.mul_comm]; omega))
            · exact z
          refine Zw.room (κ' := 0) (σ' := 0) ?_ (by omega) (by omega)
          refine x_iconst (v := nI 0) dX5_hold_76 rfl ?_
          refine x_is2 rfl dX5_hold_77 ?_
          refine Zw.mono (lp_X5_hold (d := d + 1) hn q4 hl r15 (fct n) 0 h1 f (by omega) (fun s hs => absurd hs (by omega)) g15 gA) (fun v h' hq => ?_)
          obtain ⟨rfl, f', rfl, hT⟩ := hq
          refine ⟨rfl, rn, ⟨h0, hn, r15, r19, by rw [hs_ne r15]; exact g15, ⟨len, f', hs_eq gA, hT⟩, fm, by rw [hs_ne r19]; exact gm⟩, gf.tr (Fr.set (by simp)), ⟨f', ?_⟩, Or.inl rfl, by simp; omega⟩
          rw [grw_max, if_neg (by omega)]
          exact hs_eq gA
        · have q4 : len < n * fct n := by
            rcases Nat.lt_or_ge len (n * fct n) with z | z
            · exact z
            · exact absurd (nI_le (by rw [Nat.mul_comm]; exact z) hl) q4
          rw [show grw len (n * fct n) = 0 + n * fct n from by unfold grw; rw [if_pos q4]; omega]
          refine x_al0 rfl dX5_hold_64 ?_
          refine x_al0 rfl dX5_hold_65 ?_
          refine x_get fdX5_15 g15 rfl dX5_hold_66 ?_
          refine x_il1 dX5_hold_69 ?_
          first | refine x_imul (pk_mul _ _) dX5_hold_70 ?_ | refine x_imul rfl dX5_hold_70 ?_
          rw [Nat.mul_comm (fct n) n]
          refine x_newa_byte ka_byte (nI_pos (by omega)) (nI_clamp (by omega)) (by omega) dX5_hold_71 ?_
          refine x_put fdX5_25 (hp_old g15) zf_a (by simp) dX5_hold_73 ?_
          rw [show ([Value.int (nI n), .int (nI (fct n)), .int (nI (n * (n - 1) / 2)), .int (nI 0), .ref rn, .ref rs, .ref 18, .ref 19] : List Value).set 4 (.ref h1.length) = [.int (nI n), .int (nI (fct n)), .int (nI (n * (n - 1) / 2)), .int (nI 0), .ref h1.length, .ref rs, .ref 18, .ref 19] from rfl]
          have k15 : ((h1 ++ [newB (n * fct n)]).set 15 (rowsE n (nI 0) h1.length rs))[15]? = some (rowsE n (nI 0) h1.length rs) := hs_eq (hp_old g15)
          have kN : ((h1 ++ [newB (n * fct n)]).set 15 (rowsE n (nI 0) h1.length rs))[h1.length]? = some (.inl (1, n * fct n, .inl (fun _ => (0 : Int32)))) := by rw [hs_ne (by omega)]; exact hp_new
          have km : ((h1 ++ [newB (n * fct n)]).set 15 (rowsE n (nI 0) h1.length rs))[19]? = some (.inl (0, 6, .inl fm)) := by rw [hs_ne (by decide)]; exact hp_old gm
          have kf : Fr [15, rn] h ((h1 ++ [newB (n * fct n)]).set 15 (rowsE n (nI 0) h1.length rs)) := gf.tr (Fr.push.tr (Fr.set (by simp)))
          have kl : ((h1 ++ [newB (n * fct n)]).set 15 (rowsE n (nI 0) h1.length rs)).length = h.length + 1 := by rw [List.length_set, List.length_append, gl]; rfl
          generalize (h1 ++ [newB (n * fct n)]).set 15 (rowsE n (nI 0) h1.length rs) = h2 at k15 kN km kf kl ⊢
          rw [gl] at k15 kN
          refine x_iconst (v := nI 0) dX5_hold_76 rfl ?_
          refine x_is2 rfl dX5_hold_77 ?_
          refine Zw.mono (lp_X5_hold (d := d + 1) hn (Nat.le_refl _) (by omega) n15 (fct n) 0 h2 _ (by omega) (fun s hs => absurd hs (by omega)) k15 kN) (fun v h' hq => ?_)
          obtain ⟨rfl, f', rfl, hT⟩ := hq
          refine ⟨rfl, h.length, ⟨h0, hn, n15, n19, by rw [hs_ne n15]; exact k15, ⟨_, f', hs_eq kN, hT⟩, fm, by rw [hs_ne n19]; exact km⟩, ⟨by rw [List.length_set]; omega, fun j hj hj2 => by rw [hs_ne (by omega)]; exact kf.2 j hj hj2⟩, ⟨f', ?_⟩, Or.inr rfl, by simp; omega⟩
          · rw [grw_max, if_pos q4]
            exact hs_eq kN
      · exact absurd (nI_le hn (by decide)) q3
end ZH

