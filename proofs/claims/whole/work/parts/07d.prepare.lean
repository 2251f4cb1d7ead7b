/-! the class's Visits: prepare -/
theorem lt2 {a A b B : Nat} (ha : a < A) (hb : b < B) : a * B + b < A * B := by
  have h1 : (a + 1) * B ≤ A * B := Nat.mul_le_mul_right B ha
  rw [Nat.add_mul] at h1
  omega
theorem inj2 {a a' b b' B : Nat} (hb : b < B) (hb' : b' < B) (h : a * B + b = a' * B + b') : a = a' ∧ b = b' := by
  have h1 : (a * B + b) / B = (a' * B + b') / B := by rw [h]
  have hB : 0 < B := by omega
  rw [Nat.mul_comm a, Nat.mul_comm a', Nat.mul_add_div hB, Nat.mul_add_div hB, Nat.div_eq_of_lt hb, Nat.div_eq_of_lt hb'] at h1
  have h2 : a = a' := by omega
  subst h2
  exact ⟨rfl, by omega⟩
theorem mix_eq {n op p fo la tr c : Nat} : mix n op p fo la tr c = c * (n * n * n * op) + (((p * n + fo) * n + la) * op + tr) := by
  unfold mix
  simp only [Nat.add_mul, Nat.mul_assoc]
  omega
theorem mix_in {n op p fo la tr c : Nat} (hp : p < n) (hf : fo < n) (hl : la < n) (ht : tr < op) : c * (n * n * n * op) ≤ mix n op p fo la tr c ∧ mix n op p fo la tr c < (c + 1) * (n * n * n * op) := by
  have h1 := lt2 (lt2 (lt2 hp hf) hl) ht
  rw [mix_eq, Nat.add_mul c 1]
  omega
theorem mix_inj {n op p fo la tr c p' fo' la' tr' c' : Nat} (hp : p < n) (hf : fo < n) (hl : la < n) (ht : tr < op) (hp' : p' < n) (hf' : fo' < n) (hl' : la' < n) (ht' : tr' < op) (h : mix n op p fo la tr c = mix n op p' fo' la' tr' c') : c = c' ∧ p = p' ∧ fo = fo' ∧ la = la' ∧ tr = tr' := by
  unfold mix at h
  obtain ⟨h1, h2⟩ := inj2 ht ht' h
  obtain ⟨h3, h4⟩ := inj2 hl hl' h1
  obtain ⟨h5, h6⟩ := inj2 hf hf' h3
  obtain ⟨h7, h8⟩ := inj2 hp hp' h5
  exact ⟨h7, h8, h6, h4, h2⟩
theorem seg_apart {c c' M i : Nat} (h1 : c' * M ≤ i) (h2 : i < (c' + 1) * M) (h : c' ≠ c) : i < c * M ∨ (c + 1) * M ≤ i := by
  rcases Nat.lt_or_gt_of_ne h with q | q
  · left
    exact Nat.lt_of_lt_of_le h2 (Nat.mul_le_mul_right M q)
  · right
    exact Nat.le_trans (Nat.mul_le_mul_right M q) h1
theorem mM_le {n op : Nat} (hn : n ≤ 6) (ho : op ≤ 9) : n * n * n * op ≤ 1944 := by
  have h1 : n * n ≤ 6 * 6 := Nat.mul_le_mul hn hn
  have h2 : n * n * n ≤ 36 * 6 := Nat.mul_le_mul h1 hn
  exact Nat.mul_le_mul h2 ho
theorem c10_le {c M : Nat} (hc : c < 10) : (c + 1) * M ≤ 10 * M := Nat.mul_le_mul_right M hc
section ZY
variable {g : zG} {d : Nat}
theorem lp_prep1 {c M rmv lm : Nat} {e20 : va_E} {rt rmk : Nat} {len fr : Int32} {Q : Option Value → zH → Prop} (hc : c < 10) (hM : M ≤ 1944) (hlm : 10 * M ≤ lm) (hl : lm < 2 ^ 31) (h20 : e20 = visE rt rmv rmk (nI M) len fr) (hne : rmv ≠ 20) : ∀ (k i : Nat) (h : zH) (fm : Nat → Int32), i + k = (c + 1) * M → h[20]? = some e20 → h[rmv]? = some (.inl (1, lm, .inl fm)) →
    (∀ fm' : Nat → Int32, (∀ j, i ≤ j → j < (c + 1) * M → fm' j = 0) → (∀ j, (j < i ∨ (c + 1) * M ≤ j) → fm' j = fm j) → Zw g d 0 0 mX9_prepare 64 [some (.ref 20), some (.int (nI c)), some (.int (nI ((c + 1) * M)))] [] (h.set rmv (.inl (1, lm, .inl fm'))) Q) →
    Zw g d 0 0 mX9_prepare 30 [some (.ref 20), some (.int (nI c)), some (.int (nI i))] [] h Q := by
  subst h20
  have h10 := c10_le (M := M) hc
  intro k
  induction k with
  | zero =>
    intro i h fm he hV hm K
    obtain rfl : i = (c + 1) * M := by omega
    refine x_il2 dX9_prepare_30 ?_
    refine x_il1 dX9_prepare_31 ?_
    refine x_iconst (v := nI 1) dX9_prepare_32 rfl ?_
    first | refine x_iadd (nI_add _ _) dX9_prepare_33 ?_ | refine x_iadd rfl dX9_prepare_33 ?_
    refine x_al0 rfl dX9_prepare_34 ?_
    refine x_get fdX9_22 hV rfl dX9_prepare_35 ?_
    first | refine x_imul (pk_mul _ _) dX9_prepare_38 ?_ | refine x_imul rfl dX9_prepare_38 ?_
    refine x_icmp_ge (tgt := 64) dX9_prepare_39 rfl (fun q1 => ?_) (fun q1 => ?_)
    · have := K fm (fun j h1 h2 => absurd h2 (by omega)) (fun _ _ => rfl)
      rw [hs_same hm] at this
      exact this
    · exact absurd (nI_le (Nat.le_refl _) (by omega)) q1
  | succ k ih =>
    intro i h fm he hV hm K
    refine x_il2 dX9_prepare_30 ?_
    refine x_il1 dX9_prepare_31 ?_
    refine x_iconst (v := nI 1) dX9_prepare_32 rfl ?_
    first | refine x_iadd (nI_add _ _) dX9_prepare_33 ?_ | refine x_iadd rfl dX9_prepare_33 ?_
    refine x_al0 rfl dX9_prepare_34 ?_
    refine x_get fdX9_22 hV rfl dX9_prepare_35 ?_
    first | refine x_imul (pk_mul _ _) dX9_prepare_38 ?_ | refine x_imul rfl dX9_prepare_38 ?_
    refine x_icmp_ge (tgt := 64) dX9_prepare_39 rfl (fun q1 => ?_) (fun q1 => ?_)
    · exact absurd q1 (nI_ge (by omega) (by omega))
    · refine x_il2 dX9_prepare_42 ?_
      refine x_al0 rfl dX9_prepare_43 ?_
      refine x_get fdX9_15 hV rfl dX9_prepare_44 ?_
      refine x_alen rfl hm rfl dX9_prepare_47 ?_
      refine x_icmp_ge (tgt := 64) dX9_prepare_48 rfl (fun q2 => ?_) (fun q2 => ?_)
      · exact absurd q2 (nI_ge (by omega) hl)
      · refine x_al0 rfl dX9_prepare_51 ?_
        refine x_get fdX9_15 hV rfl dX9_prepare_52 ?_
        refine x_il2 dX9_prepare_55 ?_
        refine x_iconst (v := nI 0) dX9_prepare_56 rfl ?_
        refine x_bast hm (vp_in_nI (by omega) hl) dX9_prepare_57 ?_
        rw [nI_clamp (by omega), nar_n (by decide)]
        first | refine x_ii2 rfl (nI_1 _) dX9_prepare_58 ?_ | refine x_ii2 rfl rfl dX9_prepare_58 ?_
        refine x_goto (tgt := 30) dX9_prepare_61 rfl ?_
        refine ih (i + 1) _ _ (by omega) (by rw [hs_ne hne]; exact hV) (hs_eq hm) (fun fm' k1 k2 => ?_)
        rw [hs_hs]
        refine K fm' (fun j j1 j2 => ?_) (fun j j1 => ?_)
        · rcases Nat.lt_or_ge j (i + 1) with z | z
          · obtain rfl : j = i := by omega
            rw [k2 j (Or.inl (by omega))]
            simp [upd]
            rfl
          · exact k1 j z j2
        · rw [k2 j (by omega)]
          simp only [upd]
          rw [if_neg (by omega)]
theorem lp_prep2 {c N rmk lk n rn rs : Nat} {e20 e15 : va_E} {rt rmv : Nat} {moc len fr sw : Int32} {Q : Option Value → zH → Prop} (hc : c < 10) (hN : fct n = N) (hN7 : N ≤ 720) (hlk : 10 * N ≤ lk) (hl : lk < 2 ^ 31) (h20 : e20 = visE rt rmv rmk moc len fr) (h15 : e15 = rowsE n sw rn rs) (hne : rmk ≠ 20) (hne2 : rmk ≠ 15) : ∀ (k i : Nat) (h : zH) (fm : Nat → Int32), i + k = (c + 1) * N → h[20]? = some e20 → h[15]? = some e15 → h[rmk]? = some (.inl (1, lk, .inl fm)) →
    (∀ fm' : Nat → Int32, (∀ j, i ≤ j → j < (c + 1) * N → fm' j = 0) → (∀ j, (j < i ∨ (c + 1) * N ≤ j) → fm' j = fm j) → Zw g d 0 0 mX9_prepare 111 [some (.ref 20), some (.int (nI c)), some (.int (nI ((c + 1) * N)))] [] (h.set rmk (.inl (1, lk, .inl fm'))) Q) →
    Zw g d 0 0 mX9_prepare 74 [some (.ref 20), some (.int (nI c)), some (.int (nI i))] [] h Q := by
  subst h20
  subst h15
  subst hN
  have h10 := c10_le (M := fct n) hc
  intro k
  induction k with
  | zero =>
    intro i h fm he hV hR hm K
    obtain rfl : i = (c + 1) * fct n := by omega
    refine x_il2 dX9_prepare_74 ?_
    refine x_il1 dX9_prepare_75 ?_
    refine x_iconst (v := nI 1) dX9_prepare_76 rfl ?_
    first | refine x_iadd (nI_add _ _) dX9_prepare_77 ?_ | refine x_iadd rfl dX9_prepare_77 ?_
    refine x_al0 rfl dX9_prepare_78 ?_
    refine x_get fdX9_46 hV rfl dX9_prepare_79 ?_
    refine x_get fdX9_58 hR rfl dX9_prepare_82 ?_
    first | refine x_imul (pk_mul _ _) dX9_prepare_85 ?_ | refine x_imul rfl dX9_prepare_85 ?_
    refine x_icmp_ge (tgt := 111) dX9_prepare_86 rfl (fun q1 => ?_) (fun q1 => ?_)
    · have := K fm (fun j h1 h2 => absurd h2 (by omega)) (fun _ _ => rfl)
      rw [hs_same hm] at this
      exact this
    · exact absurd (nI_le (Nat.le_refl _) (by omega)) q1
  | succ k ih =>
    intro i h fm he hV hR hm K
    refine x_il2 dX9_prepare_74 ?_
    refine x_il1 dX9_prepare_75 ?_
    refine x_iconst (v := nI 1) dX9_prepare_76 rfl ?_
    first | refine x_iadd (nI_add _ _) dX9_prepare_77 ?_ | refine x_iadd rfl dX9_prepare_77 ?_
    refine x_al0 rfl dX9_prepare_78 ?_
    refine x_get fdX9_46 hV rfl dX9_prepare_79 ?_
    refine x_get fdX9_58 hR rfl dX9_prepare_82 ?_
    first | refine x_imul (pk_mul _ _) dX9_prepare_85 ?_ | refine x_imul rfl dX9_prepare_85 ?_
    refine x_icmp_ge (tgt := 111) dX9_prepare_86 rfl (fun q1 => ?_) (fun q1 => ?_)
    · exact absurd q1 (nI_ge (by omega) (by omega))
    · refine x_il2 dX9_prepare_89 ?_
      refine x_al0 rfl dX9_prepare_90 ?_
      refine x_get fdX9_19 hV rfl dX9_prepare_91 ?_
      refine x_alen rfl hm rfl dX9_prepare_94 ?_
      refine x_icmp_ge (tgt := 111) dX9_prepare_95 rfl (fun q2 => ?_) (fun q2 => ?_)
      · exact absurd q2 (nI_ge (by omega) hl)
      · refine x_al0 rfl dX9_prepare_98 ?_
        refine x_get fdX9_19 hV rfl dX9_prepare_99 ?_
        refine x_il2 dX9_prepare_102 ?_
        refine x_iconst (v := nI 0) dX9_prepare_103 rfl ?_
        refine x_bast hm (vp_in_nI (by omega) hl) dX9_prepare_104 ?_
        rw [nI_clamp (by omega), nar_n (by decide)]
        first | refine x_ii2 rfl (nI_1 _) dX9_prepare_105 ?_ | refine x_ii2 rfl rfl dX9_prepare_105 ?_
        refine x_goto (tgt := 74) dX9_prepare_108 rfl ?_
        refine ih (i + 1) _ _ (by omega) (by rw [hs_ne hne]; exact hV) (by rw [hs_ne hne2]; exact hR) (hs_eq hm) (fun fm' k1 k2 => ?_)
        rw [hs_hs]
        refine K fm' (fun j j1 j2 => ?_) (fun j j1 => ?_)
        · rcases Nat.lt_or_ge j (i + 1) with z | z
          · obtain rfl : j = i := by omega
            rw [k2 j (Or.inl (by omega))]
            simp [upd]
            rfl
          · exact k1 j z j2
        · rw [k2 j (by omega)]
          simp only [upd]
          rw [if_neg (by omega)]
end ZY
/-- behind a step of visits: the world stands, clue c is kept -/
def VCp (h h' : zH) (n rn rs : Nat) (sw : Int32) (rt rmv rmk rkn rks op : Nat) (nx sp : Option (List Nat)) (c : Nat) : Prop := Gv rmv rmk rkn rks h h' ∧ VC h' n rn rs sw rt rmv rmk rkn rks op nx sp ∧ ∃ kp, h'[23]? = some (.inl (3, 10, .inl kp)) ∧ kp c = 1
theorem Memo.seg {n op c : Nat} {nx sp : Option (List Nat)} {fm fk kp fm' fk' : Nat → Int32} (a : Memo n op nx sp fm fk kp) (h0 : kp c = 0) (z2 : ∀ j, (j < c * (n * n * n * op) ∨ (c + 1) * (n * n * n * op) ≤ j) → fm' j = fm j) (z4 : ∀ j, (j < c * fct n ∨ (c + 1) * fct n ≤ j) → fk' j = fk j) : Memo n op nx sp fm' fk' kp := by
  intro c' hc'
  obtain ⟨m1, m2⟩ := a c' hc'
  refine ⟨m1, fun hk => ?_⟩
  by_cases hcc : c' = c
  · subst hcc
    rw [h0] at hk
    exact absurd hk (by decide)
  · refine ⟨fun p fo la tr hp hfo hla htr => ?_, fun row hrow => ?_⟩
    · obtain ⟨x1, x2⟩ := mix_in (c := c') hp hfo hla htr
      rw [z2 _ (seg_apart x1 x2 hcc)]
      exact (m2 hk).1 p fo la tr hp hfo hla htr
    · rw [z4 _ (seg_apart (c' := c') (M := fct n) (by omega) (by rw [Nat.add_mul]; omega) hcc)]
      exact (m2 hk).2 row hrow
theorem nar_z1 : vp_nar .boolean (nI 1) = 1 := by decide
section ZY2
variable {g : zG} {d : Nat} {h : zH} {n rn rs rt rmv rmk rkn rks op c : Nat} {sw : Int32} {nx sp : Option (List Nat)}
theorem c_prepare (hV : VC h n rn rs sw rt rmv rmk rkn rks op nx sp) (hc : c < 10) : Zm g d 0 0 mX9_prepare [.ref 20, .int (nI c)] h (rVp (fun h' => VCp h h' n rn rs sw rt rmv rmk rkn rks op nx sp c ∧ h'[20]? = h[20]? ∧ h'[24]? = h[24]? ∧ h'[25]? = h[25]?)) := by
  obtain ⟨hT, -, ⟨len, fr, h20⟩, ho0, ho9, ⟨lm, fm, lk, fk, kp, b1, b2, b3, b4, b5, b6, b7, b8⟩, ⟨w, h24⟩, ⟨pa, h25⟩, n1, n2, n3, n4, n5⟩ := id hV
  have hn := hT.2.1
  have hR := hT.2.2.2.2.1
  have hM := mM_le hn ho9
  have hf := fct_le hn
  have hM10 := c10_le (M := n * n * n * op) hc
  have hN10 := c10_le (M := fct n) hc
  obtain ⟨k1, k2⟩ := b8 c hc
  show Zw g d 0 0 mX9_prepare 0 [some (.ref 20), some (.int (nI c)), none] [] h _
  refine x_il1 dX9_prepare_0 ?_
  refine x_if_lt (tgt := 22) dX9_prepare_1 rfl (fun q1 => ?_) (fun q1 => ?_)
  · exact absurd q1 (nI_pos (by omega))
  · refine x_il1 dX9_prepare_4 ?_
    refine x_al0 rfl dX9_prepare_5 ?_
    refine x_get fdX9_26 h20 rfl dX9_prepare_6 ?_
    refine x_alen rfl b3 rfl dX9_prepare_9 ?_
    refine x_icmp_ge (tgt := 22) dX9_prepare_10 rfl (fun q2 => ?_) (fun q2 => ?_)
    · exact absurd q2 (nI_ge hc (by decide))
    · refine x_al0 rfl dX9_prepare_13 ?_
      refine x_get fdX9_26 h20 rfl dX9_prepare_14 ?_
      refine x_il1 dX9_prepare_17 ?_
      refine x_zald  b3 (vp_in_nI hc (by decide)) (ald rfl (by omega)) dX9_prepare_18 ?_
      refine x_if_eq (tgt := 23) dX9_prepare_19 rfl (fun q3 => ?_) (fun q3 => ?_)
      · refine x_il1 dX9_prepare_23 ?_
        refine x_al0 rfl dX9_prepare_24 ?_
        refine x_get fdX9_22 h20 rfl dX9_prepare_25 ?_
        first | refine x_imul (pk_mul _ _) dX9_prepare_28 ?_ | refine x_imul rfl dX9_prepare_28 ?_
        refine x_is2 rfl dX9_prepare_29 ?_
        have ne1 : rmv ≠ 20 := fun q => by rw [q, h20] at b1; cases b1
        have ne2 : rmk ≠ 20 := fun q => by rw [q, h20] at b2; cases b2
        have ne3 : rmk ≠ 15 := fun q => by rw [q, hR] at b2; cases b2
        have ne4 : rmv ≠ 15 := fun q => by rw [q, hR] at b1; cases b1
        refine lp_prep1 hc hM b4 b5 rfl ne1 (n * n * n * op) (c * (n * n * n * op)) h fm (by rw [Nat.add_mul]; omega) h20 b1 (fun fm' z1 z2 => ?_)
        have g20 : (h.set rmv (.inl (1, lm, .inl fm')))[20]? = some (visE rt rmv rmk (nI (n * n * n * op)) len fr) := by rw [hs_ne ne1]; exact h20
        have g15 : (h.set rmv (.inl (1, lm, .inl fm')))[15]? = some (rowsE n sw rn rs) := by rw [hs_ne ne4]; exact hR
        have gmk : (h.set rmv (.inl (1, lm, .inl fm')))[rmk]? = some (.inl (1, lk, .inl fk)) := by rw [hs_ne n3]; exact b2
        refine x_il1 dX9_prepare_64 ?_
        refine x_al0 rfl dX9_prepare_65 ?_
        refine x_get fdX9_46 g20 rfl dX9_prepare_66 ?_
        refine x_get fdX9_58 g15 rfl dX9_prepare_69 ?_
        first | refine x_imul (pk_mul _ _) dX9_prepare_72 ?_ | refine x_imul rfl dX9_prepare_72 ?_
        refine x_is2 rfl dX9_prepare_73 ?_
        refine lp_prep2 (n := n) hc rfl hf b6 b7 rfl rfl ne2 ne3 (fct n) (c * fct n) _ fk (by rw [Nat.add_mul]; omega) g20 g15 gmk (fun fk' z3 z4 => ?_)
        have j20 : ((h.set rmv (.inl (1, lm, .inl fm'))).set rmk (.inl (1, lk, .inl fk')))[20]? = some (visE rt rmv rmk (nI (n * n * n * op)) len fr) := by rw [hs_ne ne2]; exact g20
        have j23 : ((h.set rmv (.inl (1, lm, .inl fm'))).set rmk (.inl (1, lk, .inl fk')))[23]? = some (.inl (3, 10, .inl kp)) := hs_t gmk (hs_t b1 b3 (by simp [z_tg])) (by simp [z_tg])
        refine x_al0 rfl dX9_prepare_111 ?_
        refine x_get fdX9_26 j20 rfl dX9_prepare_112 ?_
        refine x_il1 dX9_prepare_115 ?_
        refine x_iconst (v := nI 1) dX9_prepare_116 rfl ?_
        refine x_zast  j23 (vp_in_nI hc (by decide)) dX9_prepare_117 ?_
        rw [nI_clamp (by omega), nar_z1]
        have mem : Memo n op nx sp fm' fk' (upd kp c 1) := by
          intro c' hc'
          obtain ⟨m1, m2⟩ := b8 c' hc'
          by_cases hcc : c' = c
          · subst hcc
            refine ⟨Or.inr (by simp [upd]), fun _ => ⟨fun p fo la tr hp hfo hla htr => Or.inl ?_, fun row hrow => Or.inl ?_⟩⟩
            · obtain ⟨x1, x2⟩ := mix_in (c := c') hp hfo hla htr
              exact z1 _ x1 x2
            · exact z3 _ (by omega) (by rw [Nat.add_mul]; omega)
          · have e : upd kp c 1 c' = kp c' := by simp [upd, hcc]
            rw [e]
            refine ⟨m1, fun hk => ⟨fun p fo la tr hp hfo hla htr => ?_, fun row hrow => ?_⟩⟩
            · obtain ⟨x1, x2⟩ := mix_in (c := c') hp hfo hla htr
              rw [z2 _ (seg_apart x1 x2 hcc)]
              exact (m2 hk).1 p fo la tr hp hfo hla htr
            · rw [z4 _ (seg_apart (c' := c') (M := fct n) (by omega) (by rw [Nat.add_mul]; omega) hcc)]
              exact (m2 hk).2 row hrow
        have f1 : Gv rmv rmk rkn rks h (((h.set rmv (.inl (1, lm, .inl fm'))).set rmk (.inl (1, lk, .inl fk'))).set 23 (.inl (3, 10, .inl (upd kp c 1)))) := ((Gv.setA (by simp) b1).tr (Gv.setA (by simp) gmk)).tr (Gv.setA (by simp) j23)
        have jmv : (((h.set rmv (.inl (1, lm, .inl fm'))).set rmk (.inl (1, lk, .inl fk'))).set 23 (.inl (3, 10, .inl (upd kp c 1))))[rmv]? = some (.inl (1, lm, .inl fm')) := hs_t j23 (by rw [hs_ne (Ne.symm n3)]; exact hs_eq b1) (by simp [z_tg])
        have jmk : (((h.set rmv (.inl (1, lm, .inl fm'))).set rmk (.inl (1, lk, .inl fk'))).set 23 (.inl (3, 10, .inl (upd kp c 1))))[rmk]? = some (.inl (1, lk, .inl fk')) := hs_t j23 (hs_eq gmk) (by simp [z_tg])
        have jA : VA (((h.set rmv (.inl (1, lm, .inl fm'))).set rmk (.inl (1, lk, .inl fk'))).set 23 (.inl (3, 10, .inl (upd kp c 1)))) n op nx sp rmv rmk := ⟨lm, fm', lk, fk', _, jmv, jmk, hs_eq j23, b4, b5, b6, b7, mem⟩
        have v1 := hV.sA (e := .inl (1, lm, .inl fm')) b1 (Or.inl (by simp [z_tg])) (Ne.symm n1) ⟨lm, fm', lk, fk, kp, hs_eq b1, gmk, hs_t b1 b3 (by simp [z_tg]), b4, b5, b6, b7, b8.seg q3 z2 (fun _ _ => rfl)⟩
        have v2 := v1.sA (e := .inl (1, lk, .inl fk')) gmk (Or.inl (by simp [z_tg])) (Ne.symm n2) ⟨lm, fm', lk, fk', kp, by rw [hs_ne (Ne.symm n3)]; exact hs_eq b1, hs_eq gmk, j23, b4, b5, b6, b7, b8.seg q3 z2 z4⟩
        have v3 := v2.sA (e := .inl (3, 10, .inl (upd kp c 1))) j23 (Or.inr (by simp [z_tg])) (fun q => by
          obtain ⟨-, -, -, -, -, ⟨len, f0, a6, -⟩, -⟩ := v2.1
          rw [← q, j23] at a6
          cases a6) jA
        have j24 : (((h.set rmv (.inl (1, lm, .inl fm'))).set rmk (.inl (1, lk, .inl fk'))).set 23 (.inl (3, 10, .inl (upd kp c 1))))[24]? = h[24]? := by
          rw [h24]
          exact hs_t j23 (hs_t gmk (hs_t b1 h24 (by simp [z_tg])) (by simp [z_tg])) (by simp [z_tg])
        have j25 : (((h.set rmv (.inl (1, lm, .inl fm'))).set rmk (.inl (1, lk, .inl fk'))).set 23 (.inl (3, 10, .inl (upd kp c 1))))[25]? = h[25]? := by
          rw [h25]
          exact hs_t j23 (hs_t gmk (hs_t b1 h25 (by simp [z_tg])) (by simp [z_tg])) (by simp [z_tg])
        exact x_vret rfl dX9_prepare_118 ⟨rfl, ⟨f1, v3, _, hs_eq j23, by simp [upd]⟩, by rw [hs_ne (by decide), j20, h20], j24, j25⟩
      · have hk1 : kp c = 1 := by
          rcases k1 with z | z
          · exact absurd z q3
          · exact z
        exact x_vret rfl dX9_prepare_22 ⟨rfl, ⟨Gv.rf, hV, kp, b3, hk1⟩, rfl, rfl, rfl⟩
end ZY2

