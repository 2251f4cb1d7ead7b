/-! the model's desk, its body -/
def DB (s s' : Nat → Value) (M M' : Nat → Nat → Int32) : Prop := (∀ k, k ≠ 0 → k ≠ 5 → k ≠ 6 → k ≠ 7 → k ≠ 8 → k ≠ 9 → k ≠ 10 → k ≠ 11 → k ≠ 12 → s' k = s k) ∧ (∀ i, i ≠ 63 → M' i = M i) ∧ s' 5 = .int (nI 0)
def QD (h0 : zH) (dk : zDk) (st : zSt) (un : List zSt) (tr : Nat → zTr) (pi : Nat → zPi) (S : Sum (Nat × Nat) (Nat × zDd)) : Option Value → zH → Prop := rIp (fun r h' => match S with
  | .inl e => r = (-30) - nI e.1 ∧ MI h0 h' dk st un [] tr pi e
  | .inr q => r = nI q.1 ∧ MI h0 h' (q.2.1, q.2.2.1, rnk q.2.1 q.2.2.2.2.1, q.1, q.2.2.2.2.2.2.1, q.2.2.2.2.2.2.2) (rnk q.2.1 q.2.2.2.1, q.2.2.2.2.2.1, 0) [] [] tr pi (0, 0))
section ZDu
variable {g : zG} {d : Nat} {h0 h h' : zH} {s s' s2 : Nat → Value} {M M' M2 : Nat → Nat → Int32} {L : Nat → Nat → Int64} {dk : zDk} {st : zSt} {un : List zSt} {tp tp' : List Nat} {tr : Nat → zTr} {pi : Nat → zPi} {fl fl' : Nat × Nat} {S : Sum (Nat × Nat) (Nat × zDd)} {e : Nat × Nat} {x : Int32} {X : zX} {p base li : Nat} {D : zDd}
theorem DB.pw (B : DB s s' M M') (U : PW s' s2 M' M2) : DB s s2 M M2 := ⟨fun k h0 h1 h2 h3 h4 h5 h6 h7 h8 => (U.1 k h2 h3 h5 h6 h7 h8).trans (B.1 k h0 h1 h2 h3 h4 h5 h6 h7 h8), fun i hi => (U.2 i hi).trans (B.2.1 i hi), (U.1 5 (by decide) (by decide) (by decide) (by decide) (by decide) (by decide)).trans B.2.2⟩
theorem dk155e (J : MJ s M L dk st un tp tr pi fl) (B : DB s s' M M') (W : MW h0 h s' M' L) (E : PE s' e) (he : e.2 < 1000) (hS : S = .inl e) : Zw g (d + 1) 0 0 mX12_desk 155 [some (.ref 59), some (.int x), none] [] h (QD h0 dk st un tr pi S) := by
  have e11 := E.1
  have n0 := nI_n05 E.2.2.1 E.2.2.2
  subst hS
  refine x_al0 rfl dX12_desk_155 ?_
  refine x_al0 rfl dX12_desk_156 ?_
  refine x_gm fdX12_141 W.hM (by decide) (e11) dX12_desk_157 ?_
  refine x_mpf W fdX12_217 (by decide) rfl zf_i dX12_desk_160 (fun h W => ?_)
  refine x_al0 rfl dX12_desk_163 ?_
  refine x_al0 rfl dX12_desk_164 ?_
  refine x_gm fdX12_141 W.hM (by decide) (e11) dX12_desk_165 ?_
  refine x_if_ne (tgt := 175) dX12_desk_168 rfl (fun q168 => ?_) (fun q168 => ?_)
  · skip
    refine x_al0 rfl dX12_desk_175 ?_
    refine x_gm fdX12_144 W.hM (by decide) (E.2.1.1) dX12_desk_176 ?_
    refine x_mpf W fdX12_27 (by decide) rfl zf_i dX12_desk_179 (fun h W => ?_)
    refine x_al0 rfl dX12_desk_182 ?_
    refine x_gm fdX12_141 W.hM (by decide) (e11) dX12_desk_183 ?_
    refine x_if_eq (tgt := 197) dX12_desk_186 rfl (fun q186 => ?_) (fun q186 => ?_)
    · skip
      exact absurd q186 n0
    · skip
      refine x_bipush (v := (-30)) dX12_desk_189 rfl ?_
      refine x_al0 rfl dX12_desk_191 ?_
      refine x_gm fdX12_141 W.hM (by decide) (e11) dX12_desk_192 ?_
      refine x_isub (rfl) dX12_desk_195 ?_
      have hF : MFl (va_up (va_up s' 13 (.int (nI e.1))) 14 (.int (nI e.2))) e := ⟨rfl, by rw [if_neg (by have := E.2.2.1; omega)]; rfl, E.2.2.2, he, E.2.1.2⟩
      exact x_iret rfl rfl dX12_desk_196 ⟨_, rfl, rfl, _, M', L, W, J.par (fun k k0 k1 k2 k3 k4 k5 k6 k7 k8 k9 k10 => (va_up_ne _ _ k10).trans ((va_up_ne _ _ k9).trans (B.1 k k0 k1 k2 k3 k4 k5 k6 k7 k8))) B.2.1 ⟨B.2.2, Nat.zero_le _, fun i hi => absurd hi (Nat.not_lt_zero _)⟩ hF⟩
  · skip
    exact absurd q168 n0
theorem dk98e (J : MJ s M L dk st un tp tr pi fl) (B : DB s s' M M') (W : MW h0 h s' M' L) (E : PE s' e) (he : e.2 < 1000) (hS : S = .inl e) : Zw g (d + 1) 0 0 mX12_desk 98 [some (.ref 59), some (.int x), none] [] h (QD h0 dk st un tr pi S) := by
  have e11 := E.1
  have n0 := nI_n05 E.2.2.1 E.2.2.2
  refine x_al0 rfl dX12_desk_98 ?_
  refine x_gm fdX12_141 W.hM (by decide) (by first | assumption | rfl) dX12_desk_99 ?_
  refine x_if_ne (tgt := 125) dX12_desk_102 rfl (fun q102 => ?_) (fun q102 => ?_)
  · skip
    refine x_al0 rfl dX12_desk_125 ?_
    refine x_gm fdX12_141 W.hM (by decide) (by first | assumption | rfl) dX12_desk_126 ?_
    refine x_if_ne (tgt := 155) dX12_desk_129 rfl (fun q129 => ?_) (fun q129 => ?_)
    · skip
      exact dk155e J B W E he hS
    · skip
      exact absurd q129 n0
  · skip
    exact absurd q102 n0
theorem dk94e (J : MJ s M L dk st un tp tr pi fl) (B : DB s s' M M') (W : MW h0 h s' M' L) (E : PE s' e) (he : e.2 < 1000) (hS : S = .inl e) : Zw g (d + 3) 0 0 mX12_desk 94 [some (.ref 59), some (.int x), none] [] h (QD h0 dk st un tr pi S) := by
  refine x_al0 rfl dX12_desk_94 ?_
  refine x_cv0Vp mX12_closes_ok lkX12_208 rfl (Nat.le_of_ble_eq_true rfl) (Nat.le_of_ble_eq_true rfl) dX12_desk_95 W.hM  (e_closes W E) (fun h hq => ?_)
  obtain ⟨M3, W3, U3⟩ := hq
  exact dk98e (d := d + 2) J (B.pw U3) W3 E he hS
theorem dk80e (J : MJ s M L dk st un tp tr pi fl) (B : DB s s' M M') (W : MW h0 h s' M' L) (E : PE s' e) (he : e.2 < 1000) (hS : S = .inl e) : Zw g (d + 3) 0 0 mX12_desk 80 [some (.ref 59), some (.int x), none] [] h (QD h0 dk st un tr pi S) := by
  refine x_al0 rfl dX12_desk_80 ?_
  refine x_gm fdX12_24 W.hM (by decide) W.hF.f4 dX12_desk_81 ?_
  refine x_iconst (v := nI 2) dX12_desk_84 rfl ?_
  refine x_al0 rfl dX12_desk_85 ?_
  refine x_iconst (v := nI 2) dX12_desk_86 rfl ?_
  refine x_iconst (v := nI 1) dX12_desk_87 rfl ?_
  refine x_bipush (v := nI 9) dX12_desk_88 rfl ?_
  refine x_cv3Ip mX12_named_ok lkX12_204 rfl (Nat.le_of_ble_eq_true rfl) (Nat.le_of_ble_eq_true rfl) dX12_desk_90 W.hM  (e_named (by decide) W E) (fun r h hq => ?_)
  obtain rfl := hq
  refine x_mst (len := 956) W rfl rfl (by decide) (by omega) dX12_desk_93 (fun h W => ?_)
  exact dk94e J (B.pw upM_63) W E he hS
theorem dk66e (J : MJ s M L dk st un tp tr pi fl) (B : DB s s' M M') (W : MW h0 h s' M' L) (E : PE s' e) (he : e.2 < 1000) (hS : S = .inl e) : Zw g (d + 3) 0 0 mX12_desk 66 [some (.ref 59), some (.int x), none] [] h (QD h0 dk st un tr pi S) := by
  refine x_al0 rfl dX12_desk_66 ?_
  refine x_gm fdX12_24 W.hM (by decide) W.hF.f4 dX12_desk_67 ?_
  refine x_iconst (v := nI 1) dX12_desk_70 rfl ?_
  refine x_al0 rfl dX12_desk_71 ?_
  refine x_iconst (v := nI 1) dX12_desk_72 rfl ?_
  refine x_iconst (v := nI 1) dX12_desk_73 rfl ?_
  refine x_bipush (v := nI 6) dX12_desk_74 rfl ?_
  refine x_cv3Ip mX12_named_ok lkX12_204 rfl (Nat.le_of_ble_eq_true rfl) (Nat.le_of_ble_eq_true rfl) dX12_desk_76 W.hM  (e_named (by decide) W E) (fun r h hq => ?_)
  obtain rfl := hq
  refine x_mst (len := 956) W rfl rfl (by decide) (by omega) dX12_desk_79 (fun h W => ?_)
  exact dk80e J (B.pw upM_63) W E he hS
theorem dk155o (J : MJ s M L dk st un tp tr pi fl) (B : DB s s' M M') (W : MW h0 h s' M' L) (O : PO X s' M' p base) (G : FD (M' 63) D li base) (hD : zDok D) (hli : li < 2 ^ 31) (w1 : whl D.1 D.2.2.1) (w2 : whl D.1 D.2.2.2.1) (hb : base ≤ 900) (hS : S = .inr (li, D)) : Zw g (d + 8) 0 0 mX12_desk 155 [some (.ref 59), some (.int x), none] [] h (QD h0 dk st un tr pi S) := by
  have e11 := O.2.2.1
  obtain ⟨nu, e10, -⟩ := O.2.1.2.2.2.2
  obtain ⟨d1, d2, d3, d4, d5, d6, d7, d8, d9⟩ := id hD
  subst hS
  refine x_al0 rfl dX12_desk_155 ?_
  refine x_al0 rfl dX12_desk_156 ?_
  refine x_gm fdX12_141 W.hM (by decide) (e11) dX12_desk_157 ?_
  refine x_mpf W fdX12_217 (by decide) rfl zf_i dX12_desk_160 (fun h W => ?_)
  refine x_al0 rfl dX12_desk_163 ?_
  refine x_al0 rfl dX12_desk_164 ?_
  refine x_gm fdX12_141 W.hM (by decide) (e11) dX12_desk_165 ?_
  refine x_if_ne (tgt := 175) dX12_desk_168 rfl (fun q168 => ?_) (fun q168 => ?_)
  · skip
    first | (simp only [cmp_lt, cmp_gt, cmp_eq, zN_cge, zN_cle, Decidable.not_not] at q168) | (simp (disch := omega) only [zN_le, zN_lt, zN_0, zN_1, nI_toInt, zN_eq, zN_eq0, b2_z, b2_nz, Decidable.not_not, Int.not_lt, Int.not_le, zK0, zK1, zK2, zK3, zK5, zK7, zK8, zK9, zK10, zK19, zK20, zK40, zK99, zK100, zK199] at q168) | skip
    exact absurd trivial q168
  · skip
    first | (simp only [cmp_lt, cmp_gt, cmp_eq, zN_cge, zN_cle, Decidable.not_not] at q168) | (simp (disch := omega) only [zN_le, zN_lt, zN_0, zN_1, nI_toInt, zN_eq, zN_eq0, b2_z, b2_nz, Decidable.not_not, Int.not_lt, Int.not_le, zK0, zK1, zK2, zK3, zK5, zK7, zK8, zK9, zK10, zK19, zK20, zK40, zK99, zK100, zK199] at q168) | skip
    refine x_iconst (v := (-1)) dX12_desk_171 rfl ?_
    refine x_goto (tgt := 179) dX12_desk_172 rfl ?_
    refine x_mpf W fdX12_27 (by decide) rfl zf_i dX12_desk_179 (fun h W => ?_)
    refine x_al0 rfl dX12_desk_182 ?_
    refine x_gm fdX12_141 W.hM (by decide) (e11) dX12_desk_183 ?_
    refine x_if_eq (tgt := 197) dX12_desk_186 rfl (fun q186 => ?_) (fun q186 => ?_)
    · skip
      first | (simp only [cmp_lt, cmp_gt, cmp_eq, zN_cge, zN_cle, Decidable.not_not] at q186) | (simp (disch := omega) only [zN_le, zN_lt, zN_0, zN_1, nI_toInt, zN_eq, zN_eq0, b2_z, b2_nz, Decidable.not_not, Int.not_lt, Int.not_le, zK0, zK1, zK2, zK3, zK5, zK7, zK8, zK9, zK10, zK19, zK20, zK40, zK99, zK100, zK199] at q186) | skip
      refine x_iconst (v := nI 0) dX12_desk_197 rfl ?_
      refine x_is2 rfl dX12_desk_198 ?_
      have hF : MFl (va_up (va_up s' 13 (.int 0)) 14 (.int (-1))) (0, 0) := ⟨rfl, rfl, Nat.succ_pos 4, Nat.succ_pos 999, nu, e10⟩
      have B1 : ∀ k, k ≠ 0 → k ≠ 5 → k ≠ 6 → k ≠ 7 → k ≠ 8 → k ≠ 9 → k ≠ 10 → k ≠ 11 → k ≠ 12 → k ≠ 13 → k ≠ 14 → (va_up (va_up s' 13 (.int 0)) 14 (.int (-1))) k = s k := fun k k0 k1 k2 k3 k4 k5 k6 k7 k8 k9 k10 => (va_up_ne _ _ k10).trans ((va_up_ne _ _ k9).trans (B.1 k k0 k1 k2 k3 k4 k5 k6 k7 k8))
      have B5 : (va_up (va_up s' 13 (.int 0)) 14 (.int (-1))) 5 = .int (nI 0) := B.2.2
      generalize va_up (va_up s' 13 (.int 0)) 14 (.int (-1)) = s1 at hF B1 B5 W
      refine x_for (e := 956) (fun i => [some (.ref 59), some (.int x), some (.int (nI i))]) (fun i h => ∃ al, MW h0 h s1 (upM M' 60 al) L ∧ (∀ j, j < i → al j = M' 63 j) ∧ ∀ j, 956 ≤ j → al j = M' 60 j) 0 (by omega) ⟨M' 60, by rw [show upM M' 60 (M' 60) = M' from funext (fun j => by unfold upM; split <;> simp_all)]; exact W, fun k hk => absurd hk (Nat.not_lt_zero _), fun _ _ => rfl⟩ (fun h hI => ?_) (fun i h hi hI ih => ?_)
      · obtain ⟨al, W, al1, al2⟩ := hI
        refine x_il2 dX12_desk_199 ?_
        refine x_sipush (v := nI 956) dX12_desk_200 (by decide) ?_
        refine x_icmp_ge (tgt := 224) dX12_desk_203 rfl (fun q203 => ?_) (fun q203 => ?_)
        · skip
          first | (simp only [cmp_lt, cmp_gt, cmp_eq, zN_cge, zN_cle, Decidable.not_not] at q203) | (simp (disch := omega) only [zN_le, zN_lt, zN_0, zN_1, nI_toInt, zN_eq, zN_eq0, b2_z, b2_nz, Decidable.not_not, Int.not_lt, Int.not_le, zK0, zK1, zK2, zK3, zK5, zK7, zK8, zK9, zK10, zK19, zK20, zK40, zK99, zK100, zK199] at q203) | skip
          refine x_al0 rfl dX12_desk_224 ?_
          refine x_cv0Vp mX12_laysAll_ok lkX12_92 rfl (Nat.le_of_ble_eq_true rfl) (Nat.le_of_ble_eq_true rfl) dX12_desk_225 W.hM  (j_laysAll (n := D.1) d1 d2 W (by rw [upM_eq, al1 1 (by decide)]; exact G.2.1)) (fun h hq => ?_)
          obtain ⟨s2, M2, W, h17, hs2, hM2, hT2⟩ := hq
          have m60 : M2 60 = al := by rw [hM2 60 (by decide) (by decide), upM_eq]
          refine x_iconst (v := nI 0) dX12_desk_228 rfl ?_
          refine x_is2 rfl dX12_desk_229 ?_
          refine x_for (e := D.1) (fun i => [some (.ref 59), some (.int x), some (.int (nI i))]) (fun i h => ∃ ly, MW h0 h s2 (upM M2 65 ly) L ∧ (∀ j, j < i → ly j = nI (D.2.2.1 j))) 0 (by omega) ⟨M2 65, by rw [show upM M2 65 (M2 65) = M2 from funext (fun j => by unfold upM; split <;> simp_all)]; exact W, fun k hk => absurd hk (Nat.not_lt_zero _)⟩ (fun h hI => ?_) (fun i h hi hI ih => ?_)
          · obtain ⟨ly, W, ly1⟩ := hI
            refine x_il2 dX12_desk_230 ?_
            refine x_al0 rfl dX12_desk_231 ?_
            refine x_gm fdX12_13 W.hM (by decide) W.hF.f1 dX12_desk_232 ?_
            refine x_iconst (v := nI 1) dX12_desk_235 rfl ?_
            refine x_mld (len := 2868) W rfl rfl (by decide) (by omega) (show upM M2 65 ly 60 1 = nI D.1 by rw [upM_ne (by decide), m60, al1 1 (by decide)]; exact G.2.1) dX12_desk_236 ?_
            refine x_icmp_ge (tgt := 261) dX12_desk_237 rfl (fun q237 => ?_) (fun q237 => ?_)
            · skip
              first | (simp only [cmp_lt, cmp_gt, cmp_eq, zN_cge, zN_cle, Decidable.not_not] at q237) | (simp (disch := omega) only [zN_le, zN_lt, zN_0, zN_1, nI_toInt, zN_eq, zN_eq0, b2_z, b2_nz, Decidable.not_not, Int.not_lt, Int.not_le, zK0, zK1, zK2, zK3, zK5, zK7, zK8, zK9, zK10, zK19, zK20, zK40, zK99, zK100, zK199] at q237) | skip
              refine x_al0 rfl dX12_desk_261 ?_
              refine x_gm fdX12_13 W.hM (by decide) W.hF.f1 dX12_desk_262 ?_
              refine x_bipush (v := nI 21) dX12_desk_265 rfl ?_
              refine x_al0 rfl dX12_desk_267 ?_
              refine x_cv0I mX12_numberNow_ok lkX12_220 rfl (Nat.le_of_ble_eq_true rfl) (Nat.le_of_ble_eq_true rfl) dX12_desk_268 W.hM  (m_numberNow (n := D.1) (p := D.2.2.1) W.hM W.hF (W.gi (i := 60) rfl rfl) (by rw [upM_ne (by decide), m60, al1 1 (by decide)]; exact G.2.1) (W.gi (i := 65) rfl rfl) d2 (fun j hj => ⟨by rw [upM_eq]; exact ly1 j hj, by have := d5 j hj; omega⟩)) ?_
              refine x_mst (len := 2868) W rfl rfl (by decide) (by omega) dX12_desk_271 (fun h W => ?_)
              refine x_al0 rfl dX12_desk_272 ?_
              refine x_gm fdX12_13 W.hM (by decide) W.hF.f1 dX12_desk_273 ?_
              refine x_iconst (v := nI 0) dX12_desk_276 rfl ?_
              refine x_mld (len := 2868) W rfl rfl (by decide) (by omega) (show upM (upM M2 65 ly) 60 (upd (upM M2 65 ly 60) 21 (nI (rnk D.1 D.2.2.1))) 60 0 = nI li by rw [upM_eq, pk_un (by decide), upM_ne (by decide), m60, al1 0 (by decide)]; exact G.1) dX12_desk_277 ?_
              refine x_iret rfl rfl dX12_desk_278 ⟨_, rfl, rfl, s2, _, L, W, J.desk (F := M' 63) (al := upd (upM M2 65 ly 60) 21 (nI (rnk D.1 D.2.2.1))) ?_ ?_ ⟨?_, Nat.zero_le _, fun i hi => absurd hi (Nat.not_lt_zero _)⟩ ?_ h17 ?_ upM_eq hD hli w1 w2 G hb ?_ pk_us ?_⟩
              · exact fun k k0 k1 k2 k3 k4 k5 k6 k7 k8 k9 k10 k11 => (hs2 k k11).trans (B1 k k0 k1 k2 k3 k4 k5 k6 k7 k8 k9 k10)
              · intro i i1 i2 i3 i4; rw [upM_ne i2, upM_ne i4, hM2 i i3 i4, upM_ne i2]; exact B.2.1 i i1
              · exact (hs2 5 (by decide)).trans B5
              · exact ⟨(hs2 13 (by decide)).trans hF.1, (hs2 14 (by decide)).trans hF.2.1, hF.2.2.1, hF.2.2.2.1, by obtain ⟨nu', z⟩ := hF.2.2.2.2; exact ⟨nu', (hs2 10 (by decide)).trans z⟩⟩
              · intro q hq dd hdd; rw [upM_ne (by decide), upM_ne (by decide)]; exact hT2 q hq dd hdd
              · intro k k1 k2; rw [pk_un k2, upM_ne (by decide), m60]; exact al1 k k1
              · intro k k1; rw [pk_un (by omega), upM_ne (by decide), m60, al2 k k1]; exact congrFun (B.2.1 60 (by decide)) k
            · skip
              first | (simp only [cmp_lt, cmp_gt, cmp_eq, zN_cge, zN_cle, Decidable.not_not] at q237) | (simp (disch := omega) only [zN_le, zN_lt, zN_0, zN_1, nI_toInt, zN_eq, zN_eq0, b2_z, b2_nz, Decidable.not_not, Int.not_lt, Int.not_le, zK0, zK1, zK2, zK3, zK5, zK7, zK8, zK9, zK10, zK19, zK20, zK40, zK99, zK100, zK199] at q237) | skip
              omega
          · obtain ⟨ly, W, ly1⟩ := hI
            refine x_il2 dX12_desk_230 ?_
            refine x_al0 rfl dX12_desk_231 ?_
            refine x_gm fdX12_13 W.hM (by decide) W.hF.f1 dX12_desk_232 ?_
            refine x_iconst (v := nI 1) dX12_desk_235 rfl ?_
            refine x_mld (len := 2868) W rfl rfl (by decide) (by omega) (show upM M2 65 ly 60 1 = nI D.1 by rw [upM_ne (by decide), m60, al1 1 (by decide)]; exact G.2.1) dX12_desk_236 ?_
            refine x_icmp_ge (tgt := 261) dX12_desk_237 rfl (fun q237 => ?_) (fun q237 => ?_)
            · skip
              first | (simp only [cmp_lt, cmp_gt, cmp_eq, zN_cge, zN_cle, Decidable.not_not] at q237) | (simp (disch := omega) only [zN_le, zN_lt, zN_0, zN_1, nI_toInt, zN_eq, zN_eq0, b2_z, b2_nz, Decidable.not_not, Int.not_lt, Int.not_le, zK0, zK1, zK2, zK3, zK5, zK7, zK8, zK9, zK10, zK19, zK20, zK40, zK99, zK100, zK199] at q237) | skip
              omega
            · skip
              first | (simp only [cmp_lt, cmp_gt, cmp_eq, zN_cge, zN_cle, Decidable.not_not] at q237) | (simp (disch := omega) only [zN_le, zN_lt, zN_0, zN_1, nI_toInt, zN_eq, zN_eq0, b2_z, b2_nz, Decidable.not_not, Int.not_lt, Int.not_le, zK0, zK1, zK2, zK3, zK5, zK7, zK8, zK9, zK10, zK19, zK20, zK40, zK99, zK100, zK199] at q237) | skip
              refine x_al0 rfl dX12_desk_240 ?_
              refine x_gm fdX12_33 W.hM (by decide) W.hF.f16 dX12_desk_241 ?_
              refine x_il2 dX12_desk_244 ?_
              refine x_al0 rfl dX12_desk_245 ?_
              refine x_gm fdX12_13 W.hM (by decide) W.hF.f1 dX12_desk_246 ?_
              refine x_bipush (v := nI 9) dX12_desk_249 rfl ?_
              refine x_il2 dX12_desk_251 ?_
              first | refine x_iadd (nI_add _ _) dX12_desk_252 ?_ | refine x_iadd rfl dX12_desk_252 ?_
              refine x_mld (len := 2868) W rfl rfl (by decide) (by omega) (show upM M2 65 ly 60 (9 + i) = nI (D.2.2.1 i) by rw [upM_ne (by decide), m60, al1 _ (by omega)]; exact G.2.2.2.2.2.1 i (by omega)) dX12_desk_253 ?_
              refine x_mst (len := 6) W rfl rfl (by decide) (by omega) dX12_desk_254 (fun h W => ?_)
              first | refine x_ii2 rfl (nI_1 _) dX12_desk_255 ?_ | refine x_ii2 rfl rfl dX12_desk_255 ?_
              refine x_goto (tgt := 230) dX12_desk_258 rfl ?_
              rw [upM_upM, upM_eq] at W
              refine ih _ ⟨_, W, fun j hj => ?_⟩
              by_cases z : j = i
              · rw [z, pk_us]
              · rw [pk_un z]; exact ly1 j (by omega)
        · skip
          first | (simp only [cmp_lt, cmp_gt, cmp_eq, zN_cge, zN_cle, Decidable.not_not] at q203) | (simp (disch := omega) only [zN_le, zN_lt, zN_0, zN_1, nI_toInt, zN_eq, zN_eq0, b2_z, b2_nz, Decidable.not_not, Int.not_lt, Int.not_le, zK0, zK1, zK2, zK3, zK5, zK7, zK8, zK9, zK10, zK19, zK20, zK40, zK99, zK100, zK199] at q203) | skip
          omega
      · obtain ⟨al, W, al1, al2⟩ := hI
        refine x_il2 dX12_desk_199 ?_
        refine x_sipush (v := nI 956) dX12_desk_200 (by decide) ?_
        refine x_icmp_ge (tgt := 224) dX12_desk_203 rfl (fun q203 => ?_) (fun q203 => ?_)
        · skip
          first | (simp only [cmp_lt, cmp_gt, cmp_eq, zN_cge, zN_cle, Decidable.not_not] at q203) | (simp (disch := omega) only [zN_le, zN_lt, zN_0, zN_1, nI_toInt, zN_eq, zN_eq0, b2_z, b2_nz, Decidable.not_not, Int.not_lt, Int.not_le, zK0, zK1, zK2, zK3, zK5, zK7, zK8, zK9, zK10, zK19, zK20, zK40, zK99, zK100, zK199] at q203) | skip
          omega
        · skip
          first | (simp only [cmp_lt, cmp_gt, cmp_eq, zN_cge, zN_cle, Decidable.not_not] at q203) | (simp (disch := omega) only [zN_le, zN_lt, zN_0, zN_1, nI_toInt, zN_eq, zN_eq0, b2_z, b2_nz, Decidable.not_not, Int.not_lt, Int.not_le, zK0, zK1, zK2, zK3, zK5, zK7, zK8, zK9, zK10, zK19, zK20, zK40, zK99, zK100, zK199] at q203) | skip
          refine x_al0 rfl dX12_desk_206 ?_
          refine x_gm fdX12_13 W.hM (by decide) W.hF.f1 dX12_desk_207 ?_
          refine x_il2 dX12_desk_210 ?_
          refine x_al0 rfl dX12_desk_211 ?_
          refine x_gm fdX12_24 W.hM (by decide) W.hF.f4 dX12_desk_212 ?_
          refine x_il2 dX12_desk_215 ?_
          refine x_mld (len := 956) W rfl rfl (by decide) (by omega) (show upM M' 60 al 63 i = M' 63 i from rfl) dX12_desk_216 ?_
          refine x_mst (len := 2868) W rfl rfl (by decide) (by omega) dX12_desk_217 (fun h W => ?_)
          first | refine x_ii2 rfl (nI_1 _) dX12_desk_218 ?_ | refine x_ii2 rfl rfl dX12_desk_218 ?_
          refine x_goto (tgt := 199) dX12_desk_221 rfl ?_
          rw [upM_upM, upM_eq] at W
          refine ih _ ⟨_, W, fun j hj => ?_, fun j hj => by rw [pk_un (by omega)]; exact al2 j hj⟩
          by_cases z : j = i
          · rw [z, pk_us]
          · rw [pk_un z]; exact al1 j (by omega)
    · skip
      first | (simp only [cmp_lt, cmp_gt, cmp_eq, zN_cge, zN_cle, Decidable.not_not] at q186) | (simp (disch := omega) only [zN_le, zN_lt, zN_0, zN_1, nI_toInt, zN_eq, zN_eq0, b2_z, b2_nz, Decidable.not_not, Int.not_lt, Int.not_le, zK0, zK1, zK2, zK3, zK5, zK7, zK8, zK9, zK10, zK19, zK20, zK40, zK99, zK100, zK199] at q186) | skip
      exact absurd trivial q186
theorem dk125 (J : MJ s M L dk st un tp tr pi fl) (B : DB s s' M M') (W : MW h0 h s' M' L) (O : PO X s' M' p base) (hK : tkK X p = 24) (G : FD (M' 63) D li base) (hD : zDok D) (hli : li < 2 ^ 31) (hS : S = if whl D.1 D.2.2.1 ∧ whl D.1 D.2.2.2.1 then .inr (li, D) else .inl (3, tkA X p)) : Zw g (d + 8) 0 0 mX12_desk 125 [some (.ref 59), some (.int x), none] [] h (QD h0 dk st un tr pi S) := by
  have e11 := O.2.2.1
  have X9 := O.1.2.1
  have aX := tkA_le O.2.1.1
  have hb := O.2.2.2.2
  obtain ⟨d1, d2, d3, d4, d5, d6, d7, d8, d9⟩ := id hD
  refine x_al0 rfl dX12_desk_125 ?_
  refine x_gm fdX12_141 W.hM (by decide) (by first | assumption | rfl) dX12_desk_126 ?_
  refine x_if_ne (tgt := 155) dX12_desk_129 rfl (fun q129 => ?_) (fun q129 => ?_)
  · skip
    first | (simp only [cmp_lt, cmp_gt, cmp_eq, zN_cge, zN_cle, Decidable.not_not] at q129) | (simp (disch := omega) only [zN_le, zN_lt, zN_0, zN_1, nI_toInt, zN_eq, zN_eq0, b2_z, b2_nz, Decidable.not_not, Int.not_lt, Int.not_le, zK0, zK1, zK2, zK3, zK5, zK7, zK8, zK9, zK10, zK19, zK20, zK40, zK99, zK100, zK199] at q129) | skip
    exact absurd trivial q129
  · skip
    first | (simp only [cmp_lt, cmp_gt, cmp_eq, zN_cge, zN_cle, Decidable.not_not] at q129) | (simp (disch := omega) only [zN_le, zN_lt, zN_0, zN_1, nI_toInt, zN_eq, zN_eq0, b2_z, b2_nz, Decidable.not_not, Int.not_lt, Int.not_le, zK0, zK1, zK2, zK3, zK5, zK7, zK8, zK9, zK10, zK19, zK20, zK40, zK99, zK100, zK199] at q129) | skip
    refine x_al0 rfl dX12_desk_132 ?_
    refine x_bipush (v := nI 9) dX12_desk_133 rfl ?_
    refine x_cv1I mX12_isWhole_ok lkX12_214 rfl (Nat.le_of_ble_eq_true rfl) (Nat.le_of_ble_eq_true rfl) dX12_desk_135 W.hM  (o_isWhole (fm := 9) (Or.inl rfl) d1 d2 W G.2.1 G.2.2.2.2.2.1 d5) ?_
    refine x_if_eq (tgt := 150) dX12_desk_138 rfl (fun q138 => ?_) (fun q138 => ?_)
    · skip
      first | (simp only [cmp_lt, cmp_gt, cmp_eq, zN_cge, zN_cle, Decidable.not_not] at q138) | (simp (disch := omega) only [zN_le, zN_lt, zN_0, zN_1, nI_toInt, zN_eq, zN_eq0, b2_z, b2_nz, Decidable.not_not, Int.not_lt, Int.not_le, zK0, zK1, zK2, zK3, zK5, zK7, zK8, zK9, zK10, zK19, zK20, zK40, zK99, zK100, zK199] at q138) | skip
      refine x_al0 rfl dX12_desk_150 ?_
      refine x_iconst (v := nI 3) dX12_desk_151 rfl ?_
      refine x_cv1Vp mX12_fails_ok lkX12_153 rfl (Nat.le_of_ble_eq_true rfl) (Nat.le_of_ble_eq_true rfl) dX12_desk_152 W.hM  (o_fails (fa := 3) (by decide) (by decide) W O) (fun h hq => ?_)
      obtain ⟨s3, W3, U3, E3⟩ := hq
      rw [if_neg (by omega)] at E3
      exact dk155e (d := d + 7) J (B.pw U3) W3 E3 (by simp only; omega) (by rw [hS, if_neg (fun z => q138 z.1)])
    · skip
      first | (simp only [cmp_lt, cmp_gt, cmp_eq, zN_cge, zN_cle, Decidable.not_not] at q138) | (simp (disch := omega) only [zN_le, zN_lt, zN_0, zN_1, nI_toInt, zN_eq, zN_eq0, b2_z, b2_nz, Decidable.not_not, Int.not_lt, Int.not_le, zK0, zK1, zK2, zK3, zK5, zK7, zK8, zK9, zK10, zK19, zK20, zK40, zK99, zK100, zK199] at q138) | skip
      refine x_al0 rfl dX12_desk_141 ?_
      refine x_bipush (v := nI 15) dX12_desk_142 rfl ?_
      refine x_cv1I mX12_isWhole_ok lkX12_214 rfl (Nat.le_of_ble_eq_true rfl) (Nat.le_of_ble_eq_true rfl) dX12_desk_144 W.hM  (o_isWhole (fm := 15) (Or.inr rfl) d1 d2 W G.2.1 G.2.2.2.2.2.2.1 d6) ?_
      refine x_if_ne (tgt := 155) dX12_desk_147 rfl (fun q147 => ?_) (fun q147 => ?_)
      · skip
        first | (simp only [cmp_lt, cmp_gt, cmp_eq, zN_cge, zN_cle, Decidable.not_not] at q147) | (simp (disch := omega) only [zN_le, zN_lt, zN_0, zN_1, nI_toInt, zN_eq, zN_eq0, b2_z, b2_nz, Decidable.not_not, Int.not_lt, Int.not_le, zK0, zK1, zK2, zK3, zK5, zK7, zK8, zK9, zK10, zK19, zK20, zK40, zK99, zK100, zK199] at q147) | skip
        exact dk155o J B W O G hD hli q138 q147 (by omega) (by rw [hS, if_pos ⟨q138, q147⟩])
      · skip
        first | (simp only [cmp_lt, cmp_gt, cmp_eq, zN_cge, zN_cle, Decidable.not_not] at q147) | (simp (disch := omega) only [zN_le, zN_lt, zN_0, zN_1, nI_toInt, zN_eq, zN_eq0, b2_z, b2_nz, Decidable.not_not, Int.not_lt, Int.not_le, zK0, zK1, zK2, zK3, zK5, zK7, zK8, zK9, zK10, zK19, zK20, zK40, zK99, zK100, zK199] at q147) | skip
        refine x_al0 rfl dX12_desk_150 ?_
        refine x_iconst (v := nI 3) dX12_desk_151 rfl ?_
        refine x_cv1Vp mX12_fails_ok lkX12_153 rfl (Nat.le_of_ble_eq_true rfl) (Nat.le_of_ble_eq_true rfl) dX12_desk_152 W.hM  (o_fails (fa := 3) (by decide) (by decide) W O) (fun h hq => ?_)
        obtain ⟨s3, W3, U3, E3⟩ := hq
        rw [if_neg (by omega)] at E3
        exact dk155e (d := d + 7) J (B.pw U3) W3 E3 (by simp only; omega) (by rw [hS, if_neg (fun z => q147 z.2)])
/-- how an answer of the lines ends -/
def fFin (X : zX) (r : Sum (Nat × Nat) (Nat × Nat × zDd)) : Sum (Nat × Nat) (Nat × zDd) := match r with
  | .inl e => .inl e
  | .inr q2 => if whl q2.2.2.1 q2.2.2.2.2.1 ∧ whl q2.2.2.1 q2.2.2.2.2.2.1 then .inr (q2.2.1, q2.2.2) else .inl (3, tkA X q2.1)
theorem dk98 (J : MJ s M L dk st un tp tr pi fl) (B : DB s s' M M') (W : MW h0 h s' M' L) (O : PO X s' M' p base) (G : FD (M' 63) D li base) (hD : zDok D) (hli : li ≤ tkA X p) (hS : S = fFin X (fLns X 901 D li p)) : Zw g (d + 57) 0 0 mX12_desk 98 [some (.ref 59), some (.int x), none] [] h (QD h0 dk st un tr pi S) := by
  have X9 := O.1.2.1
  refine x_wh (fun (fu : Nat) => [some (.ref 59), some (.int x), none]) (fun fu h => ∃ p D li base s' M', DB s s' M M' ∧ MW h0 h s' M' L ∧ PO X s' M' p base ∧ FD (M' 63) D li base ∧ zDok D ∧ li ≤ tkA X p ∧ S = fFin X (fLns X fu D li p) ∧ X.2 < fu + tkA X p) (fun fu => fu) 901 ⟨p, D, li, base, s', M', B, W, O, G, hD, hli, hS, by omega⟩ (fun fu h hI ih => ?_)
  obtain ⟨p, D, li, base, s', M', B, W, O, G, hD, hli, hS, hfu⟩ := hI
  have e11 := O.2.2.1
  have e9 := O.2.1.2.2.2.1
  have hK := O.2.1.kr
  have aX := tkA_le O.2.1.1
  refine x_al0 rfl dX12_desk_98 ?_
  refine x_gm fdX12_141 W.hM (by decide) (by first | assumption | rfl) dX12_desk_99 ?_
  refine x_if_ne (tgt := 125) dX12_desk_102 rfl (fun q102 => ?_) (fun q102 => ?_)
  · skip
    first | (simp only [cmp_lt, cmp_gt, cmp_eq, zN_cge, zN_cle, Decidable.not_not] at q102) | (simp (disch := omega) only [zN_le, zN_lt, zN_0, zN_1, nI_toInt, zN_eq, zN_eq0, b2_z, b2_nz, Decidable.not_not, Int.not_lt, Int.not_le, zK0, zK1, zK2, zK3, zK5, zK7, zK8, zK9, zK10, zK19, zK20, zK40, zK99, zK100, zK199] at q102) | skip
    exact absurd trivial q102
  · skip
    first | (simp only [cmp_lt, cmp_gt, cmp_eq, zN_cge, zN_cle, Decidable.not_not] at q102) | (simp (disch := omega) only [zN_le, zN_lt, zN_0, zN_1, nI_toInt, zN_eq, zN_eq0, b2_z, b2_nz, Decidable.not_not, Int.not_lt, Int.not_le, zK0, zK1, zK2, zK3, zK5, zK7, zK8, zK9, zK10, zK19, zK20, zK40, zK99, zK100, zK199] at q102) | skip
    refine x_al0 rfl dX12_desk_105 ?_
    refine x_gm fdX12_123 W.hM (by decide) (e9) dX12_desk_106 ?_
    refine x_bipush (v := nI 24) dX12_desk_109 rfl ?_
    refine x_icmp_eq (tgt := 125) dX12_desk_111 rfl (fun q111 => ?_) (fun q111 => ?_)
    · skip
      first | (simp only [cmp_lt, cmp_gt, cmp_eq, zN_cge, zN_cle, Decidable.not_not] at q111) | (simp (disch := omega) only [zN_le, zN_lt, zN_0, zN_1, nI_toInt, zN_eq, zN_eq0, b2_z, b2_nz, Decidable.not_not, Int.not_lt, Int.not_le, zK0, zK1, zK2, zK3, zK5, zK7, zK8, zK9, zK10, zK19, zK20, zK40, zK99, zK100, zK199] at q111) | skip
      have hL : fLns X fu D li p = .inr (p, li, D) := by cases fu with | zero => rfl | succ k => rw [fLns, if_pos q111]
      exact dk125 (d := d + 49) J B W O q111 G hD (by omega) (by rw [hS, hL]; rfl)
    · skip
      first | (simp only [cmp_lt, cmp_gt, cmp_eq, zN_cge, zN_cle, Decidable.not_not] at q111) | (simp (disch := omega) only [zN_le, zN_lt, zN_0, zN_1, nI_toInt, zN_eq, zN_eq0, b2_z, b2_nz, Decidable.not_not, Int.not_lt, Int.not_le, zK0, zK1, zK2, zK3, zK5, zK7, zK8, zK9, zK10, zK19, zK20, zK40, zK99, zK100, zK199] at q111) | skip
      refine x_al0 rfl dX12_desk_114 ?_
      refine x_cv0Vp mX12_readLine_ok lkX12_211 rfl (Nat.le_of_ble_eq_true rfl) (Nat.le_of_ble_eq_true rfl) dX12_desk_115 W.hM  (o_readLine hD W O q111 G) (fun h hq => ?_)
      have lA := tk_le O.2.1.1
      obtain ⟨k, rfl⟩ : ∃ k, fu = k + 1 := ⟨fu - 1, by have := fun z => q111 (lA.2.2.2.2.mpr z); omega⟩
      rw [fLns, if_neg q111] at hS
      cases z1 : fLn X D p with
      | inl e9 =>
        have le := fLn_e O.2.1.1 q111 z1
        rw [z1] at hq hS
        obtain ⟨s3, M3, W, U3, E3⟩ := hq
        refine x_al0 rfl dX12_desk_118 ?_
        refine x_cv0Vp mX12_closes_ok lkX12_208 rfl (Nat.le_of_ble_eq_true rfl) (Nat.le_of_ble_eq_true rfl) dX12_desk_119 W.hM  (e_closes W E3) (fun h hq => ?_)
        refine x_goto (tgt := 98) dX12_desk_122 rfl ?_
        obtain ⟨M4, W4, U4⟩ := hq
        exact dk98e (d := d + 56) J ((B.pw U3).pw U4) W4 E3 (by omega) hS
      | inr q =>
        have lo := fLn_o X9 O.2.1.1 q111 hD z1
        rw [z1] at hq hS
        obtain ⟨s3, M3, base3, W, U3, O3, G3⟩ := hq
        simp only at hS
        refine x_al0 rfl dX12_desk_118 ?_
        refine x_cv0Vp mX12_closes_ok lkX12_208 rfl (Nat.le_of_ble_eq_true rfl) (Nat.le_of_ble_eq_true rfl) dX12_desk_119 W.hM  (o_closes W O3 G3.1) (fun h hq => ?_)
        refine x_goto (tgt := 98) dX12_desk_122 rfl ?_
        rcases hq with ⟨z, s4, W4, U4, K4⟩ | ⟨z, s4, M4, W4, U4, E4⟩
        · have b := tkA_B lo.1 (by omega)
          rw [if_pos z] at hS
          refine ih k _ (by omega) ⟨_, q.2, li + 1, base3, s4, _, (B.pw U3).pw (U4.pw.tr upM_63), W4, (O3.nx U4 K4 (by omega)).fr (pk_un (by decide)), ?_, lo.2.2, by omega, hS, by omega⟩
          obtain ⟨f0, f1, f2, f3, f4, f5, f6, f7, f8, f9, f10⟩ := G3
          have u : ∀ k, k ≠ 0 → upM M3 63 (upd (M3 63) 0 (nI (li + 1))) 63 k = M3 63 k := fun k hk => by rw [upM_eq, pk_un hk]
          exact ⟨by rw [upM_eq]; exact pk_us, by rw [u _ (by omega)]; exact f1, by rw [u _ (by omega)]; exact f2, f3.up (by omega) (Nat.le_refl _) (fun k hk => u k (by omega)), f4.up (by omega) (Nat.le_refl _) (fun k hk => u k (by omega)), fun i hi => by rw [u _ (by omega)]; exact f5 i hi, fun i hi => by rw [u _ (by omega)]; exact f6 i hi, by rw [u _ (by omega)]; exact f7, by rw [u _ (by omega)]; exact f8, by rw [u _ (by omega)]; exact f9, by rw [u _ (by omega)]; exact f10⟩
        · rw [if_neg z] at hS
          have aq := tkA_le lo.1
          exact dk98e (d := d + 56) J ((B.pw U3).pw U4) W4 E4 (by simp only; omega) hS
end ZDu

