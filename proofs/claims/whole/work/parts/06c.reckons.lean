/-! the model's reckons; both contracts -/
theorem evl_tv {w : Nat → Int32} {b : Bool} : ∀ (cs : List Nat) (st : List Int32) (ts : List Bool) (H : Nat), TV st ts → okc cs ts b → hok H cs st.length → ∃ r, evl w cs st = [r] ∧ (b = true → r = 0 ∨ r = 1) := by
  intro cs
  induction cs with
  | nil =>
    intro st ts H hT hk hh
    have hts : ts = [b] := hk
    subst hts
    match st, hT with
    | [v], hT => exact ⟨v, rfl, hT.1⟩
    | [], h => exact h.elim
    | _ :: _ :: _, h => exact h.2.elim
  | cons c cs ih =>
    intro st ts H hT hk hh
    unfold evl
    rcases okc_step hk hT hh with ⟨ts', h1, rfl, h2, h3, h4⟩ | ⟨a, r, ts', rfl, rfl, h2, h3, h4⟩ | ⟨e, t, y, r, ts', rfl, rfl, hy, h2, h3, h4⟩ | ⟨y, z, r, ts', hb, rfl, h2, h3, h4⟩
    · rcases Nat.lt_or_ge c 1000 with hc | hc
      · rw [ev1_num hc]
        exact ih _ (false :: ts) H ⟨nofun, hT⟩ h2 h4
      · obtain ⟨k, rfl⟩ : ∃ k, c = 1000 + k := ⟨c - 1000, by omega⟩
        rw [ev1_word (by omega)]
        exact ih _ (false :: ts) H ⟨nofun, hT⟩ h2 h4
    · rw [ev1_not]
      exact ih _ _ H h3 h2 h4
    · rw [ev1_if]
      exact ih _ _ H h3 h2 h4
    · rw [ev1_bin hb]
      exact ih _ _ H h3 h2 h4
/-- what a code tells -/
def tells (w : Nat → Int32) (code : List Nat) : Int32 := (evl w code []).headD 0
theorem tells_eq {w : Nat → Int32} {code : List Nat} {r : Int32} (h : evl w code [] = [r]) : r = tells w code := by unfold tells; rw [h]; rfl
section ZT2
variable {g : zG} {d : Nat}
theorem c_tell {h : zH} {code : List Nat} {b : Bool} {H rl rs rk : Nat} {fs w sk : Nat → Int32} (hH : H < 2 ^ 31) (hcl : code.length < 2 ^ 31) (hH0 : 0 < H) (hfs : ∀ j c, code[j]? = some c → fs j = cl c) (n1 : rk ≠ rl) (n2 : rk ≠ rs) (n3 : rk ≠ 24) (hk : okc code [] b) (hh : hok H code 0)
    (hO : h[rl]? = some (.inr (2, [.ref rs, .ref rk]))) (hS : h[rs]? = some (.inl (0, code.length, .inl fs))) (hK : h[rk]? = some (.inl (0, H, .inl sk))) (hW : h[24]? = some (.inl (0, 5, .inl w))) :
    Zm g (d + 2) 0 0 mX2_tell [.ref rl, .ref 24] h (rIp (fun r h' => r = tells w code ∧ ∃ sk', h' = h.set rk (.inl (0, H, .inl sk')))) := by
  show Zw g (d + 2) 0 0 mX2_tell 0 [some (.ref rl), some (.ref 24), none, none, none] [] h _
  refine x_iconst (v := nI 0) dX2_tell_0 rfl ?_
  refine x_is2 rfl dX2_tell_1 ?_
  refine x_iconst (v := nI 0) dX2_tell_2 rfl ?_
  refine x_is3 rfl dX2_tell_3 ?_
  refine Zw.mono (lp_tell hH hcl hH0 hfs n1 n2 n3 code 0 [] [] _ h sk rfl (Nat.zero_le _) trivial hk hh (Nat.zero_le _) trivial hO hS hK hW) (fun v h' hq => ?_)
  obtain ⟨r, rfl, h1, h2⟩ := hq
  exact ⟨r, rfl, tells_eq h1, h2⟩
theorem lp_reck {code : List Nat} {b : Bool} {lw fr : Nat} {s : Nat → Value} {al w : Nat → Int32} (hlw : lw < 2) (hfr : fr + code.length ≤ 900) (hF : MR s) (ha1 : al (7 + lw) = nI code.length) (ha2 : al (5 + lw) = nI fr) (hfs : ∀ j c, code[j]? = some c → al (56 + fr + j) = nI c) (hcb : ∀ c ∈ code, c < 4000) : ∀ (cs : List Nat) (i : Nat) (st : List Int32) (ts : List Bool) (x : Option Value) (h : zH) (sk : Nat → Int32), code.drop i = cs → i ≤ code.length → TV st ts → okc cs ts b → hok 900 cs st.length → st.length ≤ 900 → SA sk st →
    h[59]? = some (.inr (12, mF s)) → h[60]? = some (.inl (0, 2868, .inl al)) → h[66]? = some (.inl (0, 900, .inl sk)) → h[67]? = some (.inl (0, 5, .inl w)) →
    Zw g (d + 1) 0 0 mX12_reckons 4 [some (.ref 59), some (.int (nI lw)), some (.int (nI st.length)), some (.int (nI i)), x] [] h (rIp (fun r h' => evl w cs st = [r] ∧ ∃ sk', h' = h.set 66 (.inl (0, 900, .inl sk')))) := by
  intro cs
  induction cs with
  | nil =>
    intro i st ts x h sk hdr hil hT hk hh hle hS hM hL hSk hW
    have hi : i = code.length := by
      have : code.length ≤ i := by simpa using hdr
      omega
    subst hi
    have hts : ts = [b] := hk
    subst hts
    obtain ⟨v, rfl⟩ : ∃ v, st = [v] := by
      match st, hT with
      | [v], _ => exact ⟨v, rfl⟩
      | [], h => exact h.elim
      | _ :: _ :: _, h => exact h.2.elim
    refine x_il3 dX12_reckons_4 ?_
    refine x_al0 rfl dX12_reckons_5 ?_
    refine x_gm fdX12_13 hM (by decide) hF.f1 dX12_reckons_6 ?_
    refine x_bipush (v := nI 7) dX12_reckons_9 rfl ?_
    refine x_il1 dX12_reckons_11 ?_
    first | refine x_iadd (nI_add _ _) dX12_reckons_12 ?_ | refine x_iadd rfl dX12_reckons_12 ?_
    refine x_iald hL (vp_in_nI (by omega) (by decide)) (ald ha1 (by omega)) dX12_reckons_13 ?_
    refine x_icmp_ge (tgt := 197) dX12_reckons_14 rfl (fun q1 => ?_) (fun q1 => ?_)
    · refine x_al0 rfl dX12_reckons_197 ?_
      refine x_gm fdX12_36 hM (by decide) hF.f18 dX12_reckons_198 ?_
      refine x_iconst (v := nI 0) dX12_reckons_201 rfl ?_
      refine x_iald hSk (vp_in_nI (by decide) (by decide)) (ald hS.1 (by decide)) dX12_reckons_202 ?_
      exact x_iret rfl rfl dX12_reckons_203 ⟨_, rfl, rfl, sk, (hs_same hSk).symm⟩
    · exact absurd (nI_le (Nat.le_refl _) (by omega)) q1
  | cons c cs ih =>
    intro i st ts x h sk hdr hil hT hk hh hle hS hM hL hSk hW
    obtain ⟨hci, hilt, hdr'⟩ := drop_cons hdr
    have hc4 := hcb c (List.mem_of_getElem? hci)
    have fin : ∀ (st' : List Int32) (ts' : List Bool) (sk' : Nat → Int32), TV st' ts' → okc cs ts' b → hok 900 cs st'.length → st'.length ≤ 900 → SA sk' st' → ev1 w c st = st' → Zw g (d + 1) 0 0 mX12_reckons 191 [some (.ref 59), some (.int (nI lw)), some (.int (nI st'.length)), some (.int (nI i)), some (.int (nI c))] [] (h.set 66 (.inl (0, 900, .inl sk'))) (rIp (fun r h' => evl w (c :: cs) st = [r] ∧ ∃ sk', h' = h.set 66 (.inl (0, 900, .inl sk')))) := by
      intro st' ts' sk' a1 a2 a3 a4 a5 a6
      first | refine x_ii3 rfl (nI_1 _) dX12_reckons_191 ?_ | refine x_ii3 rfl rfl dX12_reckons_191 ?_
      refine x_goto (tgt := 4) dX12_reckons_194 rfl ?_
      refine Zw.mono (ih (i + 1) st' ts' _ _ sk' hdr' (by omega) a1 a2 a3 a4 a5 (by rw [hs_ne (by decide)]; exact hM) (by rw [hs_ne (by decide)]; exact hL) (hs_eq hSk) (by rw [hs_ne (by decide)]; exact hW)) (fun v h' hq => ?_)
      obtain ⟨r, rfl, h1, sk2, rfl⟩ := hq
      exact ⟨r, rfl, by rw [evl, a6]; exact h1, sk2, hs_hs⟩
    refine x_il3 dX12_reckons_4 ?_
    refine x_al0 rfl dX12_reckons_5 ?_
    refine x_gm fdX12_13 hM (by decide) hF.f1 dX12_reckons_6 ?_
    refine x_bipush (v := nI 7) dX12_reckons_9 rfl ?_
    refine x_il1 dX12_reckons_11 ?_
    first | refine x_iadd (nI_add _ _) dX12_reckons_12 ?_ | refine x_iadd rfl dX12_reckons_12 ?_
    refine x_iald hL (vp_in_nI (by omega) (by decide)) (ald ha1 (by omega)) dX12_reckons_13 ?_
    refine x_icmp_ge (tgt := 197) dX12_reckons_14 rfl (fun q1 => ?_) (fun q1 => ?_)
    · exact absurd q1 (nI_ge hilt (by omega))
    · refine x_al0 rfl dX12_reckons_17 ?_
      refine x_gm fdX12_13 hM (by decide) hF.f1 dX12_reckons_18 ?_
      refine x_bipush (v := nI 56) dX12_reckons_21 rfl ?_
      refine x_al0 rfl dX12_reckons_23 ?_
      refine x_gm fdX12_13 hM (by decide) hF.f1 dX12_reckons_24 ?_
      refine x_iconst (v := nI 5) dX12_reckons_27 rfl ?_
      refine x_il1 dX12_reckons_28 ?_
      first | refine x_iadd (nI_add _ _) dX12_reckons_29 ?_ | refine x_iadd rfl dX12_reckons_29 ?_
      refine x_iald hL (vp_in_nI (by omega) (by decide)) (ald ha2 (by omega)) dX12_reckons_30 ?_
      first | refine x_iadd (nI_add _ _) dX12_reckons_31 ?_ | refine x_iadd rfl dX12_reckons_31 ?_
      refine x_il3 dX12_reckons_32 ?_
      first | refine x_iadd (nI_add _ _) dX12_reckons_33 ?_ | refine x_iadd rfl dX12_reckons_33 ?_
      refine x_iald hL (vp_in_nI (by omega) (by decide)) (ald (hfs i c hci) (by omega)) dX12_reckons_34 ?_
      refine x_is4 rfl dX12_reckons_35 ?_
      refine x_il4 dX12_reckons_37 ?_
      refine x_sipush (v := nI 3000) dX12_reckons_39 (by decide) ?_
      rcases okc_step hk hT hh with ⟨ts', h1, rfl, h2, h3, h4⟩ | ⟨a, r, ts', rfl, rfl, h2, h3, h4⟩ | ⟨e, t, y, r, ts', rfl, rfl, hy, h2, h3, h4⟩ | ⟨y, z, r, ts', hb, rfl, h2, h3, h4⟩
      · have fin' : ∀ v, ev1 w c st = v :: st → Zw g (d + 1) 0 0 mX12_reckons 74 [some (.ref 59), some (.int (nI lw)), some (.int (nI st.length)), some (.int (nI i)), some (.int (nI c))] [.int v, .int (nI st.length), .ref 66] h (rIp (fun r h' => evl w (c :: cs) st = [r] ∧ ∃ sk', h' = h.set 66 (.inl (0, 900, .inl sk')))) := by
          intro v hv
          refine x_iast hSk (vp_in_nI h3 (by decide)) dX12_reckons_74 ?_
          first | refine x_ii2 rfl (nI_1 _) dX12_reckons_75 ?_ | refine x_ii2 rfl rfl dX12_reckons_75 ?_
          refine x_goto (tgt := 191) dX12_reckons_78 rfl ?_
          rw [nI_clamp (by omega)]
          exact fin (v :: st) (false :: ts) _ ⟨nofun, hT⟩ h2 h4 h3 hS.push hv
        refine x_icmp_ge (tgt := 81) dX12_reckons_42 rfl (fun q2 => ?_) (fun q2 => ?_)
        · exact absurd q2 (nI_ge (by omega) (by decide))
        · refine x_al0 rfl dX12_reckons_45 ?_
          refine x_gm fdX12_36 hM (by decide) hF.f18 dX12_reckons_46 ?_
          refine x_il2 dX12_reckons_49 ?_
          refine x_il4 dX12_reckons_50 ?_
          refine x_sipush (v := nI 1000) dX12_reckons_52 (by decide) ?_
          refine x_icmp_ge (tgt := 63) dX12_reckons_55 rfl (fun q3 => ?_) (fun q3 => ?_)
          · rw [nI_leI (by decide) (by omega)] at q3
            obtain ⟨k, rfl⟩ : ∃ k, c = 1000 + k := ⟨c - 1000, by omega⟩
            refine x_al0 rfl dX12_reckons_63 ?_
            refine x_gm fdX12_39 hM (by decide) hF.f19 dX12_reckons_64 ?_
            refine x_il4 dX12_reckons_67 ?_
            refine x_sipush (v := nI 1000) dX12_reckons_69 (by decide) ?_
            refine x_isub (pk_sub (by omega)) dX12_reckons_72 ?_
            rw [show 1000 + k - 1000 = k by omega]
            refine x_iald hW (vp_in_nI (by omega) (by decide)) (ald rfl (by omega)) dX12_reckons_73 ?_
            exact fin' _ (ev1_word (by omega))
          · rw [nI_leI (by decide) (by omega)] at q3
            refine x_il4 dX12_reckons_58 ?_
            refine x_goto (tgt := 74) dX12_reckons_60 rfl ?_
            exact fin' _ (ev1_num (by omega))
      · refine x_icmp_ge (tgt := 81) dX12_reckons_42 rfl (fun q2 => ?_) (fun q2 => ?_)
        · refine x_il4 dX12_reckons_81 ?_
          refine x_sipush (v := nI 3006) dX12_reckons_83 (by decide) ?_
          refine x_icmp_ne (tgt := 110) dX12_reckons_86 rfl (fun q3 => ?_) (fun q3 => ?_)
          · exact absurd rfl q3
          · simp only [List.length_cons] at hle
            have hl : (a :: r).length - 1 = r.length := by simp
            refine x_al0 rfl dX12_reckons_89 ?_
            refine x_gm fdX12_36 hM (by decide) hF.f18 dX12_reckons_90 ?_
            refine x_il2 dX12_reckons_93 ?_
            refine x_iconst (v := nI 1) dX12_reckons_94 rfl ?_
            refine x_isub (pk_sub (by simp)) dX12_reckons_95 ?_
            refine x_iconst (v := nI 1) dX12_reckons_96 rfl ?_
            refine x_al0 rfl dX12_reckons_97 ?_
            refine x_gm fdX12_36 hM (by decide) hF.f18 dX12_reckons_98 ?_
            refine x_il2 dX12_reckons_101 ?_
            refine x_iconst (v := nI 1) dX12_reckons_102 rfl ?_
            refine x_isub (pk_sub (by simp)) dX12_reckons_103 ?_
            rw [hl]
            refine x_iald hSk (vp_in_nI (by omega) (by decide)) (ald hS.1 (by omega)) dX12_reckons_104 ?_
            refine x_isub (rfl) dX12_reckons_105 ?_
            refine x_iast hSk (vp_in_nI (by omega) (by decide)) dX12_reckons_106 ?_
            refine x_goto (tgt := 191) dX12_reckons_107 rfl ?_
            rw [nI_clamp (by omega)]
            exact fin ((1 - a) :: r) ts' _ h3 h2 h4 (by simp; omega) hS.2.push ev1_not
        · exact absurd (nI_le (by omega) (by decide)) q2
      · simp only [List.length_cons] at hle
        have fin' : ∀ v, v = (if y = 1 then t else e) → Zw g (d + 1) 0 0 mX12_reckons 157 [some (.ref 59), some (.int (nI lw)), some (.int (nI (r.length + 1))), some (.int (nI i)), some (.int (nI 3009))] [.int v, .int (nI r.length), .ref 66] h (rIp (fun r0 h' => evl w (3009 :: cs) (e :: t :: y :: r) = [r0] ∧ ∃ sk', h' = h.set 66 (.inl (0, 900, .inl sk')))) := by
          intro v hv
          refine x_iast hSk (vp_in_nI (by omega) (by decide)) dX12_reckons_157 ?_
          refine x_goto (tgt := 191) dX12_reckons_158 rfl ?_
          rw [nI_clamp (by omega)]
          exact fin (v :: r) ts' _ (by rw [hv]; exact h3) h2 h4 (by simp; omega) hS.2.2.2.push (by rw [ev1_if, hv])
        refine x_icmp_ge (tgt := 81) dX12_reckons_42 rfl (fun q2 => ?_) (fun q2 => ?_)
        · refine x_il4 dX12_reckons_81 ?_
          refine x_sipush (v := nI 3006) dX12_reckons_83 (by decide) ?_
          refine x_icmp_ne (tgt := 110) dX12_reckons_86 rfl (fun q3 => ?_) (fun q3 => ?_)
          · refine x_il4 dX12_reckons_110 ?_
            refine x_sipush (v := nI 3009) dX12_reckons_112 (by decide) ?_
            refine x_icmp_ne (tgt := 161) dX12_reckons_115 rfl (fun q4 => ?_) (fun q4 => ?_)
            · exact absurd rfl q4
            · refine x_ii2 rfl ((nI_m2 r.length)) dX12_reckons_118 ?_
              refine x_al0 rfl dX12_reckons_121 ?_
              refine x_gm fdX12_36 hM (by decide) hF.f18 dX12_reckons_122 ?_
              refine x_il2 dX12_reckons_125 ?_
              refine x_iconst (v := nI 1) dX12_reckons_126 rfl ?_
              refine x_isub (pk_sub (by omega)) dX12_reckons_127 ?_
              refine x_al0 rfl dX12_reckons_128 ?_
              refine x_gm fdX12_36 hM (by decide) hF.f18 dX12_reckons_129 ?_
              refine x_il2 dX12_reckons_132 ?_
              refine x_iconst (v := nI 1) dX12_reckons_133 rfl ?_
              refine x_isub (pk_sub (by omega)) dX12_reckons_134 ?_
              rw [show r.length + 1 - 1 = r.length by omega]
              refine x_iald hSk (vp_in_nI (by omega) (by decide)) (ald hS.2.2.1 (by omega)) dX12_reckons_135 ?_
              refine x_iconst (v := nI 1) dX12_reckons_136 rfl ?_
              refine x_icmp_ne (tgt := 149) dX12_reckons_137 rfl (fun q6 => ?_) (fun q6 => ?_)
              · refine x_al0 rfl dX12_reckons_149 ?_
                refine x_gm fdX12_36 hM (by decide) hF.f18 dX12_reckons_150 ?_
                refine x_il2 dX12_reckons_153 ?_
                refine x_iconst (v := nI 1) dX12_reckons_154 rfl ?_
                first | refine x_iadd (nI_add _ _) dX12_reckons_155 ?_ | refine x_iadd rfl dX12_reckons_155 ?_
                refine x_iald hSk (vp_in_nI (by omega) (by decide)) (ald hS.1 (by simp; omega)) dX12_reckons_156 ?_
                exact fin' _ (if_neg q6).symm
              · refine x_al0 rfl dX12_reckons_140 ?_
                refine x_gm fdX12_36 hM (by decide) hF.f18 dX12_reckons_141 ?_
                refine x_il2 dX12_reckons_144 ?_
                refine x_iald hSk (vp_in_nI (by omega) (by decide)) (ald hS.2.1 (by simp; omega)) dX12_reckons_145 ?_
                refine x_goto (tgt := 157) dX12_reckons_146 rfl ?_
                exact fin' _ (if_pos q6).symm
          · exact absurd ((nI_eq (by decide) (by decide)).mp q3) (by omega)
        · exact absurd (nI_le (by omega) (by decide)) q2
      · simp only [List.length_cons] at hle
        have hb2 := hb
        unfold isB at hb2
        refine x_icmp_ge (tgt := 81) dX12_reckons_42 rfl (fun q2 => ?_) (fun q2 => ?_)
        · refine x_il4 dX12_reckons_81 ?_
          refine x_sipush (v := nI 3006) dX12_reckons_83 (by decide) ?_
          refine x_icmp_ne (tgt := 110) dX12_reckons_86 rfl (fun q3 => ?_) (fun q3 => ?_)
          · refine x_il4 dX12_reckons_110 ?_
            refine x_sipush (v := nI 3009) dX12_reckons_112 (by decide) ?_
            refine x_icmp_ne (tgt := 161) dX12_reckons_115 rfl (fun q4 => ?_) (fun q4 => ?_)
            · refine x_ii2 rfl ((nI_m1 (n := r.length + 2) (by omega))) dX12_reckons_161 ?_
              refine x_al0 rfl dX12_reckons_164 ?_
              refine x_gm fdX12_36 hM (by decide) hF.f18 dX12_reckons_165 ?_
              refine x_il2 dX12_reckons_168 ?_
              refine x_iconst (v := nI 1) dX12_reckons_169 rfl ?_
              refine x_isub (pk_sub (by omega)) dX12_reckons_170 ?_
              refine x_il4 dX12_reckons_171 ?_
              refine x_al0 rfl dX12_reckons_173 ?_
              refine x_gm fdX12_36 hM (by decide) hF.f18 dX12_reckons_174 ?_
              refine x_il2 dX12_reckons_177 ?_
              refine x_iconst (v := nI 1) dX12_reckons_178 rfl ?_
              refine x_isub (pk_sub (by omega)) dX12_reckons_179 ?_
              rw [show r.length + 2 - 1 - 1 = r.length by omega]
              refine x_iald hSk (vp_in_nI (by omega) (by decide)) (ald hS.2.1 (by omega)) dX12_reckons_180 ?_
              refine x_al0 rfl dX12_reckons_181 ?_
              refine x_gm fdX12_36 hM (by decide) hF.f18 dX12_reckons_182 ?_
              refine x_il2 dX12_reckons_185 ?_
              refine x_iald hSk (vp_in_nI (by omega) (by decide)) (ald hS.1 (by simp; omega)) dX12_reckons_186 ?_
              refine x_cs3I mX12_between_ok lkX12_238 (Nat.le_of_ble_eq_true rfl) (Nat.le_of_ble_eq_true rfl) dX12_reckons_187 (m_between hb) ?_
              refine x_iast hSk (vp_in_nI (by omega) (by decide)) dX12_reckons_190 ?_
              rw [nI_clamp (by omega)]
              exact fin (bop c z y :: r) ts' _ h3 h2 h4 (by simp; omega) hS.2.2.push (ev1_bin hb)
            · exact absurd ((nI_eq (by omega) (by decide)).mp q4) (by omega)
          · exact absurd ((nI_eq (by omega) (by decide)).mp q3) (by omega)
        · exact absurd (nI_le (by omega) (by omega)) q2
theorem m_reckons {h : zH} {code : List Nat} {b : Bool} {lw fr : Nat} {s : Nat → Value} {al w sk : Nat → Int32} (hlw : lw < 2) (hfr : fr + code.length ≤ 900) (hF : MR s) (ha1 : al (7 + lw) = nI code.length) (ha2 : al (5 + lw) = nI fr) (hfs : ∀ j c, code[j]? = some c → al (56 + fr + j) = nI c) (hcb : ∀ c ∈ code, c < 4000) (hk : okc code [] b) (hh : hok 900 code 0)
    (hM : h[59]? = some (.inr (12, mF s))) (hL : h[60]? = some (.inl (0, 2868, .inl al))) (hSk : h[66]? = some (.inl (0, 900, .inl sk))) (hW : h[67]? = some (.inl (0, 5, .inl w))) :
    Zm g (d + 1) 0 0 mX12_reckons [.ref 59, .int (nI lw)] h (rIp (fun r h' => r = tells w code ∧ ∃ sk', h' = h.set 66 (.inl (0, 900, .inl sk')))) := by
  show Zw g (d + 1) 0 0 mX12_reckons 0 [some (.ref 59), some (.int (nI lw)), none, none, none] [] h _
  refine x_iconst (v := nI 0) dX12_reckons_0 rfl ?_
  refine x_is2 rfl dX12_reckons_1 ?_
  refine x_iconst (v := nI 0) dX12_reckons_2 rfl ?_
  refine x_is3 rfl dX12_reckons_3 ?_
  refine Zw.mono (lp_reck hlw hfr hF ha1 ha2 hfs hcb code 0 [] [] _ h sk rfl (Nat.zero_le _) trivial hk hh (Nat.zero_le _) trivial hM hL hSk hW) (fun v h' hq => ?_)
  obtain ⟨r, rfl, h1, h2⟩ := hq
  exact ⟨r, rfl, tells_eq h1, h2⟩
end ZT2

