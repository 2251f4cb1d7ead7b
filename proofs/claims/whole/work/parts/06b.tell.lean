/-! the class's Law.tell and the model's reckons come to what the code tells -/
theorem cl_num : ∀ c, c < 1000 → cl c = nI c ∧ ¬ nI c < -5 ∧ ¬ nI 5 < -(nI c) ∧ ¬ nI c < 0 := by decide +kernel
theorem cl_word : ∀ k, k < 5 → cl (1000 + k) = -(nI (k + 1)) ∧ ¬ -(nI (k + 1)) < -5 ∧ ¬ nI 5 < -(-(nI (k + 1))) ∧ -(nI (k + 1)) < 0 ∧ -(-(nI (k + 1))) - nI 1 = nI k := by decide +kernel
theorem cl_not : cl 3006 = -14 := by simp [cl]
theorem cl_if : cl 3009 = -15 := by simp [cl]
theorem cl_bin {c : Nat} (hc : isB c) : cl c < -5 ∧ ¬ cl c = -14 ∧ ¬ cl c = -15 := by
  have hh : c = 3000 ∨ c = 3001 ∨ c = 3002 ∨ c = 3003 ∨ c = 3004 ∨ c = 3005 ∨ c = 3007 ∨ c = 3008 := by unfold isB at hc; omega
  rcases hh with rfl | rfl | rfl | rfl | rfl | rfl | rfl | rfl <;> simp [cl] <;> decide
theorem ev1_num {w : Nat → Int32} {c : Nat} {st : List Int32} (h : c < 1000) : ev1 w c st = nI c :: st := by unfold ev1; rw [if_pos h]
theorem ev1_word {w : Nat → Int32} {k : Nat} {st : List Int32} (h : k < 5) : ev1 w (1000 + k) st = w k :: st := by unfold ev1; rw [if_neg (by omega), if_pos (by omega), show 1000 + k - 1000 = k by omega]
theorem ev1_not {w : Nat → Int32} {a : Int32} {r : List Int32} : ev1 w 3006 (a :: r) = (1 - a) :: r := by simp [ev1]
theorem ev1_if {w : Nat → Int32} {e t b : Int32} {r : List Int32} : ev1 w 3009 (e :: t :: b :: r) = (if b = 1 then t else e) :: r := by simp [ev1]
theorem ev1_bin {w : Nat → Int32} {c : Nat} {y x : Int32} {r : List Int32} (hc : isB c) : ev1 w c (y :: x :: r) = bop c x y :: r := by
  unfold isB at hc
  unfold ev1
  rw [if_neg (by omega), if_neg (by omega), if_neg (by omega), if_neg (by omega)]
theorem hok_push {H c k : Nat} {cs : List Nat} (hc : c < 1005) (h : hok H (c :: cs) k) : k < H ∧ hok H cs (k + 1) := by unfold hok at h; rw [if_pos hc] at h; exact h
theorem hok_not {H k : Nat} {cs : List Nat} (h : hok H (3006 :: cs) k) : hok H cs k := by unfold hok at h; rw [if_neg (by omega), if_pos rfl] at h; exact h
theorem hok_if {H k : Nat} {cs : List Nat} (h : hok H (3009 :: cs) k) : hok H cs (k - 2) := by unfold hok at h; rw [if_neg (by omega), if_neg (by omega), if_pos rfl] at h; exact h
theorem hok_bin {H c k : Nat} {cs : List Nat} (hc : isB c) (h : hok H (c :: cs) k) : hok H cs (k - 1) := by
  unfold isB at hc
  unfold hok at h
  rw [if_neg (by omega), if_neg (by omega), if_neg (by omega)] at h
  exact h
/-- one step of a whole code, told apart -/
theorem okc_step {c : Nat} {cs : List Nat} {ts : List Bool} {b : Bool} {st : List Int32} {H : Nat} (hk : okc (c :: cs) ts b) (hT : TV st ts) (hh : hok H (c :: cs) st.length) :
    (∃ ts', c < 1005 ∧ ts' = false :: ts ∧ okc cs ts' b ∧ st.length < H ∧ hok H cs (st.length + 1)) ∨
    (∃ a r ts', c = 3006 ∧ st = a :: r ∧ okc cs ts' b ∧ TV ((1 - a) :: r) ts' ∧ hok H cs (r.length + 1)) ∨
    (∃ e t x r ts', c = 3009 ∧ st = e :: t :: x :: r ∧ (x = 0 ∨ x = 1) ∧ okc cs ts' b ∧ TV ((if x = 1 then t else e) :: r) ts' ∧ hok H cs (r.length + 1)) ∨
    (∃ y x r ts', isB c ∧ st = y :: x :: r ∧ okc cs ts' b ∧ TV (bop c x y :: r) ts' ∧ hok H cs (r.length + 1)) := by
  have one : ∀ {v : Int32} {t0 : List Int32} {b0 : Bool} {u0 : List Bool}, t0.length = u0.length + 1 → TV t0 (b0 :: u0) → ∃ v r, t0 = v :: r ∧ (b0 = true → v = 0 ∨ v = 1) ∧ TV r u0 := by
    intro v t0 b0 u0 _ h
    cases t0 with
    | nil => exact h.elim
    | cons v r => exact ⟨v, r, rfl, h.1, h.2⟩
  rcases hk with ⟨h1, h2⟩ | ⟨rfl, r, rfl, h2⟩ | ⟨rfl, r, rfl, h2⟩ | ⟨h1, r, rfl, h2⟩ | ⟨h1, r, rfl, h2⟩ | ⟨h1, r, rfl, h2⟩
  · exact Or.inl ⟨_, h1, rfl, h2, hok_push h1 hh⟩
  · obtain ⟨a, r', rfl, q1, q2⟩ := one (v := 0) hT.len hT
    refine Or.inr (Or.inl ⟨a, r', _, rfl, rfl, h2, ⟨fun _ => ?_, q2⟩, hok_not hh⟩)
    rcases q1 rfl with rfl | rfl
    · exact Or.inr rfl
    · exact Or.inl rfl
  · obtain ⟨e, r1, rfl, q1, q2⟩ := one (v := 0) hT.len hT
    obtain ⟨t, r2, rfl, q3, q4⟩ := one (v := 0) q2.len q2
    obtain ⟨x, r3, rfl, q5, q6⟩ := one (v := 0) q4.len q4
    refine Or.inr (Or.inr (Or.inl ⟨e, t, x, r3, _, rfl, rfl, q5 rfl, h2, ⟨nofun, q6⟩, ?_⟩))
    have := hok_if hh
    simpa using this
  · obtain ⟨y, r1, rfl, q1, q2⟩ := one (v := 0) hT.len hT
    obtain ⟨x, r2, rfl, q3, q4⟩ := one (v := 0) q2.len q2
    have hb : isB c := Or.inl ⟨h1.1, by omega⟩
    refine Or.inr (Or.inr (Or.inr ⟨y, x, r2, _, hb, rfl, h2, ⟨nofun, q4⟩, ?_⟩))
    have := hok_bin hb hh
    simpa using this
  · obtain ⟨y, r1, rfl, q1, q2⟩ := one (v := 0) hT.len hT
    obtain ⟨x, r2, rfl, q3, q4⟩ := one (v := 0) q2.len q2
    have hb : isB c := Or.inl ⟨by omega, h1.2⟩
    refine Or.inr (Or.inr (Or.inr ⟨y, x, r2, _, hb, rfl, h2, ⟨fun _ => bop_truth (Or.inl h1), q4⟩, ?_⟩))
    have := hok_bin hb hh
    simpa using this
  · obtain ⟨y, r1, rfl, q1, q2⟩ := one (v := 0) hT.len hT
    obtain ⟨x, r2, rfl, q3, q4⟩ := one (v := 0) q2.len q2
    have hb : isB c := Or.inr h1
    refine Or.inr (Or.inr (Or.inr ⟨y, x, r2, _, hb, rfl, h2, ⟨fun _ => bop_truth (Or.inr ⟨h1, q3 rfl, q1 rfl⟩), q4⟩, ?_⟩))
    have := hok_bin hb hh
    simpa using this
theorem nI_m2 (n : Nat) : nI (n + 3) + Int32.ofInt (-2) = nI (n + 1) := by
  have h1 := nI_m1 (n := n + 3) (by omega)
  have h2 := nI_m1 (n := n + 2) (by omega)
  rw [show n + 3 - 1 = n + 2 by omega] at h1
  rw [show n + 2 - 1 = n + 1 by omega] at h2
  rw [← h2, ← h1, Int32.add_assoc]
  rfl
theorem drop_cons {α : Type} {l : List α} {i : Nat} {c : α} {cs : List α} (h : l.drop i = c :: cs) : l[i]? = some c ∧ i < l.length ∧ l.drop (i + 1) = cs := by
  have hl : i < l.length := by
    rcases Nat.lt_or_ge i l.length with q | q
    · exact q
    · rw [List.drop_eq_nil_of_le q] at h; cases h
  rw [List.drop_eq_getElem_cons hl] at h
  cases h
  exact ⟨List.getElem?_eq_getElem hl, hl, rfl⟩
section ZT
variable {g : zG} {d : Nat}
theorem lp_tell {code : List Nat} {b : Bool} {H rl rs rk : Nat} {fs w : Nat → Int32} (hH : H < 2 ^ 31) (hcl : code.length < 2 ^ 31) (hH0 : 0 < H) (hfs : ∀ j c, code[j]? = some c → fs j = cl c) (n1 : rk ≠ rl) (n2 : rk ≠ rs) (n3 : rk ≠ 24) : ∀ (cs : List Nat) (i : Nat) (st : List Int32) (ts : List Bool) (x : Option Value) (h : zH) (sk : Nat → Int32), code.drop i = cs → i ≤ code.length → TV st ts → okc cs ts b → hok H cs st.length → st.length ≤ H → SA sk st →
    h[rl]? = some (.inr (2, [.ref rs, .ref rk])) → h[rs]? = some (.inl (0, code.length, .inl fs)) → h[rk]? = some (.inl (0, H, .inl sk)) → h[24]? = some (.inl (0, 5, .inl w)) →
    Zw g (d + 2) 0 0 mX2_tell 4 [some (.ref rl), some (.ref 24), some (.int (nI st.length)), some (.int (nI i)), x] [] h (rIp (fun r h' => evl w cs st = [r] ∧ ∃ sk', h' = h.set rk (.inl (0, H, .inl sk')))) := by
  intro cs
  induction cs with
  | nil =>
    intro i st ts x h sk hdr hil hT hk hh hle hS hO hSt hSk hW
    have hi : i = code.length := by
      have : code.length ≤ i := by simpa using hdr
      omega
    subst hi
    have hts : ts = [b] := hk
    subst hts
    obtain ⟨v, rfl⟩ : ∃ v, st = [v] := by
      match st, hT with
      | [v], _ => exact ⟨v, rfl⟩
      | [], h => exact h.elim
      | _ :: _ :: _, h => exact h.2.elim
    refine x_il3 dX2_tell_4 ?_
    refine x_al0 rfl dX2_tell_5 ?_
    refine x_get fdX2_7 hO rfl dX2_tell_6 ?_
    refine x_alen rfl hSt rfl dX2_tell_9 ?_
    refine x_icmp_ge (tgt := 206) dX2_tell_10 rfl (fun q1 => ?_) (fun q1 => ?_)
    · refine x_al0 rfl dX2_tell_206 ?_
      refine x_get fdX2_19 hO rfl dX2_tell_207 ?_
      refine x_iconst (v := nI 0) dX2_tell_210 rfl ?_
      refine x_iald hSk (vp_in_nI hH0 hH) (ald hS.1 (by decide)) dX2_tell_211 ?_
      exact x_iret rfl rfl dX2_tell_212 ⟨_, rfl, rfl, sk, (hs_same hSk).symm⟩
    · exact absurd (nI_le (Nat.le_refl _) (by omega)) q1
  | cons c cs ih =>
    intro i st ts x h sk hdr hil hT hk hh hle hS hO hSt hSk hW
    obtain ⟨hci, hilt, hdr'⟩ := drop_cons hdr
    have fin : ∀ (st' : List Int32) (ts' : List Bool) (sk' : Nat → Int32), TV st' ts' → okc cs ts' b → hok H cs st'.length → st'.length ≤ H → SA sk' st' → ev1 w c st = st' → Zw g (d + 2) 0 0 mX2_tell 200 [some (.ref rl), some (.ref 24), some (.int (nI st'.length)), some (.int (nI i)), some (.int (cl c))] [] (h.set rk (.inl (0, H, .inl sk'))) (rIp (fun r h' => evl w (c :: cs) st = [r] ∧ ∃ sk', h' = h.set rk (.inl (0, H, .inl sk')))) := by
      intro st' ts' sk' a1 a2 a3 a4 a5 a6
      first | refine x_ii3 rfl (nI_1 _) dX2_tell_200 ?_ | refine x_ii3 rfl rfl dX2_tell_200 ?_
      refine x_goto (tgt := 4) dX2_tell_203 rfl ?_
      refine Zw.mono (ih (i + 1) st' ts' _ _ sk' hdr' (by omega) a1 a2 a3 a4 a5 (by rw [hs_ne n1]; exact hO) (by rw [hs_ne n2]; exact hSt) (hs_eq hSk) (by rw [hs_ne n3]; exact hW)) (fun v h' hq => ?_)
      obtain ⟨r, rfl, h1, sk2, rfl⟩ := hq
      exact ⟨r, rfl, by rw [evl, a6]; exact h1, sk2, hs_hs⟩
    refine x_il3 dX2_tell_4 ?_
    refine x_al0 rfl dX2_tell_5 ?_
    refine x_get fdX2_7 hO rfl dX2_tell_6 ?_
    refine x_alen rfl hSt rfl dX2_tell_9 ?_
    refine x_icmp_ge (tgt := 206) dX2_tell_10 rfl (fun q1 => ?_) (fun q1 => ?_)
    · exact absurd q1 (nI_ge hilt hcl)
    · refine x_al0 rfl dX2_tell_13 ?_
      refine x_get fdX2_7 hO rfl dX2_tell_14 ?_
      refine x_il3 dX2_tell_17 ?_
      refine x_iald hSt (vp_in_nI hilt hcl) (ald (hfs i c hci) (by omega)) dX2_tell_18 ?_
      refine x_is4 rfl dX2_tell_19 ?_
      refine x_il4 dX2_tell_21 ?_
      refine x_bipush (v := (-5)) dX2_tell_23 rfl ?_
      rcases okc_step hk hT hh with ⟨ts', h1, rfl, h2, h3, h4⟩ | ⟨a, r, ts', rfl, rfl, h2, h3, h4⟩ | ⟨e, t, y, r, ts', rfl, rfl, hy, h2, h3, h4⟩ | ⟨y, z, r, ts', hb, rfl, h2, h3, h4⟩
      · have fin' : ∀ v, ev1 w c st = v :: st → Zw g (d + 2) 0 0 mX2_tell 67 [some (.ref rl), some (.ref 24), some (.int (nI st.length)), some (.int (nI i)), some (.int (cl c))] [.int v, .int (nI st.length), .ref rk] h (rIp (fun r h' => evl w (c :: cs) st = [r] ∧ ∃ sk', h' = h.set rk (.inl (0, H, .inl sk')))) := by
          intro v hv
          refine x_iast hSk (vp_in_nI h3 hH) dX2_tell_67 ?_
          first | refine x_ii2 rfl (nI_1 _) dX2_tell_68 ?_ | refine x_ii2 rfl rfl dX2_tell_68 ?_
          refine x_goto (tgt := 200) dX2_tell_71 rfl ?_
          rw [nI_clamp (by omega)]
          exact fin (v :: st) (false :: ts) _ ⟨nofun, hT⟩ h2 h4 h3 hS.push hv
        rcases Nat.lt_or_ge c 1000 with hc | hc
        · obtain ⟨e1, e2, e3, e4⟩ := cl_num c hc
          rw [e1] at fin' ⊢
          refine x_icmp_lt (tgt := 74) dX2_tell_25 rfl (fun q2 => ?_) (fun q2 => ?_)
          · exact absurd q2 e2
          · refine x_il2 dX2_tell_28 ?_
            refine x_al0 rfl dX2_tell_29 ?_
            refine x_get fdX2_19 hO rfl dX2_tell_30 ?_
            refine x_alen rfl hSk rfl dX2_tell_33 ?_
            refine x_icmp_ge (tgt := 200) dX2_tell_34 rfl (fun q3 => ?_) (fun q3 => ?_)
            · exact absurd q3 (nI_ge h3 hH)
            · refine x_il4 dX2_tell_37 ?_
              refine x_ineg (rfl) dX2_tell_39 ?_
              refine x_al1 rfl dX2_tell_40 ?_
              refine x_alen rfl hW rfl dX2_tell_41 ?_
              refine x_icmp_gt (tgt := 200) dX2_tell_42 rfl (fun q4 => ?_) (fun q4 => ?_)
              · exact absurd q4 e3
              · refine x_al0 rfl dX2_tell_45 ?_
                refine x_get fdX2_19 hO rfl dX2_tell_46 ?_
                refine x_il2 dX2_tell_49 ?_
                refine x_il4 dX2_tell_50 ?_
                refine x_if_lt (tgt := 60) dX2_tell_52 rfl (fun q5 => ?_) (fun q5 => ?_)
                · exact absurd q5 e4
                · refine x_il4 dX2_tell_55 ?_
                  refine x_goto (tgt := 67) dX2_tell_57 rfl ?_
                  exact fin' _ (ev1_num hc)
        · obtain ⟨k, rfl⟩ : ∃ k, c = 1000 + k := ⟨c - 1000, by omega⟩
          have hk5 : k < 5 := by omega
          obtain ⟨e1, e2, e3, e4, e5⟩ := cl_word k hk5
          rw [e1] at fin' ⊢
          refine x_icmp_lt (tgt := 74) dX2_tell_25 rfl (fun q2 => ?_) (fun q2 => ?_)
          · exact absurd q2 e2
          · refine x_il2 dX2_tell_28 ?_
            refine x_al0 rfl dX2_tell_29 ?_
            refine x_get fdX2_19 hO rfl dX2_tell_30 ?_
            refine x_alen rfl hSk rfl dX2_tell_33 ?_
            refine x_icmp_ge (tgt := 200) dX2_tell_34 rfl (fun q3 => ?_) (fun q3 => ?_)
            · exact absurd q3 (nI_ge h3 hH)
            · refine x_il4 dX2_tell_37 ?_
              refine x_ineg (rfl) dX2_tell_39 ?_
              refine x_al1 rfl dX2_tell_40 ?_
              refine x_alen rfl hW rfl dX2_tell_41 ?_
              refine x_icmp_gt (tgt := 200) dX2_tell_42 rfl (fun q4 => ?_) (fun q4 => ?_)
              · exact absurd q4 e3
              · refine x_al0 rfl dX2_tell_45 ?_
                refine x_get fdX2_19 hO rfl dX2_tell_46 ?_
                refine x_il2 dX2_tell_49 ?_
                refine x_il4 dX2_tell_50 ?_
                refine x_if_lt (tgt := 60) dX2_tell_52 rfl (fun q5 => ?_) (fun q5 => ?_)
                · refine x_al1 rfl dX2_tell_60 ?_
                  refine x_il4 dX2_tell_61 ?_
                  refine x_ineg (rfl) dX2_tell_63 ?_
                  refine x_iconst (v := nI 1) dX2_tell_64 rfl ?_
                  refine x_isub (e5) dX2_tell_65 ?_
                  refine x_iald hW (vp_in_nI hk5 (by decide)) (ald rfl (by omega)) dX2_tell_66 ?_
                  exact fin' _ (ev1_word hk5)
                · exact absurd e4 q5
      · rw [cl_not] at fin ⊢
        refine x_icmp_lt (tgt := 74) dX2_tell_25 rfl (fun q2 => ?_) (fun q2 => ?_)
        · refine x_il4 dX2_tell_74 ?_
          refine x_bipush (v := (-14)) dX2_tell_76 rfl ?_
          refine x_icmp_ne (tgt := 107) dX2_tell_78 rfl (fun q3 => ?_) (fun q3 => ?_)
          · exact absurd rfl q3
          · refine x_il2 dX2_tell_81 ?_
            refine x_iconst (v := nI 1) dX2_tell_82 rfl ?_
            refine x_icmp_lt (tgt := 200) dX2_tell_83 rfl (fun q4 => ?_) (fun q4 => ?_)
            · exact absurd q4 (nI_nlt (by simp) (by simp at hle ⊢; omega))
            · refine x_al0 rfl dX2_tell_86 ?_
              refine x_get fdX2_19 hO rfl dX2_tell_87 ?_
              refine x_il2 dX2_tell_90 ?_
              refine x_iconst (v := nI 1) dX2_tell_91 rfl ?_
              refine x_isub (pk_sub (by simp)) dX2_tell_92 ?_
              refine x_iconst (v := nI 1) dX2_tell_93 rfl ?_
              refine x_al0 rfl dX2_tell_94 ?_
              refine x_get fdX2_19 hO rfl dX2_tell_95 ?_
              refine x_il2 dX2_tell_98 ?_
              refine x_iconst (v := nI 1) dX2_tell_99 rfl ?_
              refine x_isub (pk_sub (by simp)) dX2_tell_100 ?_
              have hl : (a :: r).length - 1 = r.length := by simp
              rw [hl]
              simp only [List.length_cons] at hle
              refine x_iald hSk (vp_in_nI (by omega) hH) (ald hS.1 (by omega)) dX2_tell_101 ?_
              refine x_isub (rfl) dX2_tell_102 ?_
              refine x_iast hSk (vp_in_nI (by omega) hH) dX2_tell_103 ?_
              refine x_goto (tgt := 200) dX2_tell_104 rfl ?_
              rw [nI_clamp (by omega)]
              exact fin ((1 - a) :: r) ts' _ h3 h2 h4 (by simp; omega) hS.2.push ev1_not
        · exact absurd (by decide) q2
      · rw [cl_if] at fin ⊢
        simp only [List.length_cons] at hle
        have l3 : (e :: t :: y :: r).length - 3 = r.length := by simp
        have l2 : (e :: t :: y :: r).length - 2 = r.length + 1 := by simp
        have l1 : (e :: t :: y :: r).length - 1 = r.length + 2 := by simp
        have fin' : ∀ v, v = (if y = 1 then t else e) → Zw g (d + 2) 0 0 mX2_tell 156 [some (.ref rl), some (.ref 24), some (.int (nI (e :: t :: y :: r).length)), some (.int (nI i)), some (.int (-15))] [.int v, .int (nI r.length), .ref rk] h (rIp (fun r0 h' => evl w (3009 :: cs) (e :: t :: y :: r) = [r0] ∧ ∃ sk', h' = h.set rk (.inl (0, H, .inl sk')))) := by
          intro v hv
          refine x_iast hSk (vp_in_nI (by omega) hH) dX2_tell_156 ?_
          refine x_ii2 rfl ((nI_m2 r.length)) dX2_tell_157 ?_
          refine x_goto (tgt := 200) dX2_tell_160 rfl ?_
          rw [nI_clamp (by omega)]
          exact fin (v :: r) ts' _ (by rw [hv]; exact h3) h2 h4 (by simp; omega) hS.2.2.2.push (by rw [ev1_if, hv])
        refine x_icmp_lt (tgt := 74) dX2_tell_25 rfl (fun q2 => ?_) (fun q2 => ?_)
        · refine x_il4 dX2_tell_74 ?_
          refine x_bipush (v := (-14)) dX2_tell_76 rfl ?_
          refine x_icmp_ne (tgt := 107) dX2_tell_78 rfl (fun q3 => ?_) (fun q3 => ?_)
          · refine x_il4 dX2_tell_107 ?_
            refine x_bipush (v := (-15)) dX2_tell_109 rfl ?_
            refine x_icmp_ne (tgt := 163) dX2_tell_111 rfl (fun q4 => ?_) (fun q4 => ?_)
            · exact absurd rfl q4
            · refine x_il2 dX2_tell_114 ?_
              refine x_iconst (v := nI 3) dX2_tell_115 rfl ?_
              refine x_icmp_lt (tgt := 200) dX2_tell_116 rfl (fun q5 => ?_) (fun q5 => ?_)
              · exact absurd q5 (nI_nlt (by simp) (by simp; omega))
              · refine x_al0 rfl dX2_tell_119 ?_
                refine x_get fdX2_19 hO rfl dX2_tell_120 ?_
                refine x_il2 dX2_tell_123 ?_
                refine x_iconst (v := nI 3) dX2_tell_124 rfl ?_
                refine x_isub (pk_sub (by simp)) dX2_tell_125 ?_
                refine x_al0 rfl dX2_tell_126 ?_
                refine x_get fdX2_19 hO rfl dX2_tell_127 ?_
                refine x_il2 dX2_tell_130 ?_
                refine x_iconst (v := nI 3) dX2_tell_131 rfl ?_
                refine x_isub (pk_sub (by simp)) dX2_tell_132 ?_
                rw [l3]
                refine x_iald hSk (vp_in_nI (by omega) hH) (ald hS.2.2.1 (by omega)) dX2_tell_133 ?_
                refine x_if_eq (tgt := 148) dX2_tell_134 rfl (fun q6 => ?_) (fun q6 => ?_)
                · refine x_al0 rfl dX2_tell_148 ?_
                  refine x_get fdX2_19 hO rfl dX2_tell_149 ?_
                  refine x_il2 dX2_tell_152 ?_
                  refine x_iconst (v := nI 1) dX2_tell_153 rfl ?_
                  refine x_isub (pk_sub (by simp)) dX2_tell_154 ?_
                  rw [l1]
                  refine x_iald hSk (vp_in_nI (by omega) hH) (ald hS.1 (by simp; omega)) dX2_tell_155 ?_
                  exact fin' _ (by rw [q6, if_neg (by decide)])
                · refine x_al0 rfl dX2_tell_137 ?_
                  refine x_get fdX2_19 hO rfl dX2_tell_138 ?_
                  refine x_il2 dX2_tell_141 ?_
                  refine x_iconst (v := nI 2) dX2_tell_142 rfl ?_
                  refine x_isub (pk_sub (by simp)) dX2_tell_143 ?_
                  rw [l2]
                  refine x_iald hSk (vp_in_nI (by omega) hH) (ald hS.2.1 (by simp; omega)) dX2_tell_144 ?_
                  refine x_goto (tgt := 156) dX2_tell_145 rfl ?_
                  exact fin' _ (by rcases hy with z | z; exact absurd z q6; rw [z, if_pos rfl])
          · exact absurd q3 (by decide)
        · exact absurd (by decide) q2
      · obtain ⟨c1, c2, c3⟩ := cl_bin hb
        simp only [List.length_cons] at hle
        have l2 : (y :: z :: r).length - 2 = r.length := by simp
        have l1 : (y :: z :: r).length - 1 = r.length + 1 := by simp
        refine x_icmp_lt (tgt := 74) dX2_tell_25 rfl (fun q2 => ?_) (fun q2 => ?_)
        · refine x_il4 dX2_tell_74 ?_
          refine x_bipush (v := (-14)) dX2_tell_76 rfl ?_
          refine x_icmp_ne (tgt := 107) dX2_tell_78 rfl (fun q3 => ?_) (fun q3 => ?_)
          · refine x_il4 dX2_tell_107 ?_
            refine x_bipush (v := (-15)) dX2_tell_109 rfl ?_
            refine x_icmp_ne (tgt := 163) dX2_tell_111 rfl (fun q4 => ?_) (fun q4 => ?_)
            · refine x_il2 dX2_tell_163 ?_
              refine x_iconst (v := nI 2) dX2_tell_164 rfl ?_
              refine x_icmp_lt (tgt := 200) dX2_tell_165 rfl (fun q5 => ?_) (fun q5 => ?_)
              · exact absurd q5 (nI_nlt (by simp) (by simp; omega))
              · refine x_al0 rfl dX2_tell_168 ?_
                refine x_get fdX2_19 hO rfl dX2_tell_169 ?_
                refine x_il2 dX2_tell_172 ?_
                refine x_iconst (v := nI 2) dX2_tell_173 rfl ?_
                refine x_isub (pk_sub (by simp)) dX2_tell_174 ?_
                refine x_il4 dX2_tell_175 ?_
                refine x_al0 rfl dX2_tell_177 ?_
                refine x_get fdX2_19 hO rfl dX2_tell_178 ?_
                refine x_il2 dX2_tell_181 ?_
                refine x_iconst (v := nI 2) dX2_tell_182 rfl ?_
                refine x_isub (pk_sub (by simp)) dX2_tell_183 ?_
                rw [l2]
                refine x_iald hSk (vp_in_nI (by omega) hH) (ald hS.2.1 (by omega)) dX2_tell_184 ?_
                refine x_al0 rfl dX2_tell_185 ?_
                refine x_get fdX2_19 hO rfl dX2_tell_186 ?_
                refine x_il2 dX2_tell_189 ?_
                refine x_iconst (v := nI 1) dX2_tell_190 rfl ?_
                refine x_isub (pk_sub (by simp)) dX2_tell_191 ?_
                rw [l1]
                refine x_iald hSk (vp_in_nI (by omega) hH) (ald hS.1 (by simp; omega)) dX2_tell_192 ?_
                refine x_cs3I mX2_joined_ok lkX2_22 (Nat.le_of_ble_eq_true rfl) (Nat.le_of_ble_eq_true rfl) dX2_tell_193 (c_X2_joined hb) ?_
                refine x_iast hSk (vp_in_nI (by omega) hH) dX2_tell_196 ?_
                refine x_ii2 rfl ((nI_m1 (n := r.length + 2) (by omega))) dX2_tell_197 ?_
                rw [nI_clamp (by omega)]
                exact fin (bop c z y :: r) ts' _ h3 h2 h4 (by simp; omega) hS.2.2.push (ev1_bin hb)
            · exact absurd q4 c3
          · exact absurd q3 c2
        · exact absurd c1 q2
end ZT

