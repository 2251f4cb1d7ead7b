/-! the model: its cells; nameIn, numberNow, swapTo, nightTo, isIn, small tests -/
def mF (s : Nat → Value) : List Value := (List.range 41).map s
theorem mf_get {s : Nat → Value} {k : Nat} {v : Value} (hk : k < 41) (hv : s k = v) : (mF s)[k]? = some v := by
  unfold mF
  rw [List.getElem?_map, List.getElem?_range hk, ← hv]
  rfl
theorem mf_set {s : Nat → Value} {k : Nat} {v : Value} (hk : k < 41) : (mF s).set k v = mF (va_up s k v) := by
  apply List.ext_getElem?
  intro j
  unfold mF
  rw [List.getElem?_set]
  simp only [List.length_map, List.length_range, List.getElem?_map]
  by_cases hj : k = j
  · subst hj
    simp [hk, List.getElem?_range hk, va_up]
  · rw [if_neg hj]
    cases hr : (List.range 41)[j]? with
    | none => rfl
    | some a =>
      have ha : a = j := by
        have h1 := (List.getElem?_eq_some_iff.mp hr)
        obtain ⟨h2, h3⟩ := h1
        simpa using h3.symm
      subst ha
      simp [va_up, Ne.symm hj]
section ZM0
variable {g : zG} {d κ σ : Nat} {m : zMe} {pc : Nat} {ls : zL} {st : List Value} {h : zH} {Q : Option Value → zH → Prop} {s : Nat → Value}
theorem x_gm {n k : Nat} {ty : FieldType} {fin : Bool} {v : Value} (hf : zFd m.1.cls n 12 k ty fin) (hM : h[59]? = some (.inr (12, mF s))) (hk : k < 41) (hv : s k = v) (hd : decode m.2.1 pc = .ok (.getfield n, 3)) (kk : Zw g d κ σ m (pc + 3) ls (v :: st) h Q) : Zw g d κ σ m pc ls (.ref 59 :: st) h Q := x_get hf hM (mf_get hk hv) hd kk
theorem x_pm {n k : Nat} {ty : FieldType} {v : Value} (hf : zFd m.1.cls n 12 k ty false) (hM : h[59]? = some (.inr (12, mF s))) (hk : k < 41) (hz : z_fit ty v) (hd : decode m.2.1 pc = .ok (.putfield n, 3)) (kk : Zw g d κ σ m (pc + 3) ls st (h.set 59 (.inr (12, mF (va_up s k v)))) Q) : Zw g d κ σ m pc ls (v :: .ref 59 :: st) h Q := x_put hf hM hz (by simp [mF, hk]) hd (by rw [mf_set hk]; exact kk)
end ZM0
/-- its fields that are arrays -/
def MR (s : Nat → Value) : Prop := s 1 = .ref 60 ∧ s 2 = .ref 61 ∧ s 3 = .ref 62 ∧ s 4 = .ref 63 ∧ s 15 = .ref 64 ∧ s 16 = .ref 65 ∧ s 18 = .ref 66 ∧ s 19 = .ref 67 ∧ s 20 = .ref 68 ∧ s 23 = .ref 69 ∧ s 26 = .ref 70 ∧ s 27 = .ref 71 ∧ s 28 = .ref 72 ∧ s 29 = .ref 73 ∧ s 30 = .ref 74 ∧ s 31 = .ref 75 ∧ s 33 = .ref 76 ∧ s 34 = .ref 77 ∧ s 35 = .ref 78 ∧ s 37 = .ref 79 ∧ s 38 = .ref 80 ∧ s 39 = .ref 81 ∧ s 40 = .ref 82
theorem MR.f1 {s : Nat → Value} (h : MR s) : s 1 = .ref 60 := h.1
theorem MR.f2 {s : Nat → Value} (h : MR s) : s 2 = .ref 61 := h.2.1
theorem MR.f3 {s : Nat → Value} (h : MR s) : s 3 = .ref 62 := h.2.2.1
theorem MR.f4 {s : Nat → Value} (h : MR s) : s 4 = .ref 63 := h.2.2.2.1
theorem MR.f15 {s : Nat → Value} (h : MR s) : s 15 = .ref 64 := h.2.2.2.2.1
theorem MR.f16 {s : Nat → Value} (h : MR s) : s 16 = .ref 65 := h.2.2.2.2.2.1
theorem MR.f18 {s : Nat → Value} (h : MR s) : s 18 = .ref 66 := h.2.2.2.2.2.2.1
theorem MR.f19 {s : Nat → Value} (h : MR s) : s 19 = .ref 67 := h.2.2.2.2.2.2.2.1
theorem MR.f20 {s : Nat → Value} (h : MR s) : s 20 = .ref 68 := h.2.2.2.2.2.2.2.2.1
theorem MR.f23 {s : Nat → Value} (h : MR s) : s 23 = .ref 69 := h.2.2.2.2.2.2.2.2.2.1
theorem MR.f26 {s : Nat → Value} (h : MR s) : s 26 = .ref 70 := h.2.2.2.2.2.2.2.2.2.2.1
theorem MR.f27 {s : Nat → Value} (h : MR s) : s 27 = .ref 71 := h.2.2.2.2.2.2.2.2.2.2.2.1
theorem MR.f28 {s : Nat → Value} (h : MR s) : s 28 = .ref 72 := h.2.2.2.2.2.2.2.2.2.2.2.2.1
theorem MR.f29 {s : Nat → Value} (h : MR s) : s 29 = .ref 73 := h.2.2.2.2.2.2.2.2.2.2.2.2.2.1
theorem MR.f30 {s : Nat → Value} (h : MR s) : s 30 = .ref 74 := h.2.2.2.2.2.2.2.2.2.2.2.2.2.2.1
theorem MR.f31 {s : Nat → Value} (h : MR s) : s 31 = .ref 75 := h.2.2.2.2.2.2.2.2.2.2.2.2.2.2.2.1
theorem MR.f33 {s : Nat → Value} (h : MR s) : s 33 = .ref 76 := h.2.2.2.2.2.2.2.2.2.2.2.2.2.2.2.2.1
theorem MR.f34 {s : Nat → Value} (h : MR s) : s 34 = .ref 77 := h.2.2.2.2.2.2.2.2.2.2.2.2.2.2.2.2.2.1
theorem MR.f35 {s : Nat → Value} (h : MR s) : s 35 = .ref 78 := h.2.2.2.2.2.2.2.2.2.2.2.2.2.2.2.2.2.2.1
theorem MR.f37 {s : Nat → Value} (h : MR s) : s 37 = .ref 79 := h.2.2.2.2.2.2.2.2.2.2.2.2.2.2.2.2.2.2.2.1
theorem MR.f38 {s : Nat → Value} (h : MR s) : s 38 = .ref 80 := h.2.2.2.2.2.2.2.2.2.2.2.2.2.2.2.2.2.2.2.2.1
theorem MR.f39 {s : Nat → Value} (h : MR s) : s 39 = .ref 81 := h.2.2.2.2.2.2.2.2.2.2.2.2.2.2.2.2.2.2.2.2.2.1
theorem MR.f40 {s : Nat → Value} (h : MR s) : s 40 = .ref 82 := h.2.2.2.2.2.2.2.2.2.2.2.2.2.2.2.2.2.2.2.2.2.2
theorem MR.up {s : Nat → Value} {k : Nat} {v : Value} (h : MR s) (hk : k ∉ ([1, 2, 3, 4, 15, 16, 18, 19, 20, 23, 26, 27, 28, 29, 30, 31, 33, 34, 35, 37, 38, 39, 40] : List Nat)) : MR (va_up s k v) := by
  simp only [List.mem_cons, List.not_mem_nil, or_false, not_or] at hk
  unfold MR at h ⊢
  simp only [va_up]
  obtain ⟨a1, a2, a3, a4, a15, a16, a18, a19, a20, a23, a26, a27, a28, a29, a30, a31, a33, a34, a35, a37, a38, a39, a40⟩ := h
  obtain ⟨b1, b2, b3, b4, b15, b16, b18, b19, b20, b23, b26, b27, b28, b29, b30, b31, b33, b34, b35, b37, b38, b39, b40⟩ := hk
  refine ⟨by rw [if_neg (fun q => b1 q.symm)]; exact a1, by rw [if_neg (fun q => b2 q.symm)]; exact a2, by rw [if_neg (fun q => b3 q.symm)]; exact a3, by rw [if_neg (fun q => b4 q.symm)]; exact a4, by rw [if_neg (fun q => b15 q.symm)]; exact a15, by rw [if_neg (fun q => b16 q.symm)]; exact a16, by rw [if_neg (fun q => b18 q.symm)]; exact a18, by rw [if_neg (fun q => b19 q.symm)]; exact a19, by rw [if_neg (fun q => b20 q.symm)]; exact a20, by rw [if_neg (fun q => b23 q.symm)]; exact a23, by rw [if_neg (fun q => b26 q.symm)]; exact a26, by rw [if_neg (fun q => b27 q.symm)]; exact a27, by rw [if_neg (fun q => b28 q.symm)]; exact a28, by rw [if_neg (fun q => b29 q.symm)]; exact a29, by rw [if_neg (fun q => b30 q.symm)]; exact a30, by rw [if_neg (fun q => b31 q.symm)]; exact a31, by rw [if_neg (fun q => b33 q.symm)]; exact a33, by rw [if_neg (fun q => b34 q.symm)]; exact a34, by rw [if_neg (fun q => b35 q.symm)]; exact a35, by rw [if_neg (fun q => b37 q.symm)]; exact a37, by rw [if_neg (fun q => b38 q.symm)]; exact a38, by rw [if_neg (fun q => b39 q.symm)]; exact a39, by rw [if_neg (fun q => b40 q.symm)]; exact a40⟩
/-- the model's table and row in the making -/
def MT (h : zH) (s : Nat → Value) (al : Nat → Int32) (n : Nat) : Prop := h[59]? = some (.inr (12, mF s)) ∧ MR s ∧ h[60]? = some (.inl (0, 2868, .inl al)) ∧ al 1 = nI n ∧ 0 < n ∧ n ≤ 6 ∧ (∃ nf, h[64]? = some (.inl (0, 4320, .inl nf)) ∧ ∀ q, q < fct n → ∀ dd, dd < n → nf (6 * q + dd) = nI (nm n q dd)) ∧ ∃ ly, h[65]? = some (.inl (0, 6, .inl ly))
def Ml (h h' : zH) : Prop := ∃ f, h' = h.set 65 (.inl (0, 6, .inl f))
theorem Ml.set {h h' : zH} {f : Nat → Int32} (hq : Ml (h.set 65 (.inl (0, 6, .inl f))) h') : Ml h h' := by
  obtain ⟨f', rfl⟩ := hq
  exact ⟨f', hs_hs⟩
theorem Ml.tr {h h' h'' : zH} (a : Ml h h') (b : Ml h' h'') : Ml h h'' := by
  obtain ⟨f, rfl⟩ := a
  exact Ml.set b
theorem Ml.fr {h h' : zH} (b : Ml h h') : Fr [65] h h' := by
  obtain ⟨f, rfl⟩ := b
  exact Fr.set (by simp)
theorem MT.made {h : zH} {s : Nat → Value} {al : Nat → Int32} {n : Nat} {f : Nat → Int32} (a : MT h s al n) : MT (h.set 65 (.inl (0, 6, .inl f))) s al n := by
  obtain ⟨a1, a2, a3, a4, a5, a6, ⟨nf, a7, a8⟩, ly, a9⟩ := a
  exact ⟨by rw [hs_ne (by decide)]; exact a1, a2, by rw [hs_ne (by decide)]; exact a3, a4, a5, a6, ⟨nf, by rw [hs_ne (by decide)]; exact a7, a8⟩, f, hs_eq a9⟩
theorem Ml.mt {h h' : zH} {s : Nat → Value} {al : Nat → Int32} {n : Nat} (a : MT h s al n) (b : Ml h h') : MT h' s al n := by
  obtain ⟨f, rfl⟩ := b
  exact a.made
theorem MT.fr {ids : List Nat} {h h' : zH} {s : Nat → Value} {al : Nat → Int32} {n : Nat} (a : MT h s al n) (f : Fr ids h h') (h1 : 59 ∉ ids) (h2 : 60 ∉ ids) (h3 : 64 ∉ ids) (h4 : 65 ∉ ids) : MT h' s al n := by
  obtain ⟨a1, a2, a3, a4, a5, a6, ⟨nf, a7, a8⟩, ly, a9⟩ := a
  exact ⟨f.get a1 h1, a2, f.get a3 h2, a4, a5, a6, ⟨nf, f.get a7 h3, a8⟩, ly, f.get a9 h4⟩
section ZM1
variable {g : zG} {d : Nat} {h : zH} {s : Nat → Value} {al : Nat → Int32}
theorem m_nameIn {n q dd : Nat} (hT : MT h s al n) (hs : q < fct n) (hd : dd < n) : Zm g d 0 0 mX12_nameIn [.ref 59, .int (nI q), .int (nI dd)] h (rI (nI (nm n q dd)) h) := by
  obtain ⟨hM, hF, -, -, -, hn, ⟨nf, a7, a8⟩, -⟩ := hT
  have hf := fct_le hn
  show Zw g d 0 0 mX12_nameIn 0 [some (.ref 59), some (.int (nI q)), some (.int (nI dd))] [] h _
  refine x_al0 rfl dX12_nameIn_0 ?_
  refine x_gm fdX12_30 hM (by decide) hF.f15 dX12_nameIn_1 ?_
  refine x_bipush (v := nI 6) dX12_nameIn_4 rfl ?_
  refine x_il1 dX12_nameIn_6 ?_
  first | refine x_imul (pk_mul _ _) dX12_nameIn_7 ?_ | refine x_imul rfl dX12_nameIn_7 ?_
  refine x_il2 dX12_nameIn_8 ?_
  first | refine x_iadd (nI_add _ _) dX12_nameIn_9 ?_ | refine x_iadd rfl dX12_nameIn_9 ?_
  refine x_iald a7 (vp_in_nI (by omega) (by decide)) (ald (a8 q hs dd hd) (by omega)) dX12_nameIn_10 ?_
  exact x_iret rfl rfl dX12_nameIn_11 ⟨rfl, rfl⟩
theorem lp_num_in {n a dd : Nat} {ly : Nat → Int32} {p : Nat → Nat} {Q : Option Value → zH → Prop} (hM : h[59]? = some (.inr (12, mF s))) (hF : MR s) (hA : h[65]? = some (.inl (0, 6, .inl ly))) (hn : n ≤ 6) (hp : ∀ j, j < n → ly j = nI (p j) ∧ p j < 2 ^ 31) (hdd : dd < n) : ∀ (k e L : Nat), e + k = n → Zw g d 0 0 mX12_numberNow 62 [some (.ref 59), some (.int (nI n)), some (.int (nI a)), some (.int (nI dd)), some (.int (nI (L + less p dd k e))), some (.int (nI n))] [] h Q → Zw g d 0 0 mX12_numberNow 24 [some (.ref 59), some (.int (nI n)), some (.int (nI a)), some (.int (nI dd)), some (.int (nI L)), some (.int (nI e))] [] h Q := by
  intro k
  induction k with
  | zero =>
    intro e L he K
    obtain rfl : e = n := by omega
    refine x_il5 dX12_numberNow_24 ?_
    refine x_il1 dX12_numberNow_26 ?_
    refine x_icmp_ge (tgt := 62) dX12_numberNow_27 rfl (fun q1 => ?_) (fun q1 => ?_)
    · exact K
    · exact absurd (nI_le (Nat.le_refl _) (by omega)) q1
  | succ k ih =>
    intro e L he K
    have he2 : e < n := by omega
    refine x_il5 dX12_numberNow_24 ?_
    refine x_il1 dX12_numberNow_26 ?_
    refine x_icmp_ge (tgt := 62) dX12_numberNow_27 rfl (fun q1 => ?_) (fun q1 => ?_)
    · exact absurd q1 (nI_ge he2 (by omega))
    · refine x_il4 dX12_numberNow_30 ?_
      refine x_al0 rfl dX12_numberNow_32 ?_
      refine x_gm fdX12_33 hM (by decide) hF.f16 dX12_numberNow_33 ?_
      refine x_il5 dX12_numberNow_36 ?_
      refine x_iald hA (vp_in_nI (by omega) (by decide)) (ald (hp e he2).1 (by omega)) dX12_numberNow_38 ?_
      refine x_al0 rfl dX12_numberNow_39 ?_
      refine x_gm fdX12_33 hM (by decide) hF.f16 dX12_numberNow_40 ?_
      refine x_il3 dX12_numberNow_43 ?_
      refine x_iald hA (vp_in_nI (by omega) (by decide)) (ald (hp dd hdd).1 (by omega)) dX12_numberNow_44 ?_
      refine x_icmp_ge (tgt := 52) dX12_numberNow_45 rfl (fun q3 => ?_) (fun q3 => ?_)
      · rw [nI_leI (hp dd hdd).2 (hp e he2).2] at q3
        refine x_iconst (v := nI 0) dX12_numberNow_52 rfl ?_
        first | refine x_iadd (nI_add _ _) dX12_numberNow_53 ?_ | refine x_iadd rfl dX12_numberNow_53 ?_
        refine x_is4 rfl dX12_numberNow_54 ?_
        first | refine x_ii5 rfl (nI_1 _) dX12_numberNow_56 ?_ | refine x_ii5 rfl rfl dX12_numberNow_56 ?_
        refine x_goto (tgt := 24) dX12_numberNow_59 rfl ?_
        refine ih (e + 1) L (by omega) ?_
        have e0 : less p dd (k + 1) e = less p dd k (e + 1) := by rw [less, if_neg (by omega), Nat.zero_add]
        rw [← e0]
        exact K
      · rw [nI_leI (hp dd hdd).2 (hp e he2).2] at q3
        refine x_iconst (v := nI 1) dX12_numberNow_48 rfl ?_
        refine x_goto (tgt := 53) dX12_numberNow_49 rfl ?_
        first | refine x_iadd (nI_add _ _) dX12_numberNow_53 ?_ | refine x_iadd rfl dX12_numberNow_53 ?_
        refine x_is4 rfl dX12_numberNow_54 ?_
        first | refine x_ii5 rfl (nI_1 _) dX12_numberNow_56 ?_ | refine x_ii5 rfl rfl dX12_numberNow_56 ?_
        refine x_goto (tgt := 24) dX12_numberNow_59 rfl ?_
        refine ih (e + 1) (L + 1) (by omega) ?_
        have e0 : L + less p dd (k + 1) e = L + 1 + less p dd k (e + 1) := by rw [less, if_pos (by omega)]; omega
        rw [← e0]
        exact K
theorem lp_num {n : Nat} {ly : Nat → Int32} {p : Nat → Nat} (hM : h[59]? = some (.inr (12, mF s))) (hF : MR s) (hA : h[65]? = some (.inl (0, 6, .inl ly))) (hn : n ≤ 6) (hp : ∀ j, j < n → ly j = nI (p j) ∧ p j < 2 ^ 31) : ∀ (k dd a : Nat) (x y : Option Value), z_nl x = true → dd + k = n → Zw g d 0 0 mX12_numberNow 11 [some (.ref 59), some (.int (nI n)), some (.int (nI a)), some (.int (nI dd)), x, y] [] h (rI (nI (rnkL n p k dd a)) h) := by
  intro k
  induction k with
  | zero =>
    intro dd a x y hx he
    obtain rfl : dd = n := by omega
    refine x_il3 dX12_numberNow_11 ?_
    refine x_il1 dX12_numberNow_12 ?_
    refine x_icmp_ge (tgt := 77) dX12_numberNow_13 rfl (fun q1 => ?_) (fun q1 => ?_)
    · refine x_il2 dX12_numberNow_77 ?_
      exact x_iret rfl rfl dX12_numberNow_78 ⟨rfl, rfl⟩
    · exact absurd (nI_le (Nat.le_refl _) (by omega)) q1
  | succ k ih =>
    intro dd a x y hx he
    refine x_il3 dX12_numberNow_11 ?_
    refine x_il1 dX12_numberNow_12 ?_
    refine x_icmp_ge (tgt := 77) dX12_numberNow_13 rfl (fun q1 => ?_) (fun q1 => ?_)
    · exact absurd q1 (nI_ge (by omega) (by omega))
    · refine x_iconst (v := nI 0) dX12_numberNow_16 rfl ?_
      refine x_is4 rfl dX12_numberNow_17 ?_
      refine x_il3 dX12_numberNow_19 ?_
      refine x_iconst (v := nI 1) dX12_numberNow_20 rfl ?_
      first | refine x_iadd (nI_add _ _) dX12_numberNow_21 ?_ | refine x_iadd rfl dX12_numberNow_21 ?_
      refine x_is5 rfl dX12_numberNow_22 ?_
      refine lp_num_in (p := p) hM hF hA hn hp (by omega) (n - (dd + 1)) (dd + 1) 0 (by omega) ?_
      rw [Nat.zero_add]
      refine x_il2 dX12_numberNow_62 ?_
      refine x_il1 dX12_numberNow_63 ?_
      refine x_il3 dX12_numberNow_64 ?_
      refine x_isub (pk_sub (by omega)) dX12_numberNow_65 ?_
      first | refine x_imul (pk_mul _ _) dX12_numberNow_66 ?_ | refine x_imul rfl dX12_numberNow_66 ?_
      refine x_il4 dX12_numberNow_67 ?_
      first | refine x_iadd (nI_add _ _) dX12_numberNow_69 ?_ | refine x_iadd rfl dX12_numberNow_69 ?_
      refine x_is2 rfl dX12_numberNow_70 ?_
      first | refine x_ii3 rfl (nI_1 _) dX12_numberNow_71 ?_ | refine x_ii3 rfl rfl dX12_numberNow_71 ?_
      refine x_goto (tgt := 11) dX12_numberNow_74 rfl ?_
      exact ih (dd + 1) _ _ _ rfl (by omega)
theorem m_numberNow {n : Nat} {ly : Nat → Int32} {p : Nat → Nat} (hM : h[59]? = some (.inr (12, mF s))) (hF : MR s) (hL : h[60]? = some (.inl (0, 2868, .inl al))) (h1 : al 1 = nI n) (hA : h[65]? = some (.inl (0, 6, .inl ly))) (hn : n ≤ 6) (hp : ∀ j, j < n → ly j = nI (p j) ∧ p j < 2 ^ 31) : Zm g d 0 0 mX12_numberNow [.ref 59] h (rI (nI (rnk n p)) h) := by
  show Zw g d 0 0 mX12_numberNow 0 [some (.ref 59), none, none, none, none, none] [] h _
  refine x_al0 rfl dX12_numberNow_0 ?_
  refine x_gm fdX12_13 hM (by decide) hF.f1 dX12_numberNow_1 ?_
  refine x_iconst (v := nI 1) dX12_numberNow_4 rfl ?_
  refine x_iald hL (vp_in_nI (by decide) (by decide)) (ald h1 (by decide)) dX12_numberNow_5 ?_
  refine x_is1 rfl dX12_numberNow_6 ?_
  refine x_iconst (v := nI 0) dX12_numberNow_7 rfl ?_
  refine x_is2 rfl dX12_numberNow_8 ?_
  refine x_iconst (v := nI 0) dX12_numberNow_9 rfl ?_
  refine x_is3 rfl dX12_numberNow_10 ?_
  exact lp_num hM hF hA hn hp n 0 0 _ _ rfl (by omega)
theorem lp_swapTo {n q dd e : Nat} (hs : q < fct n) (hd : dd < n) (he : e < n) : ∀ (k j : Nat) (h : zH) (fm : Nat → Int32), j + k = n → MT h s al n → h[65]? = some (.inl (0, 6, .inl fm)) → (∀ i, i < j → fm i = nI (nm n q (swk dd e i))) →
    Zw g (d + 1) 0 0 mX12_swapTo 3 [some (.ref 59), some (.int (nI q)), some (.int (nI dd)), some (.int (nI e)), some (.int (nI j))] [] h (rIp (fun r h' => r = nI (rnk n (fun i => nm n q (swk dd e i))) ∧ Ml h h')) := by
  intro k
  induction k with
  | zero =>
    intro j h fm hj hT hm hp
    obtain ⟨hM, hF, hL, h1, h0, hn, -⟩ := id hT
    obtain rfl : j = n := by omega
    refine x_il4 dX12_swapTo_3 ?_
    refine x_al0 rfl dX12_swapTo_5 ?_
    refine x_gm fdX12_13 hM (by decide) hF.f1 dX12_swapTo_6 ?_
    refine x_iconst (v := nI 1) dX12_swapTo_9 rfl ?_
    refine x_iald hL (vp_in_nI (by decide) (by decide)) (ald h1 (by decide)) dX12_swapTo_10 ?_
    refine x_icmp_ge (tgt := 54) dX12_swapTo_11 rfl (fun q1 => ?_) (fun q1 => ?_)
    · refine x_al0 rfl dX12_swapTo_54 ?_
      refine x_cv0I mX12_numberNow_ok lkX12_220 rfl (Nat.le_of_ble_eq_true rfl) (Nat.le_of_ble_eq_true rfl) dX12_swapTo_55 hM  (m_numberNow (p := fun i => nm j q (swk dd e i)) hM hF hL h1 hm hn (fun i hi => ⟨hp i hi, Nat.lt_trans (nm_lt hn hs (swk_lt hd he hi)) (by omega)⟩)) ?_
      exact x_iret rfl rfl dX12_swapTo_58 ⟨_, rfl, rfl, fm, (hs_same hm).symm⟩
    · exact absurd (nI_le (Nat.le_refl _) (by omega)) q1
  | succ k ih =>
    intro j h fm hj hT hm hp
    obtain ⟨hM, hF, hL, h1, h0, hn, -⟩ := id hT
    have hjn : j < n := by omega
    have nx : ∀ i, i < n → i = swk dd e j → Zw g (d + 1) 0 0 mX12_swapTo 44 [some (.ref 59), some (.int (nI q)), some (.int (nI dd)), some (.int (nI e)), some (.int (nI j))] [.int (nI i), .int (nI q), .ref 59, .int (nI j), .ref 65] h (rIp (fun r h' => r = nI (rnk n (fun i => nm n q (swk dd e i))) ∧ Ml h h')) := by
      intro i hi hij
      refine x_cv2I mX12_nameIn_ok lkX12_251 rfl (Nat.le_of_ble_eq_true rfl) (Nat.le_of_ble_eq_true rfl) dX12_swapTo_44 hM  (m_nameIn hT hs hi) ?_
      refine x_iast hm (vp_in_nI (by omega) (by decide)) dX12_swapTo_47 ?_
      first | refine x_ii4 rfl (nI_1 _) dX12_swapTo_48 ?_ | refine x_ii4 rfl rfl dX12_swapTo_48 ?_
      refine x_goto (tgt := 3) dX12_swapTo_51 rfl ?_
      rw [nI_clamp (by omega)]
      refine Zw.mono (ih (j + 1) _ _ (by omega) hT.made (hs_eq hm) (fun a ha => ?_)) (fun v h' hq => ?_)
      · unfold upd
        split
        · next q => rw [q, hij]
        · exact hp a (by omega)
      · obtain ⟨r, rfl, h1, h2⟩ := hq
        exact ⟨r, rfl, h1, h2.set⟩
    refine x_il4 dX12_swapTo_3 ?_
    refine x_al0 rfl dX12_swapTo_5 ?_
    refine x_gm fdX12_13 hM (by decide) hF.f1 dX12_swapTo_6 ?_
    refine x_iconst (v := nI 1) dX12_swapTo_9 rfl ?_
    refine x_iald hL (vp_in_nI (by decide) (by decide)) (ald h1 (by decide)) dX12_swapTo_10 ?_
    refine x_icmp_ge (tgt := 54) dX12_swapTo_11 rfl (fun q1 => ?_) (fun q1 => ?_)
    · exact absurd q1 (nI_ge (by omega) (by omega))
    · refine x_al0 rfl dX12_swapTo_14 ?_
      refine x_gm fdX12_33 hM (by decide) hF.f16 dX12_swapTo_15 ?_
      refine x_il4 dX12_swapTo_18 ?_
      refine x_al0 rfl dX12_swapTo_20 ?_
      refine x_il1 dX12_swapTo_21 ?_
      refine x_il4 dX12_swapTo_22 ?_
      refine x_il2 dX12_swapTo_24 ?_
      refine x_icmp_ne (tgt := 32) dX12_swapTo_25 rfl (fun q2 => ?_) (fun q2 => ?_)
      · rw [nI_eq (by omega) (by omega)] at q2
        refine x_il4 dX12_swapTo_32 ?_
        refine x_il3 dX12_swapTo_34 ?_
        refine x_icmp_ne (tgt := 42) dX12_swapTo_35 rfl (fun q3 => ?_) (fun q3 => ?_)
        · rw [nI_eq (by omega) (by omega)] at q3
          refine x_il4 dX12_swapTo_42 ?_
          exact nx j hjn (by unfold swk; rw [if_neg q2, if_neg q3])
        · rw [nI_eq (by omega) (by omega)] at q3
          refine x_il2 dX12_swapTo_38 ?_
          refine x_goto (tgt := 44) dX12_swapTo_39 rfl ?_
          exact nx dd hd (by unfold swk; rw [if_neg q2, if_pos q3])
      · rw [nI_eq (by omega) (by omega)] at q2
        refine x_il3 dX12_swapTo_28 ?_
        refine x_goto (tgt := 44) dX12_swapTo_29 rfl ?_
        exact nx e he (by unfold swk; rw [if_pos q2])
theorem m_swapTo {n q dd e : Nat} (hT : MT h s al n) (hs : q < fct n) (hd : dd < n) (he : e < n) : Zm g (d + 1) 0 0 mX12_swapTo [.ref 59, .int (nI q), .int (nI dd), .int (nI e)] h (rIp (fun r h' => r = nI (rnk n (fun i => nm n q (swk dd e i))) ∧ Ml h h')) := by
  obtain ⟨fm, hm⟩ := hT.2.2.2.2.2.2.2
  show Zw g (d + 1) 0 0 mX12_swapTo 0 [some (.ref 59), some (.int (nI q)), some (.int (nI dd)), some (.int (nI e)), none] [] h _
  refine x_iconst (v := nI 0) dX12_swapTo_0 rfl ?_
  refine x_is4 rfl dX12_swapTo_1 ?_
  exact lp_swapTo hs hd he n 0 h fm (by omega) hT hm (fun i hi => absurd hi (by omega))
theorem lp_nightTo {n q t : Nat} (hs : q < fct n) (ht : t < fct n) (hni : ∀ i, i < n → al (15 + i) = nI (nm n t i)) : ∀ (k j : Nat) (h : zH) (fm : Nat → Int32), j + k = n → MT h s al n → h[65]? = some (.inl (0, 6, .inl fm)) → (∀ i, i < j → fm (nm n t i) = nI (nm n q i)) → ∀ p : Nat → Nat, (∀ i, i < n → p (nm n t i) = nm n q i) →
    Zw g (d + 1) 0 0 mX12_nightTo 2 [some (.ref 59), some (.int (nI q)), some (.int (nI j))] [] h (rIp (fun r h' => r = nI (rnk n p) ∧ Ml h h')) := by
  intro k
  induction k with
  | zero =>
    intro j h fm hj hT hm hp p hpp
    obtain ⟨hM, hF, hL, h1, h0, hn, -⟩ := id hT
    obtain rfl : j = n := by omega
    refine x_il2 dX12_nightTo_2 ?_
    refine x_al0 rfl dX12_nightTo_3 ?_
    refine x_gm fdX12_13 hM (by decide) hF.f1 dX12_nightTo_4 ?_
    refine x_iconst (v := nI 1) dX12_nightTo_7 rfl ?_
    refine x_iald hL (vp_in_nI (by decide) (by decide)) (ald h1 (by decide)) dX12_nightTo_8 ?_
    refine x_icmp_ge (tgt := 38) dX12_nightTo_9 rfl (fun q1 => ?_) (fun q1 => ?_)
    · refine x_al0 rfl dX12_nightTo_38 ?_
      have hpj : ∀ i, i < j → fm i = nI (p i) ∧ p i < 2 ^ 31 := by
        intro i hi
        obtain ⟨a, ha, rfl⟩ := nm_sur hn ht hi
        rw [hp a ha, hpp a ha]
        exact ⟨rfl, Nat.lt_trans (nm_lt hn hs ha) (by omega)⟩
      refine x_cv0I mX12_numberNow_ok lkX12_220 rfl (Nat.le_of_ble_eq_true rfl) (Nat.le_of_ble_eq_true rfl) dX12_nightTo_39 hM  (m_numberNow (p := p) hM hF hL h1 hm hn hpj) ?_
      exact x_iret rfl rfl dX12_nightTo_42 ⟨_, rfl, rfl, fm, (hs_same hm).symm⟩
    · exact absurd (nI_le (Nat.le_refl _) (by omega)) q1
  | succ k ih =>
    intro j h fm hj hT hm hp p hpp
    obtain ⟨hM, hF, hL, h1, h0, hn, -⟩ := id hT
    have hjn : j < n := by omega
    have hqn := nm_lt hn ht hjn
    refine x_il2 dX12_nightTo_2 ?_
    refine x_al0 rfl dX12_nightTo_3 ?_
    refine x_gm fdX12_13 hM (by decide) hF.f1 dX12_nightTo_4 ?_
    refine x_iconst (v := nI 1) dX12_nightTo_7 rfl ?_
    refine x_iald hL (vp_in_nI (by decide) (by decide)) (ald h1 (by decide)) dX12_nightTo_8 ?_
    refine x_icmp_ge (tgt := 38) dX12_nightTo_9 rfl (fun q1 => ?_) (fun q1 => ?_)
    · exact absurd q1 (nI_ge (by omega) (by omega))
    · refine x_al0 rfl dX12_nightTo_12 ?_
      refine x_gm fdX12_33 hM (by decide) hF.f16 dX12_nightTo_13 ?_
      refine x_al0 rfl dX12_nightTo_16 ?_
      refine x_gm fdX12_13 hM (by decide) hF.f1 dX12_nightTo_17 ?_
      refine x_bipush (v := nI 15) dX12_nightTo_20 rfl ?_
      refine x_il2 dX12_nightTo_22 ?_
      first | refine x_iadd (nI_add _ _) dX12_nightTo_23 ?_ | refine x_iadd rfl dX12_nightTo_23 ?_
      refine x_iald hL (vp_in_nI (by omega) (by decide)) (ald (hni j hjn) (by omega)) dX12_nightTo_24 ?_
      refine x_al0 rfl dX12_nightTo_25 ?_
      refine x_il1 dX12_nightTo_26 ?_
      refine x_il2 dX12_nightTo_27 ?_
      refine x_cv2I mX12_nameIn_ok lkX12_251 rfl (Nat.le_of_ble_eq_true rfl) (Nat.le_of_ble_eq_true rfl) dX12_nightTo_28 hM  (m_nameIn hT hs hjn) ?_
      refine x_iast hm (vp_in_nI (by omega) (by decide)) dX12_nightTo_31 ?_
      first | refine x_ii2 rfl (nI_1 _) dX12_nightTo_32 ?_ | refine x_ii2 rfl rfl dX12_nightTo_32 ?_
      refine x_goto (tgt := 2) dX12_nightTo_35 rfl ?_
      rw [nI_clamp (by omega)]
      refine Zw.mono (ih (j + 1) _ _ (by omega) hT.made (hs_eq hm) (fun a ha => ?_) p hpp) (fun v h' hq => ?_)
      · unfold upd
        split
        · next q9 => rw [nm_inj hn ht (by omega) hjn q9]
        · next q9 => exact hp a (Nat.lt_of_le_of_ne (by omega) (fun z => q9 (by rw [z])))
      · obtain ⟨r, rfl, h1, h2⟩ := hq
        exact ⟨r, rfl, h1, h2.set⟩
theorem m_nightTo {n q t : Nat} {p : Nat → Nat} (hT : MT h s al n) (hs : q < fct n) (ht : t < fct n) (hni : ∀ i, i < n → al (15 + i) = nI (nm n t i)) (hp : ∀ i, i < n → p (nm n t i) = nm n q i) : Zm g (d + 1) 0 0 mX12_nightTo [.ref 59, .int (nI q)] h (rIp (fun r h' => r = nI (rnk n p) ∧ Ml h h')) := by
  obtain ⟨fm, hm⟩ := hT.2.2.2.2.2.2.2
  show Zw g (d + 1) 0 0 mX12_nightTo 0 [some (.ref 59), some (.int (nI q)), none] [] h _
  refine x_iconst (v := nI 0) dX12_nightTo_0 rfl ?_
  refine x_is2 rfl dX12_nightTo_1 ?_
  exact lp_nightTo hs ht hni n 0 h fm (by omega) hT hm (fun i hi => absurd hi (by omega)) p hp
end ZM1

