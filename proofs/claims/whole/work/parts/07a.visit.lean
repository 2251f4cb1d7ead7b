/-! a visit, as both sides make it; the model's goesVisit, letIn -/
def fw (p fo la tr c : Nat) : Nat → Int32 := fun k => if k = 0 then nI p else if k = 1 then nI fo else if k = 2 then nI la else if k = 3 then nI tr else nI c
theorem evl_congr {w w' : Nat → Int32} (hw : ∀ k, k < 5 → w k = w' k) : ∀ (cs : List Nat) (st : List Int32), evl w cs st = evl w' cs st := by
  intro cs
  induction cs with
  | nil => intro st; rfl
  | cons c cs ih =>
    intro st
    unfold evl
    have e : ev1 w c st = ev1 w' c st := by
      unfold ev1
      split
      · rfl
      · split
        · rw [hw (c - 1000) (by omega)]
        · rfl
    rw [e]
    exact ih _
theorem tells_congr {w w' : Nat → Int32} {cs : List Nat} (hw : ∀ k, k < 5 → w k = w' k) : tells w cs = tells w' cs := by unfold tells; rw [evl_congr hw]
theorem tells_truth {w : Nat → Int32} {cs : List Nat} {H : Nat} (hk : okc cs [] true) (hh : hok H cs 0) : tells w cs = 0 ∨ tells w cs = 1 := by
  obtain ⟨r, h1, h2⟩ := evl_tv (w := w) cs [] [] H trivial hk hh
  rw [← tells_eq h1]
  exact h2 rfl
/-- whether the visitor gives up, else which drawer is opened -/
def opensD (n : Nat) (nx : Option (List Nat)) (fo : Nat) (w : Nat → Int32) : Nat := match nx with
  | none => fo
  | some cs => zq_fm (tells w cs) n
def giveUpB (sp : Option (List Nat)) (w : Nat → Int32) : Bool := match sp with
  | none => false
  | some cs => decide (tells w cs = 1)
def mvs (n : Nat) (nx sp : Option (List Nat)) (p fo la tr c : Nat) : Option Nat := if giveUpB sp (fw p fo la tr c) then none else some (opensD n nx fo (fw p fo la tr c))
def visL (n : Nat) (nx sp : Option (List Nat)) (row p c : Nat) : Nat → Nat → Nat → Nat → List Nat × Bool
  | 0, _, _, _ => ([], false)
  | k + 1, tr, fo, la => match mvs n nx sp p fo la tr c with
    | none => ([], false)
    | some dd => if nm n row dd = p then ([dd], true) else (dd :: (visL n nx sp row p c k (tr + 1) (nm n row dd) dd).1, (visL n nx sp row p c k (tr + 1) (nm n row dd) dd).2)
/-- the drawers that p opens, and whether p is let off -/
def vis (n op : Nat) (nx sp : Option (List Nat)) (row p c : Nat) : List Nat × Bool := visL n nx sp row p c op 0 p p
def mskL (n op : Nat) (nx sp : Option (List Nat)) (row c : Nat) : Nat → Nat → Nat → Nat
  | 0, _, b => b
  | k + 1, p, b => mskL n op nx sp row c k (p + 1) (b ||| (if (vis n op nx sp row p c).2 then 2 ^ p else 0))
/-- who is let off, as bits -/
def msk (n op : Nat) (nx sp : Option (List Nat)) (row c : Nat) : Nat := mskL n op nx sp row c n 0 0
theorem visL_len {n : Nat} {nx sp : Option (List Nat)} {row p c : Nat} : ∀ k tr fo la, (visL n nx sp row p c k tr fo la).1.length ≤ k := by
  intro k
  induction k with
  | zero => intro tr fo la; exact Nat.le_refl _
  | succ k ih =>
    intro tr fo la
    unfold visL
    split
    · exact Nat.zero_le _
    · split
      · simp
      · simp; exact ih _ _ _
theorem opensD_lt {n fo : Nat} {nx : Option (List Nat)} {w : Nat → Int32} (h0 : 0 < n) (hf : fo < n) : opensD n nx fo w < n := by
  unfold opensD
  split
  · exact hf
  · exact zq_fm_lt h0
def MLaw (al : Nat → Int32) (lw : Nat) (b : Bool) (code : Option (List Nat)) : Prop := match code with
  | none => al (3 + lw) = nI 0
  | some cs => al (3 + lw) = nI 1 ∧ ∃ fr, fr + cs.length ≤ 900 ∧ al (7 + lw) = nI cs.length ∧ al (5 + lw) = nI fr ∧ (∀ j c, cs[j]? = some c → al (56 + fr + j) = nI c) ∧ (∀ c ∈ cs, c < 4000) ∧ okc cs [] b ∧ hok 900 cs 0
/-- the model, ready for visits -/
def VM (h : zH) (s : Nat → Value) (al : Nat → Int32) (n op : Nat) (nx sp : Option (List Nat)) : Prop := MT h s al n ∧ al 2 = nI op ∧ 0 < op ∧ op ≤ 9 ∧ MLaw al 0 false nx ∧ MLaw al 1 true sp ∧ (∃ sk, h[66]? = some (.inl (0, 900, .inl sk))) ∧ (∃ w, h[67]? = some (.inl (0, 5, .inl w))) ∧ (∃ vf, h[68]? = some (.inl (0, 9, .inl vf)))
theorem VM.s66 {h : zH} {s : Nat → Value} {al f : Nat → Int32} {n op : Nat} {nx sp : Option (List Nat)} (a : VM h s al n op nx sp) : VM (h.set 66 (.inl (0, 900, .inl f))) s al n op nx sp := by
  obtain ⟨a1, a2, a3, a4, a5, a6, ⟨sk, a7⟩, ⟨w, a8⟩, vf, a9⟩ := a
  exact ⟨a1.fr (Fr.set (ids := [66]) (by simp)) (by decide) (by decide) (by decide) (by decide), a2, a3, a4, a5, a6, ⟨f, hs_eq a7⟩, ⟨w, by rw [hs_ne (by decide)]; exact a8⟩, vf, by rw [hs_ne (by decide)]; exact a9⟩
theorem VM.s67 {h : zH} {s : Nat → Value} {al f : Nat → Int32} {n op : Nat} {nx sp : Option (List Nat)} (a : VM h s al n op nx sp) : VM (h.set 67 (.inl (0, 5, .inl f))) s al n op nx sp := by
  obtain ⟨a1, a2, a3, a4, a5, a6, ⟨sk, a7⟩, ⟨w, a8⟩, vf, a9⟩ := a
  exact ⟨a1.fr (Fr.set (ids := [67]) (by simp)) (by decide) (by decide) (by decide) (by decide), a2, a3, a4, a5, a6, ⟨sk, by rw [hs_ne (by decide)]; exact a7⟩, ⟨f, hs_eq a8⟩, vf, by rw [hs_ne (by decide)]; exact a9⟩
theorem VM.s68 {h : zH} {s : Nat → Value} {al f : Nat → Int32} {n op : Nat} {nx sp : Option (List Nat)} (a : VM h s al n op nx sp) : VM (h.set 68 (.inl (0, 9, .inl f))) s al n op nx sp := by
  obtain ⟨a1, a2, a3, a4, a5, a6, ⟨sk, a7⟩, ⟨w, a8⟩, vf, a9⟩ := a
  exact ⟨a1.fr (Fr.set (ids := [68]) (by simp)) (by decide) (by decide) (by decide) (by decide), a2, a3, a4, a5, a6, ⟨sk, by rw [hs_ne (by decide)]; exact a7⟩, ⟨w, by rw [hs_ne (by decide)]; exact a8⟩, f, hs_eq a9⟩
theorem VM.s59 {h : zH} {s : Nat → Value} {al : Nat → Int32} {n op k : Nat} {v : Value} {nx sp : Option (List Nat)} (a : VM h s al n op nx sp) (hk : k ∉ ([1, 2, 3, 4, 15, 16, 18, 19, 20, 23, 26, 27, 28, 29, 30, 31, 33, 34, 35, 37, 38, 39, 40] : List Nat)) : VM (h.set 59 (.inr (12, mF (va_up s k v)))) (va_up s k v) al n op nx sp := by
  obtain ⟨⟨b1, b2, b3, b4, b5, b6, ⟨nf, b7, b8⟩, ly, b9⟩, a2, a3, a4, a5, a6, ⟨sk, a7⟩, ⟨w, a8⟩, vf, a9⟩ := a
  exact ⟨⟨hs_eq b1, b2.up hk, by rw [hs_ne (by decide)]; exact b3, b4, b5, b6, ⟨nf, by rw [hs_ne (by decide)]; exact b7, b8⟩, ly, by rw [hs_ne (by decide)]; exact b9⟩, a2, a3, a4, a5, a6, ⟨sk, by rw [hs_ne (by decide)]; exact a7⟩, ⟨w, by rw [hs_ne (by decide)]; exact a8⟩, vf, by rw [hs_ne (by decide)]; exact a9⟩
/-- behind a visit -/
def VMp (h h' : zH) (s : Nat → Value) (al : Nat → Int32) (n op : Nat) (nx sp : Option (List Nat)) (r : List Nat × Bool) : Prop := Fr [59, 66, 67, 68] h h' ∧ (∃ s', (∀ k, k ≠ 21 → k ≠ 22 → s' k = s k) ∧ s' 21 = .int (nI r.1.length) ∧ s' 22 = .int (b2 (r.2 = true)) ∧ VM h' s' al n op nx sp) ∧ ∃ vf, h'[68]? = some (.inl (0, 9, .inl vf)) ∧ ∀ i, i < r.1.length → vf i = nI (r.1.getD i 0)
section ZV
variable {g : zG} {d : Nat} {al : Nat → Int32}
theorem lp_goesVisit {n op row p c : Nat} {nx sp : Option (List Nat)} (hr : row < fct n) (hp : p < n) : ∀ (k tr fo la : Nat) (pre : List Nat) (x : Option Value) (h : zH) (s : Nat → Value) (w vf : Nat → Int32), tr + k = op → fo < n → la < n → pre.length = tr → VM h s al n op nx sp → s 21 = .int (nI tr) → s 22 = .int (nI 0) → h[67]? = some (.inl (0, 5, .inl w)) → h[68]? = some (.inl (0, 9, .inl vf)) → (∀ i, i < tr → vf i = nI (pre.getD i 0)) → w 0 = nI p → w 1 = nI fo → w 2 = nI la → w 4 = nI c →
    Zw g (d + 2) 0 0 mX12_goesVisit 38 [some (.ref 59), some (.int (nI row)), some (.int (nI p)), some (.int (nI c)), x] [] h (rVp (fun h' => VMp h h' s al n op nx sp (pre ++ (visL n nx sp row p c k tr fo la).1, (visL n nx sp row p c k tr fo la).2))) := by
  intro k
  induction k with
  | zero =>
    intro tr fo la pre x h s w vf htr hfo hla hpl hV s21 s22 hW hVf hvf w0 w1 w2 w4
    obtain ⟨⟨hM, hF, hL, h1, h0, hn, hN, hY⟩, a2, a3, a4, a5, a6, ⟨sk, hSk⟩, -, -⟩ := id hV
    obtain rfl : tr = op := by omega
    refine x_al0 rfl dX12_goesVisit_38 ?_
    refine x_gm fdX12_244 hM (by decide) s22 dX12_goesVisit_39 ?_
    refine x_if_ne (tgt := 201) dX12_goesVisit_42 rfl (fun q1 => ?_) (fun q1 => ?_)
    · exact absurd rfl q1
    · refine x_al0 rfl dX12_goesVisit_45 ?_
      refine x_gm fdX12_241 hM (by decide) s21 dX12_goesVisit_46 ?_
      refine x_al0 rfl dX12_goesVisit_49 ?_
      refine x_gm fdX12_13 hM (by decide) hF.f1 dX12_goesVisit_50 ?_
      refine x_iconst (v := nI 2) dX12_goesVisit_53 rfl ?_
      refine x_iald hL (vp_in_nI (by decide) (by decide)) (ald a2 (by decide)) dX12_goesVisit_54 ?_
      refine x_icmp_ge (tgt := 201) dX12_goesVisit_55 rfl (fun q2 => ?_) (fun q2 => ?_)
      · exact x_vret rfl dX12_goesVisit_201 ⟨rfl, Fr.rf, ⟨s, fun _ _ _ => rfl, by simpa [visL, hpl] using s21, by rw [s22]; rfl, hV⟩, vf, hVf, by simpa [visL, hpl] using hvf⟩
      · exact absurd (nI_le (Nat.le_refl _) (by omega)) q2
  | succ k ih =>
    intro tr fo la pre x h s w vf htr hfo hla hpl hV s21 s22 hW hVf hvf w0 w1 w2 w4
    obtain ⟨⟨hM, hF, hL, h1, h0, hn, hN, hY⟩, a2, a3, a4, a5, a6, ⟨sk, hSk⟩, -, -⟩ := id hV
    have hfw : ∀ j, j < 5 → upd w 3 (nI tr) j = fw p fo la tr c j := by
      intro j hj
      have hh : j = 0 ∨ j = 1 ∨ j = 2 ∨ j = 3 ∨ j = 4 := by omega
      rcases hh with rfl | rfl | rfl | rfl | rfl <;> simp [upd, fw, w0, w1, w2, w4]
    -- behind the drawer's choice
    have open1 : ∀ (dd : Nat) (h2 : zH), dd < n → mvs n nx sp p fo la tr c = some dd → Fr [59, 66, 67, 68] h h2 → VM h2 s al n op nx sp → h2[67]? = some (.inl (0, 5, .inl (upd w 3 (nI tr)))) → h2[68]? = some (.inl (0, 9, .inl vf)) →
        Zw g (d + 2) 0 0 mX12_goesVisit 137 [some (.ref 59), some (.int (nI row)), some (.int (nI p)), some (.int (nI c)), some (.int (nI dd))] [] h2 (rVp (fun h' => VMp h h' s al n op nx sp (pre ++ (visL n nx sp row p c (k + 1) tr fo la).1, (visL n nx sp row p c (k + 1) tr fo la).2))) := by
      intro dd h2 hdd hmv hfr hV2 hW2 hVf2
      obtain ⟨⟨hM, hF, hL, -, -, -, -, -⟩, -⟩ := id hV2
      refine x_al0 rfl dX12_goesVisit_137 ?_
      refine x_gm fdX12_42 hM (by decide) hF.f20 dX12_goesVisit_138 ?_
      refine x_al0 rfl dX12_goesVisit_141 ?_
      refine x_gm fdX12_241 hM (by decide) s21 dX12_goesVisit_142 ?_
      refine x_il4 dX12_goesVisit_145 ?_
      refine x_iast hVf2 (vp_in_nI (by omega) (by decide)) dX12_goesVisit_147 ?_
      rw [nI_clamp (by omega)]
      have hV3 := hV2.s68 (f := upd vf tr (nI dd))
      have hW3 : (h2.set 68 (.inl (0, 9, .inl (upd vf tr (nI dd)))))[67]? = some (.inl (0, 5, .inl (upd w 3 (nI tr)))) := by rw [hs_ne (by decide)]; exact hW2
      have hVf3 : (h2.set 68 (.inl (0, 9, .inl (upd vf tr (nI dd)))))[68]? = some (.inl (0, 9, .inl (upd vf tr (nI dd)))) := hs_eq hVf2
      have hfr3 := hfr.tr (Fr.set (ids := [59, 66, 67, 68]) (h := h2) (i := 68) (e := .inl (0, 9, .inl (upd vf tr (nI dd)))) (by simp))
      generalize h2.set 68 (.inl (0, 9, .inl (upd vf tr (nI dd)))) = h3 at hV3 hW3 hVf3 hfr3 ⊢
      obtain ⟨⟨hM, hF, hL, -, -, -, -, -⟩, -⟩ := id hV3
      refine x_al0 rfl dX12_goesVisit_148 ?_
      refine x_dup rfl dX12_goesVisit_149 ?_
      refine x_gm fdX12_241 hM (by decide) s21 dX12_goesVisit_150 ?_
      refine x_iconst (v := nI 1) dX12_goesVisit_153 rfl ?_
      first | refine x_iadd (nI_add _ _) dX12_goesVisit_154 ?_ | refine x_iadd rfl dX12_goesVisit_154 ?_
      refine x_pm fdX12_241 hM (by decide) zf_i dX12_goesVisit_155 ?_
      have hV4 := hV3.s59 (k := 21) (v := .int (nI (tr + 1))) (by decide)
      have hW4 : (h3.set 59 (.inr (12, mF (va_up s 21 (.int (nI (tr + 1)))))))[67]? = some (.inl (0, 5, .inl (upd w 3 (nI tr)))) := by rw [hs_ne (by decide)]; exact hW3
      have hVf4 : (h3.set 59 (.inr (12, mF (va_up s 21 (.int (nI (tr + 1)))))))[68]? = some (.inl (0, 9, .inl (upd vf tr (nI dd)))) := by rw [hs_ne (by decide)]; exact hVf3
      have hfr4 := hfr3.tr (Fr.set (ids := [59, 66, 67, 68]) (h := h3) (i := 59) (e := .inr (12, mF (va_up s 21 (.int (nI (tr + 1)))))) (by simp))
      generalize h3.set 59 (.inr (12, mF (va_up s 21 (.int (nI (tr + 1)))))) = h4 at hV4 hW4 hVf4 hfr4 ⊢
      obtain ⟨⟨hM, hF, hL, -, -, -, -, -⟩, -⟩ := id hV4
      refine x_al0 rfl dX12_goesVisit_158 ?_
      refine x_gm fdX12_39 hM (by decide) hF.f19 dX12_goesVisit_159 ?_
      refine x_iconst (v := nI 1) dX12_goesVisit_162 rfl ?_
      refine x_al0 rfl dX12_goesVisit_163 ?_
      refine x_il1 dX12_goesVisit_164 ?_
      refine x_il4 dX12_goesVisit_165 ?_
      refine x_cv2I mX12_nameIn_ok lkX12_251 rfl (Nat.le_of_ble_eq_true rfl) (Nat.le_of_ble_eq_true rfl) dX12_goesVisit_167 hM  (m_nameIn hV4.1 hr hdd) ?_
      refine x_iast hW4 (vp_in_nI (by decide) (by decide)) dX12_goesVisit_170 ?_
      rw [nI_clamp (by decide)]
      have hV5 := hV4.s67 (f := upd (upd w 3 (nI tr)) 1 (nI (nm n row dd)))
      have hW5 : (h4.set 67 (.inl (0, 5, .inl (upd (upd w 3 (nI tr)) 1 (nI (nm n row dd))))))[67]? = some (.inl (0, 5, .inl (upd (upd w 3 (nI tr)) 1 (nI (nm n row dd))))) := hs_eq hW4
      have hVf5 : (h4.set 67 (.inl (0, 5, .inl (upd (upd w 3 (nI tr)) 1 (nI (nm n row dd))))))[68]? = some (.inl (0, 9, .inl (upd vf tr (nI dd)))) := by rw [hs_ne (by decide)]; exact hVf4
      have hfr5 := hfr4.tr (Fr.set (ids := [59, 66, 67, 68]) (h := h4) (i := 67) (e := .inl (0, 5, .inl (upd (upd w 3 (nI tr)) 1 (nI (nm n row dd))))) (by simp))
      generalize h4.set 67 (.inl (0, 5, .inl (upd (upd w 3 (nI tr)) 1 (nI (nm n row dd))))) = h5 at hV5 hW5 hVf5 hfr5 ⊢
      obtain ⟨⟨hM, hF, hL, -, -, -, -, -⟩, -⟩ := id hV5
      refine x_al0 rfl dX12_goesVisit_171 ?_
      refine x_gm fdX12_39 hM (by decide) hF.f19 dX12_goesVisit_172 ?_
      refine x_iconst (v := nI 2) dX12_goesVisit_175 rfl ?_
      refine x_il4 dX12_goesVisit_176 ?_
      refine x_iast hW5 (vp_in_nI (by decide) (by decide)) dX12_goesVisit_178 ?_
      rw [nI_clamp (by decide)]
      have hV6 := hV5.s67 (f := upd (upd (upd w 3 (nI tr)) 1 (nI (nm n row dd))) 2 (nI dd))
      have hW6 : (h5.set 67 (.inl (0, 5, .inl (upd (upd (upd w 3 (nI tr)) 1 (nI (nm n row dd))) 2 (nI dd)))))[67]? = some (.inl (0, 5, .inl (upd (upd (upd w 3 (nI tr)) 1 (nI (nm n row dd))) 2 (nI dd)))) := hs_eq hW5
      have hVf6 : (h5.set 67 (.inl (0, 5, .inl (upd (upd (upd w 3 (nI tr)) 1 (nI (nm n row dd))) 2 (nI dd)))))[68]? = some (.inl (0, 9, .inl (upd vf tr (nI dd)))) := by rw [hs_ne (by decide)]; exact hVf5
      have hfr6 := hfr5.tr (Fr.set (ids := [59, 66, 67, 68]) (h := h5) (i := 67) (e := .inl (0, 5, .inl (upd (upd (upd w 3 (nI tr)) 1 (nI (nm n row dd))) 2 (nI dd)))) (by simp))
      generalize h5.set 67 (.inl (0, 5, .inl (upd (upd (upd w 3 (nI tr)) 1 (nI (nm n row dd))) 2 (nI dd)))) = h6 at hV6 hW6 hVf6 hfr6 ⊢
      obtain ⟨⟨hM, hF, hL, -, -, -, -, -⟩, -⟩ := id hV6
      refine x_al0 rfl dX12_goesVisit_179 ?_
      refine x_al0 rfl dX12_goesVisit_180 ?_
      refine x_gm fdX12_39 hM (by decide) hF.f19 dX12_goesVisit_181 ?_
      refine x_iconst (v := nI 1) dX12_goesVisit_184 rfl ?_
      refine x_iald hW6 (vp_in_nI (by decide) (by decide)) (v := nI (nm n row dd)) (ald (by simp [upd]) (by decide)) dX12_goesVisit_185 ?_
      refine x_il2 dX12_goesVisit_186 ?_
      have hnml := nm_lt hn hr hdd
      have s22' : va_up s 21 (Value.int (nI (tr + 1))) 22 = .int (nI 0) := by simp [va_up, s22]
      have hpre : ∀ i, i < tr + 1 → upd vf tr (nI dd) i = nI ((pre ++ [dd]).getD i 0) := by
        intro i hi
        rcases Nat.lt_or_ge i tr with q | q
        · simp only [upd]
          rw [if_neg (by omega), hvf i q, List.getD_eq_getElem?_getD, List.getD_eq_getElem?_getD, List.getElem?_append_left (by omega)]
        · obtain rfl : i = tr := by omega
          simp [upd, List.getD_eq_getElem?_getD, ← hpl]
      refine x_icmp_ne (tgt := 194) dX12_goesVisit_187 rfl (fun q5 => ?_) (fun q5 => ?_)
      · rw [nI_eq (by omega) (by omega)] at q5
        refine x_iconst (v := nI 0) dX12_goesVisit_194 rfl ?_
        refine x_pm fdX12_244 hM (by decide) zf_z0 dX12_goesVisit_195 ?_
        have hV7 := hV6.s59 (k := 22) (v := .int (nI 0)) (by decide)
        have hfr7 := hfr6.tr (Fr.set (ids := [59, 66, 67, 68]) (h := h6) (i := 59) (e := .inr (12, mF (va_up (va_up s 21 (.int (nI (tr + 1)))) 22 (.int (nI 0))))) (by simp))
        refine x_goto (tgt := 38) dX12_goesVisit_198 rfl ?_
        refine Zw.mono (ih (tr + 1) (nm n row dd) dd (pre ++ [dd]) _ _ _ _ _ (by omega) hnml hdd (by simp [hpl]) hV7 (by simp [va_up]) (by simp [va_up]) (by rw [hs_ne (by decide)]; exact hW6) (by rw [hs_ne (by decide)]; exact hVf6) hpre (by simp [upd, w0]) (by simp [upd]) (by simp [upd]) (by simp [upd, w4])) (fun v h' hq => ?_)
        obtain ⟨rfl, b1, ⟨s', b2, b3, b4, b5⟩, b6⟩ := hq
        have e1 : visL n nx sp row p c (k + 1) tr fo la = (dd :: (visL n nx sp row p c k (tr + 1) (nm n row dd) dd).1, (visL n nx sp row p c k (tr + 1) (nm n row dd) dd).2) := by
          rw [visL, hmv]
          simp only [if_neg q5]
        refine ⟨rfl, hfr7.tr b1, ⟨s', fun j j1 j2 => ?_, ?_, ?_, b5⟩, ?_⟩
        · rw [b2 j j1 j2]
          simp [va_up, j1, j2]
        · rw [b3, e1]; simp
        · rw [b4, e1]
        · obtain ⟨vf', c1, c2⟩ := b6
          refine ⟨vf', c1, ?_⟩
          rw [e1]
          simpa using c2
      · rw [nI_eq (by omega) (by omega)] at q5
        refine x_iconst (v := nI 1) dX12_goesVisit_190 rfl ?_
        refine x_goto (tgt := 195) dX12_goesVisit_191 rfl ?_
        refine x_pm fdX12_244 hM (by decide) zf_z1 dX12_goesVisit_195 ?_
        have hV7 := hV6.s59 (k := 22) (v := .int (nI 1)) (by decide)
        have hfr7 := hfr6.tr (Fr.set (ids := [59, 66, 67, 68]) (h := h6) (i := 59) (e := .inr (12, mF (va_up (va_up s 21 (.int (nI (tr + 1)))) 22 (.int (nI 1))))) (by simp))
        have hM7 := hV7.1.1
        have hVf7 : (h6.set 59 (.inr (12, mF (va_up (va_up s 21 (.int (nI (tr + 1)))) 22 (.int (nI 1))))))[68]? = some (.inl (0, 9, .inl (upd vf tr (nI dd)))) := by rw [hs_ne (by decide)]; exact hVf6
        refine x_goto (tgt := 38) dX12_goesVisit_198 rfl ?_
        clear hM
        have hM := hM7
        refine x_al0 rfl dX12_goesVisit_38 ?_
        refine x_gm fdX12_244 hM (by decide) (show va_up (va_up s 21 (.int (nI (tr + 1)))) 22 (.int (nI 1)) 22 = .int (nI 1) by simp [va_up]) dX12_goesVisit_39 ?_
        refine x_if_ne (tgt := 201) dX12_goesVisit_42 rfl (fun q6 => ?_) (fun q6 => ?_)
        · have e1 : visL n nx sp row p c (k + 1) tr fo la = ([dd], true) := by
            rw [visL, hmv]
            simp only [if_pos q5]
          exact x_vret rfl dX12_goesVisit_201 ⟨rfl, hfr7, ⟨_, fun j j1 j2 => by simp [va_up, j1, j2], by rw [e1]; simp [va_up, hpl], by rw [e1]; simp [va_up, b2_t]; rfl, hV7⟩, _, hVf7, by rw [e1]; simpa [hpl] using hpre⟩
        · exact absurd q6 (by decide)
    have next1 : ∀ (h2 : zH) (x : Option Value), giveUpB sp (fw p fo la tr c) = false → Fr [59, 66, 67, 68] h h2 → VM h2 s al n op nx sp → h2[67]? = some (.inl (0, 5, .inl (upd w 3 (nI tr)))) → h2[68]? = some (.inl (0, 9, .inl vf)) →
        Zw g (d + 2) 0 0 mX12_goesVisit 88 [some (.ref 59), some (.int (nI row)), some (.int (nI p)), some (.int (nI c)), x] [] h2 (rVp (fun h' => VMp h h' s al n op nx sp (pre ++ (visL n nx sp row p c (k + 1) tr fo la).1, (visL n nx sp row p c (k + 1) tr fo la).2))) := by
      intro h2 x hgu hfr hV2 hW2 hVf2
      obtain ⟨⟨hM, hF, hL, -, -, -, -, -⟩, -, -, -, -, -, ⟨sk2, hSk2⟩, -, -⟩ := id hV2
      have hmv : mvs n nx sp p fo la tr c = some (opensD n nx fo (fw p fo la tr c)) := by unfold mvs; rw [hgu]; rfl
      cases nx with
      | none =>
        have a5 : al 3 = nI 0 := a5
        refine x_al0 rfl dX12_goesVisit_88 ?_
        refine x_gm fdX12_13 hM (by decide) hF.f1 dX12_goesVisit_89 ?_
        refine x_iconst (v := nI 3) dX12_goesVisit_92 rfl ?_
        refine x_iald hL (vp_in_nI (by decide) (by decide)) (ald a5 (by decide)) dX12_goesVisit_93 ?_
        refine x_iconst (v := nI 1) dX12_goesVisit_94 rfl ?_
        refine x_icmp_ne (tgt := 113) dX12_goesVisit_95 rfl (fun q3 => ?_) (fun q3 => ?_)
        · refine x_al0 rfl dX12_goesVisit_113 ?_
          refine x_gm fdX12_39 hM (by decide) hF.f19 dX12_goesVisit_114 ?_
          refine x_iconst (v := nI 1) dX12_goesVisit_117 rfl ?_
          refine x_iald hW2 (vp_in_nI (by decide) (by decide)) (v := nI fo) (ald (by simp [upd, w1]) (by decide)) dX12_goesVisit_118 ?_
          refine x_is4 rfl dX12_goesVisit_119 ?_
          refine x_il4 dX12_goesVisit_121 ?_
          refine x_if_ge (tgt := 137) dX12_goesVisit_123 rfl (fun q4 => ?_) (fun q4 => ?_)
          · exact open1 fo h2 hfo hmv hfr hV2 hW2 hVf2
          · exact absurd (nI_pos' (by omega)) q4
        · exact absurd q3 (by decide)
      | some cs =>
        obtain ⟨b1, fr, b2, b3, b4, b5, b6, b7, b8⟩ := a5
        have b1 : al 3 = nI 1 := b1
        refine x_al0 rfl dX12_goesVisit_88 ?_
        refine x_gm fdX12_13 hM (by decide) hF.f1 dX12_goesVisit_89 ?_
        refine x_iconst (v := nI 3) dX12_goesVisit_92 rfl ?_
        refine x_iald hL (vp_in_nI (by decide) (by decide)) (ald b1 (by decide)) dX12_goesVisit_93 ?_
        refine x_iconst (v := nI 1) dX12_goesVisit_94 rfl ?_
        refine x_icmp_ne (tgt := 113) dX12_goesVisit_95 rfl (fun q3 => ?_) (fun q3 => ?_)
        · exact absurd rfl q3
        · refine x_al0 rfl dX12_goesVisit_98 ?_
          refine x_iconst (v := nI 0) dX12_goesVisit_99 rfl ?_
          refine x_cv1Ip mX12_reckons_ok lkX12_248 rfl (Nat.le_of_ble_eq_true rfl) (Nat.le_of_ble_eq_true rfl) dX12_goesVisit_100 hM  (m_reckons (lw := 0) (by decide) b2 hF b3 b4 b5 b6 b7 b8 hM hL hSk2 hW2) (fun r h hq => ?_)
          obtain ⟨rfl, sk', rfl⟩ := hq
          rw [tells_congr hfw]
          have hdl := zq_fm_lt (x := tells (fw p fo la tr c) cs) h0
          have hV3 := hV2.s66 (f := sk')
          have hW3 : (h2.set 66 (.inl (0, 900, .inl sk')))[67]? = some (.inl (0, 5, .inl (upd w 3 (nI tr)))) := by rw [hs_ne (by decide)]; exact hW2
          have hVf3 : (h2.set 66 (.inl (0, 900, .inl sk')))[68]? = some (.inl (0, 9, .inl vf)) := by rw [hs_ne (by decide)]; exact hVf2
          have hfr3 := hfr.tr (Fr.set (ids := [59, 66, 67, 68]) (h := h2) (i := 66) (e := .inl (0, 900, .inl sk')) (by simp))
          generalize h2.set 66 (.inl (0, 900, .inl sk')) = h3 at hV3 hW3 hVf3 hfr3 ⊢
          obtain ⟨⟨hM, hF, hL, -, -, -, -, -⟩, -⟩ := id hV3
          refine x_al0 rfl dX12_goesVisit_103 ?_
          refine x_gm fdX12_13 hM (by decide) hF.f1 dX12_goesVisit_104 ?_
          refine x_iconst (v := nI 1) dX12_goesVisit_107 rfl ?_
          refine x_iald hL (vp_in_nI (by decide) (by decide)) (ald h1 (by decide)) dX12_goesVisit_108 ?_
          refine x_irem (nI_ne0 h0 (by omega)) rfl dX12_goesVisit_109 ?_
          refine x_goto (tgt := 119) dX12_goesVisit_110 rfl ?_
          refine x_is4 rfl dX12_goesVisit_119 ?_
          refine x_il4 dX12_goesVisit_121 ?_
          refine x_if_ge (tgt := 137) dX12_goesVisit_123 rfl (fun q4 => ?_) (fun q4 => ?_)
          · have q4' : ¬ (tells (fw p fo la tr c) cs - tells (fw p fo la tr c) cs / nI n * nI n) < 0 := by simp only [Int32.lt_iff_toInt_lt, Int32.le_iff_toInt_le] at *; omega
            rw [zq_fm_pos h0 hn q4']
            exact open1 _ h3 hdl hmv hfr3 hV3 hW3 hVf3
          · have q4' : (tells (fw p fo la tr c) cs - tells (fw p fo la tr c) cs / nI n * nI n) < 0 := by simp only [Int32.lt_iff_toInt_lt, Int32.le_iff_toInt_le] at *; omega
            refine x_il4 dX12_goesVisit_126 ?_
            refine x_al0 rfl dX12_goesVisit_128 ?_
            refine x_gm fdX12_13 hM (by decide) hF.f1 dX12_goesVisit_129 ?_
            refine x_iconst (v := nI 1) dX12_goesVisit_132 rfl ?_
            refine x_iald hL (vp_in_nI (by decide) (by decide)) (ald h1 (by decide)) dX12_goesVisit_133 ?_
            refine x_iadd (zq_fm_neg h0 hn q4') dX12_goesVisit_134 ?_
            refine x_is4 rfl dX12_goesVisit_135 ?_
            exact open1 _ h3 hdl hmv hfr3 hV3 hW3 hVf3
    refine x_al0 rfl dX12_goesVisit_38 ?_
    refine x_gm fdX12_244 hM (by decide) s22 dX12_goesVisit_39 ?_
    refine x_if_ne (tgt := 201) dX12_goesVisit_42 rfl (fun q1 => ?_) (fun q1 => ?_)
    · exact absurd rfl q1
    · refine x_al0 rfl dX12_goesVisit_45 ?_
      refine x_gm fdX12_241 hM (by decide) s21 dX12_goesVisit_46 ?_
      refine x_al0 rfl dX12_goesVisit_49 ?_
      refine x_gm fdX12_13 hM (by decide) hF.f1 dX12_goesVisit_50 ?_
      refine x_iconst (v := nI 2) dX12_goesVisit_53 rfl ?_
      refine x_iald hL (vp_in_nI (by decide) (by decide)) (ald a2 (by decide)) dX12_goesVisit_54 ?_
      refine x_icmp_ge (tgt := 201) dX12_goesVisit_55 rfl (fun q2 => ?_) (fun q2 => ?_)
      · exact absurd q2 (nI_ge (by omega) (by omega))
      · refine x_al0 rfl dX12_goesVisit_58 ?_
        refine x_gm fdX12_39 hM (by decide) hF.f19 dX12_goesVisit_59 ?_
        refine x_iconst (v := nI 3) dX12_goesVisit_62 rfl ?_
        refine x_al0 rfl dX12_goesVisit_63 ?_
        refine x_gm fdX12_241 hM (by decide) s21 dX12_goesVisit_64 ?_
        refine x_iast hW (vp_in_nI (by decide) (by decide)) dX12_goesVisit_67 ?_
        rw [nI_clamp (by decide)]
        have hV2 := hV.s67 (f := upd w 3 (nI tr))
        have hW2 : (h.set 67 (.inl (0, 5, .inl (upd w 3 (nI tr)))))[67]? = some (.inl (0, 5, .inl (upd w 3 (nI tr)))) := hs_eq hW
        have hVf2 : (h.set 67 (.inl (0, 5, .inl (upd w 3 (nI tr)))))[68]? = some (.inl (0, 9, .inl vf)) := by rw [hs_ne (by decide)]; exact hVf
        have hfr2 := Fr.set (ids := [59, 66, 67, 68]) (h := h) (i := 67) (e := .inl (0, 5, .inl (upd w 3 (nI tr)))) (by simp)
        generalize h.set 67 (.inl (0, 5, .inl (upd w 3 (nI tr)))) = h2 at hV2 hW2 hVf2 hfr2 ⊢
        obtain ⟨⟨hM, hF, hL, -, -, -, -, -⟩, -, -, -, -, -, ⟨sk2, hSk2⟩, -, -⟩ := id hV2
        cases sp with
        | none =>
          have a6 : al 4 = nI 0 := a6
          refine x_al0 rfl dX12_goesVisit_68 ?_
          refine x_gm fdX12_13 hM (by decide) hF.f1 dX12_goesVisit_69 ?_
          refine x_iconst (v := nI 4) dX12_goesVisit_72 rfl ?_
          refine x_iald hL (vp_in_nI (by decide) (by decide)) (ald a6 (by decide)) dX12_goesVisit_73 ?_
          refine x_iconst (v := nI 1) dX12_goesVisit_74 rfl ?_
          refine x_icmp_ne (tgt := 88) dX12_goesVisit_75 rfl (fun q3 => ?_) (fun q3 => ?_)
          · exact next1 h2 _ rfl hfr2 hV2 hW2 hVf2
          · exact absurd q3 (by decide)
        | some cs =>
          obtain ⟨b1, fr, b2, b3, b4, b5, b6, b7, b8⟩ := a6
          have b1 : al 4 = nI 1 := b1
          refine x_al0 rfl dX12_goesVisit_68 ?_
          refine x_gm fdX12_13 hM (by decide) hF.f1 dX12_goesVisit_69 ?_
          refine x_iconst (v := nI 4) dX12_goesVisit_72 rfl ?_
          refine x_iald hL (vp_in_nI (by decide) (by decide)) (ald b1 (by decide)) dX12_goesVisit_73 ?_
          refine x_iconst (v := nI 1) dX12_goesVisit_74 rfl ?_
          refine x_icmp_ne (tgt := 88) dX12_goesVisit_75 rfl (fun q3 => ?_) (fun q3 => ?_)
          · exact absurd rfl q3
          · refine x_al0 rfl dX12_goesVisit_78 ?_
            refine x_iconst (v := nI 1) dX12_goesVisit_79 rfl ?_
            refine x_cv1Ip mX12_reckons_ok lkX12_248 rfl (Nat.le_of_ble_eq_true rfl) (Nat.le_of_ble_eq_true rfl) dX12_goesVisit_80 hM  (m_reckons (lw := 1) (by decide) b2 hF b3 b4 b5 b6 b7 b8 hM hL hSk2 hW2) (fun r h hq => ?_)
            obtain ⟨rfl, sk', rfl⟩ := hq
            rw [tells_congr hfw]
            have hV3 := hV2.s66 (f := sk')
            have hW3 : (h2.set 66 (.inl (0, 900, .inl sk')))[67]? = some (.inl (0, 5, .inl (upd w 3 (nI tr)))) := by rw [hs_ne (by decide)]; exact hW2
            have hVf3 : (h2.set 66 (.inl (0, 900, .inl sk')))[68]? = some (.inl (0, 9, .inl vf)) := by rw [hs_ne (by decide)]; exact hVf2
            have hfr3 := hfr2.tr (Fr.set (ids := [59, 66, 67, 68]) (h := h2) (i := 66) (e := .inl (0, 900, .inl sk')) (by simp))
            generalize h2.set 66 (.inl (0, 900, .inl sk')) = h3 at hV3 hW3 hVf3 hfr3 ⊢
            refine x_iconst (v := nI 1) dX12_goesVisit_83 rfl ?_
            refine x_icmp_ne (tgt := 88) dX12_goesVisit_84 rfl (fun q4 => ?_) (fun q4 => ?_)
            · exact next1 h3 _ (by unfold giveUpB; exact decide_eq_false q4) hfr3 hV3 hW3 hVf3
            · have hmv : mvs n nx (some cs) p fo la tr c = none := by
                unfold mvs
                rw [show giveUpB (some cs) (fw p fo la tr c) = true from decide_eq_true q4]
                rfl
              have e1 : visL n nx (some cs) row p c (k + 1) tr fo la = ([], false) := by rw [visL, hmv]
              exact x_vret rfl dX12_goesVisit_87 ⟨rfl, hfr3, ⟨s, fun _ _ _ => rfl, by rw [e1]; simpa [hpl] using s21, by rw [e1, s22]; rfl, hV3⟩, vf, hVf3, by rw [e1]; simpa [hpl] using hvf⟩
theorem m_goesVisit {h : zH} {s : Nat → Value} {n op row p c : Nat} {nx sp : Option (List Nat)} (hV : VM h s al n op nx sp) (hr : row < fct n) (hp : p < n) : Zm g (d + 2) 0 0 mX12_goesVisit [.ref 59, .int (nI row), .int (nI p), .int (nI c)] h (rVp (fun h' => VMp h h' s al n op nx sp (vis n op nx sp row p c))) := by
  show Zw g (d + 2) 0 0 mX12_goesVisit 0 [some (.ref 59), some (.int (nI row)), some (.int (nI p)), some (.int (nI c)), none] [] h _
  obtain ⟨⟨hM, hF, -⟩, -⟩ := id hV
  refine x_al0 rfl dX12_goesVisit_0 ?_
  refine x_iconst (v := nI 0) dX12_goesVisit_1 rfl ?_
  refine x_pm fdX12_241 hM (by decide) zf_i dX12_goesVisit_2 ?_
  have hV1 := hV.s59 (k := 21) (v := .int (nI 0)) (by decide)
  have hf1 := Fr.set (ids := [59, 66, 67, 68]) (h := h) (i := 59) (e := .inr (12, mF (va_up s 21 (.int (nI 0))))) (by simp)
  generalize h.set 59 (.inr (12, mF (va_up s 21 (.int (nI 0))))) = h1 at hV1 hf1 ⊢
  obtain ⟨⟨hM, hF, -⟩, -⟩ := id hV1
  refine x_al0 rfl dX12_goesVisit_5 ?_
  refine x_iconst (v := nI 0) dX12_goesVisit_6 rfl ?_
  refine x_pm fdX12_244 hM (by decide) zf_z0 dX12_goesVisit_7 ?_
  have hV2 := hV1.s59 (k := 22) (v := .int (nI 0)) (by decide)
  have hf2 := hf1.tr (Fr.set (ids := [59, 66, 67, 68]) (h := h1) (i := 59) (e := .inr (12, mF (va_up (va_up s 21 (.int (nI 0))) 22 (.int (nI 0))))) (by simp))
  generalize h1.set 59 (.inr (12, mF (va_up (va_up s 21 (.int (nI 0))) 22 (.int (nI 0))))) = h2 at hV2 hf2 ⊢
  obtain ⟨⟨hM, hF, -⟩, -, -, -, -, -, -, ⟨w, hW⟩, -⟩ := id hV2
  refine x_al0 rfl dX12_goesVisit_10 ?_
  refine x_gm fdX12_39 hM (by decide) hF.f19 dX12_goesVisit_11 ?_
  refine x_iconst (v := nI 0) dX12_goesVisit_14 rfl ?_
  refine x_il2 dX12_goesVisit_15 ?_
  refine x_iast hW (vp_in_nI (by decide) (by decide)) dX12_goesVisit_16 ?_
  rw [nI_clamp (by decide)]
  have hV3 := hV2.s67 (f := upd w 0 (nI p))
  have hW3 : (h2.set 67 (.inl (0, 5, .inl (upd w 0 (nI p)))))[67]? = some (.inl (0, 5, .inl (upd w 0 (nI p)))) := hs_eq hW
  have hf3 := hf2.tr (Fr.set (ids := [59, 66, 67, 68]) (h := h2) (i := 67) (e := .inl (0, 5, .inl (upd w 0 (nI p)))) (by simp))
  generalize h2.set 67 (.inl (0, 5, .inl (upd w 0 (nI p)))) = h3 at hV3 hW3 hf3 ⊢
  obtain ⟨⟨hM, hF, -⟩, -⟩ := id hV3
  refine x_al0 rfl dX12_goesVisit_17 ?_
  refine x_gm fdX12_39 hM (by decide) hF.f19 dX12_goesVisit_18 ?_
  refine x_iconst (v := nI 1) dX12_goesVisit_21 rfl ?_
  refine x_il2 dX12_goesVisit_22 ?_
  refine x_iast hW3 (vp_in_nI (by decide) (by decide)) dX12_goesVisit_23 ?_
  rw [nI_clamp (by decide)]
  have hV4 := hV3.s67 (f := upd (upd w 0 (nI p)) 1 (nI p))
  have hW4 : (h3.set 67 (.inl (0, 5, .inl (upd (upd w 0 (nI p)) 1 (nI p)))))[67]? = some (.inl (0, 5, .inl (upd (upd w 0 (nI p)) 1 (nI p)))) := hs_eq hW3
  have hf4 := hf3.tr (Fr.set (ids := [59, 66, 67, 68]) (h := h3) (i := 67) (e := .inl (0, 5, .inl (upd (upd w 0 (nI p)) 1 (nI p)))) (by simp))
  generalize h3.set 67 (.inl (0, 5, .inl (upd (upd w 0 (nI p)) 1 (nI p)))) = h4 at hV4 hW4 hf4 ⊢
  obtain ⟨⟨hM, hF, -⟩, -⟩ := id hV4
  refine x_al0 rfl dX12_goesVisit_24 ?_
  refine x_gm fdX12_39 hM (by decide) hF.f19 dX12_goesVisit_25 ?_
  refine x_iconst (v := nI 2) dX12_goesVisit_28 rfl ?_
  refine x_il2 dX12_goesVisit_29 ?_
  refine x_iast hW4 (vp_in_nI (by decide) (by decide)) dX12_goesVisit_30 ?_
  rw [nI_clamp (by decide)]
  have hV5 := hV4.s67 (f := upd (upd (upd w 0 (nI p)) 1 (nI p)) 2 (nI p))
  have hW5 : (h4.set 67 (.inl (0, 5, .inl (upd (upd (upd w 0 (nI p)) 1 (nI p)) 2 (nI p)))))[67]? = some (.inl (0, 5, .inl (upd (upd (upd w 0 (nI p)) 1 (nI p)) 2 (nI p)))) := hs_eq hW4
  have hf5 := hf4.tr (Fr.set (ids := [59, 66, 67, 68]) (h := h4) (i := 67) (e := .inl (0, 5, .inl (upd (upd (upd w 0 (nI p)) 1 (nI p)) 2 (nI p)))) (by simp))
  generalize h4.set 67 (.inl (0, 5, .inl (upd (upd (upd w 0 (nI p)) 1 (nI p)) 2 (nI p)))) = h5 at hV5 hW5 hf5 ⊢
  obtain ⟨⟨hM, hF, -⟩, -⟩ := id hV5
  refine x_al0 rfl dX12_goesVisit_31 ?_
  refine x_gm fdX12_39 hM (by decide) hF.f19 dX12_goesVisit_32 ?_
  refine x_iconst (v := nI 4) dX12_goesVisit_35 rfl ?_
  refine x_il3 dX12_goesVisit_36 ?_
  refine x_iast hW5 (vp_in_nI (by decide) (by decide)) dX12_goesVisit_37 ?_
  rw [nI_clamp (by decide)]
  have hV6 := hV5.s67 (f := upd (upd (upd (upd w 0 (nI p)) 1 (nI p)) 2 (nI p)) 4 (nI c))
  have hW6 : (h5.set 67 (.inl (0, 5, .inl (upd (upd (upd (upd w 0 (nI p)) 1 (nI p)) 2 (nI p)) 4 (nI c)))))[67]? = some (.inl (0, 5, .inl (upd (upd (upd (upd w 0 (nI p)) 1 (nI p)) 2 (nI p)) 4 (nI c)))) := hs_eq hW5
  have hf6 := hf5.tr (Fr.set (ids := [59, 66, 67, 68]) (h := h5) (i := 67) (e := .inl (0, 5, .inl (upd (upd (upd (upd w 0 (nI p)) 1 (nI p)) 2 (nI p)) 4 (nI c)))) (by simp))
  generalize h5.set 67 (.inl (0, 5, .inl (upd (upd (upd (upd w 0 (nI p)) 1 (nI p)) 2 (nI p)) 4 (nI c)))) = h6 at hV6 hW6 hf6 ⊢
  obtain ⟨vf, hVf⟩ := hV6.2.2.2.2.2.2.2.2
  refine Zw.mono (lp_goesVisit hr hp op 0 p p [] _ h6 _ _ vf (by omega) hp hp rfl hV6 (by simp [va_up]) (by simp [va_up]) hW6 hVf (fun i hi => absurd hi (by omega)) (by simp [upd]) (by simp [upd]) (by simp [upd]) (by simp [upd])) (fun v h' hq => ?_)
  obtain ⟨rfl, b1, ⟨s', b2, b3, b4, b5⟩, b6⟩ := hq
  exact ⟨rfl, hf6.tr b1, ⟨s', fun j j1 j2 => by rw [b2 j j1 j2]; simp [va_up, j1, j2], b3, b4, b5⟩, b6⟩
end ZV

