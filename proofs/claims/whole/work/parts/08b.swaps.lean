/-! the class's Rows: swaps laid out -/
def prE (dd : Nat) : Nat → Nat → List (Nat × Nat)
  | _, 0 => []
  | e, k + 1 => (dd, e) :: prE dd (e + 1) k
def prD (n : Nat) : Nat → Nat → List (Nat × Nat)
  | _, 0 => []
  | dd, k + 1 => prE dd (dd + 1) (n - (dd + 1)) ++ prD n (dd + 1) k
/-- the pairs of drawers in their order -/
def prs (n : Nat) : List (Nat × Nat) := prD n 0 n
def np (n : Nat) : Nat := n * (n - 1) / 2
theorem prs_len {n : Nat} (hn : n ≤ 6) : (prs n).length = np n := by
  revert n
  decide
theorem prs_all {n : Nat} (hn : n ≤ 6) : (prs n).all (fun p => decide (p.1 < p.2 ∧ p.2 < n)) = true := by
  revert n
  decide
theorem np_le {n : Nat} (hn : n ≤ 6) : np n ≤ 15 := by
  revert n
  decide
theorem npf {n : Nat} (hn : n ≤ 6) : fct n * np n ≤ 10800 := by
  revert n
  decide
def pr1 (n k : Nat) : Nat := ((prs n).getD k (0, 0)).1
def pr2 (n k : Nat) : Nat := ((prs n).getD k (0, 0)).2
theorem pr_lt {n k : Nat} (hn : n ≤ 6) (hk : k < np n) : pr1 n k < pr2 n k ∧ pr2 n k < n := by
  have h1 := prs_all hn
  rw [List.all_eq_true] at h1
  have hl : k < (prs n).length := by rw [prs_len hn]; exact hk
  have := h1 (prs n)[k] (List.getElem_mem hl)
  simp at this
  unfold pr1 pr2
  rw [List.getD_eq_getElem?_getD, List.getElem?_eq_getElem hl]
  exact this
/-- the number of the row with two names swapped -/
def sw1 (n row dd e : Nat) : Nat := rnk n (fun i => nm n row (swk dd e i))
def swp (n row k : Nat) : Nat := sw1 n row (pr1 n k) (pr2 n k)
section ZS
variable {g : zG} {d : Nat}
theorem lp_fillSw {n rn rs len k0 dd e : Nat} {sw : Int32} (hdd : dd < n) (he : e < n) (hk0 : k0 < np n) (hln : fct n * np n ≤ len) (hl : len < 2 ^ 31) (r15 : rs ≠ 15) (r19 : rs ≠ 19) : ∀ (k row : Nat) (h : zH) (fs : Nat → Int32), row + k = fct n → RT h n rn rs sw → h[rs]? = some (.inl (0, len, .inl fs)) →
    Zw g (d + 2) 0 0 mX5_fillSwapped 3 [some (.ref 15), some (.int (nI k0)), some (.int (nI dd)), some (.int (nI e)), some (.int (nI row))] [] h (rVp (fun h' => RT h' n rn rs sw ∧ Fr [19, rs] h h' ∧ ∃ f', h'[rs]? = some (.inl (0, len, .inl f')) ∧ (∀ j, row ≤ j → j < fct n → f' (j * np n + k0) = nI (sw1 n j dd e)) ∧ ∀ i, (∀ j, row ≤ j → j < fct n → i ≠ j * np n + k0) → f' i = fs i)) := by
  intro k
  induction k with
  | zero =>
    intro row h fs hr hT hS
    have hn := hT.2.1
    have hf := fct_le hn
    have hR := hT.2.2.2.2.1
    obtain rfl : row = fct n := by omega
    refine x_il4 dX5_fillSwapped_3 ?_
    refine x_al0 rfl dX5_fillSwapped_5 ?_
    refine x_get fdX5_15 hR rfl dX5_fillSwapped_6 ?_
    refine x_icmp_ge (tgt := 40) dX5_fillSwapped_9 rfl (fun q1 => ?_) (fun q1 => ?_)
    · exact x_vret rfl dX5_fillSwapped_40 ⟨rfl, hT, Fr.rf, fs, hS, fun j h1 h2 => absurd h2 (by omega), fun _ _ => rfl⟩
    · exact absurd (nI_le (Nat.le_refl _) (by omega)) q1
  | succ k ih =>
    intro row h fs hr hT hS
    have hn := hT.2.1
    have hf := fct_le hn
    have hR := hT.2.2.2.2.1
    have hix : row * np n + k0 < fct n * np n := lt2 (show row < fct n by omega) hk0
    have hix2 : row * (n * (n - 1) / 2) + k0 < fct n * np n := hix
    refine x_il4 dX5_fillSwapped_3 ?_
    refine x_al0 rfl dX5_fillSwapped_5 ?_
    refine x_get fdX5_15 hR rfl dX5_fillSwapped_6 ?_
    refine x_icmp_ge (tgt := 40) dX5_fillSwapped_9 rfl (fun q1 => ?_) (fun q1 => ?_)
    · exact absurd q1 (nI_ge (by omega) (by omega))
    · refine x_al0 rfl dX5_fillSwapped_12 ?_
      refine x_get fdX5_29 hR rfl dX5_fillSwapped_13 ?_
      refine x_il4 dX5_fillSwapped_16 ?_
      refine x_al0 rfl dX5_fillSwapped_18 ?_
      refine x_get fdX5_18 hR rfl dX5_fillSwapped_19 ?_
      first | refine x_imul (pk_mul _ _) dX5_fillSwapped_22 ?_ | refine x_imul rfl dX5_fillSwapped_22 ?_
      refine x_il1 dX5_fillSwapped_23 ?_
      first | refine x_iadd (nI_add _ _) dX5_fillSwapped_24 ?_ | refine x_iadd rfl dX5_fillSwapped_24 ?_
      refine x_al0 rfl dX5_fillSwapped_25 ?_
      refine x_il4 dX5_fillSwapped_26 ?_
      refine x_il2 dX5_fillSwapped_28 ?_
      refine x_il3 dX5_fillSwapped_29 ?_
      refine x_cv3Ip mX5_swappedRow_ok lkX5_86 rfl (Nat.le_of_ble_eq_true rfl) (Nat.le_of_ble_eq_true rfl) dX5_fillSwapped_30 hR  (c_X5_swappedRow hT (show row < fct n by omega) hdd he) (fun r h hq => ?_)
      obtain ⟨rfl, fm, rfl⟩ := hq
      have gS : (h.set 19 (.inl (0, 6, .inl fm)))[rs]? = some (.inl (0, len, .inl fs)) := by rw [hs_ne (Ne.symm r19)]; exact hS
      refine x_iast gS (vp_in_nI (by omega) (by omega)) dX5_fillSwapped_33 ?_
      rw [nI_clamp (by omega)]
      first | refine x_ii4 rfl (nI_1 _) dX5_fillSwapped_34 ?_ | refine x_ii4 rfl rfl dX5_fillSwapped_34 ?_
      refine x_goto (tgt := 3) dX5_fillSwapped_37 rfl ?_
      have hT2 : RT ((h.set 19 (.inl (0, 6, .inl fm))).set rs (.inl (0, len, .inl (upd fs (row * np n + k0) (nI (sw1 n row dd e)))))) n rn rs sw := hT.made.setT gS (by simp [z_tg]) (Or.inl (by simp [z_tg])) r19
      refine Zw.mono (ih (row + 1) _ _ (by omega) hT2 (hs_eq gS)) (fun v h' hq => ?_)
      obtain ⟨rfl, q1, q2, f', q3, q4, q5⟩ := hq
      refine ⟨rfl, q1, ((Fr.set (by simp)).tr (Fr.set (by simp))).tr q2, f', q3, fun j j1 j2 => ?_, fun i hi => ?_⟩
      · rcases Nat.eq_or_lt_of_le j1 with z | z
        · subst z
          rw [q5 _ (fun j' h1 h2 hh => ?_)]
          · exact if_pos rfl
          · have := (inj2 hk0 hk0 hh).1
            omega
        · exact q4 j z j2
      · rw [q5 i (fun j' h1 h2 => hi j' (by omega) h2)]
        exact if_neg (hi row (by omega) (by omega))
theorem c_fillSwapped {n rn rs len k0 dd e : Nat} {sw : Int32} {h : zH} {fs : Nat → Int32} (hT : RT h n rn rs sw) (hS : h[rs]? = some (.inl (0, len, .inl fs))) (hdd : dd < n) (he : e < n) (hk0 : k0 < np n) (hln : fct n * np n ≤ len) (hl : len < 2 ^ 31) (r15 : rs ≠ 15) (r19 : rs ≠ 19) :
    Zm g (d + 2) 0 0 mX5_fillSwapped [.ref 15, .int (nI k0), .int (nI dd), .int (nI e)] h (rVp (fun h' => RT h' n rn rs sw ∧ Fr [19, rs] h h' ∧ ∃ f', h'[rs]? = some (.inl (0, len, .inl f')) ∧ (∀ j, j < fct n → f' (j * np n + k0) = nI (sw1 n j dd e)) ∧ ∀ j k, k ≠ k0 → k < np n → f' (j * np n + k) = fs (j * np n + k))) := by
  show Zw g (d + 2) 0 0 mX5_fillSwapped 0 [some (.ref 15), some (.int (nI k0)), some (.int (nI dd)), some (.int (nI e)), none] [] h _
  refine x_iconst (v := nI 0) dX5_fillSwapped_0 rfl ?_
  refine x_is4 rfl dX5_fillSwapped_1 ?_
  refine Zw.mono (lp_fillSw hdd he hk0 hln hl r15 r19 (fct n) 0 h fs (by omega) hT hS) (fun v h' hq => ?_)
  obtain ⟨rfl, q1, q2, f', q3, q4, q5⟩ := hq
  exact ⟨rfl, q1, q2, f', q3, fun j hj => q4 j (by omega) hj, fun j k hk hkn => q5 _ (fun j' _ _ hh => hk (inj2 hkn hk0 hh).2)⟩
/-- the first pairs stand -/
def SwP (n : Nat) (pre : List (Nat × Nat)) (fc fs : Nat → Int32) : Prop := ∀ k, k < pre.length → fc k = nI (10 * (pre.getD k (0, 0)).1 + (pre.getD k (0, 0)).2) ∧ ∀ row, row < fct n → fs (row * np n + k) = nI (sw1 n row (pre.getD k (0, 0)).1 (pre.getD k (0, 0)).2)
theorem gD_l {α : Type} {a b : List α} {k : Nat} {x : α} (h : k < a.length) : (a ++ b).getD k x = a.getD k x := by rw [List.getD_eq_getElem?_getD, List.getD_eq_getElem?_getD, List.getElem?_append_left h]
theorem gD_n {α : Type} {a : List α} {y x : α} : (a ++ [y]).getD a.length x = y := by simp [List.getD_eq_getElem?_getD]
theorem lp_prsE {n rn rs len dd : Nat} {sw : Int32} {Q : Option Value → zH → Prop} (hln : fct n * np n ≤ len) (hl : len < 2 ^ 31) (r15 : rs ≠ 15) (r19 : rs ≠ 19) (r18 : rs ≠ 18) (h0 : zH) (tl : List (Nat × Nat)) (hdd : dd < n) : ∀ (k e : Nat) (pre : List (Nat × Nat)) (h : zH) (fc fs : Nat → Int32), e + k = n → (pre ++ prE dd e k ++ tl).length = np n → RT h n rn rs sw → Fr [18, 19, rs] h0 h → h[rs]? = some (.inl (0, len, .inl fs)) → h[18]? = some (.inl (0, 15, .inl fc)) → SwP n pre fc fs →
    (∀ (h' : zH) (fc' fs' : Nat → Int32), RT h' n rn rs sw → Fr [18, 19, rs] h0 h' → h'[rs]? = some (.inl (0, len, .inl fs')) → h'[18]? = some (.inl (0, 15, .inl fc')) → SwP n (pre ++ prE dd e k) fc' fs' → Zw g (d + 3) 0 0 mX5_prepareSwaps 98 [some (.ref 15), some (.int (nI (pre ++ prE dd e k).length)), some (.int (nI dd)), some (.int (nI n))] [] h' Q) →
    Zw g (d + 3) 0 0 mX5_prepareSwaps 56 [some (.ref 15), some (.int (nI pre.length)), some (.int (nI dd)), some (.int (nI e))] [] h Q := by
  intro k
  induction k with
  | zero =>
    intro e pre h fc fs hek hpl hT hfr hS hC hP K
    have hn := hT.2.1
    have hR := hT.2.2.2.2.1
    obtain rfl : e = n := by omega
    refine x_il3 dX5_prepareSwaps_56 ?_
    refine x_al0 rfl dX5_prepareSwaps_57 ?_
    refine x_get fdX5_9 hR rfl dX5_prepareSwaps_58 ?_
    refine x_icmp_ge (tgt := 98) dX5_prepareSwaps_61 rfl (fun q1 => ?_) (fun q1 => ?_)
    · have := K h fc fs hT hfr hS hC (by simpa [prE] using hP)
      simpa [prE] using this
    · exact absurd (nI_le (Nat.le_refl _) (by omega)) q1
  | succ k ih =>
    intro e pre h fc fs hek hpl hT hfr hS hC hP K
    have hn := hT.2.1
    have hR := hT.2.2.2.2.1
    have hnp := np_le hn
    have hpl2 : pre.length < np n := by
      simp [prE] at hpl
      omega
    refine x_il3 dX5_prepareSwaps_56 ?_
    refine x_al0 rfl dX5_prepareSwaps_57 ?_
    refine x_get fdX5_9 hR rfl dX5_prepareSwaps_58 ?_
    refine x_icmp_ge (tgt := 98) dX5_prepareSwaps_61 rfl (fun q1 => ?_) (fun q1 => ?_)
    · exact absurd q1 (nI_ge (by omega) (by omega))
    · refine x_il1 dX5_prepareSwaps_64 ?_
      refine x_bipush (v := nI 15) dX5_prepareSwaps_65 rfl ?_
      refine x_icmp_ge (tgt := 98) dX5_prepareSwaps_67 rfl (fun q2 => ?_) (fun q2 => ?_)
      · exact absurd q2 (nI_ge (by omega) (by decide))
      · refine x_al0 rfl dX5_prepareSwaps_70 ?_
        refine x_get fdX5_33 hR rfl dX5_prepareSwaps_71 ?_
        refine x_il1 dX5_prepareSwaps_74 ?_
        refine x_bipush (v := nI 10) dX5_prepareSwaps_75 rfl ?_
        refine x_il2 dX5_prepareSwaps_77 ?_
        first | refine x_imul (pk_mul _ _) dX5_prepareSwaps_78 ?_ | refine x_imul rfl dX5_prepareSwaps_78 ?_
        refine x_il3 dX5_prepareSwaps_79 ?_
        first | refine x_iadd (nI_add _ _) dX5_prepareSwaps_80 ?_ | refine x_iadd rfl dX5_prepareSwaps_80 ?_
        refine x_iast hC (vp_in_nI (by omega) (by decide)) dX5_prepareSwaps_81 ?_
        rw [nI_clamp (by omega)]
        have gC := hs_eq (e := .inl (0, 15, .inl (upd fc pre.length (nI (10 * dd + e))))) hC
        have gS : (h.set 18 (.inl (0, 15, .inl (upd fc pre.length (nI (10 * dd + e))))))[rs]? = some (.inl (0, len, .inl fs)) := by rw [hs_ne (Ne.symm r18)]; exact hS
        have gT : RT (h.set 18 (.inl (0, 15, .inl (upd fc pre.length (nI (10 * dd + e)))))) n rn rs sw := hT.setT hC (by simp [z_tg]) (Or.inl (by simp [z_tg])) (by decide)
        have gf : Fr [18, 19, rs] h0 (h.set 18 (.inl (0, 15, .inl (upd fc pre.length (nI (10 * dd + e)))))) := hfr.tr (Fr.set (by simp))
        generalize h.set 18 (.inl (0, 15, .inl (upd fc pre.length (nI (10 * dd + e))))) = h1 at gC gS gT gf ⊢
        refine x_al0 rfl dX5_prepareSwaps_82 ?_
        refine x_il1 dX5_prepareSwaps_83 ?_
        refine x_il2 dX5_prepareSwaps_84 ?_
        refine x_il3 dX5_prepareSwaps_85 ?_
        have gR := gT.2.2.2.2.1
        refine x_cv3Vp mX5_fillSwapped_ok lkX5_82 rfl (Nat.le_of_ble_eq_true rfl) (Nat.le_of_ble_eq_true rfl) dX5_prepareSwaps_86 gR  (c_fillSwapped gT gS hdd (show e < n by omega) hpl2 hln hl r15 r19) (fun h hq => ?_)
        obtain ⟨q1, q2, f', q3, q4, q5⟩ := hq
        first | refine x_ii1 rfl (nI_1 _) dX5_prepareSwaps_89 ?_ | refine x_ii1 rfl rfl dX5_prepareSwaps_89 ?_
        first | refine x_ii3 rfl (nI_1 _) dX5_prepareSwaps_92 ?_ | refine x_ii3 rfl rfl dX5_prepareSwaps_92 ?_
        refine x_goto (tgt := 56) dX5_prepareSwaps_95 rfl ?_
        have e1 : pre ++ prE dd e (k + 1) = (pre ++ [(dd, e)]) ++ prE dd (e + 1) k := by simp [prE]
        have := ih (e + 1) (pre ++ [(dd, e)]) _ _ f' (by omega) (by rw [← e1]; exact hpl) q1 (gf.tr (q2.mono (by simp))) q3 (q2.get gC (by simp; exact Ne.symm r18)) (fun i hi => ?_) (by rw [← e1]; exact K)
        · simpa using this
        · simp at hi
          rcases Nat.lt_or_ge i pre.length with z | z
          · rw [gD_l z]
            obtain ⟨p1, p2⟩ := hP i z
            refine ⟨?_, fun row hrow => ?_⟩
            · simp only [upd]
              rw [if_neg (by omega)]
              exact p1
            · rw [q5 row i (by omega) (by omega)]
              exact p2 row hrow
          · obtain rfl : i = pre.length := by omega
            rw [gD_n]
            exact ⟨by simp [upd], fun row hrow => q4 row hrow⟩
theorem lp_prsD {n rn rs len : Nat} {sw : Int32} {Q : Option Value → zH → Prop} (hln : fct n * np n ≤ len) (hl : len < 2 ^ 31) (r15 : rs ≠ 15) (r19 : rs ≠ 19) (r18 : rs ≠ 18) (h0 : zH) : ∀ (k dd : Nat) (x : Option Value) (pre : List (Nat × Nat)) (h : zH) (fc fs : Nat → Int32), dd + k = n → pre ++ prD n dd k = prs n → RT h n rn rs sw → Fr [18, 19, rs] h0 h → h[rs]? = some (.inl (0, len, .inl fs)) → h[18]? = some (.inl (0, 15, .inl fc)) → SwP n pre fc fs →
    (∀ (h' : zH) (fc' fs' : Nat → Int32) (l1 l2 l3 : Option Value), RT h' n rn rs sw → Fr [18, 19, rs] h0 h' → h'[rs]? = some (.inl (0, len, .inl fs')) → h'[18]? = some (.inl (0, 15, .inl fc')) → SwP n (prs n) fc' fs' → Zw g (d + 3) 0 0 mX5_prepareSwaps 104 [some (.ref 15), l1, l2, l3] [] h' Q) →
    Zw g (d + 3) 0 0 mX5_prepareSwaps 44 [some (.ref 15), some (.int (nI pre.length)), some (.int (nI dd)), x] [] h Q := by
  intro k
  induction k with
  | zero =>
    intro dd x pre h fc fs hk hpp hT hfr hS hC hP K
    have hn := hT.2.1
    have hR := hT.2.2.2.2.1
    obtain rfl : dd = n := by omega
    simp [prD] at hpp
    subst hpp
    refine x_il2 dX5_prepareSwaps_44 ?_
    refine x_al0 rfl dX5_prepareSwaps_45 ?_
    refine x_get fdX5_9 hR rfl dX5_prepareSwaps_46 ?_
    refine x_icmp_ge (tgt := 104) dX5_prepareSwaps_49 rfl (fun q1 => ?_) (fun q1 => ?_)
    · exact K h fc fs _ _ _ hT hfr hS hC hP
    · exact absurd (nI_le (Nat.le_refl _) (by omega)) q1
  | succ k ih =>
    intro dd x pre h fc fs hk hpp hT hfr hS hC hP K
    have hn := hT.2.1
    have hR := hT.2.2.2.2.1
    refine x_il2 dX5_prepareSwaps_44 ?_
    refine x_al0 rfl dX5_prepareSwaps_45 ?_
    refine x_get fdX5_9 hR rfl dX5_prepareSwaps_46 ?_
    refine x_icmp_ge (tgt := 104) dX5_prepareSwaps_49 rfl (fun q1 => ?_) (fun q1 => ?_)
    · exact absurd q1 (nI_ge (by omega) (by omega))
    · refine x_il2 dX5_prepareSwaps_52 ?_
      refine x_iconst (v := nI 1) dX5_prepareSwaps_53 rfl ?_
      first | refine x_iadd (nI_add _ _) dX5_prepareSwaps_54 ?_ | refine x_iadd rfl dX5_prepareSwaps_54 ?_
      refine x_is3 rfl dX5_prepareSwaps_55 ?_
      have e1 : pre ++ prE dd (dd + 1) (n - (dd + 1)) ++ prD n (dd + 1) k = prs n := by rw [← hpp]; simp [prD]
      refine lp_prsE hln hl r15 r19 r18 h0 (prD n (dd + 1) k) (show dd < n by omega) (n - (dd + 1)) (dd + 1) pre h fc fs (by omega) (by rw [e1]; exact prs_len hn) hT hfr hS hC hP (fun h' fc' fs' t1 t2 t3 t4 t5 => ?_)
      first | refine x_ii2 rfl (nI_1 _) dX5_prepareSwaps_98 ?_ | refine x_ii2 rfl rfl dX5_prepareSwaps_98 ?_
      refine x_goto (tgt := 44) dX5_prepareSwaps_101 rfl ?_
      exact ih (dd + 1) _ _ h' fc' fs' (by omega) e1 t1 t2 t3 t4 t5 K
end ZS
/-- all swaps stand -/
def SwO (h : zH) (n rs : Nat) : Prop := ∃ len fs fc, h[rs]? = some (.inl (0, len, .inl fs)) ∧ h[18]? = some (.inl (0, 15, .inl fc)) ∧ fct n * np n ≤ len ∧ len < 2 ^ 31 ∧ SwP n (prs n) fc fs
section ZS2
variable {g : zG} {d : Nat} {h : zH}
theorem c_bySwap {n rn rs row k : Nat} {sw : Int32} (hT : RT h n rn rs sw) (hS : SwO h n rs) (hr : row < fct n) (hk : k < np n) : Zm g d 0 0 mX5_bySwap [.ref 15, .int (nI row), .int (nI k)] h (rI (nI (swp n row k)) h) := by
  obtain ⟨len, fs, fc, s1, s2, s3, s4, s5⟩ := hS
  have hn := hT.2.1
  have hR := hT.2.2.2.2.1
  have hix : row * np n + k < fct n * np n := lt2 hr hk
  have hix2 : row * (n * (n - 1) / 2) + k < fct n * np n := hix
  have hv := (s5 k (by rw [prs_len hn]; exact hk)).2 row hr
  show Zw g d 0 0 mX5_bySwap 0 [some (.ref 15), some (.int (nI row)), some (.int (nI k)), none] [] h _
  refine x_il1 dX5_bySwap_0 ?_
  refine x_al0 rfl dX5_bySwap_1 ?_
  refine x_get fdX5_18 hR rfl dX5_bySwap_2 ?_
  first | refine x_imul (pk_mul _ _) dX5_bySwap_5 ?_ | refine x_imul rfl dX5_bySwap_5 ?_
  refine x_il2 dX5_bySwap_6 ?_
  first | refine x_iadd (nI_add _ _) dX5_bySwap_7 ?_ | refine x_iadd rfl dX5_bySwap_7 ?_
  refine x_is3 rfl dX5_bySwap_8 ?_
  refine x_il3 dX5_bySwap_9 ?_
  refine x_if_lt (tgt := 31) dX5_bySwap_10 rfl (fun q1 => ?_) (fun q1 => ?_)
  · exact absurd q1 (nI_pos (by omega))
  · refine x_il3 dX5_bySwap_13 ?_
    refine x_al0 rfl dX5_bySwap_14 ?_
    refine x_get fdX5_29 hR rfl dX5_bySwap_15 ?_
    refine x_alen rfl s1 rfl dX5_bySwap_18 ?_
    refine x_icmp_ge (tgt := 31) dX5_bySwap_19 rfl (fun q2 => ?_) (fun q2 => ?_)
    · exact absurd q2 (nI_ge (by omega) s4)
    · refine x_al0 rfl dX5_bySwap_22 ?_
      refine x_get fdX5_29 hR rfl dX5_bySwap_23 ?_
      refine x_il3 dX5_bySwap_26 ?_
      refine x_iald s1 (vp_in_nI (by omega) s4) (ald hv (by omega)) dX5_bySwap_27 ?_
      refine x_goto (tgt := 32) dX5_bySwap_28 rfl ?_
      exact x_iret rfl rfl dX5_bySwap_32 ⟨rfl, rfl⟩
theorem c_codeOf {n rn rs k : Nat} {sw : Int32} (hT : RT h n rn rs sw) (hS : SwO h n rs) (hk : k < np n) : Zm g d 0 0 mX5_codeOf [.ref 15, .int (nI k)] h (rI (nI (10 * pr1 n k + pr2 n k)) h) := by
  obtain ⟨len, fs, fc, s1, s2, s3, s4, s5⟩ := hS
  have hn := hT.2.1
  have hnp := np_le hn
  have hR := hT.2.2.2.2.1
  have hv := (s5 k (by rw [prs_len hn]; exact hk)).1
  show Zw g d 0 0 mX5_codeOf 0 [some (.ref 15), some (.int (nI k))] [] h _
  refine x_il1 dX5_codeOf_0 ?_
  refine x_if_lt (tgt := 21) dX5_codeOf_1 rfl (fun q1 => ?_) (fun q1 => ?_)
  · exact absurd q1 (nI_pos (by omega))
  · refine x_il1 dX5_codeOf_4 ?_
    refine x_al0 rfl dX5_codeOf_5 ?_
    refine x_get fdX5_18 hR rfl dX5_codeOf_6 ?_
    refine x_icmp_ge (tgt := 21) dX5_codeOf_9 rfl (fun q2 => ?_) (fun q2 => ?_)
    · exact absurd q2 (nI_ge (show k < n * (n - 1) / 2 from hk) (show n * (n - 1) / 2 < 2 ^ 31 from Nat.lt_of_le_of_lt hnp (by decide)))
    · refine x_al0 rfl dX5_codeOf_12 ?_
      refine x_get fdX5_33 hR rfl dX5_codeOf_13 ?_
      refine x_il1 dX5_codeOf_16 ?_
      refine x_iald s2 (vp_in_nI (by omega) (by decide)) (ald hv (by omega)) dX5_codeOf_17 ?_
      refine x_goto (tgt := 22) dX5_codeOf_18 rfl ?_
      exact x_iret rfl rfl dX5_codeOf_22 ⟨rfl, rfl⟩
/-- an int row of the rows' own: neither 15, 18 nor 19 -/
theorem c_prepareSwaps {n rn rs len : Nat} {sw : Int32} {fs fc : Nat → Int32} (hT : RT h n rn rs sw) (hsw : sw = nI 0 ∨ (sw = nI 1 ∧ SwO h n rs)) (hS : h[rs]? = some (.inl (0, len, .inl fs))) (hC : h[18]? = some (.inl (0, 15, .inl fc))) (hl : len < 2 ^ 31) (r18 : rs ≠ 18) (r19 : rs ≠ 19) : Zm g (d + 3) 1 (if sw = nI 1 then 0 else grw len (fct n * np n)) mX5_prepareSwaps [.ref 15] h (rVp (fun h' => ∃ rs', RT h' n rn rs' (nI 1) ∧ SwO h' n rs' ∧ Fr [15, 18, 19, rs] h h' ∧ (∃ fs', h'[rs']? = some (.inl (0, if sw = nI 1 then len else max len (fct n * np n), .inl fs'))) ∧ (rs' = rs ∨ rs' = h.length))) := by
  have hn := hT.2.1
  have hR := hT.2.2.2.2.1
  have r15 : rs ≠ 15 := fun q => by rw [q, hR] at hS; cases hS
  have hnf := npf hn
  have hfl := fct_le hn
  have hnp := np_le hn
  have n15 := hp_ne hR
  have n18 := hp_ne hC
  obtain ⟨len0, f0, hA, -⟩ := hT.2.2.2.2.2.1
  have rnr : rs ≠ rn := fun q => by rw [q, hA] at hS; cases hS
  show Zw g (d + 3) 1 _ mX5_prepareSwaps 0 [some (.ref 15), none, none, none] [] h _
  rcases hsw with rfl | ⟨rfl, hO⟩
  · rw [if_neg (by decide), if_neg (by decide)]
    refine x_al0 rfl dX5_prepareSwaps_0 ?_
    refine x_get fdX5_21 hR rfl dX5_prepareSwaps_1 ?_
    refine x_if_eq (tgt := 8) dX5_prepareSwaps_4 rfl (fun q1 => ?_) (fun q1 => ?_)
    · refine x_al0 rfl dX5_prepareSwaps_8 ?_
      refine x_get fdX5_29 hR rfl dX5_prepareSwaps_9 ?_
      refine x_alen rfl hS rfl dX5_prepareSwaps_12 ?_
      refine x_al0 rfl dX5_prepareSwaps_13 ?_
      refine x_get fdX5_15 hR rfl dX5_prepareSwaps_14 ?_
      refine x_al0 rfl dX5_prepareSwaps_17 ?_
      refine x_get fdX5_18 hR rfl dX5_prepareSwaps_18 ?_
      first | refine x_imul (pk_mul _ _) dX5_prepareSwaps_21 ?_ | refine x_imul rfl dX5_prepareSwaps_21 ?_
      rw [show fct n * (n * (n - 1) / 2) = fct n * np n from rfl]
      refine x_icmp_ge (tgt := 40) dX5_prepareSwaps_22 rfl (fun q2 => ?_) (fun q2 => ?_)
      · have q2 : fct n * np n ≤ len := by
          rcases Nat.lt_or_ge len (fct n * np n) with z | z
          · exact absurd q2 (nI_ge z (by omega))
          · exact z
        refine Zw.room (κ' := 0) (σ' := 0) ?_ (by omega) (by omega)
        refine x_iconst (v := nI 0) dX5_prepareSwaps_40 rfl ?_
        refine x_is1 rfl dX5_prepareSwaps_41 ?_
        refine x_iconst (v := nI 0) dX5_prepareSwaps_42 rfl ?_
        refine x_is2 rfl dX5_prepareSwaps_43 ?_
        refine lp_prsD (n := n) q2 hl r15 r19 r18 h n 0 _ [] h fc fs (by omega) rfl hT Fr.rf hS hC (fun k hk => absurd hk (by simp)) (fun h' fc' fs' l1 l2 l3 t1 t2 t3 t4 t5 => ?_)
        have tR := t1.2.2.2.2.1
        refine x_al0 rfl dX5_prepareSwaps_104 ?_
        refine x_iconst (v := nI 1) dX5_prepareSwaps_105 rfl ?_
        refine x_put fdX5_21 tR (zf_z (by first | exact Or.inl rfl | exact Or.inr rfl)) (by simp) dX5_prepareSwaps_106 ?_
        rw [show ([Value.int (nI n), .int (nI (fct n)), .int (nI (n * (n - 1) / 2)), .int (nI 0), .ref rn, .ref rs, .ref 18, .ref 19] : List Value).set 3 (.int (nI 1)) = [.int (nI n), .int (nI (fct n)), .int (nI (n * (n - 1) / 2)), .int (nI 1), .ref rn, .ref rs, .ref 18, .ref 19] from rfl]
        obtain ⟨a1, a2, a3, a4, a5, ⟨ln, f1, a6, a7⟩, fm, a8⟩ := id t1
        have tS : (h'.set 15 (rowsE n (nI 1) rn rs))[rs]? = some (.inl (0, len, .inl fs')) := by rw [hs_ne (Ne.symm r15)]; exact t3
        exact x_vret rfl dX5_prepareSwaps_109 ⟨rfl, rs, ⟨a1, a2, a3, a4, hs_eq tR, ⟨ln, f1, by rw [hs_ne (Ne.symm a3)]; exact a6, a7⟩, fm, by rw [hs_ne (by decide)]; exact a8⟩, ⟨len, fs', fc', tS, by rw [hs_ne (by decide)]; exact t4, q2, hl, t5⟩, (t2.mono (by simp)).tr (Fr.set (by simp)), ⟨fs', by rw [grw_max, if_neg (by omega)]; exact tS⟩, Or.inl rfl⟩
      · have q2 : len < fct n * np n := by
          rcases Nat.lt_or_ge len (fct n * np n) with z | z
          · exact z
          · exact absurd (nI_le z hl) q2
        rw [show grw len (fct n * np n) = 0 + fct n * np n from by unfold grw; rw [if_pos q2]; omega]
        refine x_al0 rfl dX5_prepareSwaps_25 ?_
        refine x_al0 rfl dX5_prepareSwaps_26 ?_
        refine x_get fdX5_15 hR rfl dX5_prepareSwaps_27 ?_
        refine x_al0 rfl dX5_prepareSwaps_30 ?_
        refine x_get fdX5_18 hR rfl dX5_prepareSwaps_31 ?_
        first | refine x_imul (pk_mul _ _) dX5_prepareSwaps_34 ?_ | refine x_imul rfl dX5_prepareSwaps_34 ?_
        rw [show fct n * (n * (n - 1) / 2) = fct n * np n from rfl]
        refine x_newa_int ka_int (nI_pos (by omega)) (nI_clamp (by omega)) (by omega) dX5_prepareSwaps_35 ?_
        refine x_put fdX5_29 (hp_old hR) zf_a (by simp) dX5_prepareSwaps_37 ?_
        rw [show ([Value.int (nI n), .int (nI (fct n)), .int (nI (n * (n - 1) / 2)), .int (nI 0), .ref rn, .ref rs, .ref 18, .ref 19] : List Value).set 5 (.ref h.length) = [.int (nI n), .int (nI (fct n)), .int (nI (n * (n - 1) / 2)), .int (nI 0), .ref rn, .ref h.length, .ref 18, .ref 19] from rfl]
        obtain ⟨a1, a2, a3, a4, a5, ⟨ln, f1, a6, a7⟩, fm, a8⟩ := id hT
        have kT : RT ((h ++ [newI (fct n * np n)]).set 15 (rowsE n (nI 0) rn h.length)) n rn h.length (nI 0) := ⟨a1, a2, a3, a4, hs_eq (hp_old hR), ⟨ln, f1, by rw [hs_ne (Ne.symm a3)]; exact hp_old a6, a7⟩, fm, by rw [hs_ne (by decide)]; exact hp_old a8⟩
        have kN : ((h ++ [newI (fct n * np n)]).set 15 (rowsE n (nI 0) rn h.length))[h.length]? = some (newI (fct n * np n)) := by rw [hs_ne (by omega)]; exact hp_new
        have kC : ((h ++ [newI (fct n * np n)]).set 15 (rowsE n (nI 0) rn h.length))[18]? = some (.inl (0, 15, .inl fc)) := by rw [hs_ne (by decide)]; exact hp_old hC
        have kf : Fr [15, 18, 19, rs] h ((h ++ [newI (fct n * np n)]).set 15 (rowsE n (nI 0) rn h.length)) := Fr.push.tr (Fr.set (by simp))
        have n19 := hp_ne a8
        generalize (h ++ [newI (fct n * np n)]).set 15 (rowsE n (nI 0) rn h.length) = h2 at kT kN kC kf ⊢
        refine x_iconst (v := nI 0) dX5_prepareSwaps_40 rfl ?_
        refine x_is1 rfl dX5_prepareSwaps_41 ?_
        refine x_iconst (v := nI 0) dX5_prepareSwaps_42 rfl ?_
        refine x_is2 rfl dX5_prepareSwaps_43 ?_
        refine lp_prsD (n := n) (Nat.le_refl _) (by omega) n15 n19 n18 h2 n 0 _ [] h2 fc _ (by omega) rfl kT Fr.rf kN kC (fun k hk => absurd hk (by simp)) (fun h' fc' fs' l1 l2 l3 t1 t2 t3 t4 t5 => ?_)
        have tR := t1.2.2.2.2.1
        refine x_al0 rfl dX5_prepareSwaps_104 ?_
        refine x_iconst (v := nI 1) dX5_prepareSwaps_105 rfl ?_
        refine x_put fdX5_21 tR (zf_z (by first | exact Or.inl rfl | exact Or.inr rfl)) (by simp) dX5_prepareSwaps_106 ?_
        rw [show ([Value.int (nI n), .int (nI (fct n)), .int (nI (n * (n - 1) / 2)), .int (nI 0), .ref rn, .ref h.length, .ref 18, .ref 19] : List Value).set 3 (.int (nI 1)) = [.int (nI n), .int (nI (fct n)), .int (nI (n * (n - 1) / 2)), .int (nI 1), .ref rn, .ref h.length, .ref 18, .ref 19] from rfl]
        obtain ⟨a1, a2, a3, a4, a5, ⟨ln, f1, a6, a7⟩, fm, a8⟩ := id t1
        have tS : (h'.set 15 (rowsE n (nI 1) rn h.length))[h.length]? = some (.inl (0, fct n * np n, .inl fs')) := by rw [hs_ne (Ne.symm n15)]; exact t3
        have tf : Fr [15, 18, 19, rs] h h' := ⟨Nat.le_trans kf.1 t2.1, fun i hi hni => (t2.2 i (Nat.lt_of_lt_of_le hi kf.1) (by simp at hni ⊢; omega)).trans (kf.2 i hi hni)⟩
        exact x_vret rfl dX5_prepareSwaps_109 ⟨rfl, h.length, ⟨a1, a2, a3, a4, hs_eq tR, ⟨ln, f1, by rw [hs_ne (Ne.symm a3)]; exact a6, a7⟩, fm, by rw [hs_ne (by decide)]; exact a8⟩, ⟨_, fs', fc', tS, by rw [hs_ne (by decide)]; exact t4, Nat.le_refl _, by omega, t5⟩, tf.tr (Fr.set (by simp)), ⟨fs', by rw [grw_max, if_pos q2]; exact tS⟩, Or.inr rfl⟩
    · exact absurd rfl q1
  · rw [if_pos rfl, if_pos rfl]
    refine Zw.room (κ' := 0) (σ' := 0) ?_ (by omega) (by omega)
    refine x_al0 rfl dX5_prepareSwaps_0 ?_
    refine x_get fdX5_21 hR rfl dX5_prepareSwaps_1 ?_
    refine x_if_eq (tgt := 8) dX5_prepareSwaps_4 rfl (fun q1 => ?_) (fun q1 => ?_)
    · exact absurd q1 (by decide)
    · exact x_vret rfl dX5_prepareSwaps_7 ⟨rfl, rs, hT, hO, Fr.rf, ⟨fs, hS⟩, Or.inl rfl⟩
end ZS2

