/-! what was found: the words; Arrays.fill -/
theorem visL_mem {n : Nat} {nx sp : Option (List Nat)} {row p c : Nat} (h0 : 0 < n) (hn : n ≤ 6) (hr : row < fct n) : ∀ k tr fo la, fo < n → ∀ x ∈ (visL n nx sp row p c k tr fo la).1, x < n := by
  intro k
  induction k with
  | zero => intro tr fo la _ x hx; cases hx
  | succ k ih =>
    intro tr fo la hf x hx
    unfold visL at hx
    split at hx
    · cases hx
    · next dd hd =>
      have hdd : dd < n := by
        unfold mvs at hd
        split at hd
        · cases hd
        · cases hd; exact opensD_lt h0 hf
      split at hx
      · simp only [List.mem_singleton] at hx
        rw [hx]; exact hdd
      · simp only [List.mem_cons] at hx
        rcases hx with rfl | hx
        · exact hdd
        · exact ih _ _ _ (nm_lt hn hr hdd) x hx
theorem visD_lt {dk : zDk} {row p c i : Nat} (h0 : 0 < dk.1) (hn : dk.1 ≤ 6) (hr : row < fct dk.1) (hp : p < dk.1) (hi : i < (visD dk row p c).1.length) : (visD dk row p c).1.getD i 0 < dk.1 := by
  rw [List.getD_eq_getElem?_getD, List.getElem?_eq_getElem hi]
  exact visL_mem h0 hn hr _ _ _ _ hp _ (List.getElem_mem hi)
def fitB (dk : zDk) (c p : Nat) (vs : List Int64) (s : Nat) : Bool := decide (vs.length ≤ (visD dk s p c).1.length) && allL (fun i => decide (vs.getD i 0 = -1 ∨ vs.getD i 0 = lN (nm dk.1 s ((visD dk s p c).1.getD i 0)))) vs.length 0
def rngB (lo hi : Int) (vs : List Int64) (i : Nat) : Bool := decide (lo ≤ (vs.getD i 0).toInt ∧ (vs.getD i 0).toInt ≤ hi)
def rfs (lo hi : Int) (vs : List Int64) : Int32 := if 1 ≤ vs.length ∧ vs.length ≤ 8 then (if allL (rngB lo hi vs) vs.length 0 then 0 else -3) else -4
def noTl (tr : Nat → zTr) (lo hi : Int) (x : Int32) : Int32 := if oneOf x 4 then (match tr (tn x) with | none => -6 | some q => rfs lo hi q.2) else -2
def fR (dk : zDk) (tr : Nat → zTr) (x y : Int32) : Int32 := if oneOf x 4 ∧ oneOf y dk.1 then noTl tr (-1) ((dk.1 : Int) - 1) x else -2
def tv (tr : Nat → zTr) (x : Int32) : List Int64 := match tr (tn x) with | none => [] | some q => q.2
theorem rfs_0 {lo hi : Int} {vs : List Int64} (h : rfs lo hi vs = 0) : 1 ≤ vs.length ∧ vs.length ≤ 8 := by
  unfold rfs at h
  split at h
  · assumption
  · exact absurd h (by decide)
theorem noTl_0 {tr : Nat → zTr} {lo hi : Int} {x : Int32} (h : noTl tr lo hi x = 0) : ∃ k q, k < 4 ∧ x = nI k ∧ tr k = some q ∧ tv tr x = q.2 ∧ 1 ≤ q.2.length ∧ q.2.length ≤ 8 := by
  unfold noTl at h
  split at h
  · next o =>
    obtain ⟨k, hk, rfl⟩ := oneOf_ex o
    rw [show tn (nI k) = k from nI_clamp (by omega)] at h
    split at h
    · exact absurd h (by decide)
    · next q hq =>
      have := rfs_0 h
      exact ⟨k, q, hk, rfl, hq, by unfold tv; rw [show tn (nI k) = k from nI_clamp (by omega), hq], this.1, this.2⟩
  · exact absurd h (by decide)
theorem fR_0 {dk : zDk} {tr : Nat → zTr} {x y : Int32} (h : fR dk tr x y = 0) : oneOf y dk.1 ∧ ∃ k q, k < 4 ∧ x = nI k ∧ tr k = some q ∧ tv tr x = q.2 ∧ 1 ≤ q.2.length ∧ q.2.length ≤ 8 := by
  unfold fR at h
  split at h
  · next o => exact ⟨o.2, noTl_0 h⟩
  · exact absurd h (by decide)
/-- bits -/
def brs (P : Nat → Bool) : Nat → Nat
  | 0 => 0
  | k + 1 => brs P k ||| (if P k then 2 ^ k else 0)
theorem brs_lt {P : Nat → Bool} : ∀ k, brs P k < 2 ^ k := by
  intro k
  induction k with
  | zero => exact Nat.zero_lt_succ 0
  | succ k ih =>
    unfold brs
    have h2 : 2 ^ k < 2 ^ (k + 1) := Nat.pow_lt_pow_right (by decide) (by omega)
    refine Nat.or_lt_two_pow (by omega) ?_
    split
    · exact h2
    · omega
theorem brs_ext {P : Nat → Bool} {n : Nat} (h : ∀ j, n ≤ j → P j = false) : ∀ k, brs P (n + k) = brs P n := by
  intro k
  induction k with
  | zero => rfl
  | succ k ih =>
    show brs P (n + k) ||| (if P (n + k) then 2 ^ (n + k) else 0) = _
    rw [ih, h (n + k) (by omega)]
    exact Nat.or_zero _
theorem brs_congr {P P' : Nat → Bool} : ∀ {k : Nat}, (∀ j, j < k → P j = P' j) → brs P k = brs P' k := by
  intro k
  induction k with
  | zero => intro _; rfl
  | succ k ih => intro h; rw [brs, brs, ih (fun j hj => h j (by omega)), h k (by omega)]
theorem mx_ext {F : Nat → Nat} {n : Nat} (h : ∀ j, n ≤ j → F j = 0) : ∀ k, mx F (n + k) = mx F n := by
  intro k
  induction k with
  | zero => rfl
  | succ k ih =>
    show max (mx F (n + k)) (F (n + k)) = _
    rw [ih, h (n + k) (by omega)]
    exact Nat.max_eq_left (Nat.zero_le _)
/-- the first of the least -/
def arg (F : Nat → Nat) : Nat → Nat
  | 0 => 0
  | k + 1 => if F (k + 1) < F (arg F k) then k + 1 else arg F k
theorem arg_le {F : Nat → Nat} : ∀ k, arg F k ≤ k := by
  intro k
  induction k with
  | zero => exact Nat.le_refl _
  | succ k ih => unfold arg; split <;> omega
def lyB (dk : zDk) (c p : Nat) (vs : List Int64) (e x s : Nat) : Bool := fitB dk c p vs s && decide (nm dk.1 s e = x)
/-- how often x lies in e of all rows that fit -/
def ly (dk : zDk) (c p : Nat) (vs : List Int64) (e x : Nat) : Nat := cnt (lyB dk c p vs e x) (fct dk.1)
theorem cnt_zero {P : Nat → Bool} : ∀ {k : Nat}, (∀ j, j < k → P j = false) → cnt P k = 0 := by
  intro k
  induction k with
  | zero => intro _; rfl
  | succ k ih => intro h; rw [cnt, ih (fun j hj => h j (by omega)), h k (by omega)]; rfl
theorem ly_0 {dk : zDk} {c p e x : Nat} {vs : List Int64} (hn : dk.1 ≤ 6) (he : e < dk.1) (hx : dk.1 ≤ x) : ly dk c p vs e x = 0 := by
  refine cnt_zero (fun j hj => ?_)
  unfold lyB
  have := nm_lt hn hj he
  rw [show decide (nm dk.1 j e = x) = false from decide_eq_false (by omega), Bool.and_false]
theorem ly_le {dk : zDk} {c p e x : Nat} {vs : List Int64} (hn : dk.1 ≤ 6) : ly dk c p vs e x ≤ 720 := Nat.le_trans (cnt_le _) (fct_le hn)
def F_found (dk : zDk) (st : zSt) (tr : Nat → zTr) (x y : Int32) : Int32 := if fR dk tr x y = 0 then nI (cnt (fitB dk st.2.1 (tn y) (tv tr x)) (fct dk.1)) else fR dk tr x y
def F_names (dk : zDk) (st : zSt) (tr : Nat → zTr) (x y z : Int32) : Int32 := if oneOf x 4 ∧ oneOf y dk.1 ∧ oneOf z dk.1 then (if noTl tr (-1) ((dk.1 : Int) - 1) x = 0 then nI (brs (fun i => decide (0 < ly dk st.2.1 (tn y) (tv tr x) (tn z) i)) 6) else noTl tr (-1) ((dk.1 : Int) - 1) x) else -2
def mo (dk : zDk) (c p : Nat) (vs : List Int64) (e : Nat) : Nat := mx (ly dk c p vs e) 6
def F_look (dk : zDk) (st : zSt) (tr : Nat → zTr) (x y : Int32) : Int32 := if fR dk tr x y = 0 then (if cnt (fitB dk st.2.1 (tn y) (tv tr x)) (fct dk.1) = 0 then -1 else nI (arg (mo dk st.2.1 (tn y) (tv tr x)) (dk.1 - 1))) else fR dk tr x y
def clB (dk : zDk) (st : zSt) (vs : List Int64) (c : Nat) : Bool := allL (fun i => decide (lN (mskK dk (ngk dk.1 dk.2.2.1 (i + 1) st.1) c) = vs.getD i 0)) vs.length 0
def F_clues (dk : zDk) (st : zSt) (tr : Nat → zTr) (x : Int32) : Int32 := if noTl tr 0 (((2 ^ dk.1 - 1 : Nat) : Int)) x = 0 then nI (brs (clB dk st (tv tr x)) 10) else noTl tr 0 (((2 ^ dk.1 - 1 : Nat) : Int)) x
theorem allL_s {P : Nat → Bool} {e i : Nat} (h : i < e) : allL P (e - i) i = (P i && allL P (e - (i + 1)) (i + 1)) := by
  rw [show e - i = e - (i + 1) + 1 by omega]
  rfl
section ZF
variable {g : zG} {d : Nat} {h : zH}
theorem c_fillI {i len : Nat} {v : Int32} {f : Nat → Int32} (ha : h[i]? = some (inA len f)) (hl : len < 2 ^ 31) : Zm g d 0 0 mJ7_fill_53178 [.ref i, .int v] h (rVp (fun h' => ∃ f', h' = h.set i (inA len f') ∧ ∀ k, k < len → f' k = v)) := by
  show Zw g d 0 0 mJ7_fill_53178 0 [some (.ref i), some (.int v), none, none] [] h _
  refine x_iconst (v := nI 0) dJ7_fill_53178_0 rfl ?_
  refine x_is2 rfl dJ7_fill_53178_1 ?_
  refine x_al0 rfl dJ7_fill_53178_2 ?_
  refine x_alen rfl ha rfl dJ7_fill_53178_3 ?_
  refine x_is3 rfl dJ7_fill_53178_4 ?_
  refine x_for (e := len) (fun j => [some (.ref i), some (.int v), some (.int (nI j)), some (.int (Int32.ofNat len))]) (fun j h' => ∃ f', h' = h.set i (inA len f') ∧ ∀ k, k < j → f' k = v) 0 (by omega) ⟨f, (hs_same ha).symm, fun k hk => absurd hk (Nat.not_lt_zero _)⟩ (fun h' hI => ?_) (fun j h' hj hI ih => ?_)
  · obtain ⟨f', rfl, hf⟩ := hI
    refine x_il2 dJ7_fill_53178_5 ?_
    refine x_il3 dJ7_fill_53178_6 ?_
    refine x_icmp_ge (tgt := 20) dJ7_fill_53178_7 rfl (fun q7 => ?_) (fun q7 => ?_)
    · skip
      exact x_vret rfl dJ7_fill_53178_20 ⟨rfl, f', rfl, hf⟩
    · skip
      exact absurd (Int32.le_iff_toInt_le.mpr (Int.le_refl _)) q7
  · obtain ⟨f', rfl, hf⟩ := hI
    have ha2 := hs_eq (e := inA len f') ha
    refine x_il2 dJ7_fill_53178_5 ?_
    refine x_il3 dJ7_fill_53178_6 ?_
    refine x_icmp_ge (tgt := 20) dJ7_fill_53178_7 rfl (fun q7 => ?_) (fun q7 => ?_)
    · skip
      exact absurd q7 (nI_ge hj hl)
    · skip
      refine x_al0 rfl dJ7_fill_53178_10 ?_
      refine x_il2 dJ7_fill_53178_11 ?_
      refine x_il1 dJ7_fill_53178_12 ?_
      refine x_iast ha2 (vp_in_nI hj hl) dJ7_fill_53178_13 ?_
      rw [nI_clamp (by omega), hs_hs]
      first | refine x_ii2 rfl (nI_1 _) dJ7_fill_53178_14 ?_ | refine x_ii2 rfl rfl dJ7_fill_53178_14 ?_
      refine x_goto (tgt := 5) dJ7_fill_53178_17 rfl ?_
      refine ih _ ⟨_, rfl, fun k hk => ?_⟩
      by_cases z : k = j
      · rw [z]; exact pk_us
      · rw [pk_un z]; exact hf k (by omega)
theorem c_fillL {i len : Nat} {v : Int64} {f : Nat → Int64} (ha : h[i]? = some (lnA len f)) (hl : len < 2 ^ 31) : Zm g d 0 0 mJ7_fill_d0a16 [.ref i, .long v] h (rVp (fun h' => ∃ f', h' = h.set i (lnA len f') ∧ ∀ k, k < len → f' k = v)) := by
  show Zw g d 0 0 mJ7_fill_d0a16 0 [some (.ref i), some (.long v), none, none, none] [] h _
  refine x_iconst (v := nI 0) dJ7_fill_d0a16_0 rfl ?_
  refine x_is3 rfl dJ7_fill_d0a16_1 ?_
  refine x_al0 rfl dJ7_fill_d0a16_2 ?_
  refine x_alen rfl ha rfl dJ7_fill_d0a16_3 ?_
  refine x_is4 rfl dJ7_fill_d0a16_4 ?_
  refine x_for (e := len) (fun j => [some (.ref i), some (.long v), none, some (.int (nI j)), some (.int (Int32.ofNat len))]) (fun j h' => ∃ f', h' = h.set i (lnA len f') ∧ ∀ k, k < j → f' k = v) 0 (by omega) ⟨f, (hs_same ha).symm, fun k hk => absurd hk (Nat.not_lt_zero _)⟩ (fun h' hI => ?_) (fun j h' hj hI ih => ?_)
  · obtain ⟨f', rfl, hf⟩ := hI
    refine x_il3 dJ7_fill_d0a16_6 ?_
    refine x_il4 dJ7_fill_d0a16_7 ?_
    refine x_icmp_ge (tgt := 22) dJ7_fill_d0a16_9 rfl (fun q9 => ?_) (fun q9 => ?_)
    · skip
      exact x_vret rfl dJ7_fill_d0a16_22 ⟨rfl, f', rfl, hf⟩
    · skip
      exact absurd (Int32.le_iff_toInt_le.mpr (Int.le_refl _)) q9
  · obtain ⟨f', rfl, hf⟩ := hI
    have ha2 := hs_eq (e := lnA len f') ha
    refine x_il3 dJ7_fill_d0a16_6 ?_
    refine x_il4 dJ7_fill_d0a16_7 ?_
    refine x_icmp_ge (tgt := 22) dJ7_fill_d0a16_9 rfl (fun q9 => ?_) (fun q9 => ?_)
    · skip
      exact absurd q9 (nI_ge hj hl)
    · skip
      refine x_al0 rfl dJ7_fill_d0a16_12 ?_
      refine x_il3 dJ7_fill_d0a16_13 ?_
      refine x_ll1 dJ7_fill_d0a16_14 ?_
      refine x_last ha2 (vp_in_nI hj hl) dJ7_fill_d0a16_15 ?_
      rw [nI_clamp (by omega), hs_hs]
      first | refine x_ii3 rfl (nI_1 _) dJ7_fill_d0a16_16 ?_ | refine x_ii3 rfl rfl dJ7_fill_d0a16_16 ?_
      refine x_goto (tgt := 6) dJ7_fill_d0a16_19 rfl ?_
      refine ih _ ⟨_, rfl, fun k hk => ?_⟩
      by_cases z : k = j
      · rw [z]; exact pk_uLs
      · rw [pk_uLn z]; exact hf k (by omega)
end ZF

