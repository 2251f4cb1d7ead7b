/-! values by tests; counts; rounds: lies, round, power, roots, bounded on both sides -/
def bN (P : Prop) [Decidable P] : Nat := if P then 1 else 0
theorem b2_bN {P : Prop} [Decidable P] : b2 P = nI (bN P) := by
  unfold b2 bN
  split <;> rfl
section ZTn
variable {g : zG} {d κ σ : Nat} {m : zMe} {pc : Nat} {ls : zL} {st : List Value} {h : zH} {Q : Option Value → zH → Prop}
theorem x_t_icmp_ne {x y : Int32} {off off2 : Int} {t1 t2 : Nat} (hd : decode m.2.1 pc = .ok (.if_icmp .ne off, 3)) (ht : (pc : Int) + off = (t1 : Int)) (hd1 : decode m.2.1 (pc + 3) = .ok (.iconst 1, 1)) (hd2 : decode m.2.1 (pc + 4) = .ok (.goto off2, 3)) (ht2 : ((pc + 4 : Nat) : Int) + off2 = (t2 : Int)) (hd3 : decode m.2.1 t1 = .ok (.iconst 0, 1)) (h4 : t1 + 1 = t2) (k : Zw g d κ σ m t2 ls (.int (b2 (x = y)) :: st) h Q) : Zw g d κ σ m pc ls (.int y :: .int x :: st) h Q := by
  refine x_icmp_ne hd ht (fun q => ?_) (fun q => ?_)
  · refine x_iconst (v := 0) hd3 rfl ?_
    rw [h4]
    rw [show b2 (x = y) = 0 from if_neg q] at k
    exact k
  · refine x_iconst (v := 1) hd1 rfl ?_
    refine x_goto hd2 ht2 ?_
    rw [show b2 (x = y) = 1 from if_pos q] at k
    exact k
theorem x_t_if_ne {x : Int32} {off off2 : Int} {t1 t2 : Nat} (hd : decode m.2.1 pc = .ok (.ifCond .ne off, 3)) (ht : (pc : Int) + off = (t1 : Int)) (hd1 : decode m.2.1 (pc + 3) = .ok (.iconst 1, 1)) (hd2 : decode m.2.1 (pc + 4) = .ok (.goto off2, 3)) (ht2 : ((pc + 4 : Nat) : Int) + off2 = (t2 : Int)) (hd3 : decode m.2.1 t1 = .ok (.iconst 0, 1)) (h4 : t1 + 1 = t2) (k : Zw g d κ σ m t2 ls (.int (b2 (x = 0)) :: st) h Q) : Zw g d κ σ m pc ls (.int x :: st) h Q := by
  refine x_if_ne hd ht (fun q => ?_) (fun q => ?_)
  · refine x_iconst (v := 0) hd3 rfl ?_
    rw [h4]
    rw [show b2 (x = 0) = 0 from if_neg q] at k
    exact k
  · refine x_iconst (v := 1) hd1 rfl ?_
    refine x_goto hd2 ht2 ?_
    rw [show b2 (x = 0) = 1 from if_pos q] at k
    exact k
theorem x_t_icmp_eq {x y : Int32} {off off2 : Int} {t1 t2 : Nat} (hd : decode m.2.1 pc = .ok (.if_icmp .eq off, 3)) (ht : (pc : Int) + off = (t1 : Int)) (hd1 : decode m.2.1 (pc + 3) = .ok (.iconst 1, 1)) (hd2 : decode m.2.1 (pc + 4) = .ok (.goto off2, 3)) (ht2 : ((pc + 4 : Nat) : Int) + off2 = (t2 : Int)) (hd3 : decode m.2.1 t1 = .ok (.iconst 0, 1)) (h4 : t1 + 1 = t2) (k : Zw g d κ σ m t2 ls (.int (b2 (¬ x = y)) :: st) h Q) : Zw g d κ σ m pc ls (.int y :: .int x :: st) h Q := by
  refine x_icmp_eq hd ht (fun q => ?_) (fun q => ?_)
  · refine x_iconst (v := 0) hd3 rfl ?_
    rw [h4]
    rw [show b2 (¬ x = y) = 0 from if_neg (fun z => z q)] at k
    exact k
  · refine x_iconst (v := 1) hd1 rfl ?_
    refine x_goto hd2 ht2 ?_
    rw [show b2 (¬ x = y) = 1 from if_pos q] at k
    exact k
theorem x_t_if_eq {x : Int32} {off off2 : Int} {t1 t2 : Nat} (hd : decode m.2.1 pc = .ok (.ifCond .eq off, 3)) (ht : (pc : Int) + off = (t1 : Int)) (hd1 : decode m.2.1 (pc + 3) = .ok (.iconst 1, 1)) (hd2 : decode m.2.1 (pc + 4) = .ok (.goto off2, 3)) (ht2 : ((pc + 4 : Nat) : Int) + off2 = (t2 : Int)) (hd3 : decode m.2.1 t1 = .ok (.iconst 0, 1)) (h4 : t1 + 1 = t2) (k : Zw g d κ σ m t2 ls (.int (b2 (¬ x = 0)) :: st) h Q) : Zw g d κ σ m pc ls (.int x :: st) h Q := by
  refine x_if_eq hd ht (fun q => ?_) (fun q => ?_)
  · refine x_iconst (v := 0) hd3 rfl ?_
    rw [h4]
    rw [show b2 (¬ x = 0) = 0 from if_neg (fun z => z q)] at k
    exact k
  · refine x_iconst (v := 1) hd1 rfl ?_
    refine x_goto hd2 ht2 ?_
    rw [show b2 (¬ x = 0) = 1 from if_pos q] at k
    exact k
theorem x_t_icmp_lt {x y : Int32} {off off2 : Int} {t1 t2 : Nat} (hd : decode m.2.1 pc = .ok (.if_icmp .lt off, 3)) (ht : (pc : Int) + off = (t1 : Int)) (hd1 : decode m.2.1 (pc + 3) = .ok (.iconst 1, 1)) (hd2 : decode m.2.1 (pc + 4) = .ok (.goto off2, 3)) (ht2 : ((pc + 4 : Nat) : Int) + off2 = (t2 : Int)) (hd3 : decode m.2.1 t1 = .ok (.iconst 0, 1)) (h4 : t1 + 1 = t2) (k : Zw g d κ σ m t2 ls (.int (b2 (y ≤ x)) :: st) h Q) : Zw g d κ σ m pc ls (.int y :: .int x :: st) h Q := by
  refine x_icmp_lt hd ht (fun q => ?_) (fun q => ?_)
  · refine x_iconst (v := 0) hd3 rfl ?_
    rw [h4]
    rw [show b2 (y ≤ x) = 0 from if_neg (Int32.not_le.mpr q)] at k
    exact k
  · refine x_iconst (v := 1) hd1 rfl ?_
    refine x_goto hd2 ht2 ?_
    rw [show b2 (y ≤ x) = 1 from if_pos (Int32.not_lt.mp q)] at k
    exact k
theorem x_t_if_lt {x : Int32} {off off2 : Int} {t1 t2 : Nat} (hd : decode m.2.1 pc = .ok (.ifCond .lt off, 3)) (ht : (pc : Int) + off = (t1 : Int)) (hd1 : decode m.2.1 (pc + 3) = .ok (.iconst 1, 1)) (hd2 : decode m.2.1 (pc + 4) = .ok (.goto off2, 3)) (ht2 : ((pc + 4 : Nat) : Int) + off2 = (t2 : Int)) (hd3 : decode m.2.1 t1 = .ok (.iconst 0, 1)) (h4 : t1 + 1 = t2) (k : Zw g d κ σ m t2 ls (.int (b2 (0 ≤ x)) :: st) h Q) : Zw g d κ σ m pc ls (.int x :: st) h Q := by
  refine x_if_lt hd ht (fun q => ?_) (fun q => ?_)
  · refine x_iconst (v := 0) hd3 rfl ?_
    rw [h4]
    rw [show b2 (0 ≤ x) = 0 from if_neg (Int32.not_le.mpr q)] at k
    exact k
  · refine x_iconst (v := 1) hd1 rfl ?_
    refine x_goto hd2 ht2 ?_
    rw [show b2 (0 ≤ x) = 1 from if_pos (Int32.not_lt.mp q)] at k
    exact k
theorem x_t_icmp_ge {x y : Int32} {off off2 : Int} {t1 t2 : Nat} (hd : decode m.2.1 pc = .ok (.if_icmp .ge off, 3)) (ht : (pc : Int) + off = (t1 : Int)) (hd1 : decode m.2.1 (pc + 3) = .ok (.iconst 1, 1)) (hd2 : decode m.2.1 (pc + 4) = .ok (.goto off2, 3)) (ht2 : ((pc + 4 : Nat) : Int) + off2 = (t2 : Int)) (hd3 : decode m.2.1 t1 = .ok (.iconst 0, 1)) (h4 : t1 + 1 = t2) (k : Zw g d κ σ m t2 ls (.int (b2 (x < y)) :: st) h Q) : Zw g d κ σ m pc ls (.int y :: .int x :: st) h Q := by
  refine x_icmp_ge hd ht (fun q => ?_) (fun q => ?_)
  · refine x_iconst (v := 0) hd3 rfl ?_
    rw [h4]
    rw [show b2 (x < y) = 0 from if_neg (Int32.not_lt.mpr q)] at k
    exact k
  · refine x_iconst (v := 1) hd1 rfl ?_
    refine x_goto hd2 ht2 ?_
    rw [show b2 (x < y) = 1 from if_pos (Int32.not_le.mp q)] at k
    exact k
theorem x_t_if_ge {x : Int32} {off off2 : Int} {t1 t2 : Nat} (hd : decode m.2.1 pc = .ok (.ifCond .ge off, 3)) (ht : (pc : Int) + off = (t1 : Int)) (hd1 : decode m.2.1 (pc + 3) = .ok (.iconst 1, 1)) (hd2 : decode m.2.1 (pc + 4) = .ok (.goto off2, 3)) (ht2 : ((pc + 4 : Nat) : Int) + off2 = (t2 : Int)) (hd3 : decode m.2.1 t1 = .ok (.iconst 0, 1)) (h4 : t1 + 1 = t2) (k : Zw g d κ σ m t2 ls (.int (b2 (x < 0)) :: st) h Q) : Zw g d κ σ m pc ls (.int x :: st) h Q := by
  refine x_if_ge hd ht (fun q => ?_) (fun q => ?_)
  · refine x_iconst (v := 0) hd3 rfl ?_
    rw [h4]
    rw [show b2 (x < 0) = 0 from if_neg (Int32.not_lt.mpr q)] at k
    exact k
  · refine x_iconst (v := 1) hd1 rfl ?_
    refine x_goto hd2 ht2 ?_
    rw [show b2 (x < 0) = 1 from if_pos (Int32.not_le.mp q)] at k
    exact k
theorem x_t_icmp_gt {x y : Int32} {off off2 : Int} {t1 t2 : Nat} (hd : decode m.2.1 pc = .ok (.if_icmp .gt off, 3)) (ht : (pc : Int) + off = (t1 : Int)) (hd1 : decode m.2.1 (pc + 3) = .ok (.iconst 1, 1)) (hd2 : decode m.2.1 (pc + 4) = .ok (.goto off2, 3)) (ht2 : ((pc + 4 : Nat) : Int) + off2 = (t2 : Int)) (hd3 : decode m.2.1 t1 = .ok (.iconst 0, 1)) (h4 : t1 + 1 = t2) (k : Zw g d κ σ m t2 ls (.int (b2 (x ≤ y)) :: st) h Q) : Zw g d κ σ m pc ls (.int y :: .int x :: st) h Q := by
  refine x_icmp_gt hd ht (fun q => ?_) (fun q => ?_)
  · refine x_iconst (v := 0) hd3 rfl ?_
    rw [h4]
    rw [show b2 (x ≤ y) = 0 from if_neg (Int32.not_le.mpr q)] at k
    exact k
  · refine x_iconst (v := 1) hd1 rfl ?_
    refine x_goto hd2 ht2 ?_
    rw [show b2 (x ≤ y) = 1 from if_pos (Int32.not_lt.mp q)] at k
    exact k
theorem x_t_if_gt {x : Int32} {off off2 : Int} {t1 t2 : Nat} (hd : decode m.2.1 pc = .ok (.ifCond .gt off, 3)) (ht : (pc : Int) + off = (t1 : Int)) (hd1 : decode m.2.1 (pc + 3) = .ok (.iconst 1, 1)) (hd2 : decode m.2.1 (pc + 4) = .ok (.goto off2, 3)) (ht2 : ((pc + 4 : Nat) : Int) + off2 = (t2 : Int)) (hd3 : decode m.2.1 t1 = .ok (.iconst 0, 1)) (h4 : t1 + 1 = t2) (k : Zw g d κ σ m t2 ls (.int (b2 (x ≤ 0)) :: st) h Q) : Zw g d κ σ m pc ls (.int x :: st) h Q := by
  refine x_if_gt hd ht (fun q => ?_) (fun q => ?_)
  · refine x_iconst (v := 0) hd3 rfl ?_
    rw [h4]
    rw [show b2 (x ≤ 0) = 0 from if_neg (Int32.not_le.mpr q)] at k
    exact k
  · refine x_iconst (v := 1) hd1 rfl ?_
    refine x_goto hd2 ht2 ?_
    rw [show b2 (x ≤ 0) = 1 from if_pos (Int32.not_lt.mp q)] at k
    exact k
theorem x_t_icmp_le {x y : Int32} {off off2 : Int} {t1 t2 : Nat} (hd : decode m.2.1 pc = .ok (.if_icmp .le off, 3)) (ht : (pc : Int) + off = (t1 : Int)) (hd1 : decode m.2.1 (pc + 3) = .ok (.iconst 1, 1)) (hd2 : decode m.2.1 (pc + 4) = .ok (.goto off2, 3)) (ht2 : ((pc + 4 : Nat) : Int) + off2 = (t2 : Int)) (hd3 : decode m.2.1 t1 = .ok (.iconst 0, 1)) (h4 : t1 + 1 = t2) (k : Zw g d κ σ m t2 ls (.int (b2 (y < x)) :: st) h Q) : Zw g d κ σ m pc ls (.int y :: .int x :: st) h Q := by
  refine x_icmp_le hd ht (fun q => ?_) (fun q => ?_)
  · refine x_iconst (v := 0) hd3 rfl ?_
    rw [h4]
    rw [show b2 (y < x) = 0 from if_neg (Int32.not_lt.mpr q)] at k
    exact k
  · refine x_iconst (v := 1) hd1 rfl ?_
    refine x_goto hd2 ht2 ?_
    rw [show b2 (y < x) = 1 from if_pos (Int32.not_le.mp q)] at k
    exact k
theorem x_t_if_le {x : Int32} {off off2 : Int} {t1 t2 : Nat} (hd : decode m.2.1 pc = .ok (.ifCond .le off, 3)) (ht : (pc : Int) + off = (t1 : Int)) (hd1 : decode m.2.1 (pc + 3) = .ok (.iconst 1, 1)) (hd2 : decode m.2.1 (pc + 4) = .ok (.goto off2, 3)) (ht2 : ((pc + 4 : Nat) : Int) + off2 = (t2 : Int)) (hd3 : decode m.2.1 t1 = .ok (.iconst 0, 1)) (h4 : t1 + 1 = t2) (k : Zw g d κ σ m t2 ls (.int (b2 (0 < x)) :: st) h Q) : Zw g d κ σ m pc ls (.int x :: st) h Q := by
  refine x_if_le hd ht (fun q => ?_) (fun q => ?_)
  · refine x_iconst (v := 0) hd3 rfl ?_
    rw [h4]
    rw [show b2 (0 < x) = 0 from if_neg (Int32.not_lt.mpr q)] at k
    exact k
  · refine x_iconst (v := 1) hd1 rfl ?_
    refine x_goto hd2 ht2 ?_
    rw [show b2 (0 < x) = 1 from if_pos (Int32.not_le.mp q)] at k
    exact k
end ZTn
/-- how many below k have P -/
def cnt (P : Nat → Bool) : Nat → Nat
  | 0 => 0
  | k + 1 => cnt P k + (if P k then 1 else 0)
theorem cnt_le {P : Nat → Bool} : ∀ k, cnt P k ≤ k := by
  intro k
  induction k with
  | zero => exact Nat.le_refl _
  | succ k ih => unfold cnt; split <;> omega
theorem cntL_add {P : Nat → Bool} : ∀ k j, cnt P (j + k) = cnt P j + cntL P k j := by
  intro k
  induction k with
  | zero => intro j; rfl
  | succ k ih =>
    intro j
    rw [show j + (k + 1) = (j + 1) + k by omega, ih (j + 1), cnt, cntL]
    omega
theorem cntL_cnt {P : Nat → Bool} (k : Nat) : cntL P k 0 = cnt P k := by
  have := cntL_add (P := P) k 0
  rw [Nat.zero_add] at this
  rw [this]
  show _ = 0 + _
  omega
theorem cntL_s {P : Nat → Bool} (k j : Nat) : cntL P (k + 1) j = cntL P k j + (if P (j + k) then 1 else 0) := by
  have a := cntL_add (P := P) (k + 1) j
  have b := cntL_add (P := P) k j
  have c : cnt P (j + (k + 1)) = cnt P (j + k) + (if P (j + k) then 1 else 0) := rfl
  omega
def mx (F : Nat → Nat) : Nat → Nat
  | 0 => 0
  | k + 1 => max (mx F k) (F k)
theorem mxL_mx {F : Nat → Nat} : ∀ k j, mxL F k j (mx F j) = mx F (j + k) := by
  intro k
  induction k with
  | zero => intro j; rfl
  | succ k ih => intro j; rw [show j + (k + 1) = (j + 1) + k by omega, ← ih (j + 1)]; rfl
def iv (n s : Nat) : Nat → Nat
  | 0 => 0
  | j + 1 => iv n s j + cntL (fun e => decide (nm n s e < nm n s j)) (n - (j + 1)) (j + 1)
theorem invL_iv {n s : Nat} : ∀ k j, invL n s k j (iv n s j) = iv n s (j + k) := by
  intro k
  induction k with
  | zero => intro j; rfl
  | succ k ih => intro j; rw [show j + (k + 1) = (j + 1) + k by omega, ← ih (j + 1)]; rfl
theorem cnt_s {P : Nat → Bool} {k : Nat} {A : Prop} [Decidable A] (h : A ↔ P k = true) : cnt P k + bN A = cnt P (k + 1) := by
  unfold bN
  rw [cnt]
  by_cases q : A
  · rw [if_pos q, if_pos (h.mp q)]
  · rw [if_neg q, if_neg (fun z => q (h.mpr z))]
theorem cntL_sb {P : Nat → Bool} {k j : Nat} {A : Prop} [Decidable A] (h : A ↔ P (j + k) = true) : cntL P k j + bN A = cntL P (k + 1) j := by
  unfold bN
  rw [cntL_s]
  by_cases q : A
  · rw [if_pos q, if_pos (h.mp q)]
  · rw [if_neg q, if_neg (fun z => q (h.mpr z))]
theorem bN_le {A : Prop} [Decidable A] : bN A ≤ 1 := by
  unfold bN
  split <;> omega
def F_lies (dk : zDk) (st : zSt) (x : Int32) : Int32 := if x = 0 then nI st.1 else if x = nI 1 then nI (cnt (fun j => decide (tz (rb dk.1 st.1 j) = j)) dk.1) else if x = nI 2 then nI (mx (fun j => popc (rb dk.1 st.1 j)) dk.1) else if x = nI 3 then nI (cnt (fun j => decide (nm dk.1 st.1 j = j)) dk.1) else if x = nI 4 then nI (ordr dk.1 st.1) else if x = nI 5 then nI (iv dk.1 st.1 dk.1) else -2
def F_round (dk : zDk) (st : zSt) (x y : Int32) : Int32 := if oneOf x dk.1 ∧ oneOf y 2 then (if y = 0 then nI (popc (rb dk.1 st.1 (tn x))) else nI (rb dk.1 st.1 (tn x))) else -2
def F_power (dk : zDk) (st : zSt) (v : Int64) : Int32 := if 0 ≤ v.toInt ∧ v.toInt ≤ 1000000000000000 then nI (pow dk.1 st.1 v.toInt.toNat) else -3
def F_roots (dk : zDk) (st : zSt) (x : Int32) : Int32 := if 1 ≤ x.toInt ∧ x.toInt ≤ 9 then nI (cnt (fun s => decide (rnk dk.1 (nbk dk.1 s (tn x)) = st.1)) (fct dk.1)) else -3
/-- sums while a table is made -/
def bs (f : Nat → Int64) (i : Nat) : Nat → Int64 × Int64
  | 0 => (0, 1)
  | m + 1 => ((bs f i m).1 + (bs f i m).2 * f (i - (m + 1)), (bs f i m).2 * (nI (i - (m + 1))).toInt64)
theorem bs_congr {f f' : Nat → Int64} {i : Nat} (h : ∀ j, j < i → f j = f' j) (hi : 0 < i) : ∀ m, bs f i m = bs f' i m := by
  intro m
  induction m with
  | zero => rfl
  | succ m ih => simp only [bs, ih, h (i - (m + 1)) (by omega)]
def tbl (k : Nat) : Nat → Nat → Int64
  | 0, j => if j = 0 then 1 else 0
  | i + 1, j => if j = i + 1 then (bs (tbl k i) (i + 1) (min k (i + 1))).1 else tbl k i j
def F_bounded (x y : Int32) : Int64 := if (1 ≤ x.toInt ∧ x.toInt ≤ 20) ∧ (1 ≤ y.toInt ∧ y.toInt ≤ 20) then tbl (tn y) (tn x) (tn x) else -3

