/-! the table of all rows: nameIn, numberOf, fillRow, hold -/
theorem hs_ne {h : zH} {i j : Nat} {e : va_E} (hij : i ≠ j) : (h.set i e)[j]? = h[j]? := List.getElem?_set_ne hij
theorem hs_eq {h : zH} {i : Nat} {e e0 : va_E} (he : h[i]? = some e0) : (h.set i e)[i]? = some e := by
  rw [List.getElem?_set_self (List.getElem?_eq_some_iff.mp he).1]
theorem hs_hs {h : zH} {i : Nat} {a b : va_E} : (h.set i a).set i b = h.set i b := List.set_set ..
theorem hs_same {h : zH} {i : Nat} {e : va_E} (he : h[i]? = some e) : h.set i e = h := by
  obtain ⟨hl, hv⟩ := List.getElem?_eq_some_iff.mp he
  rw [← hv]
  exact List.set_getElem_self hl
theorem ald {α : Type} {f : Nat → α} {i : Nat} {v : α} (h : f i = v) (hi : i < 2 ^ 31) : f (nI i).toNatClampNeg = v := by rw [nI_clamp hi]; exact h
abbrev rowsE (n : Nat) (sw : Int32) (rn rs : Nat) : va_E := .inr (5, [.int (nI n), .int (nI (fct n)), .int (nI (n * (n - 1) / 2)), .int sw, .ref rn, .ref rs, .ref 18, .ref 19])
/-- the table holds the names -/
def NmT (n len : Nat) (f : Nat → Int32) : Prop := n * fct n ≤ len ∧ len < 2 ^ 31 ∧ ∀ s, s < fct n → ∀ d, d < n → f (s * n + d) = nI (nm n s d)
theorem idx_lt {s n d N : Nat} (hs : s < N) (hd : d < n) : s * n + d < n * N := by
  have h1 : (s + 1) * n ≤ N * n := Nat.mul_le_mul_right n hs
  rw [Nat.add_mul] at h1
  rw [Nat.mul_comm n N]
  omega
/-- how many of k places from e on hold less than place d -/
def less (p : Nat → Nat) (d : Nat) : Nat → Nat → Nat
  | 0, _ => 0
  | k + 1, e => (if p e < p d then 1 else 0) + less p d k (e + 1)
def rnkL (n : Nat) (p : Nat → Nat) : Nat → Nat → Nat → Nat
  | 0, _, a => a
  | k + 1, d, a => rnkL n p k (d + 1) (a * (n - d) + less p d (n - (d + 1)) (d + 1))
/-- the number of a row -/
def rnk (n : Nat) (p : Nat → Nat) : Nat := rnkL n p n 0 0
section ZC
variable {g : zG} {d : Nat} {h : zH} {Q : Option Value → zH → Prop}
theorem c_X5_nameIn {n s dd rn rs len : Nat} {sw : Int32} {f : Nat → Int32} (hR : h[15]? = some (rowsE n sw rn rs)) (hN : h[rn]? = some (.inl (1, len, .inl f))) (hT : NmT n len f) (hs : s < fct n) (hd : dd < n) : Zm g d 0 0 mX5_nameIn [.ref 15, .int (nI s), .int (nI dd)] h (rI (nI (nm n s dd)) h) := by
  have hi := Nat.lt_of_lt_of_le (idx_lt hs hd) hT.1
  have hl := hT.2.1
  show Zw g d 0 0 mX5_nameIn 0 [some (.ref 15), some (.int (nI s)), some (.int (nI dd)), none] [] h _
  refine x_il1 dX5_nameIn_0 ?_
  refine x_al0 rfl dX5_nameIn_1 ?_
  refine x_get fdX5_9 hR rfl dX5_nameIn_2 ?_
  first | refine x_imul (pk_mul _ _) dX5_nameIn_5 ?_ | refine x_imul rfl dX5_nameIn_5 ?_
  refine x_il2 dX5_nameIn_6 ?_
  first | refine x_iadd (nI_add _ _) dX5_nameIn_7 ?_ | refine x_iadd rfl dX5_nameIn_7 ?_
  refine x_is3 rfl dX5_nameIn_8 ?_
  refine x_il3 dX5_nameIn_9 ?_
  refine x_if_lt (tgt := 31) dX5_nameIn_10 rfl (fun q1 => ?_) (fun q1 => ?_)
  · exact absurd q1 (nI_pos (by omega))
  · refine x_il3 dX5_nameIn_13 ?_
    refine x_al0 rfl dX5_nameIn_14 ?_
    refine x_get fdX5_25 hR rfl dX5_nameIn_15 ?_
    refine x_alen rfl hN rfl dX5_nameIn_18 ?_
    refine x_icmp_ge (tgt := 31) dX5_nameIn_19 rfl (fun q2 => ?_) (fun q2 => ?_)
    · exact absurd q2 (nI_ge hi hl)
    · refine x_al0 rfl dX5_nameIn_22 ?_
      refine x_get fdX5_25 hR rfl dX5_nameIn_23 ?_
      refine x_il3 dX5_nameIn_26 ?_
      refine x_bald hN (vp_in_nI hi hl) (ald (hT.2.2 s hs dd hd) (by omega)) dX5_nameIn_27 ?_
      refine x_goto (tgt := 32) dX5_nameIn_28 rfl ?_
      exact x_iret rfl rfl dX5_nameIn_32 ⟨rfl, rfl⟩
theorem lp_X5_numberOf_in {n len i a dd : Nat} {f : Nat → Int32} {p : Nat → Nat} (hA : h[i]? = some (.inl (0, len, .inl f))) (hn : n ≤ len) (hl : len < 2 ^ 31) (hp : ∀ j, j < n → f j = nI (p j) ∧ p j < 2 ^ 31) (hdd : dd < n) : ∀ (k e L : Nat), e + k = n → Zw g d 0 0 mX5_numberOf 55 [some (.ref i), some (.int (nI n)), some (.int (nI a)), some (.int (nI dd)), some (.int (nI (L + less p dd k e))), some (.int (nI n))] [] h Q → Zw g d 0 0 mX5_numberOf 23 [some (.ref i), some (.int (nI n)), some (.int (nI a)), some (.int (nI dd)), some (.int (nI L)), some (.int (nI e))] [] h Q := by
  intro k
  induction k with
  | zero =>
    intro e L he K
    obtain rfl : e = n := by omega
    refine x_il5 dX5_numberOf_23 ?_
    refine x_il1 dX5_numberOf_25 ?_
    refine x_icmp_ge (tgt := 55) dX5_numberOf_26 rfl (fun q1 => ?_) (fun q1 => ?_)
    · exact K
    · exact absurd (nI_le (Nat.le_refl _) (by omega)) q1
  | succ k ih =>
    intro e L he K
    have he2 : e < n := by omega
    refine x_il5 dX5_numberOf_23 ?_
    refine x_il1 dX5_numberOf_25 ?_
    refine x_icmp_ge (tgt := 55) dX5_numberOf_26 rfl (fun q1 => ?_) (fun q1 => ?_)
    · exact absurd q1 (nI_ge he2 (by omega))
    · refine x_il5 dX5_numberOf_29 ?_
      refine x_al0 rfl dX5_numberOf_31 ?_
      refine x_alen rfl hA rfl dX5_numberOf_32 ?_
      refine x_icmp_ge (tgt := 55) dX5_numberOf_33 rfl (fun q2 => ?_) (fun q2 => ?_)
      · exact absurd q2 (nI_ge (by omega) hl)
      · refine x_al0 rfl dX5_numberOf_36 ?_
        refine x_il5 dX5_numberOf_37 ?_
        refine x_iald hA (vp_in_nI (by omega) hl) (ald (hp e he2).1 (by omega)) dX5_numberOf_39 ?_
        refine x_al0 rfl dX5_numberOf_40 ?_
        refine x_il3 dX5_numberOf_41 ?_
        refine x_iald hA (vp_in_nI (by omega) hl) (ald (hp dd hdd).1 (by omega)) dX5_numberOf_42 ?_
        refine x_icmp_ge (tgt := 49) dX5_numberOf_43 rfl (fun q3 => ?_) (fun q3 => ?_)
        · rw [nI_leI (hp dd hdd).2 (hp e he2).2] at q3
          first | refine x_ii5 rfl (nI_1 _) dX5_numberOf_49 ?_ | refine x_ii5 rfl rfl dX5_numberOf_49 ?_
          refine x_goto (tgt := 23) dX5_numberOf_52 rfl ?_
          refine ih (e + 1) L (by omega) ?_
          have e0 : less p dd (k + 1) e = less p dd k (e + 1) := by rw [less, if_neg (by omega), Nat.zero_add]
          rw [← e0]
          exact K
        · rw [nI_leI (hp dd hdd).2 (hp e he2).2] at q3
          first | refine x_ii4 rfl (nI_1 _) dX5_numberOf_46 ?_ | refine x_ii4 rfl rfl dX5_numberOf_46 ?_
          first | refine x_ii5 rfl (nI_1 _) dX5_numberOf_49 ?_ | refine x_ii5 rfl rfl dX5_numberOf_49 ?_
          refine x_goto (tgt := 23) dX5_numberOf_52 rfl ?_
          refine ih (e + 1) (L + 1) (by omega) ?_
          have e0 : L + less p dd (k + 1) e = L + 1 + less p dd k (e + 1) := by rw [less, if_pos (by omega)]; omega
          rw [← e0]
          exact K
theorem lp_X5_numberOf {n len i : Nat} {f : Nat → Int32} {p : Nat → Nat} (hA : h[i]? = some (.inl (0, len, .inl f))) (hn : n ≤ len) (hl : len < 2 ^ 31) (hp : ∀ j, j < n → f j = nI (p j) ∧ p j < 2 ^ 31) : ∀ (k dd a : Nat) (x y : Option Value), z_nl x = true → dd + k = n → Zw g d 0 0 mX5_numberOf 4 [some (.ref i), some (.int (nI n)), some (.int (nI a)), some (.int (nI dd)), x, y] [] h (rI (nI (rnkL n p k dd a)) h) := by
  intro k
  induction k with
  | zero =>
    intro dd a x y hx he
    obtain rfl : dd = n := by omega
    refine x_il3 dX5_numberOf_4 ?_
    refine x_il1 dX5_numberOf_5 ?_
    refine x_icmp_ge (tgt := 70) dX5_numberOf_6 rfl (fun q1 => ?_) (fun q1 => ?_)
    · refine x_il2 dX5_numberOf_70 ?_
      exact x_iret rfl rfl dX5_numberOf_71 ⟨rfl, rfl⟩
    · exact absurd (nI_le (Nat.le_refl _) (by omega)) q1
  | succ k ih =>
    intro dd a x y hx he
    refine x_il3 dX5_numberOf_4 ?_
    refine x_il1 dX5_numberOf_5 ?_
    refine x_icmp_ge (tgt := 70) dX5_numberOf_6 rfl (fun q1 => ?_) (fun q1 => ?_)
    · exact absurd q1 (nI_ge (by omega) (by omega))
    · refine x_il3 dX5_numberOf_9 ?_
      refine x_al0 rfl dX5_numberOf_10 ?_
      refine x_alen rfl hA rfl dX5_numberOf_11 ?_
      refine x_icmp_ge (tgt := 70) dX5_numberOf_12 rfl (fun q2 => ?_) (fun q2 => ?_)
      · exact absurd q2 (nI_ge (by omega) hl)
      · refine x_iconst (v := nI 0) dX5_numberOf_15 rfl ?_
        refine x_is4 rfl dX5_numberOf_16 ?_
        refine x_il3 dX5_numberOf_18 ?_
        refine x_iconst (v := nI 1) dX5_numberOf_19 rfl ?_
        first | refine x_iadd (nI_add _ _) dX5_numberOf_20 ?_ | refine x_iadd rfl dX5_numberOf_20 ?_
        refine x_is5 rfl dX5_numberOf_21 ?_
        refine lp_X5_numberOf_in (p := p) hA hn hl hp (by omega) (n - (dd + 1)) (dd + 1) 0 (by omega) ?_
        rw [Nat.zero_add]
        refine x_il2 dX5_numberOf_55 ?_
        refine x_il1 dX5_numberOf_56 ?_
        refine x_il3 dX5_numberOf_57 ?_
        refine x_isub (pk_sub (by omega)) dX5_numberOf_58 ?_
        first | refine x_imul (pk_mul _ _) dX5_numberOf_59 ?_ | refine x_imul rfl dX5_numberOf_59 ?_
        refine x_il4 dX5_numberOf_60 ?_
        first | refine x_iadd (nI_add _ _) dX5_numberOf_62 ?_ | refine x_iadd rfl dX5_numberOf_62 ?_
        refine x_is2 rfl dX5_numberOf_63 ?_
        first | refine x_ii3 rfl (nI_1 _) dX5_numberOf_64 ?_ | refine x_ii3 rfl rfl dX5_numberOf_64 ?_
        refine x_goto (tgt := 4) dX5_numberOf_67 rfl ?_
        exact ih (dd + 1) _ _ _ rfl (by omega)
theorem c_X5_numberOf {n len i : Nat} {f : Nat → Int32} {p : Nat → Nat} (hA : h[i]? = some (.inl (0, len, .inl f))) (hn : n ≤ len) (hl : len < 2 ^ 31) (hp : ∀ j, j < n → f j = nI (p j) ∧ p j < 2 ^ 31) : Zm g d 0 0 mX5_numberOf [.ref i, .int (nI n)] h (rI (nI (rnk n p)) h) := by
  show Zw g d 0 0 mX5_numberOf 0 [some (.ref i), some (.int (nI n)), none, none, none, none] [] h _
  refine x_iconst (v := nI 0) dX5_numberOf_0 rfl ?_
  refine x_is2 rfl dX5_numberOf_1 ?_
  refine x_iconst (v := nI 0) dX5_numberOf_2 rfl ?_
  refine x_is3 rfl dX5_numberOf_3 ?_
  exact lp_X5_numberOf hA hn hl hp n 0 0 _ _ rfl (by omega)
theorem byte_n {k : Nat} (hk : k < 128) : (nI k).toInt8.toInt32 = nI k := by
  revert k
  decide
theorem nar_n {k : Nat} (hk : k < 128) : vp_nar .byte (nI k) = nI k := by rw [vp_nar_byte, byte_n hk]
theorem fac_n {k : Nat} (hk : k < 7) : zFac k = nI (fct k) := by
  revert k
  decide
theorem fct_pos (n : Nat) : 0 < fct n := by
  induction n with
  | zero => decide
  | succ n ih => exact Nat.mul_pos (Nat.succ_pos n) ih
theorem fct_le {n : Nat} (hn : n ≤ 6) : fct n ≤ 720 := by
  revert n
  decide
theorem lp_X5_fillRow {n row rn rs len : Nat} {sw : Int32} (hn : n ≤ 6) (hrow : row < 720) (hln : row * n + n ≤ len) (hl : len < 2 ^ 31) (hrn : rn ≠ 15) : ∀ (k dd rest u : Nat) (x y : Option Value) (h : zH) (f : Nat → Int32), dd + k = n → rest < 2 ^ 31 → u < 64 → z_nl x = true → h[15]? = some (rowsE n sw rn rs) → h[rn]? = some (.inl (1, len, .inl f)) →
    Zw g (d + 1) 0 0 mX5_fillRow 7 [some (.ref 15), some (.int (nI row)), some (.int (nI rest)), some (.int (nI u)), some (.int (nI dd)), x, y] [] h (rVp (fun h' => ∃ f', h' = h.set rn (.inl (1, len, .inl f')) ∧ (∀ i, i < k → f' (row * n + dd + i) = nI ((fillL n k u rest).getD i 0)) ∧ ∀ j, (j < row * n + dd ∨ row * n + n ≤ j) → f' j = f j)) := by
  intro k
  induction k with
  | zero =>
    intro dd rest u x y h f he hr hu hx hR hN
    obtain rfl : dd = n := by omega
    refine x_il4 dX5_fillRow_7 ?_
    refine x_al0 rfl dX5_fillRow_9 ?_
    refine x_get fdX5_9 hR rfl dX5_fillRow_10 ?_
    refine x_icmp_ge (tgt := 77) dX5_fillRow_13 rfl (fun q1 => ?_) (fun q1 => ?_)
    · exact x_vret rfl dX5_fillRow_77 ⟨rfl, f, (hs_same hN).symm, fun i hi => absurd hi (by omega), fun _ _ => rfl⟩
    · exact absurd (nI_le (Nat.le_refl _) (by omega)) q1
  | succ k ih =>
    intro dd rest u x y h f he hr hu hx hR hN
    have hfk : 0 < fct k := fct_pos k
    have hfk2 : fct k ≤ 720 := fct_le (by omega)
    have hdv : rest / fct k < 2 ^ 31 := Nat.lt_of_le_of_lt (Nat.div_le_self _ _) hr
    have hun := unus_lt (n := n) (u := u) (by omega) n (rest / fct k)
    refine x_il4 dX5_fillRow_7 ?_
    refine x_al0 rfl dX5_fillRow_9 ?_
    refine x_get fdX5_9 hR rfl dX5_fillRow_10 ?_
    refine x_icmp_ge (tgt := 77) dX5_fillRow_13 rfl (fun q1 => ?_) (fun q1 => ?_)
    · exact absurd q1 (nI_ge (by omega) (by omega))
    · refine x_gsF rfl dX5_fillRow_16 ?_
      refine x_al0 rfl dX5_fillRow_19 ?_
      refine x_get fdX5_9 hR rfl dX5_fillRow_20 ?_
      refine x_iconst (v := nI 1) dX5_fillRow_23 rfl ?_
      refine x_isub (pk_sub (by omega)) dX5_fillRow_24 ?_
      refine x_il4 dX5_fillRow_25 ?_
      refine x_isub (pk_sub (by omega)) dX5_fillRow_27 ?_
      refine x_fac  rfl (by omega) (fac_n (by omega)) dX5_fillRow_28 ?_
      rw [show n - 1 - dd = k by omega]
      refine x_is5 rfl dX5_fillRow_29 ?_
      refine x_al0 rfl dX5_fillRow_31 ?_
      refine x_il3 dX5_fillRow_32 ?_
      refine x_il2 dX5_fillRow_33 ?_
      refine x_il5 dX5_fillRow_34 ?_
      refine x_idiv (nI_ne0 hfk (by omega)) (pk_div hr hfk (by omega)) dX5_fillRow_36 ?_
      refine x_cv2I mX5_unusedName_ok lkX5_46 rfl (Nat.le_of_ble_eq_true rfl) (Nat.le_of_ble_eq_true rfl) dX5_fillRow_37 hR  (c_X5_unusedName (by omega) (by omega) hdv hR) ?_
      refine x_is6 rfl dX5_fillRow_40 ?_
      refine x_il2 dX5_fillRow_42 ?_
      refine x_il5 dX5_fillRow_43 ?_
      refine x_irem (nI_ne0 hfk (by omega)) (pk_rem hr hfk (by omega)) dX5_fillRow_45 ?_
      refine x_is2 rfl dX5_fillRow_46 ?_
      refine x_il3 dX5_fillRow_47 ?_
      refine x_iconst (v := nI 1) dX5_fillRow_48 rfl ?_
      refine x_il6 dX5_fillRow_49 ?_
      refine x_ishl (shl_n (by omega) (by have := Nat.pow_le_pow_right (n := 2) (by decide) (Nat.le_of_lt hun); have : 2 ^ n ≤ 2 ^ 6 := Nat.pow_le_pow_right (by decide) hn; omega)) dX5_fillRow_51 ?_
      refine x_ior (or_n _ _) dX5_fillRow_52 ?_
      refine x_is3 rfl dX5_fillRow_53 ?_
      refine x_al0 rfl dX5_fillRow_54 ?_
      refine x_get fdX5_25 hR rfl dX5_fillRow_55 ?_
      refine x_il1 dX5_fillRow_58 ?_
      refine x_al0 rfl dX5_fillRow_59 ?_
      refine x_get fdX5_9 hR rfl dX5_fillRow_60 ?_
      first | refine x_imul (pk_mul _ _) dX5_fillRow_63 ?_ | refine x_imul rfl dX5_fillRow_63 ?_
      refine x_il4 dX5_fillRow_64 ?_
      first | refine x_iadd (nI_add _ _) dX5_fillRow_66 ?_ | refine x_iadd rfl dX5_fillRow_66 ?_
      refine x_il6 dX5_fillRow_67 ?_
      refine x_i2b (byte_n (by omega)) dX5_fillRow_69 ?_
      refine x_bast hN (vp_in_nI (by omega) hl) dX5_fillRow_70 ?_
      first | refine x_ii4 rfl (nI_1 _) dX5_fillRow_71 ?_ | refine x_ii4 rfl rfl dX5_fillRow_71 ?_
      refine x_goto (tgt := 7) dX5_fillRow_74 rfl ?_
      rw [nI_clamp (by omega), nar_n (by omega), Nat.one_mul]
      refine Zw.mono (ih (dd + 1) (rest % fct k) (u ||| 2 ^ (unus n u n (rest / fct k))) _ _ _ _ (by omega) (by have := Nat.mod_lt rest hfk; omega) (Nat.or_lt_two_pow (n := 6) hu (Nat.pow_lt_pow_right (by decide) (by omega))) rfl (by rw [hs_ne hrn]; exact hR) (hs_eq hN)) (fun v h' hq => ?_)
      obtain ⟨rfl, f', rfl, h1, h2⟩ := hq
      refine ⟨rfl, f', hs_hs, fun i hi => ?_, fun j hj => ?_⟩
      · cases i with
        | zero =>
          rw [Nat.add_zero, h2 _ (Or.inl (by omega))]
          simp [upd, fillL]
        | succ i =>
          have := h1 i (by omega)
          rw [show row * n + dd + (i + 1) = row * n + (dd + 1) + i by omega, this]
          rfl
      · rw [h2 j (by omega)]
        simp only [upd]
        rw [if_neg (by omega)]
theorem c_X5_fillRow {n row rn rs len : Nat} {sw : Int32} {f : Nat → Int32} (hn : n ≤ 6) (hrow : row < 720) (hln : row * n + n ≤ len) (hl : len < 2 ^ 31) (hrn : rn ≠ 15) (hR : h[15]? = some (rowsE n sw rn rs)) (hN : h[rn]? = some (.inl (1, len, .inl f))) :
    Zm g (d + 1) 0 0 mX5_fillRow [.ref 15, .int (nI row)] h (rVp (fun h' => ∃ f', h' = h.set rn (.inl (1, len, .inl f')) ∧ (∀ i, i < n → f' (row * n + i) = nI (nm n row i)) ∧ ∀ j, (j < row * n ∨ row * n + n ≤ j) → f' j = f j)) := by
  show Zw g (d + 1) 0 0 mX5_fillRow 0 [some (.ref 15), some (.int (nI row)), none, none, none, none, none] [] h _
  refine x_il1 dX5_fillRow_0 ?_
  refine x_is2 rfl dX5_fillRow_1 ?_
  refine x_iconst (v := nI 0) dX5_fillRow_2 rfl ?_
  refine x_is3 rfl dX5_fillRow_3 ?_
  refine x_iconst (v := nI 0) dX5_fillRow_4 rfl ?_
  refine x_is4 rfl dX5_fillRow_5 ?_
  exact lp_X5_fillRow hn hrow hln hl hrn n 0 row 0 none none h f (by omega) (by omega) (by decide) rfl hR hN
theorem lp_X5_hold {n rn rs len : Nat} {sw : Int32} (hn : n ≤ 6) (hln : n * fct n ≤ len) (hl : len < 2 ^ 31) (hrn : rn ≠ 15) : ∀ (k row : Nat) (h : zH) (f : Nat → Int32), row + k = fct n → (∀ s, s < row → ∀ dd, dd < n → f (s * n + dd) = nI (nm n s dd)) → h[15]? = some (rowsE n sw rn rs) → h[rn]? = some (.inl (1, len, .inl f)) →
    Zw g (d + 2) 0 0 mX5_hold 78 [some (.ref 15), some (.int (nI n)), some (.int (nI row))] [] h (rVp (fun h' => ∃ f', h' = h.set rn (.inl (1, len, .inl f')) ∧ NmT n len f')) := by
  have hf := fct_le hn
  intro k
  induction k with
  | zero =>
    intro row h f he hd hR hN
    obtain rfl : row = fct n := by omega
    refine x_il2 dX5_hold_78 ?_
    refine x_al0 rfl dX5_hold_79 ?_
    refine x_get fdX5_15 hR rfl dX5_hold_80 ?_
    refine x_icmp_ge (tgt := 97) dX5_hold_83 rfl (fun q1 => ?_) (fun q1 => ?_)
    · exact x_vret rfl dX5_hold_97 ⟨rfl, f, (hs_same hN).symm, hln, hl, hd⟩
    · exact absurd (nI_le (Nat.le_refl _) (by omega)) q1
  | succ k ih =>
    intro row h f he hd hR hN
    have hrl : row * n + n ≤ len := by
      have h1 : (row + 1) * n ≤ fct n * n := Nat.mul_le_mul_right n (by omega)
      rw [Nat.add_mul, Nat.mul_comm (fct n)] at h1
      omega
    refine x_il2 dX5_hold_78 ?_
    refine x_al0 rfl dX5_hold_79 ?_
    refine x_get fdX5_15 hR rfl dX5_hold_80 ?_
    refine x_icmp_ge (tgt := 97) dX5_hold_83 rfl (fun q1 => ?_) (fun q1 => ?_)
    · exact absurd q1 (nI_ge (by omega) (by omega))
    · refine x_al0 rfl dX5_hold_86 ?_
      refine x_il2 dX5_hold_87 ?_
      refine x_cv1Vp mX5_fillRow_ok lkX5_42 rfl (Nat.le_of_ble_eq_true rfl) (Nat.le_of_ble_eq_true rfl) dX5_hold_88 hR  (c_X5_fillRow hn (by omega) hrl hl hrn hR hN) (fun h hq => ?_)
      obtain ⟨f', rfl, h1, h2⟩ := hq
      first | refine x_ii2 rfl (nI_1 _) dX5_hold_91 ?_ | refine x_ii2 rfl rfl dX5_hold_91 ?_
      refine x_goto (tgt := 78) dX5_hold_94 rfl ?_
      refine Zw.mono (ih (row + 1) _ f' (by omega) (fun s hs dd hdd => ?_) (by rw [hs_ne hrn]; exact hR) (hs_eq hN)) (fun v h' hq => ?_)
      · rcases Nat.lt_or_ge s row with q | q
        · rw [h2 _ (Or.inl (by have h3 : (s + 1) * n ≤ row * n := Nat.mul_le_mul_right n q
                               rw [Nat.add_mul] at h3
                               omega))]
          exact hd s q dd hdd
        · obtain rfl : s = row := by omega
          exact h1 dd hdd
      · obtain ⟨rfl, f'', rfl, hT⟩ := hq
        exact ⟨rfl, f'', hs_hs, hT⟩
end ZC

