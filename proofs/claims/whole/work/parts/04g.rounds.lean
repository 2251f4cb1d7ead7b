/-! the class's Rows: isRoot, roundsOf, longestOf, fixedOf, orderOf, inversionsOf -/
/-- how many of k places from j on have P -/
def cntL (P : Nat → Bool) : Nat → Nat → Nat
  | 0, _ => 0
  | k + 1, j => (if P j then 1 else 0) + cntL P k (j + 1)
def mxL (F : Nat → Nat) : Nat → Nat → Nat → Nat
  | 0, _, a => a
  | k + 1, j, a => mxL F k (j + 1) (max a (F j))
def allL (P : Nat → Bool) : Nat → Nat → Bool
  | 0, _ => true
  | k + 1, j => P j && allL P k (j + 1)
theorem cntL_le {P : Nat → Bool} : ∀ k j, cntL P k j ≤ k := by
  intro k
  induction k with
  | zero => intro j; exact Nat.le_refl _
  | succ k ih =>
    intro j
    have := ih (j + 1)
    unfold cntL
    split <;> omega
theorem cnt_t {P : Nat → Bool} {a k j : Nat} (h : P j = true) : a + cntL P (k + 1) j = a + 1 + cntL P k (j + 1) := by rw [cntL, if_pos h]; omega
theorem cnt_f {P : Nat → Bool} {a k j : Nat} (h : P j = false) : a + cntL P (k + 1) j = a + cntL P k (j + 1) := by rw [cntL, if_neg (by rw [h]; decide)]; omega
def ordL (n s : Nat) : Nat → Nat → Nat
  | 0, _ => 6
  | k + 1, j => if rnk n (pwk n s j) = 0 then j else ordL n s k (j + 1)
/-- the least power by which all lie at home -/
def ordr (n s : Nat) : Nat := ordL n s 5 1
def rootB (n s k q j : Nat) : Bool := decide (nbk n s k j = nm n q j)
def invL (n s : Nat) : Nat → Nat → Nat → Nat
  | 0, _, a => a
  | k + 1, j, a => invL n s k (j + 1) (a + cntL (fun e => decide (nm n s e < nm n s j)) (n - (j + 1)) (j + 1))
section ZG
variable {g : zG} {d : Nat} {h : zH}
theorem lp_X5_isRoot {n s K q rn rs : Nat} {sw : Int32} (hT : RT h n rn rs sw) (hs : s < fct n) (hq : q < fct n) (hK : K < 2 ^ 31) : ∀ (k j : Nat), j + k = n → Zw g (d + 2) 0 0 mX5_isRoot 3 [some (.ref 15), some (.int (nI s)), some (.int (nI K)), some (.int (nI q)), some (.int (nI j))] [] h (rI (b2 (allL (rootB n s K q) k j = true)) h) := by
  have hn := hT.2.1
  have hR := hT.2.2.2.2.1
  intro k
  induction k with
  | zero =>
    intro j hj
    obtain rfl : j = n := by omega
    refine x_il4 dX5_isRoot_3 ?_
    refine x_al0 rfl dX5_isRoot_5 ?_
    refine x_get fdX5_9 hR rfl dX5_isRoot_6 ?_
    refine x_icmp_ge (tgt := 38) dX5_isRoot_9 rfl (fun q1 => ?_) (fun q1 => ?_)
    · refine x_iconst (v := nI 1) dX5_isRoot_38 rfl ?_
      exact x_iret rfl  rfl dX5_isRoot_39 ⟨by rw [b2_t (show allL _ 0 j = true from rfl)]; rfl, rfl⟩
    · exact absurd (nI_le (Nat.le_refl _) (by omega)) q1
  | succ k ih =>
    intro j hj
    have hjn : j < n := by omega
    refine x_il4 dX5_isRoot_3 ?_
    refine x_al0 rfl dX5_isRoot_5 ?_
    refine x_get fdX5_9 hR rfl dX5_isRoot_6 ?_
    refine x_icmp_ge (tgt := 38) dX5_isRoot_9 rfl (fun q1 => ?_) (fun q1 => ?_)
    · exact absurd q1 (nI_ge (by omega) (by omega))
    · refine x_al0 rfl dX5_isRoot_12 ?_
      refine x_il1 dX5_isRoot_13 ?_
      refine x_il4 dX5_isRoot_14 ?_
      refine x_il2 dX5_isRoot_16 ?_
      refine x_cv3I mX5_nameBehind_ok lkX5_71 rfl (Nat.le_of_ble_eq_true rfl) (Nat.le_of_ble_eq_true rfl) dX5_isRoot_17 hR  (c_X5_nameBehind hT hs hjn hK) ?_
      refine x_al0 rfl dX5_isRoot_20 ?_
      refine x_il3 dX5_isRoot_21 ?_
      refine x_il4 dX5_isRoot_22 ?_
      refine x_cv2I mX5_nameIn_ok lkX5_50 rfl (Nat.le_of_ble_eq_true rfl) (Nat.le_of_ble_eq_true rfl) dX5_isRoot_24 hR  (c_nameIn hT hq hjn) ?_
      have h1 := nbk_lt hn hs K j hjn
      have h2 := nm_lt hn hq hjn
      refine x_icmp_eq (tgt := 32) dX5_isRoot_27 rfl (fun q2 => ?_) (fun q2 => ?_)
      · rw [nI_eq (by omega) (by omega)] at q2
        first | refine x_ii4 rfl (nI_1 _) dX5_isRoot_32 ?_ | refine x_ii4 rfl rfl dX5_isRoot_32 ?_
        refine x_goto (tgt := 3) dX5_isRoot_35 rfl ?_
        rw [b2_congr (P' := allL (rootB n s K q) k (j + 1) = true) (by rw [allL, show rootB n s K q j = true from decide_eq_true q2, Bool.true_and])]
        exact ih (j + 1) (by omega)
      · rw [nI_eq (by omega) (by omega)] at q2
        refine x_iconst (v := nI 0) dX5_isRoot_30 rfl ?_
        exact x_iret rfl  rfl dX5_isRoot_31 ⟨by rw [b2_f (by rw [allL, show rootB n s K q j = false from decide_eq_false q2, Bool.false_and]; decide)]; rfl, rfl⟩
theorem c_X5_isRoot {n s K q rn rs : Nat} {sw : Int32} (hT : RT h n rn rs sw) (hs : s < fct n) (hq : q < fct n) (hK : K < 2 ^ 31) : Zm g (d + 2) 0 0 mX5_isRoot [.ref 15, .int (nI s), .int (nI K), .int (nI q)] h (rI (b2 (allL (rootB n s K q) n 0 = true)) h) := by
  show Zw g (d + 2) 0 0 mX5_isRoot 0 [some (.ref 15), some (.int (nI s)), some (.int (nI K)), some (.int (nI q)), none] [] h _
  refine x_iconst (v := nI 0) dX5_isRoot_0 rfl ?_
  refine x_is4 rfl dX5_isRoot_1 ?_
  exact lp_X5_isRoot hT hs hq hK n 0 (by omega)
theorem lp_X5_roundsOf {n s rn rs : Nat} {sw : Int32} (hT : RT h n rn rs sw) (hs : s < fct n) : ∀ (k j a : Nat), j + k = n → Zw g (d + 2) 0 0 mX5_roundsOf 4 [some (.ref 15), some (.int (nI s)), some (.int (nI a)), some (.int (nI j))] [] h (rI (nI (a + cntL (fun j => decide (tz (rb n s j) = j)) k j)) h) := by
  have hn := hT.2.1
  have hR := hT.2.2.2.2.1
  intro k
  induction k with
  | zero =>
    intro j a hj
    obtain rfl : j = n := by omega
    refine x_il3 dX5_roundsOf_4 ?_
    refine x_al0 rfl dX5_roundsOf_5 ?_
    refine x_get fdX5_9 hR rfl dX5_roundsOf_6 ?_
    refine x_icmp_ge (tgt := 34) dX5_roundsOf_9 rfl (fun q1 => ?_) (fun q1 => ?_)
    · refine x_il2 dX5_roundsOf_34 ?_
      exact x_iret rfl rfl dX5_roundsOf_35 ⟨rfl, rfl⟩
    · exact absurd (nI_le (Nat.le_refl _) (by omega)) q1
  | succ k ih =>
    intro j a hj
    have hjn : j < n := by omega
    obtain ⟨b0, b1, b2⟩ := rb_facts hn hs hjn
    have b3 := tz_lt (u := rb n s j)
    refine x_il3 dX5_roundsOf_4 ?_
    refine x_al0 rfl dX5_roundsOf_5 ?_
    refine x_get fdX5_9 hR rfl dX5_roundsOf_6 ?_
    refine x_icmp_ge (tgt := 34) dX5_roundsOf_9 rfl (fun q1 => ?_) (fun q1 => ?_)
    · exact absurd q1 (nI_ge (by omega) (by omega))
    · refine x_al0 rfl dX5_roundsOf_12 ?_
      refine x_il1 dX5_roundsOf_13 ?_
      refine x_il3 dX5_roundsOf_14 ?_
      refine x_cv2I mX5_roundBits_ok lkX5_57 rfl (Nat.le_of_ble_eq_true rfl) (Nat.le_of_ble_eq_true rfl) dX5_roundsOf_15 hR  (c_X5_roundBits hT hs hjn) ?_
      refine x_cs1I mJ6_numberOfTrailingZeros_0f7a4_ok lkX5_75 (Nat.le_of_ble_eq_true rfl) (Nat.le_of_ble_eq_true rfl) dX5_roundsOf_18 (c_ntz b1 b0) ?_
      refine x_il3 dX5_roundsOf_21 ?_
      refine x_icmp_ne (tgt := 28) dX5_roundsOf_22 rfl (fun q2 => ?_) (fun q2 => ?_)
      · rw [nI_eq (by omega) (by omega)] at q2
        first | refine x_ii3 rfl (nI_1 _) dX5_roundsOf_28 ?_ | refine x_ii3 rfl rfl dX5_roundsOf_28 ?_
        refine x_goto (tgt := 4) dX5_roundsOf_31 rfl ?_
        rw [cnt_f (decide_eq_false q2)]
        exact ih (j + 1) a (by omega)
      · rw [nI_eq (by omega) (by omega)] at q2
        first | refine x_ii2 rfl (nI_1 _) dX5_roundsOf_25 ?_ | refine x_ii2 rfl rfl dX5_roundsOf_25 ?_
        first | refine x_ii3 rfl (nI_1 _) dX5_roundsOf_28 ?_ | refine x_ii3 rfl rfl dX5_roundsOf_28 ?_
        refine x_goto (tgt := 4) dX5_roundsOf_31 rfl ?_
        rw [cnt_t (decide_eq_true q2)]
        exact ih (j + 1) (a + 1) (by omega)
theorem c_X5_roundsOf {n s rn rs : Nat} {sw : Int32} (hT : RT h n rn rs sw) (hs : s < fct n) : Zm g (d + 2) 0 0 mX5_roundsOf [.ref 15, .int (nI s)] h (rI (nI (cntL (fun j => decide (tz (rb n s j) = j)) n 0)) h) := by
  show Zw g (d + 2) 0 0 mX5_roundsOf 0 [some (.ref 15), some (.int (nI s)), none, none] [] h _
  refine x_iconst (v := nI 0) dX5_roundsOf_0 rfl ?_
  refine x_is2 rfl dX5_roundsOf_1 ?_
  refine x_iconst (v := nI 0) dX5_roundsOf_2 rfl ?_
  refine x_is3 rfl dX5_roundsOf_3 ?_
  have := lp_X5_roundsOf (g := g) (d := d) hT hs n 0 0 (by omega)
  rw [Nat.zero_add] at this
  exact this
theorem lp_X5_longestOf {n s rn rs : Nat} {sw : Int32} (hT : RT h n rn rs sw) (hs : s < fct n) : ∀ (k j a : Nat), j + k = n → a < 7 → Zw g (d + 2) 0 0 mX5_longestOf 4 [some (.ref 15), some (.int (nI s)), some (.int (nI a)), some (.int (nI j))] [] h (rI (nI (mxL (fun j => popc (rb n s j)) k j a)) h) := by
  have hn := hT.2.1
  have hR := hT.2.2.2.2.1
  intro k
  induction k with
  | zero =>
    intro j a hj ha
    obtain rfl : j = n := by omega
    refine x_il3 dX5_longestOf_4 ?_
    refine x_al0 rfl dX5_longestOf_5 ?_
    refine x_get fdX5_9 hR rfl dX5_longestOf_6 ?_
    refine x_icmp_ge (tgt := 32) dX5_longestOf_9 rfl (fun q1 => ?_) (fun q1 => ?_)
    · refine x_il2 dX5_longestOf_32 ?_
      exact x_iret rfl rfl dX5_longestOf_33 ⟨rfl, rfl⟩
    · exact absurd (nI_le (Nat.le_refl _) (by omega)) q1
  | succ k ih =>
    intro j a hj ha
    have hjn : j < n := by omega
    obtain ⟨b0, b1, b2⟩ := rb_facts hn hs hjn
    have b3 := popc_le (u := rb n s j)
    refine x_il3 dX5_longestOf_4 ?_
    refine x_al0 rfl dX5_longestOf_5 ?_
    refine x_get fdX5_9 hR rfl dX5_longestOf_6 ?_
    refine x_icmp_ge (tgt := 32) dX5_longestOf_9 rfl (fun q1 => ?_) (fun q1 => ?_)
    · exact absurd q1 (nI_ge (by omega) (by omega))
    · refine x_il2 dX5_longestOf_12 ?_
      refine x_al0 rfl dX5_longestOf_13 ?_
      refine x_il1 dX5_longestOf_14 ?_
      refine x_il3 dX5_longestOf_15 ?_
      refine x_cv2I mX5_roundBits_ok lkX5_57 rfl (Nat.le_of_ble_eq_true rfl) (Nat.le_of_ble_eq_true rfl) dX5_longestOf_16 hR  (c_X5_roundBits hT hs hjn) ?_
      refine x_cs1I mJ6_bitCount_0f7a4_ok lkX5_60 (Nat.le_of_ble_eq_true rfl) (Nat.le_of_ble_eq_true rfl) dX5_longestOf_19 (c_bitCount b1) ?_
      refine x_mmax kjX5_66 (Nat.le_of_ble_eq_true rfl) (mx_n (by omega) (by omega)) dX5_longestOf_22 ?_
      refine x_is2 rfl dX5_longestOf_25 ?_
      first | refine x_ii3 rfl (nI_1 _) dX5_longestOf_26 ?_ | refine x_ii3 rfl rfl dX5_longestOf_26 ?_
      refine x_goto (tgt := 4) dX5_longestOf_29 rfl ?_
      exact ih (j + 1) _ (by omega) (by omega)
theorem c_X5_longestOf {n s rn rs : Nat} {sw : Int32} (hT : RT h n rn rs sw) (hs : s < fct n) : Zm g (d + 2) 0 0 mX5_longestOf [.ref 15, .int (nI s)] h (rI (nI (mxL (fun j => popc (rb n s j)) n 0 0)) h) := by
  show Zw g (d + 2) 0 0 mX5_longestOf 0 [some (.ref 15), some (.int (nI s)), none, none] [] h _
  refine x_iconst (v := nI 0) dX5_longestOf_0 rfl ?_
  refine x_is2 rfl dX5_longestOf_1 ?_
  refine x_iconst (v := nI 0) dX5_longestOf_2 rfl ?_
  refine x_is3 rfl dX5_longestOf_3 ?_
  exact lp_X5_longestOf hT hs n 0 0 (by omega) (by omega)
theorem lp_X5_fixedOf {n s rn rs : Nat} {sw : Int32} (hT : RT h n rn rs sw) (hs : s < fct n) : ∀ (k j a : Nat), j + k = n → Zw g (d + 1) 0 0 mX5_fixedOf 4 [some (.ref 15), some (.int (nI s)), some (.int (nI a)), some (.int (nI j))] [] h (rI (nI (a + cntL (fun j => decide (nm n s j = j)) k j)) h) := by
  have hn := hT.2.1
  have hR := hT.2.2.2.2.1
  intro k
  induction k with
  | zero =>
    intro j a hj
    obtain rfl : j = n := by omega
    refine x_il3 dX5_fixedOf_4 ?_
    refine x_al0 rfl dX5_fixedOf_5 ?_
    refine x_get fdX5_9 hR rfl dX5_fixedOf_6 ?_
    refine x_icmp_ge (tgt := 31) dX5_fixedOf_9 rfl (fun q1 => ?_) (fun q1 => ?_)
    · refine x_il2 dX5_fixedOf_31 ?_
      exact x_iret rfl rfl dX5_fixedOf_32 ⟨rfl, rfl⟩
    · exact absurd (nI_le (Nat.le_refl _) (by omega)) q1
  | succ k ih =>
    intro j a hj
    have hjn : j < n := by omega
    have b3 := nm_lt hn hs hjn
    refine x_il3 dX5_fixedOf_4 ?_
    refine x_al0 rfl dX5_fixedOf_5 ?_
    refine x_get fdX5_9 hR rfl dX5_fixedOf_6 ?_
    refine x_icmp_ge (tgt := 31) dX5_fixedOf_9 rfl (fun q1 => ?_) (fun q1 => ?_)
    · exact absurd q1 (nI_ge (by omega) (by omega))
    · refine x_al0 rfl dX5_fixedOf_12 ?_
      refine x_il1 dX5_fixedOf_13 ?_
      refine x_il3 dX5_fixedOf_14 ?_
      refine x_cv2I mX5_nameIn_ok lkX5_50 rfl (Nat.le_of_ble_eq_true rfl) (Nat.le_of_ble_eq_true rfl) dX5_fixedOf_15 hR  (c_nameIn hT hs hjn) ?_
      refine x_il3 dX5_fixedOf_18 ?_
      refine x_icmp_ne (tgt := 25) dX5_fixedOf_19 rfl (fun q2 => ?_) (fun q2 => ?_)
      · rw [nI_eq (by omega) (by omega)] at q2
        first | refine x_ii3 rfl (nI_1 _) dX5_fixedOf_25 ?_ | refine x_ii3 rfl rfl dX5_fixedOf_25 ?_
        refine x_goto (tgt := 4) dX5_fixedOf_28 rfl ?_
        rw [cnt_f (decide_eq_false q2)]
        exact ih (j + 1) a (by omega)
      · rw [nI_eq (by omega) (by omega)] at q2
        first | refine x_ii2 rfl (nI_1 _) dX5_fixedOf_22 ?_ | refine x_ii2 rfl rfl dX5_fixedOf_22 ?_
        first | refine x_ii3 rfl (nI_1 _) dX5_fixedOf_25 ?_ | refine x_ii3 rfl rfl dX5_fixedOf_25 ?_
        refine x_goto (tgt := 4) dX5_fixedOf_28 rfl ?_
        rw [cnt_t (decide_eq_true q2)]
        exact ih (j + 1) (a + 1) (by omega)
theorem c_X5_fixedOf {n s rn rs : Nat} {sw : Int32} (hT : RT h n rn rs sw) (hs : s < fct n) : Zm g (d + 1) 0 0 mX5_fixedOf [.ref 15, .int (nI s)] h (rI (nI (cntL (fun j => decide (nm n s j = j)) n 0)) h) := by
  show Zw g (d + 1) 0 0 mX5_fixedOf 0 [some (.ref 15), some (.int (nI s)), none, none] [] h _
  refine x_iconst (v := nI 0) dX5_fixedOf_0 rfl ?_
  refine x_is2 rfl dX5_fixedOf_1 ?_
  refine x_iconst (v := nI 0) dX5_fixedOf_2 rfl ?_
  refine x_is3 rfl dX5_fixedOf_3 ?_
  have := lp_X5_fixedOf (g := g) (d := d) hT hs n 0 0 (by omega)
  rw [Nat.zero_add] at this
  exact this
theorem rnk31 {n : Nat} {p : Nat → Nat} (hn : n ≤ 6) : rnk n p < 2 ^ 31 := by
  have h1 : ∀ (dd k e : Nat), less p dd k e ≤ k := by
    intro dd k
    induction k with
    | zero => intro e; exact Nat.le_refl _
    | succ k ih =>
      intro e
      have := ih (e + 1)
      unfold less
      split <;> omega
  have h2 : ∀ (k dd a : Nat), dd + k = n → a ≤ 12 ^ dd → rnkL n p k dd a ≤ 12 ^ n := by
    intro k
    induction k with
    | zero =>
      intro dd a hd ha
      rw [show n = dd by omega]
      exact ha
    | succ k ih =>
      intro dd a hd ha
      refine ih (dd + 1) _ (by omega) ?_
      have q1 := h1 dd (n - (dd + 1)) (dd + 1)
      have q2 : a * (n - dd) ≤ 12 ^ dd * 6 := Nat.mul_le_mul ha (by omega)
      have q3 : 0 < 12 ^ dd := Nat.pow_pos (by decide)
      rw [Nat.pow_succ]
      omega
  have h3 := h2 n 0 0 (by omega) (by omega)
  have h4 : 12 ^ n ≤ 12 ^ 6 := Nat.pow_le_pow_right (by decide) hn
  exact Nat.lt_of_le_of_lt h3 (Nat.lt_of_le_of_lt h4 (by decide))
theorem lp_X5_orderOf {n s rn rs : Nat} {sw : Int32} (hs : s < fct n) : ∀ (k j : Nat) (h : zH), j + k = 6 → 0 < j → RT h n rn rs sw → Zw g (d + 3) 0 0 mX5_orderOf 2 [some (.ref 15), some (.int (nI s)), some (.int (nI j))] [] h (rIp (fun r h' => r = nI (ordL n s k j) ∧ Md h h')) := by
  intro k
  induction k with
  | zero =>
    intro j h hj h0 hT
    obtain rfl : j = 6 := by omega
    obtain ⟨fm, hm⟩ := hT.2.2.2.2.2.2
    refine x_il2 dX5_orderOf_2 ?_
    refine x_bipush (v := nI 6) dX5_orderOf_3 rfl ?_
    refine x_icmp_ge (tgt := 26) dX5_orderOf_5 rfl (fun q1 => ?_) (fun q1 => ?_)
    · refine x_bipush (v := nI 6) dX5_orderOf_26 rfl ?_
      exact x_iret rfl rfl dX5_orderOf_28 ⟨_, rfl, rfl, fm, (hs_same hm).symm⟩
    · exact absurd (by decide) q1
  | succ k ih =>
    intro j h hj h0 hT
    have hn := hT.2.1
    have hR := hT.2.2.2.2.1
    refine x_il2 dX5_orderOf_2 ?_
    refine x_bipush (v := nI 6) dX5_orderOf_3 rfl ?_
    refine x_icmp_ge (tgt := 26) dX5_orderOf_5 rfl (fun q1 => ?_) (fun q1 => ?_)
    · exact absurd q1 (nI_ge (by omega) (by omega))
    · refine x_al0 rfl dX5_orderOf_8 ?_
      refine x_il1 dX5_orderOf_9 ?_
      refine x_il2 dX5_orderOf_10 ?_
      refine x_i2l (nI_l (by omega)) dX5_orderOf_11 ?_
      refine x_cv2Ip mX5_powerOf_ok lkX5_78 rfl (Nat.le_of_ble_eq_true rfl) (Nat.le_of_ble_eq_true rfl) dX5_orderOf_12 hR  (c_X5_powerOf hT hs (by omega)) (fun r h hq => ?_)
      obtain ⟨rfl, hmd⟩ := hq
      refine x_if_ne (tgt := 20) dX5_orderOf_15 rfl (fun q2 => ?_) (fun q2 => ?_)
      · rw [nI_z (rnk31 hn)] at q2
        first | refine x_ii2 rfl (nI_1 _) dX5_orderOf_20 ?_ | refine x_ii2 rfl rfl dX5_orderOf_20 ?_
        refine x_goto (tgt := 2) dX5_orderOf_23 rfl ?_
        refine Zw.mono (ih (j + 1) _ (by omega) (by omega) (hmd.rt hT)) (fun v h' hq => ?_)
        obtain ⟨r, rfl, h1, h2⟩ := hq
        exact ⟨r, rfl, by rw [h1, ordL, if_neg q2], hmd.tr h2⟩
      · rw [nI_z (rnk31 hn)] at q2
        refine x_il2 dX5_orderOf_18 ?_
        exact x_iret rfl rfl dX5_orderOf_19 ⟨_, rfl, by rw [ordL, if_pos q2], hmd⟩
theorem c_X5_orderOf {n s rn rs : Nat} {sw : Int32} (hT : RT h n rn rs sw) (hs : s < fct n) : Zm g (d + 3) 0 0 mX5_orderOf [.ref 15, .int (nI s)] h (rIp (fun r h' => r = nI (ordr n s) ∧ Md h h')) := by
  show Zw g (d + 3) 0 0 mX5_orderOf 0 [some (.ref 15), some (.int (nI s)), none] [] h _
  refine x_iconst (v := nI 1) dX5_orderOf_0 rfl ?_
  refine x_is2 rfl dX5_orderOf_1 ?_
  exact lp_X5_orderOf hs 5 1 h (by omega) (by omega) hT
theorem lp_X5_inv_in {n s rn rs j : Nat} {sw : Int32} {Q : Option Value → zH → Prop} (hT : RT h n rn rs sw) (hs : s < fct n) (hj : j < n) : ∀ (k e a : Nat), e + k = n → Zw g (d + 1) 0 0 mX5_inversionsOf 51 [some (.ref 15), some (.int (nI s)), some (.int (nI (a + cntL (fun e => decide (nm n s e < nm n s j)) k e))), some (.int (nI j)), some (.int (nI n))] [] h Q → Zw g (d + 1) 0 0 mX5_inversionsOf 17 [some (.ref 15), some (.int (nI s)), some (.int (nI a)), some (.int (nI j)), some (.int (nI e))] [] h Q := by
  have hn := hT.2.1
  have hR := hT.2.2.2.2.1
  intro k
  induction k with
  | zero =>
    intro e a he K
    obtain rfl : e = n := by omega
    refine x_il4 dX5_inversionsOf_17 ?_
    refine x_al0 rfl dX5_inversionsOf_19 ?_
    refine x_get fdX5_9 hR rfl dX5_inversionsOf_20 ?_
    refine x_icmp_ge (tgt := 51) dX5_inversionsOf_23 rfl (fun q1 => ?_) (fun q1 => ?_)
    · exact K
    · exact absurd (nI_le (Nat.le_refl _) (by omega)) q1
  | succ k ih =>
    intro e a he K
    have b3 := nm_lt hn hs hj
    have b4 := nm_lt hn hs (d := e) (by omega)
    refine x_il4 dX5_inversionsOf_17 ?_
    refine x_al0 rfl dX5_inversionsOf_19 ?_
    refine x_get fdX5_9 hR rfl dX5_inversionsOf_20 ?_
    refine x_icmp_ge (tgt := 51) dX5_inversionsOf_23 rfl (fun q1 => ?_) (fun q1 => ?_)
    · exact absurd q1 (nI_ge (by omega) (by omega))
    · refine x_al0 rfl dX5_inversionsOf_26 ?_
      refine x_il1 dX5_inversionsOf_27 ?_
      refine x_il3 dX5_inversionsOf_28 ?_
      refine x_cv2I mX5_nameIn_ok lkX5_50 rfl (Nat.le_of_ble_eq_true rfl) (Nat.le_of_ble_eq_true rfl) dX5_inversionsOf_29 hR  (c_nameIn hT hs hj) ?_
      refine x_al0 rfl dX5_inversionsOf_32 ?_
      refine x_il1 dX5_inversionsOf_33 ?_
      refine x_il4 dX5_inversionsOf_34 ?_
      refine x_cv2I mX5_nameIn_ok lkX5_50 rfl (Nat.le_of_ble_eq_true rfl) (Nat.le_of_ble_eq_true rfl) dX5_inversionsOf_36 hR  (c_nameIn hT hs (by omega)) ?_
      refine x_icmp_le (tgt := 45) dX5_inversionsOf_39 rfl (fun q2 => ?_) (fun q2 => ?_)
      · rw [nI_leI (by omega) (by omega)] at q2
        first | refine x_ii4 rfl (nI_1 _) dX5_inversionsOf_45 ?_ | refine x_ii4 rfl rfl dX5_inversionsOf_45 ?_
        refine x_goto (tgt := 17) dX5_inversionsOf_48 rfl ?_
        refine ih (e + 1) a (by omega) ?_
        rw [← cnt_f (decide_eq_false (by omega))]
        exact K
      · rw [nI_leI (by omega) (by omega)] at q2
        first | refine x_ii2 rfl (nI_1 _) dX5_inversionsOf_42 ?_ | refine x_ii2 rfl rfl dX5_inversionsOf_42 ?_
        first | refine x_ii4 rfl (nI_1 _) dX5_inversionsOf_45 ?_ | refine x_ii4 rfl rfl dX5_inversionsOf_45 ?_
        refine x_goto (tgt := 17) dX5_inversionsOf_48 rfl ?_
        refine ih (e + 1) (a + 1) (by omega) ?_
        rw [← cnt_t (decide_eq_true (by omega))]
        exact K
theorem lp_X5_inv {n s rn rs : Nat} {sw : Int32} (hT : RT h n rn rs sw) (hs : s < fct n) : ∀ (k j a : Nat) (x : Option Value), j + k = n → Zw g (d + 1) 0 0 mX5_inversionsOf 4 [some (.ref 15), some (.int (nI s)), some (.int (nI a)), some (.int (nI j)), x] [] h (rI (nI (invL n s k j a)) h) := by
  have hn := hT.2.1
  have hR := hT.2.2.2.2.1
  intro k
  induction k with
  | zero =>
    intro j a x hj
    obtain rfl : j = n := by omega
    refine x_il3 dX5_inversionsOf_4 ?_
    refine x_al0 rfl dX5_inversionsOf_5 ?_
    refine x_get fdX5_9 hR rfl dX5_inversionsOf_6 ?_
    refine x_icmp_ge (tgt := 57) dX5_inversionsOf_9 rfl (fun q1 => ?_) (fun q1 => ?_)
    · refine x_il2 dX5_inversionsOf_57 ?_
      exact x_iret rfl rfl dX5_inversionsOf_58 ⟨rfl, rfl⟩
    · exact absurd (nI_le (Nat.le_refl _) (by omega)) q1
  | succ k ih =>
    intro j a x hj
    refine x_il3 dX5_inversionsOf_4 ?_
    refine x_al0 rfl dX5_inversionsOf_5 ?_
    refine x_get fdX5_9 hR rfl dX5_inversionsOf_6 ?_
    refine x_icmp_ge (tgt := 57) dX5_inversionsOf_9 rfl (fun q1 => ?_) (fun q1 => ?_)
    · exact absurd q1 (nI_ge (by omega) (by omega))
    · refine x_il3 dX5_inversionsOf_12 ?_
      refine x_iconst (v := nI 1) dX5_inversionsOf_13 rfl ?_
      first | refine x_iadd (nI_add _ _) dX5_inversionsOf_14 ?_ | refine x_iadd rfl dX5_inversionsOf_14 ?_
      refine x_is4 rfl dX5_inversionsOf_15 ?_
      refine lp_X5_inv_in hT hs (by omega) (n - (j + 1)) (j + 1) a (by omega) ?_
      first | refine x_ii3 rfl (nI_1 _) dX5_inversionsOf_51 ?_ | refine x_ii3 rfl rfl dX5_inversionsOf_51 ?_
      refine x_goto (tgt := 4) dX5_inversionsOf_54 rfl ?_
      exact ih (j + 1) _ _ (by omega)
theorem c_X5_inversionsOf {n s rn rs : Nat} {sw : Int32} (hT : RT h n rn rs sw) (hs : s < fct n) : Zm g (d + 1) 0 0 mX5_inversionsOf [.ref 15, .int (nI s)] h (rI (nI (invL n s n 0 0)) h) := by
  show Zw g (d + 1) 0 0 mX5_inversionsOf 0 [some (.ref 15), some (.int (nI s)), none, none, none] [] h _
  refine x_iconst (v := nI 0) dX5_inversionsOf_0 rfl ?_
  refine x_is2 rfl dX5_inversionsOf_1 ?_
  refine x_iconst (v := nI 0) dX5_inversionsOf_2 rfl ?_
  refine x_is3 rfl dX5_inversionsOf_3 ?_
  exact lp_X5_inv hT hs n 0 0 _ (by omega)
end ZG

