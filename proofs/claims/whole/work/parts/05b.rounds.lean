/-! the model: isIn, bitsOf of masks, roundOf, common, orderOf, powerOf; both sides' rounds are alike -/
theorem isIn_n {u k : Nat} (hu : u < 64) (hk : k < 6) : (lg_cmp ((lN u >>> ((nI k).toInt64 &&& 63)) &&& 1) 1 = 0) ↔ u / 2 ^ k % 2 = 1 := by
  have : ∀ u, u < 64 → ∀ k, k < 6 → decide (lg_cmp ((lN u >>> ((nI k).toInt64 &&& 63)) &&& 1) 1 = 0) = decide (u / 2 ^ k % 2 = 1) := by decide +kernel
  have h := this u hu k hk
  constructor
  · intro q; exact of_decide_eq_true (by rw [← h]; exact decide_eq_true q)
  · intro q; exact of_decide_eq_true (by rw [h]; exact decide_eq_true q)
theorem bits6_n {u : Nat} (hu : u < 64) : bits6 (nI u) 6 = nI (popc u) := by
  revert u
  decide +kernel
def rofL (n s : Nat) : Nat → Nat → Nat → Nat
  | 0, b, _ => b
  | f + 1, b, k => if b / 2 ^ k % 2 = 1 then b else rofL n s f (b ||| 2 ^ k) (nm n s k)
def rofE (n s : Nat) : Nat → Nat → Nat → Bool
  | 0, b, k => decide (b / 2 ^ k % 2 = 1)
  | f + 1, b, k => decide (b / 2 ^ k % 2 = 1) || rofE n s f (b ||| 2 ^ k) (nm n s k)
def moL (n s : Nat) : Nat → Nat → Nat → Nat
  | 0, _, a => a
  | k + 1, j, a => moL n s k (j + 1) (a / Nat.gcd a (popc (rb n s j)) * popc (rb n s j))
def rndOk (n s : Nat) : Bool := (List.range n).all (fun d => rofE n s n 0 d && decide (rofL n s n 0 d = rb n s d) && decide (nbk n s (popc (rb n s d)) d = d) && decide (ordr n s % popc (rb n s d) = 0)) && decide (moL n s n 0 1 = ordr n s) && decide (0 < ordr n s) && decide (ordr n s ≤ 6)
theorem rndOk_all : ∀ n, n < 7 → ∀ s, s < fct n → rndOk n s = true := by decide +kernel
theorem rnd_facts {n s : Nat} (hn : n ≤ 6) (hs : s < fct n) : (∀ d, d < n → rofE n s n 0 d = true ∧ rofL n s n 0 d = rb n s d ∧ nbk n s (popc (rb n s d)) d = d ∧ ordr n s % popc (rb n s d) = 0) ∧ moL n s n 0 1 = ordr n s ∧ 0 < ordr n s ∧ ordr n s ≤ 6 := by
  have h := rndOk_all n (by omega) s hs
  unfold rndOk at h
  simp only [Bool.and_eq_true, decide_eq_true_eq, List.all_eq_true, List.mem_range] at h
  exact ⟨fun d hd => ⟨(h.1.1.1 d hd).1.1.1, (h.1.1.1 d hd).1.1.2, (h.1.1.1 d hd).1.2, (h.1.1.1 d hd).2⟩, h.1.1.2, h.1.2, h.2⟩
theorem nbk_add {n s : Nat} : ∀ a b to, nbk n s (a + b) to = nbk n s b (nbk n s a to) := by
  intro a
  induction a with
  | zero => intro b to; rw [Nat.zero_add]; rfl
  | succ a ih => intro b to; rw [show a + 1 + b = (a + b) + 1 by omega]; exact ih b _
theorem nbk_mod {n s c to : Nat} (hc : nbk n s c to = to) : ∀ k, nbk n s (k % c) to = nbk n s k to := by
  intro k
  have h1 : ∀ m, nbk n s (c * m) to = to := by
    intro m
    induction m with
    | zero => rfl
    | succ m ih => rw [Nat.mul_succ, nbk_add, ih]; exact hc
  conv => rhs; rw [← Nat.div_add_mod k c]
  rw [nbk_add, h1]
/-- powers by the order are powers by each round's length -/
theorem pwk_ord {n s K j : Nat} (hn : n ≤ 6) (hs : s < fct n) (hj : j < n) : nbk n s (K % ordr n s) j = pwk n s K j := by
  obtain ⟨-, -, h3, h4⟩ := (rnd_facts hn hs).1 j hj
  unfold pwk
  rw [← nbk_mod h3 (K % ordr n s), Nat.mod_mod_of_dvd _ (Nat.dvd_of_mod_eq_zero h4)]
section ZM2
variable {g : zG} {d : Nat} {h : zH} {s : Nat → Value} {al : Nat → Int32}
theorem m_isIn {u k : Nat} (hu : u < 64) (hk : k < 6) : Zm g d 0 0 mX12_isIn [.long (lN u), .int (nI k)] h (rI (b2 (u / 2 ^ k % 2 = 1)) h) := by
  show Zw g d 0 0 mX12_isIn 0 [some (.long (lN u)), none, some (.int (nI k))] [] h _
  refine x_ll0 dX12_isIn_0 ?_
  refine x_il2 dX12_isIn_1 ?_
  refine x_lshr (rfl) dX12_isIn_2 ?_
  refine x_lconst (v := 1) dX12_isIn_3 rfl ?_
  refine x_land (rfl) dX12_isIn_4 ?_
  refine x_lconst (v := 1) dX12_isIn_5 rfl ?_
  refine x_lcmp (rfl) dX12_isIn_6 ?_
  refine x_if_ne (tgt := 14) dX12_isIn_7 rfl (fun q1 => ?_) (fun q1 => ?_)
  · refine x_iconst (v := nI 0) dX12_isIn_14 rfl ?_
    exact x_iret rfl  rfl dX12_isIn_15 ⟨by rw [b2_f (fun q => q1 ((isIn_n hu hk).mpr q))]; rfl, rfl⟩
  · refine x_iconst (v := nI 1) dX12_isIn_10 rfl ?_
    refine x_goto (tgt := 15) dX12_isIn_11 rfl ?_
    exact x_iret rfl  rfl dX12_isIn_15 ⟨by rw [b2_t ((isIn_n hu hk).mp q1)]; rfl, rfl⟩
theorem m_bitsOf {u : Nat} (hu : u < 64) : Zm g d 0 0 mX12_bitsOf [.int (nI u)] h (rI (nI (popc u)) h) := by
  rw [← bits6_n hu]
  exact c_X12_bitsOf
theorem lp_roundOf {n q dd : Nat} (hT : MT h s al n) (hs : q < fct n) : ∀ (f b k : Nat), b < 64 → k < n → rofE n q f b k = true → Zw g (d + 1) 0 0 mX12_roundOf 5 [some (.ref 59), some (.int (nI q)), some (.int (nI dd)), some (.int (nI b)), some (.int (nI k))] [] h (rI (nI (rofL n q f b k)) h) := by
  obtain ⟨hM, hF, hL, h1, h0, hn, -⟩ := id hT
  intro f
  induction f with
  | zero =>
    intro b k hb hk he
    have he : b / 2 ^ k % 2 = 1 := of_decide_eq_true he
    refine x_il3 dX12_roundOf_5 ?_
    refine x_i2l (nI_l (by omega)) dX12_roundOf_6 ?_
    refine x_il4 dX12_roundOf_7 ?_
    refine x_cs2I mX12_isIn_ok lkX12_230 (Nat.le_of_ble_eq_true rfl) (Nat.le_of_ble_eq_true rfl) dX12_roundOf_9 (m_isIn hb (by omega)) ?_
    refine x_if_ne (tgt := 34) dX12_roundOf_12 rfl (fun q1 => ?_) (fun q1 => ?_)
    · refine x_il3 dX12_roundOf_34 ?_
      exact x_iret rfl rfl dX12_roundOf_35 ⟨rfl, rfl⟩
    · exact absurd he (b2_z.mp q1)
  | succ f ih =>
    intro b k hb hk he
    have hkb : 1 * 2 ^ k < 2 ^ 32 := by rw [Nat.one_mul]; exact Nat.pow_lt_pow_right (by decide) (by omega)
    refine x_il3 dX12_roundOf_5 ?_
    refine x_i2l (nI_l (by omega)) dX12_roundOf_6 ?_
    refine x_il4 dX12_roundOf_7 ?_
    refine x_cs2I mX12_isIn_ok lkX12_230 (Nat.le_of_ble_eq_true rfl) (Nat.le_of_ble_eq_true rfl) dX12_roundOf_9 (m_isIn hb (by omega)) ?_
    refine x_if_ne (tgt := 34) dX12_roundOf_12 rfl (fun q1 => ?_) (fun q1 => ?_)
    · rw [b2_nz] at q1
      refine x_il3 dX12_roundOf_34 ?_
      exact x_iret rfl rfl dX12_roundOf_35 ⟨by rw [rofL, if_pos q1], rfl⟩
    · rw [b2_z] at q1
      rw [rofL, if_neg q1]
      refine x_il3 dX12_roundOf_15 ?_
      refine x_iconst (v := nI 1) dX12_roundOf_16 rfl ?_
      refine x_il4 dX12_roundOf_17 ?_
      refine x_ishl (shl_n (by omega) hkb) dX12_roundOf_19 ?_
      refine x_ior (or_n _ _) dX12_roundOf_20 ?_
      refine x_is3 rfl dX12_roundOf_21 ?_
      refine x_al0 rfl dX12_roundOf_22 ?_
      refine x_il1 dX12_roundOf_23 ?_
      refine x_il4 dX12_roundOf_24 ?_
      refine x_cv2I mX12_nameIn_ok lkX12_251 rfl (Nat.le_of_ble_eq_true rfl) (Nat.le_of_ble_eq_true rfl) dX12_roundOf_26 hM  (m_nameIn hT hs hk) ?_
      refine x_is4 rfl dX12_roundOf_29 ?_
      refine x_goto (tgt := 5) dX12_roundOf_31 rfl ?_
      rw [Nat.one_mul]
      refine ih _ _ (Nat.or_lt_two_pow (n := 6) hb (Nat.pow_lt_pow_right (by decide) (by omega))) (nm_lt hn hs hk) ?_
      unfold rofE at he
      rw [decide_eq_false q1, Bool.false_or] at he
      exact he
theorem m_roundOf {n q dd : Nat} (hT : MT h s al n) (hs : q < fct n) (hd : dd < n) : Zm g (d + 1) 0 0 mX12_roundOf [.ref 59, .int (nI q), .int (nI dd)] h (rI (nI (rb n q dd)) h) := by
  obtain ⟨e1, e2, -⟩ := (rnd_facts hT.2.2.2.2.2.1 hs).1 dd hd
  rw [← e2]
  show Zw g (d + 1) 0 0 mX12_roundOf 0 [some (.ref 59), some (.int (nI q)), some (.int (nI dd)), none, none] [] h _
  refine x_iconst (v := nI 0) dX12_roundOf_0 rfl ?_
  refine x_is3 rfl dX12_roundOf_1 ?_
  refine x_il2 dX12_roundOf_2 ?_
  refine x_is4 rfl dX12_roundOf_3 ?_
  exact lp_roundOf hT hs n 0 dd (by decide) hd e1
theorem m_common : ∀ (b a : Nat), a < 2 ^ 31 → b < 2 ^ 31 → Zm g (d + b) 0 0 mX12_common [.int (nI a), .int (nI b)] h (rI (nI (Nat.gcd a b)) h) := by
  intro b
  induction b using Nat.strongRecOn with
  | ind b ih =>
    intro a ha hb
    show Zw g (d + b) 0 0 mX12_common 0 [some (.int (nI a)), some (.int (nI b))] [] h _
    refine x_il1 dX12_common_0 ?_
    refine x_if_ne (tgt := 8) dX12_common_1 rfl (fun q1 => ?_) (fun q1 => ?_)
    · rw [nI_z hb] at q1
      have hm : a % b < b := Nat.mod_lt a (by omega)
      have hg : Nat.gcd a b = Nat.gcd b (a % b) := by rw [Nat.gcd_comm, Nat.gcd_rec, Nat.gcd_comm]
      obtain ⟨c, rfl⟩ : ∃ c, b = c + 1 := ⟨b - 1, by omega⟩
      refine x_il1 dX12_common_8 ?_
      refine x_il0 dX12_common_9 ?_
      refine x_il1 dX12_common_10 ?_
      refine x_irem (nI_ne0 (by omega) hb) (pk_rem ha (by omega) hb) dX12_common_11 ?_
      refine x_cs2I mX12_common_ok lkX12_335 (Nat.le_of_ble_eq_true rfl) (Nat.le_of_ble_eq_true rfl) dX12_common_12 (Zm.deep (ih (a % (c + 1)) hm (c + 1) hb (by omega)) (show d + a % (c + 1) ≤ d + c by omega)) ?_
      exact x_iret rfl rfl dX12_common_15 ⟨by rw [hg], rfl⟩
    · rw [nI_z hb] at q1
      refine x_il0 dX12_common_4 ?_
      refine x_goto (tgt := 15) dX12_common_5 rfl ?_
      exact x_iret rfl rfl dX12_common_15 ⟨by rw [q1, Nat.gcd_zero_right], rfl⟩
theorem lp_m_orderOf {n q : Nat} (hT : MT h s al n) (hs : q < fct n) : ∀ (k j a : Nat) (x : Option Value), j + k = n → 0 < a → a ≤ 6 ^ j → Zw g (d + 8) 0 0 mX12_orderOf 4 [some (.ref 59), some (.int (nI q)), some (.int (nI a)), some (.int (nI j)), x] [] h (rI (nI (moL n q k j a)) h) := by
  obtain ⟨hM, hF, hL, h1, h0, hn, -⟩ := id hT
  intro k
  induction k with
  | zero =>
    intro j a x hj h0 ha
    obtain rfl : j = n := by omega
    refine x_il3 dX12_orderOf_4 ?_
    refine x_al0 rfl dX12_orderOf_5 ?_
    refine x_gm fdX12_13 hM (by decide) hF.f1 dX12_orderOf_6 ?_
    refine x_iconst (v := nI 1) dX12_orderOf_9 rfl ?_
    refine x_iald hL (vp_in_nI (by decide) (by decide)) (ald h1 (by decide)) dX12_orderOf_10 ?_
    refine x_icmp_ge (tgt := 43) dX12_orderOf_11 rfl (fun q1 => ?_) (fun q1 => ?_)
    · refine x_il2 dX12_orderOf_43 ?_
      exact x_iret rfl rfl dX12_orderOf_44 ⟨rfl, rfl⟩
    · exact absurd (nI_le (Nat.le_refl _) (by omega)) q1
  | succ k ih =>
    intro j a x hj ha0 ha
    have hjn : j < n := by omega
    obtain ⟨b0, b1, b2⟩ := rb_facts hn hs hjn
    have b3 := popc_le (u := rb n q j)
    have hp6 : 6 ^ j ≤ 6 ^ 5 := Nat.pow_le_pow_right (by decide) (by omega)
    have ha31 : a < 2 ^ 31 := Nat.lt_of_le_of_lt (Nat.le_trans ha hp6) (by decide)
    have hg0 : 0 < Nat.gcd a (popc (rb n q j)) := Nat.gcd_pos_of_pos_left _ ha0
    have hgl : Nat.gcd a (popc (rb n q j)) ≤ a := Nat.gcd_le_left _ ha0
    refine x_il3 dX12_orderOf_4 ?_
    refine x_al0 rfl dX12_orderOf_5 ?_
    refine x_gm fdX12_13 hM (by decide) hF.f1 dX12_orderOf_6 ?_
    refine x_iconst (v := nI 1) dX12_orderOf_9 rfl ?_
    refine x_iald hL (vp_in_nI (by decide) (by decide)) (ald h1 (by decide)) dX12_orderOf_10 ?_
    refine x_icmp_ge (tgt := 43) dX12_orderOf_11 rfl (fun q1 => ?_) (fun q1 => ?_)
    · exact absurd q1 (nI_ge (by omega) (by omega))
    · refine x_al0 rfl dX12_orderOf_14 ?_
      refine x_il1 dX12_orderOf_15 ?_
      refine x_il3 dX12_orderOf_16 ?_
      refine x_cv2I mX12_roundOf_ok lkX12_338 rfl (Nat.le_of_ble_eq_true rfl) (Nat.le_of_ble_eq_true rfl) dX12_orderOf_17 hM  (m_roundOf hT hs hjn) ?_
      refine x_cs1I mX12_bitsOf_ok lkX12_284 (Nat.le_of_ble_eq_true rfl) (Nat.le_of_ble_eq_true rfl) dX12_orderOf_20 (m_bitsOf b1) ?_
      refine x_is4 rfl dX12_orderOf_23 ?_
      refine x_il2 dX12_orderOf_25 ?_
      refine x_il2 dX12_orderOf_26 ?_
      refine x_il4 dX12_orderOf_27 ?_
      refine x_cs2I mX12_common_ok lkX12_335 (Nat.le_of_ble_eq_true rfl) (Nat.le_of_ble_eq_true rfl) dX12_orderOf_29 (Zm.deep (d' := d + popc (rb n q j)) (m_common _ _ ha31 (by omega)) (by omega)) ?_
      refine x_idiv (nI_ne0 hg0 (by omega)) (pk_div ha31 hg0 (by omega)) dX12_orderOf_32 ?_
      refine x_il4 dX12_orderOf_33 ?_
      first | refine x_imul (pk_mul _ _) dX12_orderOf_35 ?_ | refine x_imul rfl dX12_orderOf_35 ?_
      refine x_is2 rfl dX12_orderOf_36 ?_
      first | refine x_ii3 rfl (nI_1 _) dX12_orderOf_37 ?_ | refine x_ii3 rfl rfl dX12_orderOf_37 ?_
      refine x_goto (tgt := 4) dX12_orderOf_40 rfl ?_
      refine ih (j + 1) _ _ (by omega) (Nat.mul_pos (Nat.div_pos hgl hg0) b2) ?_
      rw [Nat.pow_succ]
      exact Nat.mul_le_mul (Nat.le_trans (Nat.div_le_self _ _) ha) b3
theorem m_orderOf {n q : Nat} (hT : MT h s al n) (hs : q < fct n) : Zm g (d + 8) 0 0 mX12_orderOf [.ref 59, .int (nI q)] h (rI (nI (ordr n q)) h) := by
  rw [← (rnd_facts hT.2.2.2.2.2.1 hs).2.1]
  show Zw g (d + 8) 0 0 mX12_orderOf 0 [some (.ref 59), some (.int (nI q)), none, none, none] [] h _
  refine x_iconst (v := nI 1) dX12_orderOf_0 rfl ?_
  refine x_is2 rfl dX12_orderOf_1 ?_
  refine x_iconst (v := nI 0) dX12_orderOf_2 rfl ?_
  refine x_is3 rfl dX12_orderOf_3 ?_
  exact lp_m_orderOf hT hs n 0 1 _ (by omega) (by omega) (by decide)
theorem lp_m_pow_in {n q K dd : Nat} {Q : Option Value → zH → Prop} (hT : MT h s al n) (hs : q < fct n) (hK : K < 2 ^ 31) : ∀ (k j to : Nat), j + k = K → to < n → Zw g (d + 1) 0 0 mX12_powerOf 39 [some (.ref 59), some (.int (nI q)), some (.int (nI K)), some (.int (nI dd)), some (.int (nI (nbk n q k to))), some (.int (nI K))] [] h Q → Zw g (d + 1) 0 0 mX12_powerOf 18 [some (.ref 59), some (.int (nI q)), some (.int (nI K)), some (.int (nI dd)), some (.int (nI to)), some (.int (nI j))] [] h Q := by
  obtain ⟨hM, hF, hL, h1, h0, hn, -⟩ := id hT
  intro k
  induction k with
  | zero =>
    intro j to hj ht KK
    obtain rfl : j = K := by omega
    refine x_il5 dX12_powerOf_18 ?_
    refine x_il2 dX12_powerOf_20 ?_
    refine x_icmp_ge (tgt := 39) dX12_powerOf_21 rfl (fun q1 => ?_) (fun q1 => ?_)
    · exact KK
    · exact absurd (nI_le (Nat.le_refl _) (by omega)) q1
  | succ k ih =>
    intro j to hj ht KK
    refine x_il5 dX12_powerOf_18 ?_
    refine x_il2 dX12_powerOf_20 ?_
    refine x_icmp_ge (tgt := 39) dX12_powerOf_21 rfl (fun q1 => ?_) (fun q1 => ?_)
    · exact absurd q1 (nI_ge (by omega) (by omega))
    · refine x_al0 rfl dX12_powerOf_24 ?_
      refine x_il1 dX12_powerOf_25 ?_
      refine x_il4 dX12_powerOf_26 ?_
      refine x_cv2I mX12_nameIn_ok lkX12_251 rfl (Nat.le_of_ble_eq_true rfl) (Nat.le_of_ble_eq_true rfl) dX12_powerOf_28 hM  (m_nameIn hT hs ht) ?_
      refine x_is4 rfl dX12_powerOf_31 ?_
      first | refine x_ii5 rfl (nI_1 _) dX12_powerOf_33 ?_ | refine x_ii5 rfl rfl dX12_powerOf_33 ?_
      refine x_goto (tgt := 18) dX12_powerOf_36 rfl ?_
      exact ih (j + 1) _ (by omega) (nm_lt hn hs ht) KK
theorem lp_m_powerOf {n q K : Nat} (hs : q < fct n) (hK : K < 2 ^ 31) : ∀ (k j : Nat) (x y : Option Value) (h : zH) (fm : Nat → Int32), j + k = n → z_nl x = true → MT h s al n → h[65]? = some (.inl (0, 6, .inl fm)) → (∀ i, i < j → fm i = nI (nbk n q K i)) →
    Zw g (d + 1) 0 0 mX12_powerOf 2 [some (.ref 59), some (.int (nI q)), some (.int (nI K)), some (.int (nI j)), x, y] [] h (rIp (fun r h' => r = nI (rnk n (nbk n q K)) ∧ Ml h h')) := by
  intro k
  induction k with
  | zero =>
    intro j x y h fm hj hx hT hm hp
    obtain ⟨hM, hF, hL, h1, h0, hn, -⟩ := id hT
    obtain rfl : j = n := by omega
    refine x_il3 dX12_powerOf_2 ?_
    refine x_al0 rfl dX12_powerOf_3 ?_
    refine x_gm fdX12_13 hM (by decide) hF.f1 dX12_powerOf_4 ?_
    refine x_iconst (v := nI 1) dX12_powerOf_7 rfl ?_
    refine x_iald hL (vp_in_nI (by decide) (by decide)) (ald h1 (by decide)) dX12_powerOf_8 ?_
    refine x_icmp_ge (tgt := 53) dX12_powerOf_9 rfl (fun q1 => ?_) (fun q1 => ?_)
    · refine x_al0 rfl dX12_powerOf_53 ?_
      refine x_cv0I mX12_numberNow_ok lkX12_220 rfl (Nat.le_of_ble_eq_true rfl) (Nat.le_of_ble_eq_true rfl) dX12_powerOf_54 hM  (m_numberNow (p := nbk j q K) hM hF hL h1 hm hn (fun i hi => ⟨hp i hi, Nat.lt_trans (nbk_lt hn hs _ _ hi) (by omega)⟩)) ?_
      exact x_iret rfl rfl dX12_powerOf_57 ⟨_, rfl, rfl, fm, (hs_same hm).symm⟩
    · exact absurd (nI_le (Nat.le_refl _) (by omega)) q1
  | succ k ih =>
    intro j x y h fm hj hx hT hm hp
    obtain ⟨hM, hF, hL, h1, h0, hn, -⟩ := id hT
    have hjn : j < n := by omega
    refine x_il3 dX12_powerOf_2 ?_
    refine x_al0 rfl dX12_powerOf_3 ?_
    refine x_gm fdX12_13 hM (by decide) hF.f1 dX12_powerOf_4 ?_
    refine x_iconst (v := nI 1) dX12_powerOf_7 rfl ?_
    refine x_iald hL (vp_in_nI (by decide) (by decide)) (ald h1 (by decide)) dX12_powerOf_8 ?_
    refine x_icmp_ge (tgt := 53) dX12_powerOf_9 rfl (fun q1 => ?_) (fun q1 => ?_)
    · exact absurd q1 (nI_ge (by omega) (by omega))
    · refine x_il3 dX12_powerOf_12 ?_
      refine x_is4 rfl dX12_powerOf_13 ?_
      refine x_iconst (v := nI 0) dX12_powerOf_15 rfl ?_
      refine x_is5 rfl dX12_powerOf_16 ?_
      refine lp_m_pow_in hT hs hK K 0 j (by omega) hjn ?_
      refine x_al0 rfl dX12_powerOf_39 ?_
      refine x_gm fdX12_33 hM (by decide) hF.f16 dX12_powerOf_40 ?_
      refine x_il3 dX12_powerOf_43 ?_
      refine x_il4 dX12_powerOf_44 ?_
      refine x_iast hm (vp_in_nI (by omega) (by decide)) dX12_powerOf_46 ?_
      first | refine x_ii3 rfl (nI_1 _) dX12_powerOf_47 ?_ | refine x_ii3 rfl rfl dX12_powerOf_47 ?_
      refine x_goto (tgt := 2) dX12_powerOf_50 rfl ?_
      rw [nI_clamp (by omega)]
      refine Zw.mono (ih (j + 1) _ _ _ _ (by omega) rfl hT.made (hs_eq hm) (fun a ha => ?_)) (fun v h' hq => ?_)
      · unfold upd
        split
        · next q9 => rw [q9]
        · exact hp a (by omega)
      · obtain ⟨r, rfl, h1, h2⟩ := hq
        exact ⟨r, rfl, h1, h2.set⟩
theorem m_powerOf {n q K : Nat} (hT : MT h s al n) (hs : q < fct n) (hK : K < 2 ^ 31) : Zm g (d + 1) 0 0 mX12_powerOf [.ref 59, .int (nI q), .int (nI K)] h (rIp (fun r h' => r = nI (rnk n (nbk n q K)) ∧ Ml h h')) := by
  obtain ⟨fm, hm⟩ := hT.2.2.2.2.2.2.2
  show Zw g (d + 1) 0 0 mX12_powerOf 0 [some (.ref 59), some (.int (nI q)), some (.int (nI K)), none, none, none] [] h _
  refine x_iconst (v := nI 0) dX12_powerOf_0 rfl ?_
  refine x_is3 rfl dX12_powerOf_1 ?_
  exact lp_m_powerOf hs hK n 0 _ _ h fm (by omega) rfl hT hm (fun i hi => absurd hi (by omega))
end ZM2

